/-! THE PROGRAM: words, printed by wip/gen/pub69.py -/
def zwn (T : Nat → Nat) : Nat → Nat → Nat → Nat
  | 0, _, a => a
  | m + 1, i, a => zwn T m (i + 1) (a * 27 + T i - 96)
def zwl (T : Nat → Nat) : Nat → Nat → Int64 → Int64
  | 0, _, a => a
  | m + 1, i, a => zwl T m (i + 1) (a * 27 + (nI (T i)).toInt64 - 96)
/-- the words as numbers -/
def zWK (j : Nat) : Nat := ([985, 55175, 89759, 131360, 3166, 256910, 144941, 10497936, 379948, 1831504, 453701, 11450658, 249, 12387497, 107681] : List Nat).getD j 0
def zS (i : Nat) : Nat := (zstr 0).getD i 0
def zmb (T : Nat → Nat) (f col : Nat) : Nat → Nat → Bool
  | 0, i => decide (zS (col + i) = 32)
  | m + 1, i => if T (f + i) = zS (col + i) then zmb T f col m (i + 1) else false
/-- the word at a place, as a number (0: none) -/
def zV (T : Nat → Nat) (x : zLx) : Nat := if x.2.2 = 1 ∧ x.2.1 - x.1 ≤ 5 then zwn T (x.2.1 - x.1) x.1 0 else 0
def zfj (V : Nat) : Nat → Nat → Int32
  | 0, _ => -1
  | m + 1, j => if V = zWK j then nI j else zfj V m (j + 1)
theorem zsrt_1 {b : Nat} (h : zsrt b = 1) : 97 ≤ b ∧ b ≤ 122 := by
  unfold zsrt at h
  split at h
  · assumption
  · split at h <;> exact absurd h (by decide)
theorem z64a (a b : Int64) (h : -9223372036854775808 ≤ a.toInt + b.toInt ∧ a.toInt + b.toInt < 9223372036854775808) : (a + b).toInt = a.toInt + b.toInt := by
  rw [Int64.toInt_add]
  unfold Int.bmod
  dsimp only
  split <;> omega
theorem z64s (a b : Int64) (h : -9223372036854775808 ≤ a.toInt - b.toInt ∧ a.toInt - b.toInt < 9223372036854775808) : (a - b).toInt = a.toInt - b.toInt := by
  rw [Int64.toInt_sub]
  unfold Int.bmod
  dsimp only
  split <;> omega
theorem z64m (a b : Int64) (h : -9223372036854775808 ≤ a.toInt * b.toInt ∧ a.toInt * b.toInt < 9223372036854775808) : (a * b).toInt = a.toInt * b.toInt := by
  rw [Int64.toInt_mul]
  unfold Int.bmod
  dsimp only
  split <;> omega
theorem nI_i {b : Nat} (h : b < 2147483648) : (nI b).toInt = b := Int32.toInt_ofNat_of_lt (by omega)
theorem zwl_n (T : Nat → Nat) : ∀ (m i A : Nat) (a : Int64), m ≤ 5 → (∀ j, i ≤ j → j < i + m → 97 ≤ T j ∧ T j ≤ 122) → a.toInt = A → (A + 1) * 27 ^ m ≤ 387420489 → (zwl T m i a).toInt = (zwn T m i A : Nat) := by
  intro m
  induction m with
  | zero => intro i A a _ _ h _; exact h
  | succ m IH =>
    intro i A a hm hT h hA
    have hb := hT i (by omega) (by omega)
    have h27 : 0 < 27 ^ m := by first | exact Nat.pow_pos (by decide) | exact Nat.pos_pow_of_pos _ (by decide)
    have hA1 : (A + 1) * 27 * 27 ^ m ≤ 387420489 := by rw [Nat.mul_assoc, ← Nat.pow_succ']; exact hA
    have hA2 : (A + 1) * 27 ≤ 387420489 := Nat.le_trans (Nat.le_mul_of_pos_right _ h27) hA1
    refine IH (i + 1) (A * 27 + T i - 96) (a * 27 + (nI (T i)).toInt64 - 96) (by omega) (fun j h1 h2 => hT j (by omega) (by omega)) ?_ ?_
    · have e1 : (a * 27).toInt = A * 27 := by
        rw [z64m _ _ (by rw [h]; show _ ≤ (A : Int) * 27 ∧ (A : Int) * 27 < _; omega), h]; rfl
      have e2 : ((nI (T i)).toInt64).toInt = T i := by rw [Int32.toInt_toInt64, nI_i (by omega)]
      have e3 : (a * 27 + (nI (T i)).toInt64).toInt = A * 27 + T i := by rw [z64a _ _ (by rw [e1, e2]; omega), e1, e2]
      rw [z64s _ _ (by rw [e3]; show _ ≤ ((A * 27 + T i : Int)) - 96 ∧ ((A * 27 + T i : Int)) - 96 < _; omega), e3]
      show ((A * 27 + T i : Int)) - 96 = _
      omega
    · refine Nat.le_trans (Nat.mul_le_mul_right _ ?_) hA1
      omega

theorem zmt_1_0 (T : Nat → Nat) (f : Nat) (h0 : 97 ≤ T (f + 0) ∧ T (f + 0) ≤ 122) : zmb T f 0 1 0 = true ↔ zwn T 1 f 0 = 985 := by
  simp only [zmb, zwn, Nat.add_assoc, Nat.reduceAdd, show zS (0 + 0) = 97 from rfl, show zS (0 + 1) = 105 from rfl, Nat.add_zero] at *
  constructor
  · intro h
    revert h
    repeat' split
    all_goals (intro h; first | omega | exact absurd h (by decide))
  · intro h
    omega
theorem zmt_1_1 (T : Nat → Nat) (f : Nat) (h0 : 97 ≤ T (f + 0) ∧ T (f + 0) ≤ 122) : zmb T f 6 1 0 = true ↔ zwn T 1 f 0 = 55175 := by
  simp only [zmb, zwn, Nat.add_assoc, Nat.reduceAdd, show zS (6 + 0) = 98 from rfl, show zS (6 + 1) = 117 from rfl, Nat.add_zero] at *
  constructor
  · intro h
    revert h
    repeat' split
    all_goals (intro h; first | omega | exact absurd h (by decide))
  · intro h
    omega
theorem zmt_1_2 (T : Nat → Nat) (f : Nat) (h0 : 97 ≤ T (f + 0) ∧ T (f + 0) ≤ 122) : zmb T f 12 1 0 = true ↔ zwn T 1 f 0 = 89759 := by
  simp only [zmb, zwn, Nat.add_assoc, Nat.reduceAdd, show zS (12 + 0) = 100 from rfl, show zS (12 + 1) = 111 from rfl, Nat.add_zero] at *
  constructor
  · intro h
    revert h
    repeat' split
    all_goals (intro h; first | omega | exact absurd h (by decide))
  · intro h
    omega
theorem zmt_1_3 (T : Nat → Nat) (f : Nat) (h0 : 97 ≤ T (f + 0) ∧ T (f + 0) ≤ 122) : zmb T f 18 1 0 = true ↔ zwn T 1 f 0 = 131360 := by
  simp only [zmb, zwn, Nat.add_assoc, Nat.reduceAdd, show zS (18 + 0) = 102 from rfl, show zS (18 + 1) = 114 from rfl, Nat.add_zero] at *
  constructor
  · intro h
    revert h
    repeat' split
    all_goals (intro h; first | omega | exact absurd h (by decide))
  · intro h
    omega
theorem zmt_1_4 (T : Nat → Nat) (f : Nat) (h0 : 97 ≤ T (f + 0) ∧ T (f + 0) ≤ 122) : zmb T f 24 1 0 = true ↔ zwn T 1 f 0 = 3166 := by
  simp only [zmb, zwn, Nat.add_assoc, Nat.reduceAdd, show zS (24 + 0) = 100 from rfl, show zS (24 + 1) = 105 from rfl, Nat.add_zero] at *
  constructor
  · intro h
    revert h
    repeat' split
    all_goals (intro h; first | omega | exact absurd h (by decide))
  · intro h
    omega
theorem zmt_1_5 (T : Nat → Nat) (f : Nat) (h0 : 97 ≤ T (f + 0) ∧ T (f + 0) ≤ 122) : zmb T f 30 1 0 = true ↔ zwn T 1 f 0 = 256910 := by
  simp only [zmb, zwn, Nat.add_assoc, Nat.reduceAdd, show zS (30 + 0) = 109 from rfl, show zS (30 + 1) = 97 from rfl, Nat.add_zero] at *
  constructor
  · intro h
    revert h
    repeat' split
    all_goals (intro h; first | omega | exact absurd h (by decide))
  · intro h
    omega
theorem zmt_1_6 (T : Nat → Nat) (f : Nat) (h0 : 97 ≤ T (f + 0) ∧ T (f + 0) ≤ 122) : zmb T f 36 1 0 = true ↔ zwn T 1 f 0 = 144941 := by
  simp only [zmb, zwn, Nat.add_assoc, Nat.reduceAdd, show zS (36 + 0) = 103 from rfl, show zS (36 + 1) = 105 from rfl, Nat.add_zero] at *
  constructor
  · intro h
    revert h
    repeat' split
    all_goals (intro h; first | omega | exact absurd h (by decide))
  · intro h
    omega
theorem zmt_1_7 (T : Nat → Nat) (f : Nat) (h0 : 97 ≤ T (f + 0) ∧ T (f + 0) ≤ 122) : zmb T f 42 1 0 = true ↔ zwn T 1 f 0 = 10497936 := by
  simp only [zmb, zwn, Nat.add_assoc, Nat.reduceAdd, show zS (42 + 0) = 115 from rfl, show zS (42 + 1) = 116 from rfl, Nat.add_zero] at *
  constructor
  · intro h
    revert h
    repeat' split
    all_goals (intro h; first | omega | exact absurd h (by decide))
  · intro h
    omega
theorem zmt_1_8 (T : Nat → Nat) (f : Nat) (h0 : 97 ≤ T (f + 0) ∧ T (f + 0) ≤ 122) : zmb T f 48 1 0 = true ↔ zwn T 1 f 0 = 379948 := by
  simp only [zmb, zwn, Nat.add_assoc, Nat.reduceAdd, show zS (48 + 0) = 115 from rfl, show zS (48 + 1) = 104 from rfl, Nat.add_zero] at *
  constructor
  · intro h
    revert h
    repeat' split
    all_goals (intro h; first | omega | exact absurd h (by decide))
  · intro h
    omega
theorem zmt_1_9 (T : Nat → Nat) (f : Nat) (h0 : 97 ≤ T (f + 0) ∧ T (f + 0) ≤ 122) : zmb T f 54 1 0 = true ↔ zwn T 1 f 0 = 1831504 := by
  simp only [zmb, zwn, Nat.add_assoc, Nat.reduceAdd, show zS (54 + 0) = 99 from rfl, show zS (54 + 1) = 108 from rfl, Nat.add_zero] at *
  constructor
  · intro h
    revert h
    repeat' split
    all_goals (intro h; first | omega | exact absurd h (by decide))
  · intro h
    omega
theorem zmt_1_10 (T : Nat → Nat) (f : Nat) (h0 : 97 ≤ T (f + 0) ∧ T (f + 0) ≤ 122) : zmb T f 60 1 0 = true ↔ zwn T 1 f 0 = 453701 := by
  simp only [zmb, zwn, Nat.add_assoc, Nat.reduceAdd, show zS (60 + 0) = 119 from rfl, show zS (60 + 1) = 97 from rfl, Nat.add_zero] at *
  constructor
  · intro h
    revert h
    repeat' split
    all_goals (intro h; first | omega | exact absurd h (by decide))
  · intro h
    omega
theorem zmt_1_11 (T : Nat → Nat) (f : Nat) (h0 : 97 ≤ T (f + 0) ∧ T (f + 0) ≤ 122) : zmb T f 66 1 0 = true ↔ zwn T 1 f 0 = 11450658 := by
  simp only [zmb, zwn, Nat.add_assoc, Nat.reduceAdd, show zS (66 + 0) = 117 from rfl, show zS (66 + 1) = 110 from rfl, Nat.add_zero] at *
  constructor
  · intro h
    revert h
    repeat' split
    all_goals (intro h; first | omega | exact absurd h (by decide))
  · intro h
    omega
theorem zmt_1_12 (T : Nat → Nat) (f : Nat) (h0 : 97 ≤ T (f + 0) ∧ T (f + 0) ≤ 122) : zmb T f 72 1 0 = true ↔ zwn T 1 f 0 = 249 := by
  simp only [zmb, zwn, Nat.add_assoc, Nat.reduceAdd, show zS (72 + 0) = 105 from rfl, show zS (72 + 1) = 102 from rfl, Nat.add_zero] at *
  constructor
  · intro h
    revert h
    repeat' split
    all_goals (intro h; first | omega | exact absurd h (by decide))
  · intro h
    omega
theorem zmt_1_13 (T : Nat → Nat) (f : Nat) (h0 : 97 ≤ T (f + 0) ∧ T (f + 0) ≤ 122) : zmb T f 78 1 0 = true ↔ zwn T 1 f 0 = 12387497 := by
  simp only [zmb, zwn, Nat.add_assoc, Nat.reduceAdd, show zS (78 + 0) = 119 from rfl, show zS (78 + 1) = 104 from rfl, Nat.add_zero] at *
  constructor
  · intro h
    revert h
    repeat' split
    all_goals (intro h; first | omega | exact absurd h (by decide))
  · intro h
    omega
theorem zmt_1_14 (T : Nat → Nat) (f : Nat) (h0 : 97 ≤ T (f + 0) ∧ T (f + 0) ≤ 122) : zmb T f 84 1 0 = true ↔ zwn T 1 f 0 = 107681 := by
  simp only [zmb, zwn, Nat.add_assoc, Nat.reduceAdd, show zS (84 + 0) = 101 from rfl, show zS (84 + 1) = 108 from rfl, Nat.add_zero] at *
  constructor
  · intro h
    revert h
    repeat' split
    all_goals (intro h; first | omega | exact absurd h (by decide))
  · intro h
    omega
theorem zmt_2_0 (T : Nat → Nat) (f : Nat) (h0 : 97 ≤ T (f + 0) ∧ T (f + 0) ≤ 122) (h1 : 97 ≤ T (f + 1) ∧ T (f + 1) ≤ 122) : zmb T f 0 2 0 = true ↔ zwn T 2 f 0 = 985 := by
  simp only [zmb, zwn, Nat.add_assoc, Nat.reduceAdd, show zS (0 + 0) = 97 from rfl, show zS (0 + 1) = 105 from rfl, show zS (0 + 2) = 109 from rfl, Nat.add_zero] at *
  constructor
  · intro h
    revert h
    repeat' split
    all_goals (intro h; first | omega | exact absurd h (by decide))
  · intro h
    omega
theorem zmt_2_1 (T : Nat → Nat) (f : Nat) (h0 : 97 ≤ T (f + 0) ∧ T (f + 0) ≤ 122) (h1 : 97 ≤ T (f + 1) ∧ T (f + 1) ≤ 122) : zmb T f 6 2 0 = true ↔ zwn T 2 f 0 = 55175 := by
  simp only [zmb, zwn, Nat.add_assoc, Nat.reduceAdd, show zS (6 + 0) = 98 from rfl, show zS (6 + 1) = 117 from rfl, show zS (6 + 2) = 114 from rfl, Nat.add_zero] at *
  constructor
  · intro h
    revert h
    repeat' split
    all_goals (intro h; first | omega | exact absurd h (by decide))
  · intro h
    omega
theorem zmt_2_2 (T : Nat → Nat) (f : Nat) (h0 : 97 ≤ T (f + 0) ∧ T (f + 0) ≤ 122) (h1 : 97 ≤ T (f + 1) ∧ T (f + 1) ≤ 122) : zmb T f 12 2 0 = true ↔ zwn T 2 f 0 = 89759 := by
  simp only [zmb, zwn, Nat.add_assoc, Nat.reduceAdd, show zS (12 + 0) = 100 from rfl, show zS (12 + 1) = 111 from rfl, show zS (12 + 2) = 99 from rfl, Nat.add_zero] at *
  constructor
  · intro h
    revert h
    repeat' split
    all_goals (intro h; first | omega | exact absurd h (by decide))
  · intro h
    omega
theorem zmt_2_3 (T : Nat → Nat) (f : Nat) (h0 : 97 ≤ T (f + 0) ∧ T (f + 0) ≤ 122) (h1 : 97 ≤ T (f + 1) ∧ T (f + 1) ≤ 122) : zmb T f 18 2 0 = true ↔ zwn T 2 f 0 = 131360 := by
  simp only [zmb, zwn, Nat.add_assoc, Nat.reduceAdd, show zS (18 + 0) = 102 from rfl, show zS (18 + 1) = 114 from rfl, show zS (18 + 2) = 101 from rfl, Nat.add_zero] at *
  constructor
  · intro h
    revert h
    repeat' split
    all_goals (intro h; first | omega | exact absurd h (by decide))
  · intro h
    omega
theorem zmt_2_4 (T : Nat → Nat) (f : Nat) (h0 : 97 ≤ T (f + 0) ∧ T (f + 0) ≤ 122) (h1 : 97 ≤ T (f + 1) ∧ T (f + 1) ≤ 122) : zmb T f 24 2 0 = true ↔ zwn T 2 f 0 = 3166 := by
  simp only [zmb, zwn, Nat.add_assoc, Nat.reduceAdd, show zS (24 + 0) = 100 from rfl, show zS (24 + 1) = 105 from rfl, show zS (24 + 2) = 103 from rfl, Nat.add_zero] at *
  constructor
  · intro h
    revert h
    repeat' split
    all_goals (intro h; first | omega | exact absurd h (by decide))
  · intro h
    omega
theorem zmt_2_5 (T : Nat → Nat) (f : Nat) (h0 : 97 ≤ T (f + 0) ∧ T (f + 0) ≤ 122) (h1 : 97 ≤ T (f + 1) ∧ T (f + 1) ≤ 122) : zmb T f 30 2 0 = true ↔ zwn T 2 f 0 = 256910 := by
  simp only [zmb, zwn, Nat.add_assoc, Nat.reduceAdd, show zS (30 + 0) = 109 from rfl, show zS (30 + 1) = 97 from rfl, show zS (30 + 2) = 107 from rfl, Nat.add_zero] at *
  constructor
  · intro h
    revert h
    repeat' split
    all_goals (intro h; first | omega | exact absurd h (by decide))
  · intro h
    omega
theorem zmt_2_6 (T : Nat → Nat) (f : Nat) (h0 : 97 ≤ T (f + 0) ∧ T (f + 0) ≤ 122) (h1 : 97 ≤ T (f + 1) ∧ T (f + 1) ≤ 122) : zmb T f 36 2 0 = true ↔ zwn T 2 f 0 = 144941 := by
  simp only [zmb, zwn, Nat.add_assoc, Nat.reduceAdd, show zS (36 + 0) = 103 from rfl, show zS (36 + 1) = 105 from rfl, show zS (36 + 2) = 118 from rfl, Nat.add_zero] at *
  constructor
  · intro h
    revert h
    repeat' split
    all_goals (intro h; first | omega | exact absurd h (by decide))
  · intro h
    omega
theorem zmt_2_7 (T : Nat → Nat) (f : Nat) (h0 : 97 ≤ T (f + 0) ∧ T (f + 0) ≤ 122) (h1 : 97 ≤ T (f + 1) ∧ T (f + 1) ≤ 122) : zmb T f 42 2 0 = true ↔ zwn T 2 f 0 = 10497936 := by
  simp only [zmb, zwn, Nat.add_assoc, Nat.reduceAdd, show zS (42 + 0) = 115 from rfl, show zS (42 + 1) = 116 from rfl, show zS (42 + 2) = 105 from rfl, Nat.add_zero] at *
  constructor
  · intro h
    revert h
    repeat' split
    all_goals (intro h; first | omega | exact absurd h (by decide))
  · intro h
    omega
theorem zmt_2_8 (T : Nat → Nat) (f : Nat) (h0 : 97 ≤ T (f + 0) ∧ T (f + 0) ≤ 122) (h1 : 97 ≤ T (f + 1) ∧ T (f + 1) ≤ 122) : zmb T f 48 2 0 = true ↔ zwn T 2 f 0 = 379948 := by
  simp only [zmb, zwn, Nat.add_assoc, Nat.reduceAdd, show zS (48 + 0) = 115 from rfl, show zS (48 + 1) = 104 from rfl, show zS (48 + 2) = 101 from rfl, Nat.add_zero] at *
  constructor
  · intro h
    revert h
    repeat' split
    all_goals (intro h; first | omega | exact absurd h (by decide))
  · intro h
    omega
theorem zmt_2_9 (T : Nat → Nat) (f : Nat) (h0 : 97 ≤ T (f + 0) ∧ T (f + 0) ≤ 122) (h1 : 97 ≤ T (f + 1) ∧ T (f + 1) ≤ 122) : zmb T f 54 2 0 = true ↔ zwn T 2 f 0 = 1831504 := by
  simp only [zmb, zwn, Nat.add_assoc, Nat.reduceAdd, show zS (54 + 0) = 99 from rfl, show zS (54 + 1) = 108 from rfl, show zS (54 + 2) = 97 from rfl, Nat.add_zero] at *
  constructor
  · intro h
    revert h
    repeat' split
    all_goals (intro h; first | omega | exact absurd h (by decide))
  · intro h
    omega
theorem zmt_2_10 (T : Nat → Nat) (f : Nat) (h0 : 97 ≤ T (f + 0) ∧ T (f + 0) ≤ 122) (h1 : 97 ≤ T (f + 1) ∧ T (f + 1) ≤ 122) : zmb T f 60 2 0 = true ↔ zwn T 2 f 0 = 453701 := by
  simp only [zmb, zwn, Nat.add_assoc, Nat.reduceAdd, show zS (60 + 0) = 119 from rfl, show zS (60 + 1) = 97 from rfl, show zS (60 + 2) = 105 from rfl, Nat.add_zero] at *
  constructor
  · intro h
    revert h
    repeat' split
    all_goals (intro h; first | omega | exact absurd h (by decide))
  · intro h
    omega
theorem zmt_2_11 (T : Nat → Nat) (f : Nat) (h0 : 97 ≤ T (f + 0) ∧ T (f + 0) ≤ 122) (h1 : 97 ≤ T (f + 1) ∧ T (f + 1) ≤ 122) : zmb T f 66 2 0 = true ↔ zwn T 2 f 0 = 11450658 := by
  simp only [zmb, zwn, Nat.add_assoc, Nat.reduceAdd, show zS (66 + 0) = 117 from rfl, show zS (66 + 1) = 110 from rfl, show zS (66 + 2) = 116 from rfl, Nat.add_zero] at *
  constructor
  · intro h
    revert h
    repeat' split
    all_goals (intro h; first | omega | exact absurd h (by decide))
  · intro h
    omega
theorem zmt_2_12 (T : Nat → Nat) (f : Nat) (h0 : 97 ≤ T (f + 0) ∧ T (f + 0) ≤ 122) (h1 : 97 ≤ T (f + 1) ∧ T (f + 1) ≤ 122) : zmb T f 72 2 0 = true ↔ zwn T 2 f 0 = 249 := by
  simp only [zmb, zwn, Nat.add_assoc, Nat.reduceAdd, show zS (72 + 0) = 105 from rfl, show zS (72 + 1) = 102 from rfl, show zS (72 + 2) = 32 from rfl, Nat.add_zero] at *
  constructor
  · intro h
    revert h
    repeat' split
    all_goals (intro h; first | omega | exact absurd h (by decide))
  · intro h
    rw [if_pos (by omega)]
    rw [if_pos (by omega)]
    decide
theorem zmt_2_13 (T : Nat → Nat) (f : Nat) (h0 : 97 ≤ T (f + 0) ∧ T (f + 0) ≤ 122) (h1 : 97 ≤ T (f + 1) ∧ T (f + 1) ≤ 122) : zmb T f 78 2 0 = true ↔ zwn T 2 f 0 = 12387497 := by
  simp only [zmb, zwn, Nat.add_assoc, Nat.reduceAdd, show zS (78 + 0) = 119 from rfl, show zS (78 + 1) = 104 from rfl, show zS (78 + 2) = 105 from rfl, Nat.add_zero] at *
  constructor
  · intro h
    revert h
    repeat' split
    all_goals (intro h; first | omega | exact absurd h (by decide))
  · intro h
    omega
theorem zmt_2_14 (T : Nat → Nat) (f : Nat) (h0 : 97 ≤ T (f + 0) ∧ T (f + 0) ≤ 122) (h1 : 97 ≤ T (f + 1) ∧ T (f + 1) ≤ 122) : zmb T f 84 2 0 = true ↔ zwn T 2 f 0 = 107681 := by
  simp only [zmb, zwn, Nat.add_assoc, Nat.reduceAdd, show zS (84 + 0) = 101 from rfl, show zS (84 + 1) = 108 from rfl, show zS (84 + 2) = 115 from rfl, Nat.add_zero] at *
  constructor
  · intro h
    revert h
    repeat' split
    all_goals (intro h; first | omega | exact absurd h (by decide))
  · intro h
    omega
theorem zmt_3_0 (T : Nat → Nat) (f : Nat) (h0 : 97 ≤ T (f + 0) ∧ T (f + 0) ≤ 122) (h1 : 97 ≤ T (f + 1) ∧ T (f + 1) ≤ 122) (h2 : 97 ≤ T (f + 2) ∧ T (f + 2) ≤ 122) : zmb T f 0 3 0 = true ↔ zwn T 3 f 0 = 985 := by
  simp only [zmb, zwn, Nat.add_assoc, Nat.reduceAdd, show zS (0 + 0) = 97 from rfl, show zS (0 + 1) = 105 from rfl, show zS (0 + 2) = 109 from rfl, show zS (0 + 3) = 32 from rfl, Nat.add_zero] at *
  constructor
  · intro h
    revert h
    repeat' split
    all_goals (intro h; first | omega | exact absurd h (by decide))
  · intro h
    rw [if_pos (by omega)]
    rw [if_pos (by omega)]
    rw [if_pos (by omega)]
    decide
theorem zmt_3_1 (T : Nat → Nat) (f : Nat) (h0 : 97 ≤ T (f + 0) ∧ T (f + 0) ≤ 122) (h1 : 97 ≤ T (f + 1) ∧ T (f + 1) ≤ 122) (h2 : 97 ≤ T (f + 2) ∧ T (f + 2) ≤ 122) : zmb T f 6 3 0 = true ↔ zwn T 3 f 0 = 55175 := by
  simp only [zmb, zwn, Nat.add_assoc, Nat.reduceAdd, show zS (6 + 0) = 98 from rfl, show zS (6 + 1) = 117 from rfl, show zS (6 + 2) = 114 from rfl, show zS (6 + 3) = 110 from rfl, Nat.add_zero] at *
  constructor
  · intro h
    revert h
    repeat' split
    all_goals (intro h; first | omega | exact absurd h (by decide))
  · intro h
    omega
theorem zmt_3_2 (T : Nat → Nat) (f : Nat) (h0 : 97 ≤ T (f + 0) ∧ T (f + 0) ≤ 122) (h1 : 97 ≤ T (f + 1) ∧ T (f + 1) ≤ 122) (h2 : 97 ≤ T (f + 2) ∧ T (f + 2) ≤ 122) : zmb T f 12 3 0 = true ↔ zwn T 3 f 0 = 89759 := by
  simp only [zmb, zwn, Nat.add_assoc, Nat.reduceAdd, show zS (12 + 0) = 100 from rfl, show zS (12 + 1) = 111 from rfl, show zS (12 + 2) = 99 from rfl, show zS (12 + 3) = 107 from rfl, Nat.add_zero] at *
  constructor
  · intro h
    revert h
    repeat' split
    all_goals (intro h; first | omega | exact absurd h (by decide))
  · intro h
    omega
theorem zmt_3_3 (T : Nat → Nat) (f : Nat) (h0 : 97 ≤ T (f + 0) ∧ T (f + 0) ≤ 122) (h1 : 97 ≤ T (f + 1) ∧ T (f + 1) ≤ 122) (h2 : 97 ≤ T (f + 2) ∧ T (f + 2) ≤ 122) : zmb T f 18 3 0 = true ↔ zwn T 3 f 0 = 131360 := by
  simp only [zmb, zwn, Nat.add_assoc, Nat.reduceAdd, show zS (18 + 0) = 102 from rfl, show zS (18 + 1) = 114 from rfl, show zS (18 + 2) = 101 from rfl, show zS (18 + 3) = 101 from rfl, Nat.add_zero] at *
  constructor
  · intro h
    revert h
    repeat' split
    all_goals (intro h; first | omega | exact absurd h (by decide))
  · intro h
    omega
theorem zmt_3_4 (T : Nat → Nat) (f : Nat) (h0 : 97 ≤ T (f + 0) ∧ T (f + 0) ≤ 122) (h1 : 97 ≤ T (f + 1) ∧ T (f + 1) ≤ 122) (h2 : 97 ≤ T (f + 2) ∧ T (f + 2) ≤ 122) : zmb T f 24 3 0 = true ↔ zwn T 3 f 0 = 3166 := by
  simp only [zmb, zwn, Nat.add_assoc, Nat.reduceAdd, show zS (24 + 0) = 100 from rfl, show zS (24 + 1) = 105 from rfl, show zS (24 + 2) = 103 from rfl, show zS (24 + 3) = 32 from rfl, Nat.add_zero] at *
  constructor
  · intro h
    revert h
    repeat' split
    all_goals (intro h; first | omega | exact absurd h (by decide))
  · intro h
    rw [if_pos (by omega)]
    rw [if_pos (by omega)]
    rw [if_pos (by omega)]
    decide
theorem zmt_3_5 (T : Nat → Nat) (f : Nat) (h0 : 97 ≤ T (f + 0) ∧ T (f + 0) ≤ 122) (h1 : 97 ≤ T (f + 1) ∧ T (f + 1) ≤ 122) (h2 : 97 ≤ T (f + 2) ∧ T (f + 2) ≤ 122) : zmb T f 30 3 0 = true ↔ zwn T 3 f 0 = 256910 := by
  simp only [zmb, zwn, Nat.add_assoc, Nat.reduceAdd, show zS (30 + 0) = 109 from rfl, show zS (30 + 1) = 97 from rfl, show zS (30 + 2) = 107 from rfl, show zS (30 + 3) = 101 from rfl, Nat.add_zero] at *
  constructor
  · intro h
    revert h
    repeat' split
    all_goals (intro h; first | omega | exact absurd h (by decide))
  · intro h
    omega
theorem zmt_3_6 (T : Nat → Nat) (f : Nat) (h0 : 97 ≤ T (f + 0) ∧ T (f + 0) ≤ 122) (h1 : 97 ≤ T (f + 1) ∧ T (f + 1) ≤ 122) (h2 : 97 ≤ T (f + 2) ∧ T (f + 2) ≤ 122) : zmb T f 36 3 0 = true ↔ zwn T 3 f 0 = 144941 := by
  simp only [zmb, zwn, Nat.add_assoc, Nat.reduceAdd, show zS (36 + 0) = 103 from rfl, show zS (36 + 1) = 105 from rfl, show zS (36 + 2) = 118 from rfl, show zS (36 + 3) = 101 from rfl, Nat.add_zero] at *
  constructor
  · intro h
    revert h
    repeat' split
    all_goals (intro h; first | omega | exact absurd h (by decide))
  · intro h
    omega
theorem zmt_3_7 (T : Nat → Nat) (f : Nat) (h0 : 97 ≤ T (f + 0) ∧ T (f + 0) ≤ 122) (h1 : 97 ≤ T (f + 1) ∧ T (f + 1) ≤ 122) (h2 : 97 ≤ T (f + 2) ∧ T (f + 2) ≤ 122) : zmb T f 42 3 0 = true ↔ zwn T 3 f 0 = 10497936 := by
  simp only [zmb, zwn, Nat.add_assoc, Nat.reduceAdd, show zS (42 + 0) = 115 from rfl, show zS (42 + 1) = 116 from rfl, show zS (42 + 2) = 105 from rfl, show zS (42 + 3) = 108 from rfl, Nat.add_zero] at *
  constructor
  · intro h
    revert h
    repeat' split
    all_goals (intro h; first | omega | exact absurd h (by decide))
  · intro h
    omega
theorem zmt_3_8 (T : Nat → Nat) (f : Nat) (h0 : 97 ≤ T (f + 0) ∧ T (f + 0) ≤ 122) (h1 : 97 ≤ T (f + 1) ∧ T (f + 1) ≤ 122) (h2 : 97 ≤ T (f + 2) ∧ T (f + 2) ≤ 122) : zmb T f 48 3 0 = true ↔ zwn T 3 f 0 = 379948 := by
  simp only [zmb, zwn, Nat.add_assoc, Nat.reduceAdd, show zS (48 + 0) = 115 from rfl, show zS (48 + 1) = 104 from rfl, show zS (48 + 2) = 101 from rfl, show zS (48 + 3) = 100 from rfl, Nat.add_zero] at *
  constructor
  · intro h
    revert h
    repeat' split
    all_goals (intro h; first | omega | exact absurd h (by decide))
  · intro h
    omega
theorem zmt_3_9 (T : Nat → Nat) (f : Nat) (h0 : 97 ≤ T (f + 0) ∧ T (f + 0) ≤ 122) (h1 : 97 ≤ T (f + 1) ∧ T (f + 1) ≤ 122) (h2 : 97 ≤ T (f + 2) ∧ T (f + 2) ≤ 122) : zmb T f 54 3 0 = true ↔ zwn T 3 f 0 = 1831504 := by
  simp only [zmb, zwn, Nat.add_assoc, Nat.reduceAdd, show zS (54 + 0) = 99 from rfl, show zS (54 + 1) = 108 from rfl, show zS (54 + 2) = 97 from rfl, show zS (54 + 3) = 105 from rfl, Nat.add_zero] at *
  constructor
  · intro h
    revert h
    repeat' split
    all_goals (intro h; first | omega | exact absurd h (by decide))
  · intro h
    omega
theorem zmt_3_10 (T : Nat → Nat) (f : Nat) (h0 : 97 ≤ T (f + 0) ∧ T (f + 0) ≤ 122) (h1 : 97 ≤ T (f + 1) ∧ T (f + 1) ≤ 122) (h2 : 97 ≤ T (f + 2) ∧ T (f + 2) ≤ 122) : zmb T f 60 3 0 = true ↔ zwn T 3 f 0 = 453701 := by
  simp only [zmb, zwn, Nat.add_assoc, Nat.reduceAdd, show zS (60 + 0) = 119 from rfl, show zS (60 + 1) = 97 from rfl, show zS (60 + 2) = 105 from rfl, show zS (60 + 3) = 116 from rfl, Nat.add_zero] at *
  constructor
  · intro h
    revert h
    repeat' split
    all_goals (intro h; first | omega | exact absurd h (by decide))
  · intro h
    omega
theorem zmt_3_11 (T : Nat → Nat) (f : Nat) (h0 : 97 ≤ T (f + 0) ∧ T (f + 0) ≤ 122) (h1 : 97 ≤ T (f + 1) ∧ T (f + 1) ≤ 122) (h2 : 97 ≤ T (f + 2) ∧ T (f + 2) ≤ 122) : zmb T f 66 3 0 = true ↔ zwn T 3 f 0 = 11450658 := by
  simp only [zmb, zwn, Nat.add_assoc, Nat.reduceAdd, show zS (66 + 0) = 117 from rfl, show zS (66 + 1) = 110 from rfl, show zS (66 + 2) = 116 from rfl, show zS (66 + 3) = 105 from rfl, Nat.add_zero] at *
  constructor
  · intro h
    revert h
    repeat' split
    all_goals (intro h; first | omega | exact absurd h (by decide))
  · intro h
    omega
theorem zmt_3_12 (T : Nat → Nat) (f : Nat) (h0 : 97 ≤ T (f + 0) ∧ T (f + 0) ≤ 122) (h1 : 97 ≤ T (f + 1) ∧ T (f + 1) ≤ 122) (h2 : 97 ≤ T (f + 2) ∧ T (f + 2) ≤ 122) : zmb T f 72 3 0 = true ↔ zwn T 3 f 0 = 249 := by
  simp only [zmb, zwn, Nat.add_assoc, Nat.reduceAdd, show zS (72 + 0) = 105 from rfl, show zS (72 + 1) = 102 from rfl, show zS (72 + 2) = 32 from rfl, show zS (72 + 3) = 32 from rfl, Nat.add_zero] at *
  constructor
  · intro h
    revert h
    repeat' split
    all_goals (intro h; first | omega | exact absurd h (by decide))
  · intro h
    omega
theorem zmt_3_13 (T : Nat → Nat) (f : Nat) (h0 : 97 ≤ T (f + 0) ∧ T (f + 0) ≤ 122) (h1 : 97 ≤ T (f + 1) ∧ T (f + 1) ≤ 122) (h2 : 97 ≤ T (f + 2) ∧ T (f + 2) ≤ 122) : zmb T f 78 3 0 = true ↔ zwn T 3 f 0 = 12387497 := by
  simp only [zmb, zwn, Nat.add_assoc, Nat.reduceAdd, show zS (78 + 0) = 119 from rfl, show zS (78 + 1) = 104 from rfl, show zS (78 + 2) = 105 from rfl, show zS (78 + 3) = 108 from rfl, Nat.add_zero] at *
  constructor
  · intro h
    revert h
    repeat' split
    all_goals (intro h; first | omega | exact absurd h (by decide))
  · intro h
    omega
theorem zmt_3_14 (T : Nat → Nat) (f : Nat) (h0 : 97 ≤ T (f + 0) ∧ T (f + 0) ≤ 122) (h1 : 97 ≤ T (f + 1) ∧ T (f + 1) ≤ 122) (h2 : 97 ≤ T (f + 2) ∧ T (f + 2) ≤ 122) : zmb T f 84 3 0 = true ↔ zwn T 3 f 0 = 107681 := by
  simp only [zmb, zwn, Nat.add_assoc, Nat.reduceAdd, show zS (84 + 0) = 101 from rfl, show zS (84 + 1) = 108 from rfl, show zS (84 + 2) = 115 from rfl, show zS (84 + 3) = 101 from rfl, Nat.add_zero] at *
  constructor
  · intro h
    revert h
    repeat' split
    all_goals (intro h; first | omega | exact absurd h (by decide))
  · intro h
    omega
theorem zmt_4_0 (T : Nat → Nat) (f : Nat) (h0 : 97 ≤ T (f + 0) ∧ T (f + 0) ≤ 122) (h1 : 97 ≤ T (f + 1) ∧ T (f + 1) ≤ 122) (h2 : 97 ≤ T (f + 2) ∧ T (f + 2) ≤ 122) (h3 : 97 ≤ T (f + 3) ∧ T (f + 3) ≤ 122) : zmb T f 0 4 0 = true ↔ zwn T 4 f 0 = 985 := by
  simp only [zmb, zwn, Nat.add_assoc, Nat.reduceAdd, show zS (0 + 0) = 97 from rfl, show zS (0 + 1) = 105 from rfl, show zS (0 + 2) = 109 from rfl, show zS (0 + 3) = 32 from rfl, show zS (0 + 4) = 32 from rfl, Nat.add_zero] at *
  constructor
  · intro h
    revert h
    repeat' split
    all_goals (intro h; first | omega | exact absurd h (by decide))
  · intro h
    omega
theorem zmt_4_1 (T : Nat → Nat) (f : Nat) (h0 : 97 ≤ T (f + 0) ∧ T (f + 0) ≤ 122) (h1 : 97 ≤ T (f + 1) ∧ T (f + 1) ≤ 122) (h2 : 97 ≤ T (f + 2) ∧ T (f + 2) ≤ 122) (h3 : 97 ≤ T (f + 3) ∧ T (f + 3) ≤ 122) : zmb T f 6 4 0 = true ↔ zwn T 4 f 0 = 55175 := by
  simp only [zmb, zwn, Nat.add_assoc, Nat.reduceAdd, show zS (6 + 0) = 98 from rfl, show zS (6 + 1) = 117 from rfl, show zS (6 + 2) = 114 from rfl, show zS (6 + 3) = 110 from rfl, show zS (6 + 4) = 32 from rfl, Nat.add_zero] at *
  constructor
  · intro h
    revert h
    repeat' split
    all_goals (intro h; first | omega | exact absurd h (by decide))
  · intro h
    rw [if_pos (by omega)]
    rw [if_pos (by omega)]
    rw [if_pos (by omega)]
    rw [if_pos (by omega)]
    decide
theorem zmt_4_2 (T : Nat → Nat) (f : Nat) (h0 : 97 ≤ T (f + 0) ∧ T (f + 0) ≤ 122) (h1 : 97 ≤ T (f + 1) ∧ T (f + 1) ≤ 122) (h2 : 97 ≤ T (f + 2) ∧ T (f + 2) ≤ 122) (h3 : 97 ≤ T (f + 3) ∧ T (f + 3) ≤ 122) : zmb T f 12 4 0 = true ↔ zwn T 4 f 0 = 89759 := by
  simp only [zmb, zwn, Nat.add_assoc, Nat.reduceAdd, show zS (12 + 0) = 100 from rfl, show zS (12 + 1) = 111 from rfl, show zS (12 + 2) = 99 from rfl, show zS (12 + 3) = 107 from rfl, show zS (12 + 4) = 32 from rfl, Nat.add_zero] at *
  constructor
  · intro h
    revert h
    repeat' split
    all_goals (intro h; first | omega | exact absurd h (by decide))
  · intro h
    rw [if_pos (by omega)]
    rw [if_pos (by omega)]
    rw [if_pos (by omega)]
    rw [if_pos (by omega)]
    decide
theorem zmt_4_3 (T : Nat → Nat) (f : Nat) (h0 : 97 ≤ T (f + 0) ∧ T (f + 0) ≤ 122) (h1 : 97 ≤ T (f + 1) ∧ T (f + 1) ≤ 122) (h2 : 97 ≤ T (f + 2) ∧ T (f + 2) ≤ 122) (h3 : 97 ≤ T (f + 3) ∧ T (f + 3) ≤ 122) : zmb T f 18 4 0 = true ↔ zwn T 4 f 0 = 131360 := by
  simp only [zmb, zwn, Nat.add_assoc, Nat.reduceAdd, show zS (18 + 0) = 102 from rfl, show zS (18 + 1) = 114 from rfl, show zS (18 + 2) = 101 from rfl, show zS (18 + 3) = 101 from rfl, show zS (18 + 4) = 32 from rfl, Nat.add_zero] at *
  constructor
  · intro h
    revert h
    repeat' split
    all_goals (intro h; first | omega | exact absurd h (by decide))
  · intro h
    rw [if_pos (by omega)]
    rw [if_pos (by omega)]
    rw [if_pos (by omega)]
    rw [if_pos (by omega)]
    decide
theorem zmt_4_4 (T : Nat → Nat) (f : Nat) (h0 : 97 ≤ T (f + 0) ∧ T (f + 0) ≤ 122) (h1 : 97 ≤ T (f + 1) ∧ T (f + 1) ≤ 122) (h2 : 97 ≤ T (f + 2) ∧ T (f + 2) ≤ 122) (h3 : 97 ≤ T (f + 3) ∧ T (f + 3) ≤ 122) : zmb T f 24 4 0 = true ↔ zwn T 4 f 0 = 3166 := by
  simp only [zmb, zwn, Nat.add_assoc, Nat.reduceAdd, show zS (24 + 0) = 100 from rfl, show zS (24 + 1) = 105 from rfl, show zS (24 + 2) = 103 from rfl, show zS (24 + 3) = 32 from rfl, show zS (24 + 4) = 32 from rfl, Nat.add_zero] at *
  constructor
  · intro h
    revert h
    repeat' split
    all_goals (intro h; first | omega | exact absurd h (by decide))
  · intro h
    omega
theorem zmt_4_5 (T : Nat → Nat) (f : Nat) (h0 : 97 ≤ T (f + 0) ∧ T (f + 0) ≤ 122) (h1 : 97 ≤ T (f + 1) ∧ T (f + 1) ≤ 122) (h2 : 97 ≤ T (f + 2) ∧ T (f + 2) ≤ 122) (h3 : 97 ≤ T (f + 3) ∧ T (f + 3) ≤ 122) : zmb T f 30 4 0 = true ↔ zwn T 4 f 0 = 256910 := by
  simp only [zmb, zwn, Nat.add_assoc, Nat.reduceAdd, show zS (30 + 0) = 109 from rfl, show zS (30 + 1) = 97 from rfl, show zS (30 + 2) = 107 from rfl, show zS (30 + 3) = 101 from rfl, show zS (30 + 4) = 32 from rfl, Nat.add_zero] at *
  constructor
  · intro h
    revert h
    repeat' split
    all_goals (intro h; first | omega | exact absurd h (by decide))
  · intro h
    rw [if_pos (by omega)]
    rw [if_pos (by omega)]
    rw [if_pos (by omega)]
    rw [if_pos (by omega)]
    decide
theorem zmt_4_6 (T : Nat → Nat) (f : Nat) (h0 : 97 ≤ T (f + 0) ∧ T (f + 0) ≤ 122) (h1 : 97 ≤ T (f + 1) ∧ T (f + 1) ≤ 122) (h2 : 97 ≤ T (f + 2) ∧ T (f + 2) ≤ 122) (h3 : 97 ≤ T (f + 3) ∧ T (f + 3) ≤ 122) : zmb T f 36 4 0 = true ↔ zwn T 4 f 0 = 144941 := by
  simp only [zmb, zwn, Nat.add_assoc, Nat.reduceAdd, show zS (36 + 0) = 103 from rfl, show zS (36 + 1) = 105 from rfl, show zS (36 + 2) = 118 from rfl, show zS (36 + 3) = 101 from rfl, show zS (36 + 4) = 32 from rfl, Nat.add_zero] at *
  constructor
  · intro h
    revert h
    repeat' split
    all_goals (intro h; first | omega | exact absurd h (by decide))
  · intro h
    rw [if_pos (by omega)]
    rw [if_pos (by omega)]
    rw [if_pos (by omega)]
    rw [if_pos (by omega)]
    decide
theorem zmt_4_7 (T : Nat → Nat) (f : Nat) (h0 : 97 ≤ T (f + 0) ∧ T (f + 0) ≤ 122) (h1 : 97 ≤ T (f + 1) ∧ T (f + 1) ≤ 122) (h2 : 97 ≤ T (f + 2) ∧ T (f + 2) ≤ 122) (h3 : 97 ≤ T (f + 3) ∧ T (f + 3) ≤ 122) : zmb T f 42 4 0 = true ↔ zwn T 4 f 0 = 10497936 := by
  simp only [zmb, zwn, Nat.add_assoc, Nat.reduceAdd, show zS (42 + 0) = 115 from rfl, show zS (42 + 1) = 116 from rfl, show zS (42 + 2) = 105 from rfl, show zS (42 + 3) = 108 from rfl, show zS (42 + 4) = 108 from rfl, Nat.add_zero] at *
  constructor
  · intro h
    revert h
    repeat' split
    all_goals (intro h; first | omega | exact absurd h (by decide))
  · intro h
    omega
theorem zmt_4_8 (T : Nat → Nat) (f : Nat) (h0 : 97 ≤ T (f + 0) ∧ T (f + 0) ≤ 122) (h1 : 97 ≤ T (f + 1) ∧ T (f + 1) ≤ 122) (h2 : 97 ≤ T (f + 2) ∧ T (f + 2) ≤ 122) (h3 : 97 ≤ T (f + 3) ∧ T (f + 3) ≤ 122) : zmb T f 48 4 0 = true ↔ zwn T 4 f 0 = 379948 := by
  simp only [zmb, zwn, Nat.add_assoc, Nat.reduceAdd, show zS (48 + 0) = 115 from rfl, show zS (48 + 1) = 104 from rfl, show zS (48 + 2) = 101 from rfl, show zS (48 + 3) = 100 from rfl, show zS (48 + 4) = 32 from rfl, Nat.add_zero] at *
  constructor
  · intro h
    revert h
    repeat' split
    all_goals (intro h; first | omega | exact absurd h (by decide))
  · intro h
    rw [if_pos (by omega)]
    rw [if_pos (by omega)]
    rw [if_pos (by omega)]
    rw [if_pos (by omega)]
    decide
theorem zmt_4_9 (T : Nat → Nat) (f : Nat) (h0 : 97 ≤ T (f + 0) ∧ T (f + 0) ≤ 122) (h1 : 97 ≤ T (f + 1) ∧ T (f + 1) ≤ 122) (h2 : 97 ≤ T (f + 2) ∧ T (f + 2) ≤ 122) (h3 : 97 ≤ T (f + 3) ∧ T (f + 3) ≤ 122) : zmb T f 54 4 0 = true ↔ zwn T 4 f 0 = 1831504 := by
  simp only [zmb, zwn, Nat.add_assoc, Nat.reduceAdd, show zS (54 + 0) = 99 from rfl, show zS (54 + 1) = 108 from rfl, show zS (54 + 2) = 97 from rfl, show zS (54 + 3) = 105 from rfl, show zS (54 + 4) = 109 from rfl, Nat.add_zero] at *
  constructor
  · intro h
    revert h
    repeat' split
    all_goals (intro h; first | omega | exact absurd h (by decide))
  · intro h
    omega
theorem zmt_4_10 (T : Nat → Nat) (f : Nat) (h0 : 97 ≤ T (f + 0) ∧ T (f + 0) ≤ 122) (h1 : 97 ≤ T (f + 1) ∧ T (f + 1) ≤ 122) (h2 : 97 ≤ T (f + 2) ∧ T (f + 2) ≤ 122) (h3 : 97 ≤ T (f + 3) ∧ T (f + 3) ≤ 122) : zmb T f 60 4 0 = true ↔ zwn T 4 f 0 = 453701 := by
  simp only [zmb, zwn, Nat.add_assoc, Nat.reduceAdd, show zS (60 + 0) = 119 from rfl, show zS (60 + 1) = 97 from rfl, show zS (60 + 2) = 105 from rfl, show zS (60 + 3) = 116 from rfl, show zS (60 + 4) = 32 from rfl, Nat.add_zero] at *
  constructor
  · intro h
    revert h
    repeat' split
    all_goals (intro h; first | omega | exact absurd h (by decide))
  · intro h
    rw [if_pos (by omega)]
    rw [if_pos (by omega)]
    rw [if_pos (by omega)]
    rw [if_pos (by omega)]
    decide
theorem zmt_4_11 (T : Nat → Nat) (f : Nat) (h0 : 97 ≤ T (f + 0) ∧ T (f + 0) ≤ 122) (h1 : 97 ≤ T (f + 1) ∧ T (f + 1) ≤ 122) (h2 : 97 ≤ T (f + 2) ∧ T (f + 2) ≤ 122) (h3 : 97 ≤ T (f + 3) ∧ T (f + 3) ≤ 122) : zmb T f 66 4 0 = true ↔ zwn T 4 f 0 = 11450658 := by
  simp only [zmb, zwn, Nat.add_assoc, Nat.reduceAdd, show zS (66 + 0) = 117 from rfl, show zS (66 + 1) = 110 from rfl, show zS (66 + 2) = 116 from rfl, show zS (66 + 3) = 105 from rfl, show zS (66 + 4) = 108 from rfl, Nat.add_zero] at *
  constructor
  · intro h
    revert h
    repeat' split
    all_goals (intro h; first | omega | exact absurd h (by decide))
  · intro h
    omega
theorem zmt_4_12 (T : Nat → Nat) (f : Nat) (h0 : 97 ≤ T (f + 0) ∧ T (f + 0) ≤ 122) (h1 : 97 ≤ T (f + 1) ∧ T (f + 1) ≤ 122) (h2 : 97 ≤ T (f + 2) ∧ T (f + 2) ≤ 122) (h3 : 97 ≤ T (f + 3) ∧ T (f + 3) ≤ 122) : zmb T f 72 4 0 = true ↔ zwn T 4 f 0 = 249 := by
  simp only [zmb, zwn, Nat.add_assoc, Nat.reduceAdd, show zS (72 + 0) = 105 from rfl, show zS (72 + 1) = 102 from rfl, show zS (72 + 2) = 32 from rfl, show zS (72 + 3) = 32 from rfl, show zS (72 + 4) = 32 from rfl, Nat.add_zero] at *
  constructor
  · intro h
    revert h
    repeat' split
    all_goals (intro h; first | omega | exact absurd h (by decide))
  · intro h
    omega
theorem zmt_4_13 (T : Nat → Nat) (f : Nat) (h0 : 97 ≤ T (f + 0) ∧ T (f + 0) ≤ 122) (h1 : 97 ≤ T (f + 1) ∧ T (f + 1) ≤ 122) (h2 : 97 ≤ T (f + 2) ∧ T (f + 2) ≤ 122) (h3 : 97 ≤ T (f + 3) ∧ T (f + 3) ≤ 122) : zmb T f 78 4 0 = true ↔ zwn T 4 f 0 = 12387497 := by
  simp only [zmb, zwn, Nat.add_assoc, Nat.reduceAdd, show zS (78 + 0) = 119 from rfl, show zS (78 + 1) = 104 from rfl, show zS (78 + 2) = 105 from rfl, show zS (78 + 3) = 108 from rfl, show zS (78 + 4) = 101 from rfl, Nat.add_zero] at *
  constructor
  · intro h
    revert h
    repeat' split
    all_goals (intro h; first | omega | exact absurd h (by decide))
  · intro h
    omega
theorem zmt_4_14 (T : Nat → Nat) (f : Nat) (h0 : 97 ≤ T (f + 0) ∧ T (f + 0) ≤ 122) (h1 : 97 ≤ T (f + 1) ∧ T (f + 1) ≤ 122) (h2 : 97 ≤ T (f + 2) ∧ T (f + 2) ≤ 122) (h3 : 97 ≤ T (f + 3) ∧ T (f + 3) ≤ 122) : zmb T f 84 4 0 = true ↔ zwn T 4 f 0 = 107681 := by
  simp only [zmb, zwn, Nat.add_assoc, Nat.reduceAdd, show zS (84 + 0) = 101 from rfl, show zS (84 + 1) = 108 from rfl, show zS (84 + 2) = 115 from rfl, show zS (84 + 3) = 101 from rfl, show zS (84 + 4) = 32 from rfl, Nat.add_zero] at *
  constructor
  · intro h
    revert h
    repeat' split
    all_goals (intro h; first | omega | exact absurd h (by decide))
  · intro h
    rw [if_pos (by omega)]
    rw [if_pos (by omega)]
    rw [if_pos (by omega)]
    rw [if_pos (by omega)]
    decide
theorem zmt_5_0 (T : Nat → Nat) (f : Nat) (h0 : 97 ≤ T (f + 0) ∧ T (f + 0) ≤ 122) (h1 : 97 ≤ T (f + 1) ∧ T (f + 1) ≤ 122) (h2 : 97 ≤ T (f + 2) ∧ T (f + 2) ≤ 122) (h3 : 97 ≤ T (f + 3) ∧ T (f + 3) ≤ 122) (h4 : 97 ≤ T (f + 4) ∧ T (f + 4) ≤ 122) : zmb T f 0 5 0 = true ↔ zwn T 5 f 0 = 985 := by
  simp only [zmb, zwn, Nat.add_assoc, Nat.reduceAdd, show zS (0 + 0) = 97 from rfl, show zS (0 + 1) = 105 from rfl, show zS (0 + 2) = 109 from rfl, show zS (0 + 3) = 32 from rfl, show zS (0 + 4) = 32 from rfl, show zS (0 + 5) = 32 from rfl, Nat.add_zero] at *
  constructor
  · intro h
    revert h
    repeat' split
    all_goals (intro h; first | omega | exact absurd h (by decide))
  · intro h
    omega
theorem zmt_5_1 (T : Nat → Nat) (f : Nat) (h0 : 97 ≤ T (f + 0) ∧ T (f + 0) ≤ 122) (h1 : 97 ≤ T (f + 1) ∧ T (f + 1) ≤ 122) (h2 : 97 ≤ T (f + 2) ∧ T (f + 2) ≤ 122) (h3 : 97 ≤ T (f + 3) ∧ T (f + 3) ≤ 122) (h4 : 97 ≤ T (f + 4) ∧ T (f + 4) ≤ 122) : zmb T f 6 5 0 = true ↔ zwn T 5 f 0 = 55175 := by
  simp only [zmb, zwn, Nat.add_assoc, Nat.reduceAdd, show zS (6 + 0) = 98 from rfl, show zS (6 + 1) = 117 from rfl, show zS (6 + 2) = 114 from rfl, show zS (6 + 3) = 110 from rfl, show zS (6 + 4) = 32 from rfl, show zS (6 + 5) = 32 from rfl, Nat.add_zero] at *
  constructor
  · intro h
    revert h
    repeat' split
    all_goals (intro h; first | omega | exact absurd h (by decide))
  · intro h
    omega
theorem zmt_5_2 (T : Nat → Nat) (f : Nat) (h0 : 97 ≤ T (f + 0) ∧ T (f + 0) ≤ 122) (h1 : 97 ≤ T (f + 1) ∧ T (f + 1) ≤ 122) (h2 : 97 ≤ T (f + 2) ∧ T (f + 2) ≤ 122) (h3 : 97 ≤ T (f + 3) ∧ T (f + 3) ≤ 122) (h4 : 97 ≤ T (f + 4) ∧ T (f + 4) ≤ 122) : zmb T f 12 5 0 = true ↔ zwn T 5 f 0 = 89759 := by
  simp only [zmb, zwn, Nat.add_assoc, Nat.reduceAdd, show zS (12 + 0) = 100 from rfl, show zS (12 + 1) = 111 from rfl, show zS (12 + 2) = 99 from rfl, show zS (12 + 3) = 107 from rfl, show zS (12 + 4) = 32 from rfl, show zS (12 + 5) = 32 from rfl, Nat.add_zero] at *
  constructor
  · intro h
    revert h
    repeat' split
    all_goals (intro h; first | omega | exact absurd h (by decide))
  · intro h
    omega
theorem zmt_5_3 (T : Nat → Nat) (f : Nat) (h0 : 97 ≤ T (f + 0) ∧ T (f + 0) ≤ 122) (h1 : 97 ≤ T (f + 1) ∧ T (f + 1) ≤ 122) (h2 : 97 ≤ T (f + 2) ∧ T (f + 2) ≤ 122) (h3 : 97 ≤ T (f + 3) ∧ T (f + 3) ≤ 122) (h4 : 97 ≤ T (f + 4) ∧ T (f + 4) ≤ 122) : zmb T f 18 5 0 = true ↔ zwn T 5 f 0 = 131360 := by
  simp only [zmb, zwn, Nat.add_assoc, Nat.reduceAdd, show zS (18 + 0) = 102 from rfl, show zS (18 + 1) = 114 from rfl, show zS (18 + 2) = 101 from rfl, show zS (18 + 3) = 101 from rfl, show zS (18 + 4) = 32 from rfl, show zS (18 + 5) = 32 from rfl, Nat.add_zero] at *
  constructor
  · intro h
    revert h
    repeat' split
    all_goals (intro h; first | omega | exact absurd h (by decide))
  · intro h
    omega
theorem zmt_5_4 (T : Nat → Nat) (f : Nat) (h0 : 97 ≤ T (f + 0) ∧ T (f + 0) ≤ 122) (h1 : 97 ≤ T (f + 1) ∧ T (f + 1) ≤ 122) (h2 : 97 ≤ T (f + 2) ∧ T (f + 2) ≤ 122) (h3 : 97 ≤ T (f + 3) ∧ T (f + 3) ≤ 122) (h4 : 97 ≤ T (f + 4) ∧ T (f + 4) ≤ 122) : zmb T f 24 5 0 = true ↔ zwn T 5 f 0 = 3166 := by
  simp only [zmb, zwn, Nat.add_assoc, Nat.reduceAdd, show zS (24 + 0) = 100 from rfl, show zS (24 + 1) = 105 from rfl, show zS (24 + 2) = 103 from rfl, show zS (24 + 3) = 32 from rfl, show zS (24 + 4) = 32 from rfl, show zS (24 + 5) = 32 from rfl, Nat.add_zero] at *
  constructor
  · intro h
    revert h
    repeat' split
    all_goals (intro h; first | omega | exact absurd h (by decide))
  · intro h
    omega
theorem zmt_5_5 (T : Nat → Nat) (f : Nat) (h0 : 97 ≤ T (f + 0) ∧ T (f + 0) ≤ 122) (h1 : 97 ≤ T (f + 1) ∧ T (f + 1) ≤ 122) (h2 : 97 ≤ T (f + 2) ∧ T (f + 2) ≤ 122) (h3 : 97 ≤ T (f + 3) ∧ T (f + 3) ≤ 122) (h4 : 97 ≤ T (f + 4) ∧ T (f + 4) ≤ 122) : zmb T f 30 5 0 = true ↔ zwn T 5 f 0 = 256910 := by
  simp only [zmb, zwn, Nat.add_assoc, Nat.reduceAdd, show zS (30 + 0) = 109 from rfl, show zS (30 + 1) = 97 from rfl, show zS (30 + 2) = 107 from rfl, show zS (30 + 3) = 101 from rfl, show zS (30 + 4) = 32 from rfl, show zS (30 + 5) = 32 from rfl, Nat.add_zero] at *
  constructor
  · intro h
    revert h
    repeat' split
    all_goals (intro h; first | omega | exact absurd h (by decide))
  · intro h
    omega
theorem zmt_5_6 (T : Nat → Nat) (f : Nat) (h0 : 97 ≤ T (f + 0) ∧ T (f + 0) ≤ 122) (h1 : 97 ≤ T (f + 1) ∧ T (f + 1) ≤ 122) (h2 : 97 ≤ T (f + 2) ∧ T (f + 2) ≤ 122) (h3 : 97 ≤ T (f + 3) ∧ T (f + 3) ≤ 122) (h4 : 97 ≤ T (f + 4) ∧ T (f + 4) ≤ 122) : zmb T f 36 5 0 = true ↔ zwn T 5 f 0 = 144941 := by
  simp only [zmb, zwn, Nat.add_assoc, Nat.reduceAdd, show zS (36 + 0) = 103 from rfl, show zS (36 + 1) = 105 from rfl, show zS (36 + 2) = 118 from rfl, show zS (36 + 3) = 101 from rfl, show zS (36 + 4) = 32 from rfl, show zS (36 + 5) = 32 from rfl, Nat.add_zero] at *
  constructor
  · intro h
    revert h
    repeat' split
    all_goals (intro h; first | omega | exact absurd h (by decide))
  · intro h
    omega
theorem zmt_5_7 (T : Nat → Nat) (f : Nat) (h0 : 97 ≤ T (f + 0) ∧ T (f + 0) ≤ 122) (h1 : 97 ≤ T (f + 1) ∧ T (f + 1) ≤ 122) (h2 : 97 ≤ T (f + 2) ∧ T (f + 2) ≤ 122) (h3 : 97 ≤ T (f + 3) ∧ T (f + 3) ≤ 122) (h4 : 97 ≤ T (f + 4) ∧ T (f + 4) ≤ 122) : zmb T f 42 5 0 = true ↔ zwn T 5 f 0 = 10497936 := by
  simp only [zmb, zwn, Nat.add_assoc, Nat.reduceAdd, show zS (42 + 0) = 115 from rfl, show zS (42 + 1) = 116 from rfl, show zS (42 + 2) = 105 from rfl, show zS (42 + 3) = 108 from rfl, show zS (42 + 4) = 108 from rfl, show zS (42 + 5) = 32 from rfl, Nat.add_zero] at *
  constructor
  · intro h
    revert h
    repeat' split
    all_goals (intro h; first | omega | exact absurd h (by decide))
  · intro h
    rw [if_pos (by omega)]
    rw [if_pos (by omega)]
    rw [if_pos (by omega)]
    rw [if_pos (by omega)]
    rw [if_pos (by omega)]
    decide
theorem zmt_5_8 (T : Nat → Nat) (f : Nat) (h0 : 97 ≤ T (f + 0) ∧ T (f + 0) ≤ 122) (h1 : 97 ≤ T (f + 1) ∧ T (f + 1) ≤ 122) (h2 : 97 ≤ T (f + 2) ∧ T (f + 2) ≤ 122) (h3 : 97 ≤ T (f + 3) ∧ T (f + 3) ≤ 122) (h4 : 97 ≤ T (f + 4) ∧ T (f + 4) ≤ 122) : zmb T f 48 5 0 = true ↔ zwn T 5 f 0 = 379948 := by
  simp only [zmb, zwn, Nat.add_assoc, Nat.reduceAdd, show zS (48 + 0) = 115 from rfl, show zS (48 + 1) = 104 from rfl, show zS (48 + 2) = 101 from rfl, show zS (48 + 3) = 100 from rfl, show zS (48 + 4) = 32 from rfl, show zS (48 + 5) = 32 from rfl, Nat.add_zero] at *
  constructor
  · intro h
    revert h
    repeat' split
    all_goals (intro h; first | omega | exact absurd h (by decide))
  · intro h
    omega
theorem zmt_5_9 (T : Nat → Nat) (f : Nat) (h0 : 97 ≤ T (f + 0) ∧ T (f + 0) ≤ 122) (h1 : 97 ≤ T (f + 1) ∧ T (f + 1) ≤ 122) (h2 : 97 ≤ T (f + 2) ∧ T (f + 2) ≤ 122) (h3 : 97 ≤ T (f + 3) ∧ T (f + 3) ≤ 122) (h4 : 97 ≤ T (f + 4) ∧ T (f + 4) ≤ 122) : zmb T f 54 5 0 = true ↔ zwn T 5 f 0 = 1831504 := by
  simp only [zmb, zwn, Nat.add_assoc, Nat.reduceAdd, show zS (54 + 0) = 99 from rfl, show zS (54 + 1) = 108 from rfl, show zS (54 + 2) = 97 from rfl, show zS (54 + 3) = 105 from rfl, show zS (54 + 4) = 109 from rfl, show zS (54 + 5) = 32 from rfl, Nat.add_zero] at *
  constructor
  · intro h
    revert h
    repeat' split
    all_goals (intro h; first | omega | exact absurd h (by decide))
  · intro h
    rw [if_pos (by omega)]
    rw [if_pos (by omega)]
    rw [if_pos (by omega)]
    rw [if_pos (by omega)]
    rw [if_pos (by omega)]
    decide
theorem zmt_5_10 (T : Nat → Nat) (f : Nat) (h0 : 97 ≤ T (f + 0) ∧ T (f + 0) ≤ 122) (h1 : 97 ≤ T (f + 1) ∧ T (f + 1) ≤ 122) (h2 : 97 ≤ T (f + 2) ∧ T (f + 2) ≤ 122) (h3 : 97 ≤ T (f + 3) ∧ T (f + 3) ≤ 122) (h4 : 97 ≤ T (f + 4) ∧ T (f + 4) ≤ 122) : zmb T f 60 5 0 = true ↔ zwn T 5 f 0 = 453701 := by
  simp only [zmb, zwn, Nat.add_assoc, Nat.reduceAdd, show zS (60 + 0) = 119 from rfl, show zS (60 + 1) = 97 from rfl, show zS (60 + 2) = 105 from rfl, show zS (60 + 3) = 116 from rfl, show zS (60 + 4) = 32 from rfl, show zS (60 + 5) = 32 from rfl, Nat.add_zero] at *
  constructor
  · intro h
    revert h
    repeat' split
    all_goals (intro h; first | omega | exact absurd h (by decide))
  · intro h
    omega
theorem zmt_5_11 (T : Nat → Nat) (f : Nat) (h0 : 97 ≤ T (f + 0) ∧ T (f + 0) ≤ 122) (h1 : 97 ≤ T (f + 1) ∧ T (f + 1) ≤ 122) (h2 : 97 ≤ T (f + 2) ∧ T (f + 2) ≤ 122) (h3 : 97 ≤ T (f + 3) ∧ T (f + 3) ≤ 122) (h4 : 97 ≤ T (f + 4) ∧ T (f + 4) ≤ 122) : zmb T f 66 5 0 = true ↔ zwn T 5 f 0 = 11450658 := by
  simp only [zmb, zwn, Nat.add_assoc, Nat.reduceAdd, show zS (66 + 0) = 117 from rfl, show zS (66 + 1) = 110 from rfl, show zS (66 + 2) = 116 from rfl, show zS (66 + 3) = 105 from rfl, show zS (66 + 4) = 108 from rfl, show zS (66 + 5) = 32 from rfl, Nat.add_zero] at *
  constructor
  · intro h
    revert h
    repeat' split
    all_goals (intro h; first | omega | exact absurd h (by decide))
  · intro h
    rw [if_pos (by omega)]
    rw [if_pos (by omega)]
    rw [if_pos (by omega)]
    rw [if_pos (by omega)]
    rw [if_pos (by omega)]
    decide
theorem zmt_5_12 (T : Nat → Nat) (f : Nat) (h0 : 97 ≤ T (f + 0) ∧ T (f + 0) ≤ 122) (h1 : 97 ≤ T (f + 1) ∧ T (f + 1) ≤ 122) (h2 : 97 ≤ T (f + 2) ∧ T (f + 2) ≤ 122) (h3 : 97 ≤ T (f + 3) ∧ T (f + 3) ≤ 122) (h4 : 97 ≤ T (f + 4) ∧ T (f + 4) ≤ 122) : zmb T f 72 5 0 = true ↔ zwn T 5 f 0 = 249 := by
  simp only [zmb, zwn, Nat.add_assoc, Nat.reduceAdd, show zS (72 + 0) = 105 from rfl, show zS (72 + 1) = 102 from rfl, show zS (72 + 2) = 32 from rfl, show zS (72 + 3) = 32 from rfl, show zS (72 + 4) = 32 from rfl, show zS (72 + 5) = 32 from rfl, Nat.add_zero] at *
  constructor
  · intro h
    revert h
    repeat' split
    all_goals (intro h; first | omega | exact absurd h (by decide))
  · intro h
    omega
theorem zmt_5_13 (T : Nat → Nat) (f : Nat) (h0 : 97 ≤ T (f + 0) ∧ T (f + 0) ≤ 122) (h1 : 97 ≤ T (f + 1) ∧ T (f + 1) ≤ 122) (h2 : 97 ≤ T (f + 2) ∧ T (f + 2) ≤ 122) (h3 : 97 ≤ T (f + 3) ∧ T (f + 3) ≤ 122) (h4 : 97 ≤ T (f + 4) ∧ T (f + 4) ≤ 122) : zmb T f 78 5 0 = true ↔ zwn T 5 f 0 = 12387497 := by
  simp only [zmb, zwn, Nat.add_assoc, Nat.reduceAdd, show zS (78 + 0) = 119 from rfl, show zS (78 + 1) = 104 from rfl, show zS (78 + 2) = 105 from rfl, show zS (78 + 3) = 108 from rfl, show zS (78 + 4) = 101 from rfl, show zS (78 + 5) = 32 from rfl, Nat.add_zero] at *
  constructor
  · intro h
    revert h
    repeat' split
    all_goals (intro h; first | omega | exact absurd h (by decide))
  · intro h
    rw [if_pos (by omega)]
    rw [if_pos (by omega)]
    rw [if_pos (by omega)]
    rw [if_pos (by omega)]
    rw [if_pos (by omega)]
    decide
theorem zmt_5_14 (T : Nat → Nat) (f : Nat) (h0 : 97 ≤ T (f + 0) ∧ T (f + 0) ≤ 122) (h1 : 97 ≤ T (f + 1) ∧ T (f + 1) ≤ 122) (h2 : 97 ≤ T (f + 2) ∧ T (f + 2) ≤ 122) (h3 : 97 ≤ T (f + 3) ∧ T (f + 3) ≤ 122) (h4 : 97 ≤ T (f + 4) ∧ T (f + 4) ≤ 122) : zmb T f 84 5 0 = true ↔ zwn T 5 f 0 = 107681 := by
  simp only [zmb, zwn, Nat.add_assoc, Nat.reduceAdd, show zS (84 + 0) = 101 from rfl, show zS (84 + 1) = 108 from rfl, show zS (84 + 2) = 115 from rfl, show zS (84 + 3) = 101 from rfl, show zS (84 + 4) = 32 from rfl, show zS (84 + 5) = 32 from rfl, Nat.add_zero] at *
  constructor
  · intro h
    revert h
    repeat' split
    all_goals (intro h; first | omega | exact absurd h (by decide))
  · intro h
    omega
