/-! SMALL METHODS, printed by wip/gen/base.py -/
theorem zw_iff (x lo hi : Int32) : (¬ x < lo ∧ ¬ hi < x) = (lo ≤ x ∧ x ≤ hi) := by
  rw [Int32.not_lt, Int32.not_lt]
theorem zs1 {α β : Type} (a : α) (f : α → Option β) : (some a).bind f = f a := rfl
theorem zs2 (v : Value) (r : List Value) : (some v).toList ++ r = v :: r := rfl
theorem zs3 (r : List Value) : (none : Option Value).toList ++ r = r := rfl
theorem zcs_n (C : zCt) {g x : Nat} (F : Nat → Nat → Int32) (h : x ≠ g) : zcs C g F x = C x := if_neg h
theorem zup_n (f : Nat → Nat → Int32) {a k x j : Nat} (v : Int32) (h : ¬ (x = a ∧ j = k)) : zup f a k v x j = f x j := if_neg h
theorem T107 (d : Nat) (Z : List (Nat × Nat)) (I : Nat → Nat → Int32) (P : Nat → Nat → Nat) (x0 x1 x2 : Int32) : zR d 107 0 [.int x0, .int x1, .int x2] [] (Z, I, P) = some (some (.int (if x1 ≤ x0 ∧ x0 ≤ x2 then 1 else 0)), (Z, I, P)) := by
  rw [e107_0, e107_5, e107_10, e107_14]
  simp only [e107_15, ← zw_iff]
  by_cases h1 : x0 < x1 <;> by_cases h2 : x2 < x0 <;> simp [h1, h2, zbool]
theorem T154 (d : Nat) (Z : List (Nat × Nat)) (I : Nat → Nat → Int32) (P : Nat → Nat → Nat) (x0 x1 x2 : Int32) : zR d 154 0 [.int x0, .int x1, .int x2] [] (Z, I, P) = some (some (.int (if x1 ≤ x0 ∧ x0 ≤ x2 then 1 else 0)), (Z, I, P)) := by
  rw [e154_0, e154_5, e154_10, e154_14]
  simp only [e154_15, ← zw_iff]
  by_cases h1 : x0 < x1 <;> by_cases h2 : x2 < x0 <;> simp [h1, h2, zbool]
theorem T106 (d : Nat) (Z : List (Nat × Nat)) (I : Nat → Nat → Int32) (P : Nat → Nat → Nat) (x0 x1 : Int32) : zR (d + 1) 106 0 [.int x0, .int x1] [] (Z, I, P) = some (some (.int (if (-9999999 ≤ x0 ∧ x0 ≤ 9999999) ∧ (-9999999 ≤ x1 ∧ x1 ≤ 9999999) then 1 else 0)), (Z, I, P)) := by
  simp only [e106_0, e106_10, e106_13, e106_23, e106_26, e106_30, e106_31, T107, zs1, zs2, zI_eqb]
  by_cases h1 : -9999999 ≤ x0 ∧ x0 ≤ 9999999 <;> by_cases h2 : -9999999 ≤ x1 ∧ x1 ≤ 9999999 <;> simp [h1, h2, zbool]
theorem T153 (d : Nat) (Z : List (Nat × Nat)) (I : Nat → Nat → Int32) (P : Nat → Nat → Nat) (x0 : Int32) : zR (d + 1) 153 0 [.int x0] [] (Z, I, P) = some (some (.int (if (-9999999 ≤ x0 ∧ x0 ≤ 9999999) then 1 else 0)), (Z, I, P)) := by
  simp only [e153_0, T154, zs1, zs2, e153_8, zbool_i, Bool.and_self, cond_true]
theorem T112 (d : Nat) (Z : List (Nat × Nat)) (I : Nat → Nat → Int32) (P : Nat → Nat → Nat) (x0 : Int32) : zR (d + 1) 112 0 [.int x0] [] (Z, I, P) = some (some (.int (if 0 ≤ x0 ∧ x0 ≤ 1 then 1 else 0)), (Z, I, P)) := by
  simp only [e112_0, e112_6, T107, zs1, zs2, zbool_i, Bool.and_self, cond_true]
theorem T115 (d : Nat) (Z : List (Nat × Nat)) (I : Nat → Nat → Int32) (P : Nat → Nat → Nat) (x0 x1 : Int32) : zR d 115 0 [.int x0, .int x1] [] (Z, I, P) = some (some (.int (if x1 = 0 ∨ x0 = x1 ∨ (x0 = 3 ∧ x1 = 2) then 1 else 0)), (Z, I, P)) := by
  simp only [e115_0, e115_4, e115_9, e115_14, e115_19, e115_23, e115_24]
  by_cases h1 : x1 = 0
  · simp +decide [h1, zbool]
  by_cases h2 : x0 = x1
  · simp +decide [h1, h2, zbool]
  by_cases h3 : x0 = 3 <;> by_cases h4 : x1 = 2 <;> simp +decide [h1, h2, h3, h4, zbool] <;> simp_all [zbool]
theorem T164 (d : Nat) (Z : List (Nat × Nat)) (I : Nat → Nat → Int32) (P : Nat → Nat → Nat) (x0 x1 : Int32) : zR d 164 0 [.int x0, .int x1] [] (Z, I, P) = some (some (.int (if x1 = 0 ∨ x0 = x1 ∨ (x0 = 3 ∧ x1 = 2) then 1 else 0)), (Z, I, P)) := by
  simp only [e164_0, e164_4, e164_9, e164_14, e164_19, e164_23, e164_24]
  by_cases h1 : x1 = 0
  · simp +decide [h1, zbool]
  by_cases h2 : x0 = x1
  · simp +decide [h1, h2, zbool]
  by_cases h3 : x0 = 3 <;> by_cases h4 : x1 = 2 <;> simp +decide [h1, h2, h3, h4, zbool] <;> simp_all [zbool]
theorem T74 (d : Nat) (Z : List (Nat × Nat)) (I : Nat → Nat → Int32) (P : Nat → Nat → Nat) (r0 : Nat) (x1 x2 x3 : Int32) : zR d 74 0 [.ref r0, .int x1, .int x2, .int x3] [] (Z, I, P) = bif zisO Z r0 7 then some (none, (Z, zup (zup (zup I r0 0 x1) r0 1 x2) r0 2 x3, P)) else none := by
  rw [e74_0]
  cases zisO Z r0 7 <;> rfl
theorem T1 (d : Nat) (Z : List (Nat × Nat)) (I : Nat → Nat → Int32) (P : Nat → Nat → Nat) (r0 : Nat) (x1 x2 : Int32) : zR d 1 0 [.ref r0, .int x1, .int x2] [] (Z, I, P) = bif zisO Z r0 0 then some (none, (Z, zup (zup (zup (zup I r0 0 x1) r0 1 x2) r0 2 0) r0 3 0, P)) else none := by
  rw [e1_0]
  cases zisO Z r0 0 <;> rfl
theorem T85 (d : Nat) (Z : List (Nat × Nat)) (I : Nat → Nat → Int32) (P : Nat → Nat → Nat) (r0 : Nat) (x1 : Int32) : zR d 85 0 [.ref r0, .int x1] [] (Z, I, P) = bif zisO Z r0 10 then some (some (.int (if 0 ≤ x1 ∧ ¬ I r0 6 ≤ x1 then 1 else 0)), (Z, I, P)) else if x1 < 0 then some (some (.int 0), (Z, I, P)) else none := by
  simp only [e85_0, e85_4, e85_12, e85_16, e85_17, ← Int32.not_lt]
  by_cases h1 : x1 < 0
  · cases zisO Z r0 10 <;> simp [h1, zbool]
  · cases zisO Z r0 10 <;> by_cases h2 : x1 < I r0 6 <;> simp [h1, h2, zbool]
theorem T86 (d : Nat) (Z : List (Nat × Nat)) (I : Nat → Nat → Int32) (P : Nat → Nat → Nat) (r0 : Nat) (x1 : Int32) : zR d 86 0 [.ref r0, .int x1] [] (Z, I, P) = bif zisO Z r0 10 then some (some (.int (if 0 ≤ x1 ∧ ¬ I r0 7 ≤ x1 then 1 else 0)), (Z, I, P)) else if x1 < 0 then some (some (.int 0), (Z, I, P)) else none := by
  simp only [e86_0, e86_4, e86_12, e86_16, e86_17, ← Int32.not_lt]
  by_cases h1 : x1 < 0
  · cases zisO Z r0 10 <;> simp [h1, zbool]
  · cases zisO Z r0 10 <;> by_cases h2 : x1 < I r0 7 <;> simp [h1, h2, zbool]
