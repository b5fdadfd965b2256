/-! THE RELATION between the class's cells and the model's row -/
abbrev zGp : Type := Nat → Nat → Int32
def znn (v : Int32) : Int32 := if v = -1 then -1000000005 else v
def zB (x : Int32) : Prop := -9999999 ≤ x ∧ x ≤ 9999999
def zcn (K : Nat) (x : Int32) : Prop := ∃ n, n ≤ K ∧ x = nI n
def zRG (a b : zGp) : Prop := (∀ f, f < 14 → a 0 f = b 0 f) ∧ zcn 3000 (b 0 0) ∧ (∃ n, 1 ≤ n ∧ n ≤ 99999 ∧ b 0 1 = nI n) ∧ zcn 9999 (b 0 2) ∧ zcn 50 (b 0 3) ∧ zcn 3 (b 0 4) ∧ zcn 8 (b 0 5) ∧ zcn 4 (b 0 6) ∧ zcn 30 (b 0 7) ∧ zcn 60 (b 0 8) ∧ zcn 20 (b 0 9) ∧ zcn 8 (b 0 10) ∧ zcn 16 (b 0 11) ∧ (b 0 12 = 0 ∨ b 0 12 = 1) ∧ zcn 6 (b 0 13)
def zRS (n : Int32) (a b : zGp) : Prop := ∀ i, i < zix n → ∀ f, f < 3 → a i f = b i f
def zRR1 (a b : Nat → Int32) : Prop := (∀ f, f < 15 → f ≠ 10 → a f = b f) ∧ (a 10 = znn (b 10) ∧ (b 10 = -1 ∨ zcn 3 (b 10))) ∧ zcn 3 (b 0) ∧ (∀ f, 1 ≤ f → f ≤ 4 → zB (b f)) ∧ (∃ n, 1 ≤ n ∧ n ≤ 99999 ∧ b 5 = nI n) ∧ (-99 ≤ b 6 ∧ b 6 ≤ 99) ∧ zcn 9999 (b 7) ∧ zcn 9999 (b 8) ∧ zcn 999 (b 9)
def zRR (n : Int32) (a b : zGp) : Prop := ∀ i, i < zix n → zRR1 (a i) (b i)
def zRT1 (nr : Int32) (nb : Nat → Int32) (w : Nat → Nat → Nat) (a b : Nat → Int32) : Prop := (∀ f, f < 15 → f ≠ 9 → f ≠ 10 → a f = b f) ∧ a 9 = znn (b 9) ∧ a 10 = znn (b 10) ∧ zcn 3 (b 0) ∧ (∀ f, 1 ≤ f → f ≤ 4 → zB (b f)) ∧ zcn 999 (b 5) ∧ (∃ x y, b 6 = nI x ∧ b 7 = nI y ∧ x + y ≤ if b 0 = 1 then 100 else 20) ∧ (-50 ≤ b 8 ∧ b 8 ≤ 50) ∧ (b 9 = -1 ∨ ∃ r, r < zix nr ∧ b 9 = nI r) ∧ (b 14 = 0 ∨ b 14 = 1) ∧ (b 10 = -1 ∨ ∃ p k, p < 4 ∧ b 10 = nI p ∧ b 15 = nI k ∧ k ≤ zix (nb p) ∧ a 15 = nI (k + w p k)) ∧ ((b 16 = 0 ∧ a 22 = -1) ∨ (b 16 = 1 ∧ (∀ k, k < 6 → a (17 + k) = b (17 + k)) ∧ zcn 3000 (b 22)))
def zRT (n nr : Int32) (nb : Nat → Int32) (w : Nat → Nat → Nat) (a b : zGp) : Prop := ∀ i, i < zix n → zRT1 nr nb w (a i) (b i)
def zRO (n nt : Int32) (a b : zGp) : Prop := ∀ i, i < zix n → (∀ f, f < 3 → a i f = b i f) ∧ (∃ t, t < zix nt ∧ b i 0 = nI t) ∧ ∃ p, p < 4 ∧ b i 1 = nI p
def zRE (n nt : Int32) (a b : zGp) : Prop := ∀ i, i < zix n → (∀ f, f < 8 → a i f = b i f) ∧ (∃ t, t < zix nt ∧ b i 0 = nI t) ∧ zcn 3000 (b i 6)
def zRC (n nt nr : Int32) (a b : zGp) : Prop := ∀ i, i < zix n → (∀ f, f < 3 → a i f = b i f) ∧ (∃ t, t < zix nt ∧ b i 0 = nI t) ∧ ∃ r, r < zix nr ∧ b i 1 = nI r
def zRK1 (td nr : Int32) (a b : Nat → Int32) : Prop := (∀ f, f < 6 → a f = b f) ∧ a 6 = znn (b 6) ∧ (b 0 = 0 ∨ b 0 = 1) ∧ (∃ t g, 1 ≤ t ∧ t ≤ 999 ∧ g ≤ t ∧ b 1 = nI t ∧ b 5 = nI g ∧ (b 6 = -1 → g < t)) ∧ (∃ r, r < zix nr ∧ b 2 = nI r) ∧ zcn 3000 (b 3) ∧ zcn 9999 (b 4) ∧ (b 6 = -1 ∨ zcn 3000 (b 6)) ∧ (b 7 = 0 ∨ b 7 = 1) ∧ (b 6 = -1 → (b 7 = 1 ↔ b 3 < td))
def zRK (n td nr : Int32) (a b : zGp) : Prop := ∀ i, i < zix n → zRK1 td nr (a i) (b i)
def zRW (n nr : Int32) (a b : zGp) : Prop := ∀ i, i < zix n → (∀ f, f < 6 → a i f = b i f) ∧ (∃ r, r < zix nr ∧ b i 0 = nI r) ∧ (∃ r, r < zix nr ∧ b i 1 = nI r) ∧ zcn 999 (b i 2) ∧ zcn 999 (b i 3) ∧ zcn 999 (b i 4) ∧ zcn 200 (b i 5)
def zRL (n : Int32) (a b : zGp) : Prop := ∀ i, i < zix n → ∀ f, f < 4 → a i f = b i f
/-- depth of the pile behind n words from place j -/
def zdp (W : zGp) : Nat → Nat → Nat → Option Nat
  | 0, _, s => some s
  | n + 1, j, s => if W j 0 = 1 ∨ W j 0 = 2 then zdp W n (j + 1) (s + 1) else if W j 0 = 3 ∨ W j 0 = 4 then (if 1 ≤ s then zdp W n (j + 1) s else none) else if 2 ≤ s then zdp W n (j + 1) (s - 1) else none
def zopw : List (Int32 × Int32) := [(16, 1), (17, 2), (33, 3), (18, 4), (124, 10), (38, 20), (60, 30), (61, 31), (62, 32), (43, 40), (45, 41), (42, 50), (47, 51)]
def zlet : List Int32 := [120, 121, 117, 118, 102, 119, 109, 116, 107, 115]
def zwr (op arg w v : Int32) : Prop := (op, w) ∈ zopw ∧ arg = v ∧ (w = 2 → v ∈ zlet)
def zsr (S W : zGp) (w : Nat → Nat) (N k : Nat) (op arg : Int32) : Prop :=
  (∃ o, 3 ≤ o ∧ o ≤ 11 ∧ S k 0 = nI o ∧ op = nI (o - 1) ∧ w (k + 1) = w k) ∨
  (S k 0 = 1 ∧ op = 0 ∧ arg = S k 1 ∧ w (k + 1) = w k) ∨
  (S k 0 = 2 ∧ op = 1 ∧ S k 1 = nI (w k) ∧ S k 3 = nI (w (k + 1)) ∧ ∃ m, w k ≤ m ∧ m ≤ w (k + 1) ∧ S k 2 = nI m ∧ zdp W (m - w k) (w k) 0 = some 1 ∧ zdp W (w (k + 1) - m) m 0 = some 1) ∨
  (S k 0 = 12 ∧ op = 11 ∧ S k 1 = nI (w k) ∧ S k 2 = nI (w (k + 1)) ∧ zdp W (w (k + 1) - w k) (w k) 0 = some 1) ∨
  (S k 0 = 13 ∧ (op = 12 ∨ op = 13) ∧ S k 1 = nI (w k) ∧ S k 2 = nI (w (k + 1)) ∧ zdp W (w (k + 1) - w k) (w k) 0 = some 1 ∧ ∃ T, T ≤ N ∧ S k 3 = nI T ∧ arg = nI (T + w T)) ∨
  (S k 0 = 14 ∧ op = 15 ∧ w (k + 1) = w k ∧ ∃ T, T ≤ N ∧ S k 1 = nI T ∧ arg = nI (T + w T) ∧ (k < T ∨ (T ≤ k ∧ S T 0 = 13)))
def zLay (u n : Int32) (A S W : zGp) (w : Nat → Nat) : Prop := ∃ N, n = nI N ∧ N ≤ 120 ∧ w 0 = 0 ∧ (∀ k, k < N → w k ≤ w (k + 1)) ∧ N + w N ≤ 120 ∧ u = nI (N + w N) ∧ ∀ k, k < N → (∀ j, w k ≤ j → j < w (k + 1) → zwr (A (k + j) 0) (A (k + j) 1) (W j 0) (W j 1)) ∧ zsr S W w N k (A (k + w (k + 1)) 0) (A (k + w (k + 1)) 1)
def zWR (a0 a1 a2 a3 a4 a5 a6 a7 a8 a9 : zGp) (ap : Nat → zGp) (b0 b1 b2 b3 b4 b5 b6 b7 b8 b9 : zGp) (bs bw : Nat → zGp) : Prop :=
  ∃ w : Nat → Nat → Nat, zRG a0 b0 ∧ zRS (b0 0 4) a1 b1 ∧ zRR (b0 0 5) a2 b2 ∧ zRT (b0 0 6) (b0 0 5) (fun p => b0 0 (14 + p)) w a3 b3 ∧ zRO (b0 0 7) (b0 0 6) a4 b4 ∧ zRE (b0 0 8) (b0 0 6) a5 b5 ∧ zRC (b0 0 9) (b0 0 6) (b0 0 5) a6 b6 ∧ zRK (b0 0 10) (b0 0 0) (b0 0 5) a7 b7 ∧ zRW (b0 0 11) (b0 0 5) a8 b8 ∧ zRL (b0 0 13) a9 b9 ∧ ∀ p, p < 4 → zLay (a0 0 (14 + p)) (b0 0 (14 + p)) (ap p) (bs p) (bw p) (w p)
/-- the rows of numbers beside the world: tape, numbers that wait, sheets -/
def zRX (t1 t2 : Int32) (T1 T2 : Nat → Int32) : Prop := zcn 120 t2 ∧ t1 = t2 ∧ ∀ k, k < zix t2 → T1 k = T2 k ∧ ∃ n, n < 256 ∧ T2 k = nI n
def zRN (t1 t2 : Int32) (T1 T2 : Nat → Int32) : Prop := zcn 30 t2 ∧ t1 = t2 ∧ ∀ k, k < zix t2 → T1 k = T2 k
def zRH (p1 p2 : Int32) (o : Nat) (A B : Nat → Int32) : Prop := p1 = p2 ∧ (p2 = -1 ∨ ∃ n, n ≤ 40 ∧ p2 = nI n ∧ ∀ k, k < n → A k = B (o + k)) ∧ ∀ k, k < 40 → (A k).toInt16.toInt32 = A k
def zRep (C : zCt) : Prop :=
  zWR (C 0) (C 1) (C 2) (C 3) (C 4) (C 5) (C 6) (C 7) (C 8) (C 9) (fun p => C (10 + p % 4)) (C 40) (C 41) (C 42) (C 43) (C 44) (C 45) (C 46) (C 47) (C 48) (C 49) (fun p => C (50 + p % 4)) (fun p => C (54 + p % 4)) ∧
  (C 401 0 2 = 1 → zWR (C 20) (C 21) (C 22) (C 23) (C 24) (C 25) (C 26) (C 27) (C 28) (C 29) (fun p => C (30 + p % 4)) (C 60) (C 61) (C 62) (C 63) (C 64) (C 65) (C 66) (C 67) (C 68) (C 69) (fun p => C (70 + p % 4)) (fun p => C (74 + p % 4))) ∧
  C 201 0 2 = C 401 0 2 ∧ (C 401 0 2 = 0 ∨ C 401 0 2 = 1) ∧
  zRX (C 201 0 4) (C 401 0 4) (C 384 0) (C 404 0) ∧ zRN (C 201 0 6) (C 401 0 37) (C 385 0) (C 419 0) ∧
  zRH (C 389 0 0) (C 421 0 0) 0 (C 387 0) (C 420 0) ∧ zRH (C 389 0 1) (C 421 0 1) 40 (C 388 0) (C 420 0)
/-- a call of the class and the same call of the model -/
def zPair (d : Nat) (y z : Nat) (lv1 lv2 : List Value) (L : Nat) (C : zCt) : Prop := ∀ q : Nat × Nat × Nat × Nat × Nat, ∃ (v : Int32) (C1 : zCt) (q1 : Nat × Nat × Nat × Nat × Nat), zR (d + 100) y 0 lv1 [] (zZ L, zI C, zPd q.1 q.2.1 q.2.2.1 q.2.2.2.1 q.2.2.2.2) = some (some (.int v), (zZ L, zI C1, zPd q1.1 q1.2.1 q1.2.2.1 q1.2.2.2.1 q1.2.2.2.2)) ∧ ∃ C2 : zCt, zR (d + 100) z 0 lv2 [] (zZ L, zI C1, zPd q1.1 q1.2.1 q1.2.2.1 q1.2.2.2.1 q1.2.2.2.2) = some (some (.int v), (zZ L, zI C2, zPd q1.1 q1.2.1 q1.2.2.1 q1.2.2.2.1 q1.2.2.2.2)) ∧ zRep C2 ∧ C2 100 = C 100
theorem zcnt {K : Nat} {x : Int32} (h : zcn K x) (hK : K < 2147483648) : zix x ≤ K ∧ x = nI (zix x) := by
  obtain ⟨n, hn, rfl⟩ := h
  rw [zix_n (by omega)]
  exact ⟨hn, rfl⟩
theorem zval {v w : Int32} {s : zHp} (h : v = w) : (some (some (Value.int v), s) : Option (Option Value × zHp)) = some (some (Value.int w), s) := by rw [h]
