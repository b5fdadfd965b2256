/-! WHAT THE HEAP ANSWERS, printed by wip/gen/bun.py -/
theorem zshp_Z (L n : Nat) : zshp (zZ L) (n + 1) = zZt.getD n (99, 0) := rfl
theorem zshp_0 (L : Nat) : zshp (zZ L) 0 = (1, L) := rfl
theorem zBZ (L : Nat) : zshp (zZ L) 1 = (0, 11) ∧
    zshp (zZ L) 2 = (0, 10) ∧
    zshp (zZ L) 3 = (3, 3) ∧
    zshp (zZ L) 4 = (4, 8) ∧
    zshp (zZ L) 5 = (5, 4) ∧
    zshp (zZ L) 6 = (6, 8) ∧
    zshp (zZ L) 7 = (7, 16) ∧
    zshp (zZ L) 8 = (8, 4) ∧
    zshp (zZ L) 9 = (0, 4) ∧
    zshp (zZ L) 10 = (1, 90) ∧
    zshp (zZ L) 11 = (0, 4) ∧
    zshp (zZ L) 12 = (1, 480) ∧
    zshp (zZ L) 13 = (0, 4) ∧
    zshp (zZ L) 14 = (1, 60) ∧
    zshp (zZ L) 15 = (0, 4) ∧
    zshp (zZ L) 16 = (1, 24) ∧
    zshp (zZ L) 17 = (1, 3) ∧
    zshp (zZ L) 93 = (0, 10) ∧
    zshp (zZ L) 94 = (3, 3) ∧
    zshp (zZ L) 95 = (4, 8) ∧
    zshp (zZ L) 96 = (5, 4) ∧
    zshp (zZ L) 97 = (6, 8) ∧
    zshp (zZ L) 98 = (7, 16) ∧
    zshp (zZ L) 99 = (8, 4) ∧
    zshp (zZ L) 100 = (0, 4) ∧
    zshp (zZ L) 101 = (1, 90) ∧
    zshp (zZ L) 102 = (0, 4) ∧
    zshp (zZ L) 103 = (1, 480) ∧
    zshp (zZ L) 104 = (0, 4) ∧
    zshp (zZ L) 105 = (1, 60) ∧
    zshp (zZ L) 106 = (0, 4) ∧
    zshp (zZ L) 107 = (1, 24) ∧
    zshp (zZ L) 108 = (1, 3) ∧
    zshp (zZ L) 184 = (1, 120) ∧
    zshp (zZ L) 185 = (1, 30) ∧
    zshp (zZ L) 186 = (9, 2) ∧
    zshp (zZ L) 187 = (2, 40) ∧
    zshp (zZ L) 188 = (2, 40) ∧
    zshp (zZ L) 189 = (1, 2) ∧
    zshp (zZ L) 190 = (0, 2) ∧
    zshp (zZ L) 191 = (1, 0) ∧
    zshp (zZ L) 192 = (0, 5) ∧
    zshp (zZ L) 193 = (1, 120) ∧
    zshp (zZ L) 194 = (0, 6) ∧
    zshp (zZ L) 195 = (0, 4) ∧
    zshp (zZ L) 196 = (1, 24) ∧
    zshp (zZ L) 197 = (0, 4) ∧
    zshp (zZ L) 198 = (1, 24) ∧
    zshp (zZ L) 199 = (0, 0) ∧
    zshp (zZ L) 200 = (0, 0) ∧
    zshp (zZ L) 201 = (0, 12) ∧
    zshp (zZ L) 202 = (1, 4214) ∧
    zshp (zZ L) 203 = (1, 4214) ∧
    zshp (zZ L) 204 = (1, 120) ∧
    zshp (zZ L) 205 = (1, 520) ∧
    zshp (zZ L) 206 = (1, 260) ∧
    zshp (zZ L) 207 = (1, 4) ∧
    zshp (zZ L) 208 = (1, 4) ∧
    zshp (zZ L) 209 = (1, 130) ∧
    zshp (zZ L) 210 = (1, 130) ∧
    zshp (zZ L) 211 = (1, 48) ∧
    zshp (zZ L) 212 = (1, 7) ∧
    zshp (zZ L) 213 = (1, 7) ∧
    zshp (zZ L) 214 = (1, 7) ∧
    zshp (zZ L) 215 = (1, 7) ∧
    zshp (zZ L) 216 = (1, 7) ∧
    zshp (zZ L) 217 = (1, 7) ∧
    zshp (zZ L) 218 = (1, 24) ∧
    zshp (zZ L) 219 = (1, 30) ∧
    zshp (zZ L) 220 = (1, 80) ∧
    zshp (zZ L) 221 = (1, 2) ∧
    zshp (zZ L) 222 = (1, 40) := by
  refine ⟨rfl, rfl, rfl, rfl, rfl, rfl, rfl, rfl, rfl, rfl, rfl, rfl, rfl, rfl, rfl, rfl, rfl, rfl, rfl, rfl, rfl, rfl, rfl, rfl, rfl, rfl, rfl, rfl, rfl, rfl, rfl, rfl, rfl, rfl, rfl, rfl, rfl, rfl, rfl, rfl, rfl, rfl, rfl, rfl, rfl, rfl, rfl, rfl, rfl, rfl, rfl, rfl, rfl, rfl, rfl, rfl, rfl, rfl, rfl, rfl, rfl, rfl, rfl, rfl, rfl, rfl, rfl, rfl, rfl, rfl, rfl, rfl⟩
theorem zs2_sun : ∀ i, i < 3 → zZt.getD (17 + i) (99, 0) = (0, 7) := by decide +kernel
theorem zsh2_sun (L : Nat) {i : Nat} (h : i < 3) : zshp (zZ L) (18 + i) = (0, 7) := by rw [← zs2_sun i h, ← zshp_Z L]; congr 1; omega
theorem zs2_rock : ∀ i, i < 8 → zZt.getD (20 + 3 * i) (99, 0) = (0, 3) := by decide +kernel
theorem zsh2_rock (L : Nat) {i : Nat} (h : i < 8) : zshp (zZ L) (21 + 3 * i) = (0, 3) := by rw [← zs2_rock i h, ← zshp_Z L]; congr 1; omega
theorem zs2_body : ∀ i, i < 8 → zZt.getD (21 + 3 * i) (99, 0) = (0, 0) := by decide +kernel
theorem zsh2_body (L : Nat) {i : Nat} (h : i < 8) : zshp (zZ L) (22 + 3 * i) = (0, 0) := by rw [← zs2_body i h, ← zshp_Z L]; congr 1; omega
theorem zs2_stock : ∀ i, i < 8 → zZt.getD (22 + 3 * i) (99, 0) = (1, 2) := by decide +kernel
theorem zsh2_stock (L : Nat) {i : Nat} (h : i < 8) : zshp (zZ L) (23 + 3 * i) = (1, 2) := by rw [← zs2_stock i h, ← zshp_Z L]; congr 1; omega
theorem zs2_tug : ∀ i, i < 4 → zZt.getD (44 + 4 * i) (99, 0) = (0, 8) := by decide +kernel
theorem zsh2_tug (L : Nat) {i : Nat} (h : i < 4) : zshp (zZ L) (45 + 4 * i) = (0, 8) := by rw [← zs2_tug i h, ← zshp_Z L]; congr 1; omega
theorem zs2_free : ∀ i, i < 4 → zZt.getD (45 + 4 * i) (99, 0) = (0, 0) := by decide +kernel
theorem zsh2_free (L : Nat) {i : Nat} (h : i < 4) : zshp (zZ L) (46 + 4 * i) = (0, 0) := by rw [← zs2_free i h, ← zshp_Z L]; congr 1; omega
theorem zs2_hold : ∀ i, i < 4 → zZt.getD (46 + 4 * i) (99, 0) = (1, 2) := by decide +kernel
theorem zsh2_hold (L : Nat) {i : Nat} (h : i < 4) : zshp (zZ L) (47 + 4 * i) = (1, 2) := by rw [← zs2_hold i h, ← zshp_Z L]; congr 1; omega
theorem zs2_known : ∀ i, i < 4 → zZt.getD (47 + 4 * i) (99, 0) = (1, 6) := by decide +kernel
theorem zsh2_known (L : Nat) {i : Nat} (h : i < 4) : zshp (zZ L) (48 + 4 * i) = (1, 6) := by rw [← zs2_known i h, ← zshp_Z L]; congr 1; omega
theorem zs2_contract : ∀ i, i < 8 → zZt.getD (60 + i) (99, 0) = (0, 1) := by decide +kernel
theorem zsh2_contract (L : Nat) {i : Nat} (h : i < 8) : zshp (zZ L) (61 + i) = (0, 1) := by rw [← zs2_contract i h, ← zshp_Z L]; congr 1; omega
theorem zs2_window : ∀ i, i < 16 → zZt.getD (68 + i) (99, 0) = (0, 9) := by decide +kernel
theorem zsh2_window (L : Nat) {i : Nat} (h : i < 16) : zshp (zZ L) (69 + i) = (0, 9) := by rw [← zs2_window i h, ← zshp_Z L]; congr 1; omega
theorem zs2_code : ∀ i, i < 4 → zZt.getD (84 + 2 * i) (99, 0) = (0, 4) := by decide +kernel
theorem zsh2_code (L : Nat) {i : Nat} (h : i < 4) : zshp (zZ L) (85 + 2 * i) = (0, 4) := by rw [← zs2_code i h, ← zshp_Z L]; congr 1; omega
theorem zs2_cells : ∀ i, i < 4 → zZt.getD (85 + 2 * i) (99, 0) = (1, 240) := by decide +kernel
theorem zsh2_cells (L : Nat) {i : Nat} (h : i < 4) : zshp (zZ L) (86 + 2 * i) = (1, 240) := by rw [← zs2_cells i h, ← zshp_Z L]; congr 1; omega
theorem zs93_sun : ∀ i, i < 3 → zZt.getD (108 + i) (99, 0) = (0, 7) := by decide +kernel
theorem zsh93_sun (L : Nat) {i : Nat} (h : i < 3) : zshp (zZ L) (109 + i) = (0, 7) := by rw [← zs93_sun i h, ← zshp_Z L]; congr 1; omega
theorem zs93_rock : ∀ i, i < 8 → zZt.getD (111 + 3 * i) (99, 0) = (0, 3) := by decide +kernel
theorem zsh93_rock (L : Nat) {i : Nat} (h : i < 8) : zshp (zZ L) (112 + 3 * i) = (0, 3) := by rw [← zs93_rock i h, ← zshp_Z L]; congr 1; omega
theorem zs93_body : ∀ i, i < 8 → zZt.getD (112 + 3 * i) (99, 0) = (0, 0) := by decide +kernel
theorem zsh93_body (L : Nat) {i : Nat} (h : i < 8) : zshp (zZ L) (113 + 3 * i) = (0, 0) := by rw [← zs93_body i h, ← zshp_Z L]; congr 1; omega
theorem zs93_stock : ∀ i, i < 8 → zZt.getD (113 + 3 * i) (99, 0) = (1, 2) := by decide +kernel
theorem zsh93_stock (L : Nat) {i : Nat} (h : i < 8) : zshp (zZ L) (114 + 3 * i) = (1, 2) := by rw [← zs93_stock i h, ← zshp_Z L]; congr 1; omega
theorem zs93_tug : ∀ i, i < 4 → zZt.getD (135 + 4 * i) (99, 0) = (0, 8) := by decide +kernel
theorem zsh93_tug (L : Nat) {i : Nat} (h : i < 4) : zshp (zZ L) (136 + 4 * i) = (0, 8) := by rw [← zs93_tug i h, ← zshp_Z L]; congr 1; omega
theorem zs93_free : ∀ i, i < 4 → zZt.getD (136 + 4 * i) (99, 0) = (0, 0) := by decide +kernel
theorem zsh93_free (L : Nat) {i : Nat} (h : i < 4) : zshp (zZ L) (137 + 4 * i) = (0, 0) := by rw [← zs93_free i h, ← zshp_Z L]; congr 1; omega
theorem zs93_hold : ∀ i, i < 4 → zZt.getD (137 + 4 * i) (99, 0) = (1, 2) := by decide +kernel
theorem zsh93_hold (L : Nat) {i : Nat} (h : i < 4) : zshp (zZ L) (138 + 4 * i) = (1, 2) := by rw [← zs93_hold i h, ← zshp_Z L]; congr 1; omega
theorem zs93_known : ∀ i, i < 4 → zZt.getD (138 + 4 * i) (99, 0) = (1, 6) := by decide +kernel
theorem zsh93_known (L : Nat) {i : Nat} (h : i < 4) : zshp (zZ L) (139 + 4 * i) = (1, 6) := by rw [← zs93_known i h, ← zshp_Z L]; congr 1; omega
theorem zs93_contract : ∀ i, i < 8 → zZt.getD (151 + i) (99, 0) = (0, 1) := by decide +kernel
theorem zsh93_contract (L : Nat) {i : Nat} (h : i < 8) : zshp (zZ L) (152 + i) = (0, 1) := by rw [← zs93_contract i h, ← zshp_Z L]; congr 1; omega
theorem zs93_window : ∀ i, i < 16 → zZt.getD (159 + i) (99, 0) = (0, 9) := by decide +kernel
theorem zsh93_window (L : Nat) {i : Nat} (h : i < 16) : zshp (zZ L) (160 + i) = (0, 9) := by rw [← zs93_window i h, ← zshp_Z L]; congr 1; omega
theorem zs93_code : ∀ i, i < 4 → zZt.getD (175 + 2 * i) (99, 0) = (0, 4) := by decide +kernel
theorem zsh93_code (L : Nat) {i : Nat} (h : i < 4) : zshp (zZ L) (176 + 2 * i) = (0, 4) := by rw [← zs93_code i h, ← zshp_Z L]; congr 1; omega
theorem zs93_cells : ∀ i, i < 4 → zZt.getD (176 + 2 * i) (99, 0) = (1, 240) := by decide +kernel
theorem zsh93_cells (L : Nat) {i : Nat} (h : i < 4) : zshp (zZ L) (177 + 2 * i) = (1, 240) := by rw [← zs93_cells i h, ← zshp_Z L]; congr 1; omega
theorem zBP (p0 p2 r2 r3 s4 : Nat) : zPd p0 p2 r2 r3 s4 1 0 = 2 ∧
    zPd p0 p2 r2 r3 s4 1 1 = 93 ∧
    zPd p0 p2 r2 r3 s4 1 3 = 184 ∧
    zPd p0 p2 r2 r3 s4 1 5 = 185 ∧
    zPd p0 p2 r2 r3 s4 1 7 = 186 ∧
    zPd p0 p2 r2 r3 s4 1 8 = 189 ∧
    zPd p0 p2 r2 r3 s4 1 9 = 190 ∧
    zPd p0 p2 r2 r3 s4 1 10 = 192 ∧
    zPd p0 p2 r2 r3 s4 1 11 = 194 ∧
    zPd p0 p2 r2 r3 s4 1 12 = 199 ∧
    zPd p0 p2 r2 r3 s4 1 13 = 200 ∧
    zPd p0 p2 r2 r3 s4 2 0 = 3 ∧
    zPd p0 p2 r2 r3 s4 2 1 = 4 ∧
    zPd p0 p2 r2 r3 s4 2 2 = 5 ∧
    zPd p0 p2 r2 r3 s4 2 3 = 6 ∧
    zPd p0 p2 r2 r3 s4 2 4 = 7 ∧
    zPd p0 p2 r2 r3 s4 2 10 = 8 ∧
    zPd p0 p2 r2 r3 s4 2 11 = 9 ∧
    zPd p0 p2 r2 r3 s4 2 12 = 11 ∧
    zPd p0 p2 r2 r3 s4 2 13 = 13 ∧
    zPd p0 p2 r2 r3 s4 2 14 = 15 ∧
    zPd p0 p2 r2 r3 s4 2 16 = 17 ∧
    zPd p0 p2 r2 r3 s4 9 2 = 10 ∧
    zPd p0 p2 r2 r3 s4 11 2 = 12 ∧
    zPd p0 p2 r2 r3 s4 13 2 = 14 ∧
    zPd p0 p2 r2 r3 s4 15 2 = 16 ∧
    zPd p0 p2 r2 r3 s4 93 0 = 94 ∧
    zPd p0 p2 r2 r3 s4 93 1 = 95 ∧
    zPd p0 p2 r2 r3 s4 93 2 = 96 ∧
    zPd p0 p2 r2 r3 s4 93 3 = 97 ∧
    zPd p0 p2 r2 r3 s4 93 4 = 98 ∧
    zPd p0 p2 r2 r3 s4 93 10 = 99 ∧
    zPd p0 p2 r2 r3 s4 93 11 = 100 ∧
    zPd p0 p2 r2 r3 s4 93 12 = 102 ∧
    zPd p0 p2 r2 r3 s4 93 13 = 104 ∧
    zPd p0 p2 r2 r3 s4 93 14 = 106 ∧
    zPd p0 p2 r2 r3 s4 93 16 = 108 ∧
    zPd p0 p2 r2 r3 s4 100 2 = 101 ∧
    zPd p0 p2 r2 r3 s4 102 2 = 103 ∧
    zPd p0 p2 r2 r3 s4 104 2 = 105 ∧
    zPd p0 p2 r2 r3 s4 106 2 = 107 ∧
    zPd p0 p2 r2 r3 s4 192 0 = 193 ∧
    zPd p0 p2 r2 r3 s4 194 0 = 195 ∧
    zPd p0 p2 r2 r3 s4 194 1 = 197 ∧
    zPd p0 p2 r2 r3 s4 195 2 = 196 ∧
    zPd p0 p2 r2 r3 s4 197 2 = 198 ∧
    zPd p0 p2 r2 r3 s4 201 0 = 202 ∧
    zPd p0 p2 r2 r3 s4 201 1 = 203 ∧
    zPd p0 p2 r2 r3 s4 201 3 = 204 ∧
    zPd p0 p2 r2 r3 s4 201 11 = 205 ∧
    zPd p0 p2 r2 r3 s4 201 12 = 206 ∧
    zPd p0 p2 r2 r3 s4 201 16 = 207 ∧
    zPd p0 p2 r2 r3 s4 201 17 = 208 ∧
    zPd p0 p2 r2 r3 s4 201 20 = 209 ∧
    zPd p0 p2 r2 r3 s4 201 24 = 210 ∧
    zPd p0 p2 r2 r3 s4 201 25 = 211 ∧
    zPd p0 p2 r2 r3 s4 201 26 = 212 ∧
    zPd p0 p2 r2 r3 s4 201 27 = 213 ∧
    zPd p0 p2 r2 r3 s4 201 28 = 214 ∧
    zPd p0 p2 r2 r3 s4 201 29 = 215 ∧
    zPd p0 p2 r2 r3 s4 201 30 = 216 ∧
    zPd p0 p2 r2 r3 s4 201 31 = 217 ∧
    zPd p0 p2 r2 r3 s4 201 32 = 218 ∧
    zPd p0 p2 r2 r3 s4 201 36 = 219 ∧
    zPd p0 p2 r2 r3 s4 201 38 = 220 ∧
    zPd p0 p2 r2 r3 s4 201 39 = 221 ∧
    zPd p0 p2 r2 r3 s4 201 40 = 222 ∧
    zPd p0 p2 r2 r3 s4 190 0 = p0 ∧
    zPd p0 p2 r2 r3 s4 190 2 = p2 ∧
    zPd p0 p2 r2 r3 s4 192 2 = r2 ∧
    zPd p0 p2 r2 r3 s4 192 3 = r3 ∧
    zPd p0 p2 r2 r3 s4 194 4 = s4 := by
  refine ⟨rfl, rfl, rfl, rfl, rfl, rfl, rfl, rfl, rfl, rfl, rfl, rfl, rfl, rfl, rfl, rfl, rfl, rfl, rfl, rfl, rfl, rfl, rfl, rfl, rfl, rfl, rfl, rfl, rfl, rfl, rfl, rfl, rfl, rfl, rfl, rfl, rfl, rfl, rfl, rfl, rfl, rfl, rfl, rfl, rfl, rfl, rfl, rfl, rfl, rfl, rfl, rfl, rfl, rfl, rfl, rfl, rfl, rfl, rfl, rfl, rfl, rfl, rfl, rfl, rfl, rfl, rfl, rfl, rfl, rfl, rfl, rfl⟩
theorem zPd_s {p0 p2 r2 r3 s4 a k : Nat} (h : a < 190) : zPd p0 p2 r2 r3 s4 a k = zPs a k := by
  unfold zPd
  rw [if_neg (by omega), if_neg (by omega), if_neg (by omega), if_neg (by omega), if_neg (by omega)]
theorem zPd_186 {p0 p2 r2 r3 s4 : Nat} : ∀ i, i < 2 → zPd p0 p2 r2 r3 s4 186 i = 187 + i := by
  intro i h
  rw [zPd_s (by omega)]
  revert i
  decide +kernel
theorem zPu_p0 (p0 p2 r2 r3 s4 v : Nat) : zup (zPd p0 p2 r2 r3 s4) 190 0 v = zPd v p2 r2 r3 s4 := by
  funext a k
  unfold zup zPd
  by_cases h : a = 190 ∧ k = 0
  · simp only [if_pos h]
  · simp only [if_neg h]
theorem zPu_p2 (p0 p2 r2 r3 s4 v : Nat) : zup (zPd p0 p2 r2 r3 s4) 190 2 v = zPd p0 v r2 r3 s4 := by
  funext a k
  unfold zup zPd
  by_cases h : a = 190 ∧ k = 2
  · obtain ⟨rfl, rfl⟩ := h
    rfl
  · simp only [if_neg h]
theorem zPu_r2 (p0 p2 r2 r3 s4 v : Nat) : zup (zPd p0 p2 r2 r3 s4) 192 2 v = zPd p0 p2 v r3 s4 := by
  funext a k
  unfold zup zPd
  by_cases h : a = 192 ∧ k = 2
  · obtain ⟨rfl, rfl⟩ := h
    rfl
  · simp only [if_neg h]
theorem zPu_r3 (p0 p2 r2 r3 s4 v : Nat) : zup (zPd p0 p2 r2 r3 s4) 192 3 v = zPd p0 p2 r2 v s4 := by
  funext a k
  unfold zup zPd
  by_cases h : a = 192 ∧ k = 3
  · obtain ⟨rfl, rfl⟩ := h
    rfl
  · simp only [if_neg h]
theorem zPu_s4 (p0 p2 r2 r3 s4 v : Nat) : zup (zPd p0 p2 r2 r3 s4) 194 4 v = zPd p0 p2 r2 r3 v := by
  funext a k
  unfold zup zPd
  by_cases h : a = 194 ∧ k = 4
  · obtain ⟨rfl, rfl⟩ := h
    rfl
  · simp only [if_neg h]
theorem zp2_sun {p0 p2 r2 r3 s4 i : Nat} (h : i < 3) : zPd p0 p2 r2 r3 s4 3 i = (18 + i) := by
  rw [zPd_s (by omega)]; revert i; exact (by decide +kernel : ∀ i, i < 3 → zPs 3 i = (18 + i))
theorem zp2_rock {p0 p2 r2 r3 s4 i : Nat} (h : i < 8) : zPd p0 p2 r2 r3 s4 4 i = (21 + 3 * i) := by
  rw [zPd_s (by omega)]; revert i; exact (by decide +kernel : ∀ i, i < 8 → zPs 4 i = (21 + 3 * i))
theorem zp2_tug {p0 p2 r2 r3 s4 i : Nat} (h : i < 4) : zPd p0 p2 r2 r3 s4 5 i = (45 + 4 * i) := by
  rw [zPd_s (by omega)]; revert i; exact (by decide +kernel : ∀ i, i < 4 → zPs 5 i = (45 + 4 * i))
theorem zp2_contract {p0 p2 r2 r3 s4 i : Nat} (h : i < 8) : zPd p0 p2 r2 r3 s4 6 i = (61 + i) := by
  rw [zPd_s (by omega)]; revert i; exact (by decide +kernel : ∀ i, i < 8 → zPs 6 i = (61 + i))
theorem zp2_window {p0 p2 r2 r3 s4 i : Nat} (h : i < 16) : zPd p0 p2 r2 r3 s4 7 i = (69 + i) := by
  rw [zPd_s (by omega)]; revert i; exact (by decide +kernel : ∀ i, i < 16 → zPs 7 i = (69 + i))
theorem zp2_code {p0 p2 r2 r3 s4 i : Nat} (h : i < 4) : zPd p0 p2 r2 r3 s4 8 i = (85 + 2 * i) := by
  rw [zPd_s (by omega)]; revert i; exact (by decide +kernel : ∀ i, i < 4 → zPs 8 i = (85 + 2 * i))
theorem zp2_rbody {p0 p2 r2 r3 s4 i : Nat} (h : i < 8) : zPd p0 p2 r2 r3 s4 (21 + 3 * i) 0 = (22 + 3 * i) := by
  rw [zPd_s (by omega)]; revert i; exact (by decide +kernel : ∀ i, i < 8 → zPs (21 + 3 * i) 0 = (22 + 3 * i))
theorem zp2_rstock {p0 p2 r2 r3 s4 i : Nat} (h : i < 8) : zPd p0 p2 r2 r3 s4 (21 + 3 * i) 1 = (23 + 3 * i) := by
  rw [zPd_s (by omega)]; revert i; exact (by decide +kernel : ∀ i, i < 8 → zPs (21 + 3 * i) 1 = (23 + 3 * i))
theorem zp2_tfree {p0 p2 r2 r3 s4 i : Nat} (h : i < 4) : zPd p0 p2 r2 r3 s4 (45 + 4 * i) 0 = (46 + 4 * i) := by
  rw [zPd_s (by omega)]; revert i; exact (by decide +kernel : ∀ i, i < 4 → zPs (45 + 4 * i) 0 = (46 + 4 * i))
theorem zp2_thold {p0 p2 r2 r3 s4 i : Nat} (h : i < 4) : zPd p0 p2 r2 r3 s4 (45 + 4 * i) 1 = (47 + 4 * i) := by
  rw [zPd_s (by omega)]; revert i; exact (by decide +kernel : ∀ i, i < 4 → zPs (45 + 4 * i) 1 = (47 + 4 * i))
theorem zp2_tknown {p0 p2 r2 r3 s4 i : Nat} (h : i < 4) : zPd p0 p2 r2 r3 s4 (45 + 4 * i) 2 = (48 + 4 * i) := by
  rw [zPd_s (by omega)]; revert i; exact (by decide +kernel : ∀ i, i < 4 → zPs (45 + 4 * i) 2 = (48 + 4 * i))
theorem zp2_ccells {p0 p2 r2 r3 s4 i : Nat} (h : i < 4) : zPd p0 p2 r2 r3 s4 (85 + 2 * i) 2 = (86 + 2 * i) := by
  rw [zPd_s (by omega)]; revert i; exact (by decide +kernel : ∀ i, i < 4 → zPs (85 + 2 * i) 2 = (86 + 2 * i))
theorem zp93_sun {p0 p2 r2 r3 s4 i : Nat} (h : i < 3) : zPd p0 p2 r2 r3 s4 94 i = (109 + i) := by
  rw [zPd_s (by omega)]; revert i; exact (by decide +kernel : ∀ i, i < 3 → zPs 94 i = (109 + i))
theorem zp93_rock {p0 p2 r2 r3 s4 i : Nat} (h : i < 8) : zPd p0 p2 r2 r3 s4 95 i = (112 + 3 * i) := by
  rw [zPd_s (by omega)]; revert i; exact (by decide +kernel : ∀ i, i < 8 → zPs 95 i = (112 + 3 * i))
theorem zp93_tug {p0 p2 r2 r3 s4 i : Nat} (h : i < 4) : zPd p0 p2 r2 r3 s4 96 i = (136 + 4 * i) := by
  rw [zPd_s (by omega)]; revert i; exact (by decide +kernel : ∀ i, i < 4 → zPs 96 i = (136 + 4 * i))
theorem zp93_contract {p0 p2 r2 r3 s4 i : Nat} (h : i < 8) : zPd p0 p2 r2 r3 s4 97 i = (152 + i) := by
  rw [zPd_s (by omega)]; revert i; exact (by decide +kernel : ∀ i, i < 8 → zPs 97 i = (152 + i))
theorem zp93_window {p0 p2 r2 r3 s4 i : Nat} (h : i < 16) : zPd p0 p2 r2 r3 s4 98 i = (160 + i) := by
  rw [zPd_s (by omega)]; revert i; exact (by decide +kernel : ∀ i, i < 16 → zPs 98 i = (160 + i))
theorem zp93_code {p0 p2 r2 r3 s4 i : Nat} (h : i < 4) : zPd p0 p2 r2 r3 s4 99 i = (176 + 2 * i) := by
  rw [zPd_s (by omega)]; revert i; exact (by decide +kernel : ∀ i, i < 4 → zPs 99 i = (176 + 2 * i))
theorem zp93_rbody {p0 p2 r2 r3 s4 i : Nat} (h : i < 8) : zPd p0 p2 r2 r3 s4 (112 + 3 * i) 0 = (113 + 3 * i) := by
  rw [zPd_s (by omega)]; revert i; exact (by decide +kernel : ∀ i, i < 8 → zPs (112 + 3 * i) 0 = (113 + 3 * i))
theorem zp93_rstock {p0 p2 r2 r3 s4 i : Nat} (h : i < 8) : zPd p0 p2 r2 r3 s4 (112 + 3 * i) 1 = (114 + 3 * i) := by
  rw [zPd_s (by omega)]; revert i; exact (by decide +kernel : ∀ i, i < 8 → zPs (112 + 3 * i) 1 = (114 + 3 * i))
theorem zp93_tfree {p0 p2 r2 r3 s4 i : Nat} (h : i < 4) : zPd p0 p2 r2 r3 s4 (136 + 4 * i) 0 = (137 + 4 * i) := by
  rw [zPd_s (by omega)]; revert i; exact (by decide +kernel : ∀ i, i < 4 → zPs (136 + 4 * i) 0 = (137 + 4 * i))
theorem zp93_thold {p0 p2 r2 r3 s4 i : Nat} (h : i < 4) : zPd p0 p2 r2 r3 s4 (136 + 4 * i) 1 = (138 + 4 * i) := by
  rw [zPd_s (by omega)]; revert i; exact (by decide +kernel : ∀ i, i < 4 → zPs (136 + 4 * i) 1 = (138 + 4 * i))
theorem zp93_tknown {p0 p2 r2 r3 s4 i : Nat} (h : i < 4) : zPd p0 p2 r2 r3 s4 (136 + 4 * i) 2 = (139 + 4 * i) := by
  rw [zPd_s (by omega)]; revert i; exact (by decide +kernel : ∀ i, i < 4 → zPs (136 + 4 * i) 2 = (139 + 4 * i))
theorem zp93_ccells {p0 p2 r2 r3 s4 i : Nat} (h : i < 4) : zPd p0 p2 r2 r3 s4 (176 + 2 * i) 2 = (177 + 2 * i) := by
  rw [zPd_s (by omega)]; revert i; exact (by decide +kernel : ∀ i, i < 4 → zPs (176 + 2 * i) 2 = (177 + 2 * i))
theorem zBG (C : zCt) : zI C 2 5 = C 0 0 4 ∧
    zI C 2 6 = C 0 0 5 ∧
    zI C 2 7 = C 0 0 6 ∧
    zI C 2 8 = C 0 0 10 ∧
    zI C 2 9 = C 0 0 11 ∧
    zI C 2 15 = C 0 0 12 ∧
    zI C 2 17 = C 0 0 0 ∧
    zI C 9 3 = C 0 0 7 ∧
    zI C 11 3 = C 0 0 8 ∧
    zI C 13 3 = C 0 0 9 ∧
    zI C 15 3 = C 0 0 13 ∧
    zI C 17 0 = C 0 0 1 ∧
    zI C 17 1 = C 0 0 2 ∧
    zI C 17 2 = C 0 0 3 ∧
    zI C 93 5 = C 20 0 4 ∧
    zI C 93 6 = C 20 0 5 ∧
    zI C 93 7 = C 20 0 6 ∧
    zI C 93 8 = C 20 0 10 ∧
    zI C 93 9 = C 20 0 11 ∧
    zI C 93 15 = C 20 0 12 ∧
    zI C 93 17 = C 20 0 0 ∧
    zI C 100 3 = C 20 0 7 ∧
    zI C 102 3 = C 20 0 8 ∧
    zI C 104 3 = C 20 0 9 ∧
    zI C 106 3 = C 20 0 13 ∧
    zI C 108 0 = C 20 0 1 ∧
    zI C 108 1 = C 20 0 2 ∧
    zI C 108 2 = C 20 0 3 ∧
    zI C 195 3 = C 395 0 3 ∧
    zI C 197 3 = C 397 0 3 ∧
    zI C 202 0 = C 40 0 0 ∧
    zI C 202 1 = C 40 0 1 ∧
    zI C 202 2 = C 40 0 2 ∧
    zI C 202 3 = C 40 0 3 ∧
    zI C 202 4 = C 40 0 4 ∧
    zI C 202 5 = C 40 0 5 ∧
    zI C 202 6 = C 40 0 6 ∧
    zI C 202 7 = C 40 0 7 ∧
    zI C 202 8 = C 40 0 8 ∧
    zI C 202 9 = C 40 0 9 ∧
    zI C 202 10 = C 40 0 10 ∧
    zI C 202 11 = C 40 0 11 ∧
    zI C 202 12 = C 40 0 12 ∧
    zI C 202 13 = C 40 0 13 ∧
    zI C 203 0 = C 60 0 0 ∧
    zI C 203 1 = C 60 0 1 ∧
    zI C 203 2 = C 60 0 2 ∧
    zI C 203 3 = C 60 0 3 ∧
    zI C 203 4 = C 60 0 4 ∧
    zI C 203 5 = C 60 0 5 ∧
    zI C 203 6 = C 60 0 6 ∧
    zI C 203 7 = C 60 0 7 ∧
    zI C 203 8 = C 60 0 8 ∧
    zI C 203 9 = C 60 0 9 ∧
    zI C 203 10 = C 60 0 10 ∧
    zI C 203 11 = C 60 0 11 ∧
    zI C 203 12 = C 60 0 12 ∧
    zI C 203 13 = C 60 0 13 ∧
    zI C 9 0 = 30 ∧ zI C 9 1 = 3 ∧
    zI C 11 0 = 60 ∧ zI C 11 1 = 8 ∧
    zI C 13 0 = 20 ∧ zI C 13 1 = 3 ∧
    zI C 15 0 = 6 ∧ zI C 15 1 = 4 ∧
    zI C 100 0 = 30 ∧ zI C 100 1 = 3 ∧
    zI C 102 0 = 60 ∧ zI C 102 1 = 8 ∧
    zI C 104 0 = 20 ∧ zI C 104 1 = 3 ∧
    zI C 106 0 = 6 ∧ zI C 106 1 = 4 ∧
    zI C 195 0 = 6 ∧ zI C 195 1 = 4 ∧
    zI C 197 0 = 6 ∧ zI C 197 1 = 4 := by
  refine ⟨rfl, rfl, rfl, rfl, rfl, rfl, rfl, rfl, rfl, rfl, rfl, rfl, rfl, rfl, rfl, rfl, rfl, rfl, rfl, rfl, rfl, rfl, rfl, rfl, rfl, rfl, rfl, rfl, rfl, rfl, rfl, rfl, rfl, rfl, rfl, rfl, rfl, rfl, rfl, rfl, rfl, rfl, rfl, rfl, rfl, rfl, rfl, rfl, rfl, rfl, rfl, rfl, rfl, rfl, rfl, rfl, rfl, rfl, rfl, rfl, rfl, rfl, rfl, rfl, rfl, rfl, rfl, rfl, rfl, rfl, rfl, rfl, rfl, rfl, rfl, rfl, rfl, rfl⟩
theorem zBU (C : zCt) (v : Int32) : zup (zI C) 2 5 v = zI (zcs C 0 (zup (C 0) 0 4 v)) ∧
    zup (zI C) 2 6 v = zI (zcs C 0 (zup (C 0) 0 5 v)) ∧
    zup (zI C) 2 7 v = zI (zcs C 0 (zup (C 0) 0 6 v)) ∧
    zup (zI C) 2 8 v = zI (zcs C 0 (zup (C 0) 0 10 v)) ∧
    zup (zI C) 2 9 v = zI (zcs C 0 (zup (C 0) 0 11 v)) ∧
    zup (zI C) 2 15 v = zI (zcs C 0 (zup (C 0) 0 12 v)) ∧
    zup (zI C) 2 17 v = zI (zcs C 0 (zup (C 0) 0 0 v)) ∧
    zup (zI C) 9 3 v = zI (zcs C 0 (zup (C 0) 0 7 v)) ∧
    zup (zI C) 11 3 v = zI (zcs C 0 (zup (C 0) 0 8 v)) ∧
    zup (zI C) 13 3 v = zI (zcs C 0 (zup (C 0) 0 9 v)) ∧
    zup (zI C) 15 3 v = zI (zcs C 0 (zup (C 0) 0 13 v)) ∧
    zup (zI C) 17 0 v = zI (zcs C 0 (zup (C 0) 0 1 v)) ∧
    zup (zI C) 17 1 v = zI (zcs C 0 (zup (C 0) 0 2 v)) ∧
    zup (zI C) 17 2 v = zI (zcs C 0 (zup (C 0) 0 3 v)) ∧
    zup (zI C) 93 5 v = zI (zcs C 20 (zup (C 20) 0 4 v)) ∧
    zup (zI C) 93 6 v = zI (zcs C 20 (zup (C 20) 0 5 v)) ∧
    zup (zI C) 93 7 v = zI (zcs C 20 (zup (C 20) 0 6 v)) ∧
    zup (zI C) 93 8 v = zI (zcs C 20 (zup (C 20) 0 10 v)) ∧
    zup (zI C) 93 9 v = zI (zcs C 20 (zup (C 20) 0 11 v)) ∧
    zup (zI C) 93 15 v = zI (zcs C 20 (zup (C 20) 0 12 v)) ∧
    zup (zI C) 93 17 v = zI (zcs C 20 (zup (C 20) 0 0 v)) ∧
    zup (zI C) 100 3 v = zI (zcs C 20 (zup (C 20) 0 7 v)) ∧
    zup (zI C) 102 3 v = zI (zcs C 20 (zup (C 20) 0 8 v)) ∧
    zup (zI C) 104 3 v = zI (zcs C 20 (zup (C 20) 0 9 v)) ∧
    zup (zI C) 106 3 v = zI (zcs C 20 (zup (C 20) 0 13 v)) ∧
    zup (zI C) 108 0 v = zI (zcs C 20 (zup (C 20) 0 1 v)) ∧
    zup (zI C) 108 1 v = zI (zcs C 20 (zup (C 20) 0 2 v)) ∧
    zup (zI C) 108 2 v = zI (zcs C 20 (zup (C 20) 0 3 v)) ∧
    zup (zI C) 195 3 v = zI (zcs C 395 (zup (C 395) 0 3 v)) ∧
    zup (zI C) 197 3 v = zI (zcs C 397 (zup (C 397) 0 3 v)) ∧
    zup (zI C) 202 0 v = zI (zcs C 40 (zup (C 40) 0 0 v)) ∧
    zup (zI C) 202 1 v = zI (zcs C 40 (zup (C 40) 0 1 v)) ∧
    zup (zI C) 202 2 v = zI (zcs C 40 (zup (C 40) 0 2 v)) ∧
    zup (zI C) 202 3 v = zI (zcs C 40 (zup (C 40) 0 3 v)) ∧
    zup (zI C) 202 4 v = zI (zcs C 40 (zup (C 40) 0 4 v)) ∧
    zup (zI C) 202 5 v = zI (zcs C 40 (zup (C 40) 0 5 v)) ∧
    zup (zI C) 202 6 v = zI (zcs C 40 (zup (C 40) 0 6 v)) ∧
    zup (zI C) 202 7 v = zI (zcs C 40 (zup (C 40) 0 7 v)) ∧
    zup (zI C) 202 8 v = zI (zcs C 40 (zup (C 40) 0 8 v)) ∧
    zup (zI C) 202 9 v = zI (zcs C 40 (zup (C 40) 0 9 v)) ∧
    zup (zI C) 202 10 v = zI (zcs C 40 (zup (C 40) 0 10 v)) ∧
    zup (zI C) 202 11 v = zI (zcs C 40 (zup (C 40) 0 11 v)) ∧
    zup (zI C) 202 12 v = zI (zcs C 40 (zup (C 40) 0 12 v)) ∧
    zup (zI C) 202 13 v = zI (zcs C 40 (zup (C 40) 0 13 v)) ∧
    zup (zI C) 203 0 v = zI (zcs C 60 (zup (C 60) 0 0 v)) ∧
    zup (zI C) 203 1 v = zI (zcs C 60 (zup (C 60) 0 1 v)) ∧
    zup (zI C) 203 2 v = zI (zcs C 60 (zup (C 60) 0 2 v)) ∧
    zup (zI C) 203 3 v = zI (zcs C 60 (zup (C 60) 0 3 v)) ∧
    zup (zI C) 203 4 v = zI (zcs C 60 (zup (C 60) 0 4 v)) ∧
    zup (zI C) 203 5 v = zI (zcs C 60 (zup (C 60) 0 5 v)) ∧
    zup (zI C) 203 6 v = zI (zcs C 60 (zup (C 60) 0 6 v)) ∧
    zup (zI C) 203 7 v = zI (zcs C 60 (zup (C 60) 0 7 v)) ∧
    zup (zI C) 203 8 v = zI (zcs C 60 (zup (C 60) 0 8 v)) ∧
    zup (zI C) 203 9 v = zI (zcs C 60 (zup (C 60) 0 9 v)) ∧
    zup (zI C) 203 10 v = zI (zcs C 60 (zup (C 60) 0 10 v)) ∧
    zup (zI C) 203 11 v = zI (zcs C 60 (zup (C 60) 0 11 v)) ∧
    zup (zI C) 203 12 v = zI (zcs C 60 (zup (C 60) 0 12 v)) ∧
    zup (zI C) 203 13 v = zI (zcs C 60 (zup (C 60) 0 13 v)) := by
  refine ⟨zI_put rfl, zI_put rfl, zI_put rfl, zI_put rfl, zI_put rfl, zI_put rfl, zI_put rfl, zI_put rfl, zI_put rfl, zI_put rfl, zI_put rfl, zI_put rfl, zI_put rfl, zI_put rfl, zI_put rfl, zI_put rfl, zI_put rfl, zI_put rfl, zI_put rfl, zI_put rfl, zI_put rfl, zI_put rfl, zI_put rfl, zI_put rfl, zI_put rfl, zI_put rfl, zI_put rfl, zI_put rfl, zI_put rfl, zI_put rfl, zI_put rfl, zI_put rfl, zI_put rfl, zI_put rfl, zI_put rfl, zI_put rfl, zI_put rfl, zI_put rfl, zI_put rfl, zI_put rfl, zI_put rfl, zI_put rfl, zI_put rfl, zI_put rfl, zI_put rfl, zI_put rfl, zI_put rfl, zI_put rfl, zI_put rfl, zI_put rfl, zI_put rfl, zI_put rfl, zI_put rfl, zI_put rfl, zI_put rfl, zI_put rfl, zI_put rfl, zI_put rfl⟩
theorem zBR (C : zCt) (k : Nat) : zI C 1 k = C 201 0 k ∧
    zI C 190 k = C 390 0 k ∧
    zI C 192 k = C 392 0 k ∧
    zI C 194 k = C 394 0 k ∧
    zI C 199 k = C 399 0 k ∧
    zI C 200 k = C 400 0 k ∧
    zI C 201 k = C 401 0 k ∧
    zI C 184 k = C 384 0 k ∧
    zI C 185 k = C 385 0 k ∧
    zI C 187 k = C 387 0 k ∧
    zI C 188 k = C 388 0 k ∧
    zI C 189 k = C 389 0 k ∧
    zI C 193 k = C 393 0 k ∧
    zI C 196 k = C 396 0 k ∧
    zI C 198 k = C 398 0 k ∧
    zI C 204 k = C 404 0 k ∧
    zI C 205 k = C 405 0 k ∧
    zI C 206 k = C 406 0 k ∧
    zI C 207 k = C 407 0 k ∧
    zI C 208 k = C 408 0 k ∧
    zI C 209 k = C 409 0 k ∧
    zI C 210 k = C 410 0 k ∧
    zI C 211 k = C 411 0 k ∧
    zI C 212 k = C 412 0 k ∧
    zI C 213 k = C 413 0 k ∧
    zI C 214 k = C 414 0 k ∧
    zI C 215 k = C 415 0 k ∧
    zI C 216 k = C 416 0 k ∧
    zI C 217 k = C 417 0 k ∧
    zI C 218 k = C 418 0 k ∧
    zI C 219 k = C 419 0 k ∧
    zI C 220 k = C 420 0 k ∧
    zI C 221 k = C 421 0 k ∧
    zI C 222 k = C 422 0 k ∧ zI C 0 k = C 100 0 k := by
  refine ⟨rfl, rfl, rfl, rfl, rfl, rfl, rfl, rfl, rfl, rfl, rfl, rfl, rfl, rfl, rfl, rfl, rfl, rfl, rfl, rfl, rfl, rfl, rfl, rfl, rfl, rfl, rfl, rfl, rfl, rfl, rfl, rfl, rfl, rfl, rfl⟩
theorem zBV (C : zCt) (k : Nat) (v : Int32) : zup (zI C) 1 k v = zI (zcs C 201 (zup (C 201) 0 k v)) ∧
    zup (zI C) 190 k v = zI (zcs C 390 (zup (C 390) 0 k v)) ∧
    zup (zI C) 192 k v = zI (zcs C 392 (zup (C 392) 0 k v)) ∧
    zup (zI C) 194 k v = zI (zcs C 394 (zup (C 394) 0 k v)) ∧
    zup (zI C) 199 k v = zI (zcs C 399 (zup (C 399) 0 k v)) ∧
    zup (zI C) 200 k v = zI (zcs C 400 (zup (C 400) 0 k v)) ∧
    zup (zI C) 201 k v = zI (zcs C 401 (zup (C 401) 0 k v)) ∧
    zup (zI C) 184 k v = zI (zcs C 384 (zup (C 384) 0 k v)) ∧
    zup (zI C) 185 k v = zI (zcs C 385 (zup (C 385) 0 k v)) ∧
    zup (zI C) 187 k v = zI (zcs C 387 (zup (C 387) 0 k v)) ∧
    zup (zI C) 188 k v = zI (zcs C 388 (zup (C 388) 0 k v)) ∧
    zup (zI C) 189 k v = zI (zcs C 389 (zup (C 389) 0 k v)) ∧
    zup (zI C) 193 k v = zI (zcs C 393 (zup (C 393) 0 k v)) ∧
    zup (zI C) 196 k v = zI (zcs C 396 (zup (C 396) 0 k v)) ∧
    zup (zI C) 198 k v = zI (zcs C 398 (zup (C 398) 0 k v)) ∧
    zup (zI C) 204 k v = zI (zcs C 404 (zup (C 404) 0 k v)) ∧
    zup (zI C) 205 k v = zI (zcs C 405 (zup (C 405) 0 k v)) ∧
    zup (zI C) 206 k v = zI (zcs C 406 (zup (C 406) 0 k v)) ∧
    zup (zI C) 207 k v = zI (zcs C 407 (zup (C 407) 0 k v)) ∧
    zup (zI C) 208 k v = zI (zcs C 408 (zup (C 408) 0 k v)) ∧
    zup (zI C) 209 k v = zI (zcs C 409 (zup (C 409) 0 k v)) ∧
    zup (zI C) 210 k v = zI (zcs C 410 (zup (C 410) 0 k v)) ∧
    zup (zI C) 211 k v = zI (zcs C 411 (zup (C 411) 0 k v)) ∧
    zup (zI C) 212 k v = zI (zcs C 412 (zup (C 412) 0 k v)) ∧
    zup (zI C) 213 k v = zI (zcs C 413 (zup (C 413) 0 k v)) ∧
    zup (zI C) 214 k v = zI (zcs C 414 (zup (C 414) 0 k v)) ∧
    zup (zI C) 215 k v = zI (zcs C 415 (zup (C 415) 0 k v)) ∧
    zup (zI C) 216 k v = zI (zcs C 416 (zup (C 416) 0 k v)) ∧
    zup (zI C) 217 k v = zI (zcs C 417 (zup (C 417) 0 k v)) ∧
    zup (zI C) 218 k v = zI (zcs C 418 (zup (C 418) 0 k v)) ∧
    zup (zI C) 219 k v = zI (zcs C 419 (zup (C 419) 0 k v)) ∧
    zup (zI C) 220 k v = zI (zcs C 420 (zup (C 420) 0 k v)) ∧
    zup (zI C) 221 k v = zI (zcs C 421 (zup (C 421) 0 k v)) ∧
    zup (zI C) 222 k v = zI (zcs C 422 (zup (C 422) 0 k v)) := by
  refine ⟨zI_put rfl, zI_put rfl, zI_put rfl, zI_put rfl, zI_put rfl, zI_put rfl, zI_put rfl, zI_put rfl, zI_put rfl, zI_put rfl, zI_put rfl, zI_put rfl, zI_put rfl, zI_put rfl, zI_put rfl, zI_put rfl, zI_put rfl, zI_put rfl, zI_put rfl, zI_put rfl, zI_put rfl, zI_put rfl, zI_put rfl, zI_put rfl, zI_put rfl, zI_put rfl, zI_put rfl, zI_put rfl, zI_put rfl, zI_put rfl, zI_put rfl, zI_put rfl, zI_put rfl, zI_put rfl⟩
theorem zd_nsun0 {i : Nat} (h : i < 3) : zdk (18 + i) 0 = some (1, i, 0) := by revert i; exact (by decide +kernel : ∀ i, i < 3 → zdk (18 + i) 0 = some (1, i, 0))
theorem zg_nsun0 (C : zCt) {i : Nat} (h : i < 3) : zI C (18 + i) 0 = C 1 i 0 := zI_get (zd_nsun0 h)
theorem zu_nsun0 (C : zCt) {i : Nat} (h : i < 3) (v : Int32) : zup (zI C) (18 + i) 0 v = zI (zcs C 1 (zup (C 1) i 0 v)) := zI_put (zd_nsun0 h)
theorem zd_nsun1 {i : Nat} (h : i < 3) : zdk (18 + i) 1 = some (1, i, 1) := by revert i; exact (by decide +kernel : ∀ i, i < 3 → zdk (18 + i) 1 = some (1, i, 1))
theorem zg_nsun1 (C : zCt) {i : Nat} (h : i < 3) : zI C (18 + i) 1 = C 1 i 1 := zI_get (zd_nsun1 h)
theorem zu_nsun1 (C : zCt) {i : Nat} (h : i < 3) (v : Int32) : zup (zI C) (18 + i) 1 v = zI (zcs C 1 (zup (C 1) i 1 v)) := zI_put (zd_nsun1 h)
theorem zd_nsun2 {i : Nat} (h : i < 3) : zdk (18 + i) 2 = some (1, i, 2) := by revert i; exact (by decide +kernel : ∀ i, i < 3 → zdk (18 + i) 2 = some (1, i, 2))
theorem zg_nsun2 (C : zCt) {i : Nat} (h : i < 3) : zI C (18 + i) 2 = C 1 i 2 := zI_get (zd_nsun2 h)
theorem zu_nsun2 (C : zCt) {i : Nat} (h : i < 3) (v : Int32) : zup (zI C) (18 + i) 2 v = zI (zcs C 1 (zup (C 1) i 2 v)) := zI_put (zd_nsun2 h)
theorem zd_nrock0 {i : Nat} (h : i < 8) : zdk (21 + 3 * i) 2 = some (2, i, 0) := by revert i; exact (by decide +kernel : ∀ i, i < 8 → zdk (21 + 3 * i) 2 = some (2, i, 0))
theorem zg_nrock0 (C : zCt) {i : Nat} (h : i < 8) : zI C (21 + 3 * i) 2 = C 2 i 0 := zI_get (zd_nrock0 h)
theorem zu_nrock0 (C : zCt) {i : Nat} (h : i < 8) (v : Int32) : zup (zI C) (21 + 3 * i) 2 v = zI (zcs C 2 (zup (C 2) i 0 v)) := zI_put (zd_nrock0 h)
theorem zd_nrock5 {i : Nat} (h : i < 8) : zdk (21 + 3 * i) 3 = some (2, i, 5) := by revert i; exact (by decide +kernel : ∀ i, i < 8 → zdk (21 + 3 * i) 3 = some (2, i, 5))
theorem zg_nrock5 (C : zCt) {i : Nat} (h : i < 8) : zI C (21 + 3 * i) 3 = C 2 i 5 := zI_get (zd_nrock5 h)
theorem zu_nrock5 (C : zCt) {i : Nat} (h : i < 8) (v : Int32) : zup (zI C) (21 + 3 * i) 3 v = zI (zcs C 2 (zup (C 2) i 5 v)) := zI_put (zd_nrock5 h)
theorem zd_nrock6 {i : Nat} (h : i < 8) : zdk (21 + 3 * i) 4 = some (2, i, 6) := by revert i; exact (by decide +kernel : ∀ i, i < 8 → zdk (21 + 3 * i) 4 = some (2, i, 6))
theorem zg_nrock6 (C : zCt) {i : Nat} (h : i < 8) : zI C (21 + 3 * i) 4 = C 2 i 6 := zI_get (zd_nrock6 h)
theorem zu_nrock6 (C : zCt) {i : Nat} (h : i < 8) (v : Int32) : zup (zI C) (21 + 3 * i) 4 v = zI (zcs C 2 (zup (C 2) i 6 v)) := zI_put (zd_nrock6 h)
theorem zd_nrock9 {i : Nat} (h : i < 8) : zdk (21 + 3 * i) 5 = some (2, i, 9) := by revert i; exact (by decide +kernel : ∀ i, i < 8 → zdk (21 + 3 * i) 5 = some (2, i, 9))
theorem zg_nrock9 (C : zCt) {i : Nat} (h : i < 8) : zI C (21 + 3 * i) 5 = C 2 i 9 := zI_get (zd_nrock9 h)
theorem zu_nrock9 (C : zCt) {i : Nat} (h : i < 8) (v : Int32) : zup (zI C) (21 + 3 * i) 5 v = zI (zcs C 2 (zup (C 2) i 9 v)) := zI_put (zd_nrock9 h)
theorem zd_nrock10 {i : Nat} (h : i < 8) : zdk (21 + 3 * i) 6 = some (2, i, 10) := by revert i; exact (by decide +kernel : ∀ i, i < 8 → zdk (21 + 3 * i) 6 = some (2, i, 10))
theorem zg_nrock10 (C : zCt) {i : Nat} (h : i < 8) : zI C (21 + 3 * i) 6 = C 2 i 10 := zI_get (zd_nrock10 h)
theorem zu_nrock10 (C : zCt) {i : Nat} (h : i < 8) (v : Int32) : zup (zI C) (21 + 3 * i) 6 v = zI (zcs C 2 (zup (C 2) i 10 v)) := zI_put (zd_nrock10 h)
theorem zd_nrock11 {i : Nat} (h : i < 8) : zdk (21 + 3 * i) 7 = some (2, i, 11) := by revert i; exact (by decide +kernel : ∀ i, i < 8 → zdk (21 + 3 * i) 7 = some (2, i, 11))
theorem zg_nrock11 (C : zCt) {i : Nat} (h : i < 8) : zI C (21 + 3 * i) 7 = C 2 i 11 := zI_get (zd_nrock11 h)
theorem zu_nrock11 (C : zCt) {i : Nat} (h : i < 8) (v : Int32) : zup (zI C) (21 + 3 * i) 7 v = zI (zcs C 2 (zup (C 2) i 11 v)) := zI_put (zd_nrock11 h)
theorem zd_nrock12 {i : Nat} (h : i < 8) : zdk (21 + 3 * i) 8 = some (2, i, 12) := by revert i; exact (by decide +kernel : ∀ i, i < 8 → zdk (21 + 3 * i) 8 = some (2, i, 12))
theorem zg_nrock12 (C : zCt) {i : Nat} (h : i < 8) : zI C (21 + 3 * i) 8 = C 2 i 12 := zI_get (zd_nrock12 h)
theorem zu_nrock12 (C : zCt) {i : Nat} (h : i < 8) (v : Int32) : zup (zI C) (21 + 3 * i) 8 v = zI (zcs C 2 (zup (C 2) i 12 v)) := zI_put (zd_nrock12 h)
theorem zd_nrock13 {i : Nat} (h : i < 8) : zdk (21 + 3 * i) 9 = some (2, i, 13) := by revert i; exact (by decide +kernel : ∀ i, i < 8 → zdk (21 + 3 * i) 9 = some (2, i, 13))
theorem zg_nrock13 (C : zCt) {i : Nat} (h : i < 8) : zI C (21 + 3 * i) 9 = C 2 i 13 := zI_get (zd_nrock13 h)
theorem zu_nrock13 (C : zCt) {i : Nat} (h : i < 8) (v : Int32) : zup (zI C) (21 + 3 * i) 9 v = zI (zcs C 2 (zup (C 2) i 13 v)) := zI_put (zd_nrock13 h)
theorem zd_nrock14 {i : Nat} (h : i < 8) : zdk (21 + 3 * i) 10 = some (2, i, 14) := by revert i; exact (by decide +kernel : ∀ i, i < 8 → zdk (21 + 3 * i) 10 = some (2, i, 14))
theorem zg_nrock14 (C : zCt) {i : Nat} (h : i < 8) : zI C (21 + 3 * i) 10 = C 2 i 14 := zI_get (zd_nrock14 h)
theorem zu_nrock14 (C : zCt) {i : Nat} (h : i < 8) (v : Int32) : zup (zI C) (21 + 3 * i) 10 v = zI (zcs C 2 (zup (C 2) i 14 v)) := zI_put (zd_nrock14 h)
theorem zd_nrock1 {i : Nat} (h : i < 8) : zdk (22 + 3 * i) 0 = some (2, i, 1) := by revert i; exact (by decide +kernel : ∀ i, i < 8 → zdk (22 + 3 * i) 0 = some (2, i, 1))
theorem zg_nrock1 (C : zCt) {i : Nat} (h : i < 8) : zI C (22 + 3 * i) 0 = C 2 i 1 := zI_get (zd_nrock1 h)
theorem zu_nrock1 (C : zCt) {i : Nat} (h : i < 8) (v : Int32) : zup (zI C) (22 + 3 * i) 0 v = zI (zcs C 2 (zup (C 2) i 1 v)) := zI_put (zd_nrock1 h)
theorem zd_nrock2 {i : Nat} (h : i < 8) : zdk (22 + 3 * i) 1 = some (2, i, 2) := by revert i; exact (by decide +kernel : ∀ i, i < 8 → zdk (22 + 3 * i) 1 = some (2, i, 2))
theorem zg_nrock2 (C : zCt) {i : Nat} (h : i < 8) : zI C (22 + 3 * i) 1 = C 2 i 2 := zI_get (zd_nrock2 h)
theorem zu_nrock2 (C : zCt) {i : Nat} (h : i < 8) (v : Int32) : zup (zI C) (22 + 3 * i) 1 v = zI (zcs C 2 (zup (C 2) i 2 v)) := zI_put (zd_nrock2 h)
theorem zd_nrock3 {i : Nat} (h : i < 8) : zdk (22 + 3 * i) 2 = some (2, i, 3) := by revert i; exact (by decide +kernel : ∀ i, i < 8 → zdk (22 + 3 * i) 2 = some (2, i, 3))
theorem zg_nrock3 (C : zCt) {i : Nat} (h : i < 8) : zI C (22 + 3 * i) 2 = C 2 i 3 := zI_get (zd_nrock3 h)
theorem zu_nrock3 (C : zCt) {i : Nat} (h : i < 8) (v : Int32) : zup (zI C) (22 + 3 * i) 2 v = zI (zcs C 2 (zup (C 2) i 3 v)) := zI_put (zd_nrock3 h)
theorem zd_nrock4 {i : Nat} (h : i < 8) : zdk (22 + 3 * i) 3 = some (2, i, 4) := by revert i; exact (by decide +kernel : ∀ i, i < 8 → zdk (22 + 3 * i) 3 = some (2, i, 4))
theorem zg_nrock4 (C : zCt) {i : Nat} (h : i < 8) : zI C (22 + 3 * i) 3 = C 2 i 4 := zI_get (zd_nrock4 h)
theorem zu_nrock4 (C : zCt) {i : Nat} (h : i < 8) (v : Int32) : zup (zI C) (22 + 3 * i) 3 v = zI (zcs C 2 (zup (C 2) i 4 v)) := zI_put (zd_nrock4 h)
theorem zd_nrock7 {i : Nat} (h : i < 8) : zdk (23 + 3 * i) 0 = some (2, i, 7) := by revert i; exact (by decide +kernel : ∀ i, i < 8 → zdk (23 + 3 * i) 0 = some (2, i, 7))
theorem zg_nrock7 (C : zCt) {i : Nat} (h : i < 8) : zI C (23 + 3 * i) 0 = C 2 i 7 := zI_get (zd_nrock7 h)
theorem zu_nrock7 (C : zCt) {i : Nat} (h : i < 8) (v : Int32) : zup (zI C) (23 + 3 * i) 0 v = zI (zcs C 2 (zup (C 2) i 7 v)) := zI_put (zd_nrock7 h)
theorem zd_nrock8 {i : Nat} (h : i < 8) : zdk (23 + 3 * i) 1 = some (2, i, 8) := by revert i; exact (by decide +kernel : ∀ i, i < 8 → zdk (23 + 3 * i) 1 = some (2, i, 8))
theorem zg_nrock8 (C : zCt) {i : Nat} (h : i < 8) : zI C (23 + 3 * i) 1 = C 2 i 8 := zI_get (zd_nrock8 h)
theorem zu_nrock8 (C : zCt) {i : Nat} (h : i < 8) (v : Int32) : zup (zI C) (23 + 3 * i) 1 v = zI (zcs C 2 (zup (C 2) i 8 v)) := zI_put (zd_nrock8 h)
theorem zd_ntug0 {i : Nat} (h : i < 4) : zdk (45 + 4 * i) 3 = some (3, i, 0) := by revert i; exact (by decide +kernel : ∀ i, i < 4 → zdk (45 + 4 * i) 3 = some (3, i, 0))
theorem zg_ntug0 (C : zCt) {i : Nat} (h : i < 4) : zI C (45 + 4 * i) 3 = C 3 i 0 := zI_get (zd_ntug0 h)
theorem zu_ntug0 (C : zCt) {i : Nat} (h : i < 4) (v : Int32) : zup (zI C) (45 + 4 * i) 3 v = zI (zcs C 3 (zup (C 3) i 0 v)) := zI_put (zd_ntug0 h)
theorem zd_ntug5 {i : Nat} (h : i < 4) : zdk (45 + 4 * i) 4 = some (3, i, 5) := by revert i; exact (by decide +kernel : ∀ i, i < 4 → zdk (45 + 4 * i) 4 = some (3, i, 5))
theorem zg_ntug5 (C : zCt) {i : Nat} (h : i < 4) : zI C (45 + 4 * i) 4 = C 3 i 5 := zI_get (zd_ntug5 h)
theorem zu_ntug5 (C : zCt) {i : Nat} (h : i < 4) (v : Int32) : zup (zI C) (45 + 4 * i) 4 v = zI (zcs C 3 (zup (C 3) i 5 v)) := zI_put (zd_ntug5 h)
theorem zd_ntug8 {i : Nat} (h : i < 4) : zdk (45 + 4 * i) 5 = some (3, i, 8) := by revert i; exact (by decide +kernel : ∀ i, i < 4 → zdk (45 + 4 * i) 5 = some (3, i, 8))
theorem zg_ntug8 (C : zCt) {i : Nat} (h : i < 4) : zI C (45 + 4 * i) 5 = C 3 i 8 := zI_get (zd_ntug8 h)
theorem zu_ntug8 (C : zCt) {i : Nat} (h : i < 4) (v : Int32) : zup (zI C) (45 + 4 * i) 5 v = zI (zcs C 3 (zup (C 3) i 8 v)) := zI_put (zd_ntug8 h)
theorem zd_ntug9 {i : Nat} (h : i < 4) : zdk (45 + 4 * i) 6 = some (3, i, 9) := by revert i; exact (by decide +kernel : ∀ i, i < 4 → zdk (45 + 4 * i) 6 = some (3, i, 9))
theorem zg_ntug9 (C : zCt) {i : Nat} (h : i < 4) : zI C (45 + 4 * i) 6 = C 3 i 9 := zI_get (zd_ntug9 h)
theorem zu_ntug9 (C : zCt) {i : Nat} (h : i < 4) (v : Int32) : zup (zI C) (45 + 4 * i) 6 v = zI (zcs C 3 (zup (C 3) i 9 v)) := zI_put (zd_ntug9 h)
theorem zd_ntug10 {i : Nat} (h : i < 4) : zdk (45 + 4 * i) 7 = some (3, i, 10) := by revert i; exact (by decide +kernel : ∀ i, i < 4 → zdk (45 + 4 * i) 7 = some (3, i, 10))
theorem zg_ntug10 (C : zCt) {i : Nat} (h : i < 4) : zI C (45 + 4 * i) 7 = C 3 i 10 := zI_get (zd_ntug10 h)
theorem zu_ntug10 (C : zCt) {i : Nat} (h : i < 4) (v : Int32) : zup (zI C) (45 + 4 * i) 7 v = zI (zcs C 3 (zup (C 3) i 10 v)) := zI_put (zd_ntug10 h)
theorem zd_ntug15 {i : Nat} (h : i < 4) : zdk (45 + 4 * i) 8 = some (3, i, 15) := by revert i; exact (by decide +kernel : ∀ i, i < 4 → zdk (45 + 4 * i) 8 = some (3, i, 15))
theorem zg_ntug15 (C : zCt) {i : Nat} (h : i < 4) : zI C (45 + 4 * i) 8 = C 3 i 15 := zI_get (zd_ntug15 h)
theorem zu_ntug15 (C : zCt) {i : Nat} (h : i < 4) (v : Int32) : zup (zI C) (45 + 4 * i) 8 v = zI (zcs C 3 (zup (C 3) i 15 v)) := zI_put (zd_ntug15 h)
theorem zd_ntug11 {i : Nat} (h : i < 4) : zdk (45 + 4 * i) 9 = some (3, i, 11) := by revert i; exact (by decide +kernel : ∀ i, i < 4 → zdk (45 + 4 * i) 9 = some (3, i, 11))
theorem zg_ntug11 (C : zCt) {i : Nat} (h : i < 4) : zI C (45 + 4 * i) 9 = C 3 i 11 := zI_get (zd_ntug11 h)
theorem zu_ntug11 (C : zCt) {i : Nat} (h : i < 4) (v : Int32) : zup (zI C) (45 + 4 * i) 9 v = zI (zcs C 3 (zup (C 3) i 11 v)) := zI_put (zd_ntug11 h)
theorem zd_ntug12 {i : Nat} (h : i < 4) : zdk (45 + 4 * i) 10 = some (3, i, 12) := by revert i; exact (by decide +kernel : ∀ i, i < 4 → zdk (45 + 4 * i) 10 = some (3, i, 12))
theorem zg_ntug12 (C : zCt) {i : Nat} (h : i < 4) : zI C (45 + 4 * i) 10 = C 3 i 12 := zI_get (zd_ntug12 h)
theorem zu_ntug12 (C : zCt) {i : Nat} (h : i < 4) (v : Int32) : zup (zI C) (45 + 4 * i) 10 v = zI (zcs C 3 (zup (C 3) i 12 v)) := zI_put (zd_ntug12 h)
theorem zd_ntug13 {i : Nat} (h : i < 4) : zdk (45 + 4 * i) 11 = some (3, i, 13) := by revert i; exact (by decide +kernel : ∀ i, i < 4 → zdk (45 + 4 * i) 11 = some (3, i, 13))
theorem zg_ntug13 (C : zCt) {i : Nat} (h : i < 4) : zI C (45 + 4 * i) 11 = C 3 i 13 := zI_get (zd_ntug13 h)
theorem zu_ntug13 (C : zCt) {i : Nat} (h : i < 4) (v : Int32) : zup (zI C) (45 + 4 * i) 11 v = zI (zcs C 3 (zup (C 3) i 13 v)) := zI_put (zd_ntug13 h)
theorem zd_ntug14 {i : Nat} (h : i < 4) : zdk (45 + 4 * i) 12 = some (3, i, 14) := by revert i; exact (by decide +kernel : ∀ i, i < 4 → zdk (45 + 4 * i) 12 = some (3, i, 14))
theorem zg_ntug14 (C : zCt) {i : Nat} (h : i < 4) : zI C (45 + 4 * i) 12 = C 3 i 14 := zI_get (zd_ntug14 h)
theorem zu_ntug14 (C : zCt) {i : Nat} (h : i < 4) (v : Int32) : zup (zI C) (45 + 4 * i) 12 v = zI (zcs C 3 (zup (C 3) i 14 v)) := zI_put (zd_ntug14 h)
theorem zd_ntug1 {i : Nat} (h : i < 4) : zdk (46 + 4 * i) 0 = some (3, i, 1) := by revert i; exact (by decide +kernel : ∀ i, i < 4 → zdk (46 + 4 * i) 0 = some (3, i, 1))
theorem zg_ntug1 (C : zCt) {i : Nat} (h : i < 4) : zI C (46 + 4 * i) 0 = C 3 i 1 := zI_get (zd_ntug1 h)
theorem zu_ntug1 (C : zCt) {i : Nat} (h : i < 4) (v : Int32) : zup (zI C) (46 + 4 * i) 0 v = zI (zcs C 3 (zup (C 3) i 1 v)) := zI_put (zd_ntug1 h)
theorem zd_ntug2 {i : Nat} (h : i < 4) : zdk (46 + 4 * i) 1 = some (3, i, 2) := by revert i; exact (by decide +kernel : ∀ i, i < 4 → zdk (46 + 4 * i) 1 = some (3, i, 2))
theorem zg_ntug2 (C : zCt) {i : Nat} (h : i < 4) : zI C (46 + 4 * i) 1 = C 3 i 2 := zI_get (zd_ntug2 h)
theorem zu_ntug2 (C : zCt) {i : Nat} (h : i < 4) (v : Int32) : zup (zI C) (46 + 4 * i) 1 v = zI (zcs C 3 (zup (C 3) i 2 v)) := zI_put (zd_ntug2 h)
theorem zd_ntug3 {i : Nat} (h : i < 4) : zdk (46 + 4 * i) 2 = some (3, i, 3) := by revert i; exact (by decide +kernel : ∀ i, i < 4 → zdk (46 + 4 * i) 2 = some (3, i, 3))
theorem zg_ntug3 (C : zCt) {i : Nat} (h : i < 4) : zI C (46 + 4 * i) 2 = C 3 i 3 := zI_get (zd_ntug3 h)
theorem zu_ntug3 (C : zCt) {i : Nat} (h : i < 4) (v : Int32) : zup (zI C) (46 + 4 * i) 2 v = zI (zcs C 3 (zup (C 3) i 3 v)) := zI_put (zd_ntug3 h)
theorem zd_ntug4 {i : Nat} (h : i < 4) : zdk (46 + 4 * i) 3 = some (3, i, 4) := by revert i; exact (by decide +kernel : ∀ i, i < 4 → zdk (46 + 4 * i) 3 = some (3, i, 4))
theorem zg_ntug4 (C : zCt) {i : Nat} (h : i < 4) : zI C (46 + 4 * i) 3 = C 3 i 4 := zI_get (zd_ntug4 h)
theorem zu_ntug4 (C : zCt) {i : Nat} (h : i < 4) (v : Int32) : zup (zI C) (46 + 4 * i) 3 v = zI (zcs C 3 (zup (C 3) i 4 v)) := zI_put (zd_ntug4 h)
theorem zd_ntug6 {i : Nat} (h : i < 4) : zdk (47 + 4 * i) 0 = some (3, i, 6) := by revert i; exact (by decide +kernel : ∀ i, i < 4 → zdk (47 + 4 * i) 0 = some (3, i, 6))
theorem zg_ntug6 (C : zCt) {i : Nat} (h : i < 4) : zI C (47 + 4 * i) 0 = C 3 i 6 := zI_get (zd_ntug6 h)
theorem zu_ntug6 (C : zCt) {i : Nat} (h : i < 4) (v : Int32) : zup (zI C) (47 + 4 * i) 0 v = zI (zcs C 3 (zup (C 3) i 6 v)) := zI_put (zd_ntug6 h)
theorem zd_ntug7 {i : Nat} (h : i < 4) : zdk (47 + 4 * i) 1 = some (3, i, 7) := by revert i; exact (by decide +kernel : ∀ i, i < 4 → zdk (47 + 4 * i) 1 = some (3, i, 7))
theorem zg_ntug7 (C : zCt) {i : Nat} (h : i < 4) : zI C (47 + 4 * i) 1 = C 3 i 7 := zI_get (zd_ntug7 h)
theorem zu_ntug7 (C : zCt) {i : Nat} (h : i < 4) (v : Int32) : zup (zI C) (47 + 4 * i) 1 v = zI (zcs C 3 (zup (C 3) i 7 v)) := zI_put (zd_ntug7 h)
theorem zd_ntug17 {i : Nat} (h : i < 4) : zdk (48 + 4 * i) 0 = some (3, i, 17) := by revert i; exact (by decide +kernel : ∀ i, i < 4 → zdk (48 + 4 * i) 0 = some (3, i, 17))
theorem zg_ntug17 (C : zCt) {i : Nat} (h : i < 4) : zI C (48 + 4 * i) 0 = C 3 i 17 := zI_get (zd_ntug17 h)
theorem zu_ntug17 (C : zCt) {i : Nat} (h : i < 4) (v : Int32) : zup (zI C) (48 + 4 * i) 0 v = zI (zcs C 3 (zup (C 3) i 17 v)) := zI_put (zd_ntug17 h)
theorem zd_ntug18 {i : Nat} (h : i < 4) : zdk (48 + 4 * i) 1 = some (3, i, 18) := by revert i; exact (by decide +kernel : ∀ i, i < 4 → zdk (48 + 4 * i) 1 = some (3, i, 18))
theorem zg_ntug18 (C : zCt) {i : Nat} (h : i < 4) : zI C (48 + 4 * i) 1 = C 3 i 18 := zI_get (zd_ntug18 h)
theorem zu_ntug18 (C : zCt) {i : Nat} (h : i < 4) (v : Int32) : zup (zI C) (48 + 4 * i) 1 v = zI (zcs C 3 (zup (C 3) i 18 v)) := zI_put (zd_ntug18 h)
theorem zd_ntug19 {i : Nat} (h : i < 4) : zdk (48 + 4 * i) 2 = some (3, i, 19) := by revert i; exact (by decide +kernel : ∀ i, i < 4 → zdk (48 + 4 * i) 2 = some (3, i, 19))
theorem zg_ntug19 (C : zCt) {i : Nat} (h : i < 4) : zI C (48 + 4 * i) 2 = C 3 i 19 := zI_get (zd_ntug19 h)
theorem zu_ntug19 (C : zCt) {i : Nat} (h : i < 4) (v : Int32) : zup (zI C) (48 + 4 * i) 2 v = zI (zcs C 3 (zup (C 3) i 19 v)) := zI_put (zd_ntug19 h)
theorem zd_ntug20 {i : Nat} (h : i < 4) : zdk (48 + 4 * i) 3 = some (3, i, 20) := by revert i; exact (by decide +kernel : ∀ i, i < 4 → zdk (48 + 4 * i) 3 = some (3, i, 20))
theorem zg_ntug20 (C : zCt) {i : Nat} (h : i < 4) : zI C (48 + 4 * i) 3 = C 3 i 20 := zI_get (zd_ntug20 h)
theorem zu_ntug20 (C : zCt) {i : Nat} (h : i < 4) (v : Int32) : zup (zI C) (48 + 4 * i) 3 v = zI (zcs C 3 (zup (C 3) i 20 v)) := zI_put (zd_ntug20 h)
theorem zd_ntug21 {i : Nat} (h : i < 4) : zdk (48 + 4 * i) 4 = some (3, i, 21) := by revert i; exact (by decide +kernel : ∀ i, i < 4 → zdk (48 + 4 * i) 4 = some (3, i, 21))
theorem zg_ntug21 (C : zCt) {i : Nat} (h : i < 4) : zI C (48 + 4 * i) 4 = C 3 i 21 := zI_get (zd_ntug21 h)
theorem zu_ntug21 (C : zCt) {i : Nat} (h : i < 4) (v : Int32) : zup (zI C) (48 + 4 * i) 4 v = zI (zcs C 3 (zup (C 3) i 21 v)) := zI_put (zd_ntug21 h)
theorem zd_ntug22 {i : Nat} (h : i < 4) : zdk (48 + 4 * i) 5 = some (3, i, 22) := by revert i; exact (by decide +kernel : ∀ i, i < 4 → zdk (48 + 4 * i) 5 = some (3, i, 22))
theorem zg_ntug22 (C : zCt) {i : Nat} (h : i < 4) : zI C (48 + 4 * i) 5 = C 3 i 22 := zI_get (zd_ntug22 h)
theorem zu_ntug22 (C : zCt) {i : Nat} (h : i < 4) (v : Int32) : zup (zI C) (48 + 4 * i) 5 v = zI (zcs C 3 (zup (C 3) i 22 v)) := zI_put (zd_ntug22 h)
theorem zd_ncon0 {i : Nat} (h : i < 8) : zdk (61 + i) 0 = some (7, i, 0) := by revert i; exact (by decide +kernel : ∀ i, i < 8 → zdk (61 + i) 0 = some (7, i, 0))
theorem zg_ncon0 (C : zCt) {i : Nat} (h : i < 8) : zI C (61 + i) 0 = C 7 i 0 := zI_get (zd_ncon0 h)
theorem zu_ncon0 (C : zCt) {i : Nat} (h : i < 8) (v : Int32) : zup (zI C) (61 + i) 0 v = zI (zcs C 7 (zup (C 7) i 0 v)) := zI_put (zd_ncon0 h)
theorem zd_ncon1 {i : Nat} (h : i < 8) : zdk (61 + i) 1 = some (7, i, 1) := by revert i; exact (by decide +kernel : ∀ i, i < 8 → zdk (61 + i) 1 = some (7, i, 1))
theorem zg_ncon1 (C : zCt) {i : Nat} (h : i < 8) : zI C (61 + i) 1 = C 7 i 1 := zI_get (zd_ncon1 h)
theorem zu_ncon1 (C : zCt) {i : Nat} (h : i < 8) (v : Int32) : zup (zI C) (61 + i) 1 v = zI (zcs C 7 (zup (C 7) i 1 v)) := zI_put (zd_ncon1 h)
theorem zd_ncon2 {i : Nat} (h : i < 8) : zdk (61 + i) 2 = some (7, i, 2) := by revert i; exact (by decide +kernel : ∀ i, i < 8 → zdk (61 + i) 2 = some (7, i, 2))
theorem zg_ncon2 (C : zCt) {i : Nat} (h : i < 8) : zI C (61 + i) 2 = C 7 i 2 := zI_get (zd_ncon2 h)
theorem zu_ncon2 (C : zCt) {i : Nat} (h : i < 8) (v : Int32) : zup (zI C) (61 + i) 2 v = zI (zcs C 7 (zup (C 7) i 2 v)) := zI_put (zd_ncon2 h)
theorem zd_ncon3 {i : Nat} (h : i < 8) : zdk (61 + i) 3 = some (7, i, 3) := by revert i; exact (by decide +kernel : ∀ i, i < 8 → zdk (61 + i) 3 = some (7, i, 3))
theorem zg_ncon3 (C : zCt) {i : Nat} (h : i < 8) : zI C (61 + i) 3 = C 7 i 3 := zI_get (zd_ncon3 h)
theorem zu_ncon3 (C : zCt) {i : Nat} (h : i < 8) (v : Int32) : zup (zI C) (61 + i) 3 v = zI (zcs C 7 (zup (C 7) i 3 v)) := zI_put (zd_ncon3 h)
theorem zd_ncon4 {i : Nat} (h : i < 8) : zdk (61 + i) 4 = some (7, i, 4) := by revert i; exact (by decide +kernel : ∀ i, i < 8 → zdk (61 + i) 4 = some (7, i, 4))
theorem zg_ncon4 (C : zCt) {i : Nat} (h : i < 8) : zI C (61 + i) 4 = C 7 i 4 := zI_get (zd_ncon4 h)
theorem zu_ncon4 (C : zCt) {i : Nat} (h : i < 8) (v : Int32) : zup (zI C) (61 + i) 4 v = zI (zcs C 7 (zup (C 7) i 4 v)) := zI_put (zd_ncon4 h)
theorem zd_ncon5 {i : Nat} (h : i < 8) : zdk (61 + i) 5 = some (7, i, 5) := by revert i; exact (by decide +kernel : ∀ i, i < 8 → zdk (61 + i) 5 = some (7, i, 5))
theorem zg_ncon5 (C : zCt) {i : Nat} (h : i < 8) : zI C (61 + i) 5 = C 7 i 5 := zI_get (zd_ncon5 h)
theorem zu_ncon5 (C : zCt) {i : Nat} (h : i < 8) (v : Int32) : zup (zI C) (61 + i) 5 v = zI (zcs C 7 (zup (C 7) i 5 v)) := zI_put (zd_ncon5 h)
theorem zd_ncon6 {i : Nat} (h : i < 8) : zdk (61 + i) 6 = some (7, i, 6) := by revert i; exact (by decide +kernel : ∀ i, i < 8 → zdk (61 + i) 6 = some (7, i, 6))
theorem zg_ncon6 (C : zCt) {i : Nat} (h : i < 8) : zI C (61 + i) 6 = C 7 i 6 := zI_get (zd_ncon6 h)
theorem zu_ncon6 (C : zCt) {i : Nat} (h : i < 8) (v : Int32) : zup (zI C) (61 + i) 6 v = zI (zcs C 7 (zup (C 7) i 6 v)) := zI_put (zd_ncon6 h)
theorem zd_nwin0 {i : Nat} (h : i < 16) : zdk (69 + i) 0 = some (8, i, 0) := by revert i; exact (by decide +kernel : ∀ i, i < 16 → zdk (69 + i) 0 = some (8, i, 0))
theorem zg_nwin0 (C : zCt) {i : Nat} (h : i < 16) : zI C (69 + i) 0 = C 8 i 0 := zI_get (zd_nwin0 h)
theorem zu_nwin0 (C : zCt) {i : Nat} (h : i < 16) (v : Int32) : zup (zI C) (69 + i) 0 v = zI (zcs C 8 (zup (C 8) i 0 v)) := zI_put (zd_nwin0 h)
theorem zd_nwin1 {i : Nat} (h : i < 16) : zdk (69 + i) 1 = some (8, i, 1) := by revert i; exact (by decide +kernel : ∀ i, i < 16 → zdk (69 + i) 1 = some (8, i, 1))
theorem zg_nwin1 (C : zCt) {i : Nat} (h : i < 16) : zI C (69 + i) 1 = C 8 i 1 := zI_get (zd_nwin1 h)
theorem zu_nwin1 (C : zCt) {i : Nat} (h : i < 16) (v : Int32) : zup (zI C) (69 + i) 1 v = zI (zcs C 8 (zup (C 8) i 1 v)) := zI_put (zd_nwin1 h)
theorem zd_nwin2 {i : Nat} (h : i < 16) : zdk (69 + i) 2 = some (8, i, 2) := by revert i; exact (by decide +kernel : ∀ i, i < 16 → zdk (69 + i) 2 = some (8, i, 2))
theorem zg_nwin2 (C : zCt) {i : Nat} (h : i < 16) : zI C (69 + i) 2 = C 8 i 2 := zI_get (zd_nwin2 h)
theorem zu_nwin2 (C : zCt) {i : Nat} (h : i < 16) (v : Int32) : zup (zI C) (69 + i) 2 v = zI (zcs C 8 (zup (C 8) i 2 v)) := zI_put (zd_nwin2 h)
theorem zd_nwin3 {i : Nat} (h : i < 16) : zdk (69 + i) 3 = some (8, i, 3) := by revert i; exact (by decide +kernel : ∀ i, i < 16 → zdk (69 + i) 3 = some (8, i, 3))
theorem zg_nwin3 (C : zCt) {i : Nat} (h : i < 16) : zI C (69 + i) 3 = C 8 i 3 := zI_get (zd_nwin3 h)
theorem zu_nwin3 (C : zCt) {i : Nat} (h : i < 16) (v : Int32) : zup (zI C) (69 + i) 3 v = zI (zcs C 8 (zup (C 8) i 3 v)) := zI_put (zd_nwin3 h)
theorem zd_nwin4 {i : Nat} (h : i < 16) : zdk (69 + i) 4 = some (8, i, 4) := by revert i; exact (by decide +kernel : ∀ i, i < 16 → zdk (69 + i) 4 = some (8, i, 4))
theorem zg_nwin4 (C : zCt) {i : Nat} (h : i < 16) : zI C (69 + i) 4 = C 8 i 4 := zI_get (zd_nwin4 h)
theorem zu_nwin4 (C : zCt) {i : Nat} (h : i < 16) (v : Int32) : zup (zI C) (69 + i) 4 v = zI (zcs C 8 (zup (C 8) i 4 v)) := zI_put (zd_nwin4 h)
theorem zd_nwin5 {i : Nat} (h : i < 16) : zdk (69 + i) 5 = some (8, i, 5) := by revert i; exact (by decide +kernel : ∀ i, i < 16 → zdk (69 + i) 5 = some (8, i, 5))
theorem zg_nwin5 (C : zCt) {i : Nat} (h : i < 16) : zI C (69 + i) 5 = C 8 i 5 := zI_get (zd_nwin5 h)
theorem zu_nwin5 (C : zCt) {i : Nat} (h : i < 16) (v : Int32) : zup (zI C) (69 + i) 5 v = zI (zcs C 8 (zup (C 8) i 5 v)) := zI_put (zd_nwin5 h)
theorem zk_ncode : ∀ i, i < 4 → zroom (85 + 2 * i) = 120 ∧ zwid (85 + 2 * i) = 2 := by decide +kernel
theorem zg_ncode0 (C : zCt) {i : Nat} (h : i < 4) : zI C (85 + 2 * i) 0 = 120 := by
  unfold zI zdk
  rw [(zk_ncode i h).1, if_pos ⟨by decide, by decide⟩]
  rfl
theorem zg_ncode1 (C : zCt) {i : Nat} (h : i < 4) : zI C (85 + 2 * i) 1 = 2 := by
  unfold zI zdk
  rw [(zk_ncode i h).1, if_pos ⟨by decide, by decide⟩]
  dsimp only
  rw [if_neg (by decide), (zk_ncode i h).2]; rfl
theorem zd_ncode3 {i : Nat} (h : i < 4) : zdk (85 + 2 * i) 3 = some (0, 0, (14 + i)) := by revert i; exact (by decide +kernel : ∀ i, i < 4 → zdk (85 + 2 * i) 3 = some (0, 0, 14 + i))
theorem zg_ncode3 (C : zCt) {i : Nat} (h : i < 4) : zI C (85 + 2 * i) 3 = C 0 0 (14 + i) := zI_get (zd_ncode3 h)
theorem zu_ncode3 (C : zCt) {i : Nat} (h : i < 4) (v : Int32) : zup (zI C) (85 + 2 * i) 3 v = zI (zcs C 0 (zup (C 0) 0 (14 + i) v)) := zI_put (zd_ncode3 h)
theorem zd_nrule {k : Nat} (h : k < 3) : zdk 17 k = some (0, 0, (1 + k)) := by revert k; exact (by decide +kernel : ∀ k, k < 3 → zdk 17 k = some (0, 0, 1 + k))
theorem zg_nrule (C : zCt) {k : Nat} (h : k < 3) : zI C 17 k = C 0 0 (1 + k) := zI_get (zd_nrule h)
theorem zu_nrule (C : zCt) {k : Nat} (h : k < 3) (v : Int32) : zup (zI C) 17 k v = zI (zcs C 0 (zup (C 0) 0 (1 + k) v)) := zI_put (zd_nrule h)
theorem zd_nstock {i k : Nat} (h : i < 8) (hk : k < 2) : zdk (23 + 3 * i) k = some (2, i, (k + 7)) := (by decide +kernel : ∀ i, i < 8 → ∀ k, k < 2 → zdk (23 + 3 * i) k = some (2, i, k + 7)) i h k hk
theorem zg_nstock (C : zCt) {i k : Nat} (h : i < 8) (hk : k < 2) : zI C (23 + 3 * i) k = C 2 i (k + 7) := zI_get (zd_nstock h hk)
theorem zu_nstock (C : zCt) {i k : Nat} (h : i < 8) (hk : k < 2) (v : Int32) : zup (zI C) (23 + 3 * i) k v = zI (zcs C 2 (zup (C 2) i (k + 7) v)) := zI_put (zd_nstock h hk)
theorem zd_nhold {i k : Nat} (h : i < 4) (hk : k < 2) : zdk (47 + 4 * i) k = some (3, i, (k + 6)) := (by decide +kernel : ∀ i, i < 4 → ∀ k, k < 2 → zdk (47 + 4 * i) k = some (3, i, k + 6)) i h k hk
theorem zg_nhold (C : zCt) {i k : Nat} (h : i < 4) (hk : k < 2) : zI C (47 + 4 * i) k = C 3 i (k + 6) := zI_get (zd_nhold h hk)
theorem zu_nhold (C : zCt) {i k : Nat} (h : i < 4) (hk : k < 2) (v : Int32) : zup (zI C) (47 + 4 * i) k v = zI (zcs C 3 (zup (C 3) i (k + 6) v)) := zI_put (zd_nhold h hk)
theorem zd_nknown {i k : Nat} (h : i < 4) (hk : k < 6) : zdk (48 + 4 * i) k = some (3, i, (k + 17)) := (by decide +kernel : ∀ i, i < 4 → ∀ k, k < 6 → zdk (48 + 4 * i) k = some (3, i, k + 17)) i h k hk
theorem zg_nknown (C : zCt) {i k : Nat} (h : i < 4) (hk : k < 6) : zI C (48 + 4 * i) k = C 3 i (k + 17) := zI_get (zd_nknown h hk)
theorem zu_nknown (C : zCt) {i k : Nat} (h : i < 4) (hk : k < 6) (v : Int32) : zup (zI C) (48 + 4 * i) k v = zI (zcs C 3 (zup (C 3) i (k + 17) v)) := zI_put (zd_nknown h hk)
theorem zd_nord {i c : Nat} (h : c < 3) : zdk 10 (i * 3 + c) = some (4, i, ((c + 2) % 3)) := by
  unfold zdk zdec zdW
  rw [if_neg (fun e => e.1 rfl), if_neg (by omega), if_pos (by omega)]
  rw [show (i * 3 + c) / 3 = i by omega, show (i * 3 + c) % 3 = c by omega]
  rfl
theorem zg_nord (C : zCt) {i c : Nat} (h : c < 3) : zI C 10 (i * 3 + c) = C 4 i ((c + 2) % 3) := zI_get (zd_nord h)
theorem zu_nord (C : zCt) {i c : Nat} (h : c < 3) (v : Int32) : zup (zI C) 10 (i * 3 + c) v = zI (zcs C 4 (zup (C 4) i ((c + 2) % 3) v)) := zI_put (zd_nord h)
theorem zd_nrep {i c : Nat} (h : c < 8) : zdk 12 (i * 8 + c) = some (5, i, ((c + 7) % 8)) := by
  unfold zdk zdec zdW
  rw [if_neg (fun e => e.1 rfl), if_neg (by omega), if_pos (by omega)]
  rw [show (i * 8 + c) / 8 = i by omega, show (i * 8 + c) % 8 = c by omega]
  rfl
theorem zg_nrep (C : zCt) {i c : Nat} (h : c < 8) : zI C 12 (i * 8 + c) = C 5 i ((c + 7) % 8) := zI_get (zd_nrep h)
theorem zu_nrep (C : zCt) {i c : Nat} (h : c < 8) (v : Int32) : zup (zI C) 12 (i * 8 + c) v = zI (zcs C 5 (zup (C 5) i ((c + 7) % 8) v)) := zI_put (zd_nrep h)
theorem zd_ncla {i c : Nat} (h : c < 3) : zdk 14 (i * 3 + c) = some (6, i, ((c + 2) % 3)) := by
  unfold zdk zdec zdW
  rw [if_neg (fun e => e.1 rfl), if_neg (by omega), if_pos (by omega)]
  rw [show (i * 3 + c) / 3 = i by omega, show (i * 3 + c) % 3 = c by omega]
  rfl
theorem zg_ncla (C : zCt) {i c : Nat} (h : c < 3) : zI C 14 (i * 3 + c) = C 6 i ((c + 2) % 3) := zI_get (zd_ncla h)
theorem zu_ncla (C : zCt) {i c : Nat} (h : c < 3) (v : Int32) : zup (zI C) 14 (i * 3 + c) v = zI (zcs C 6 (zup (C 6) i ((c + 2) % 3) v)) := zI_put (zd_ncla h)
theorem zd_ntou {i c : Nat} (h : c < 4) : zdk 16 (i * 4 + c) = some (9, i, c) := by
  unfold zdk zdec zdW
  rw [if_neg (fun e => e.1 rfl), if_neg (by omega), if_pos (by omega)]
  rw [show (i * 4 + c) / 4 = i by omega, show (i * 4 + c) % 4 = c by omega]
  rfl
theorem zg_ntou (C : zCt) {i c : Nat} (h : c < 4) : zI C 16 (i * 4 + c) = C 9 i c := zI_get (zd_ntou h)
theorem zu_ntou (C : zCt) {i c : Nat} (h : c < 4) (v : Int32) : zup (zI C) 16 (i * 4 + c) v = zI (zcs C 9 (zup (C 9) i c v)) := zI_put (zd_ntou h)
theorem zd_ncel {p i c : Nat} (hp : p < 4) (h : c < 2) : zdk (86 + 2 * p) (i * 2 + c) = some ((10 + p), i, c) := by
  rw [zdk, if_neg (by rw [(by decide +kernel : ∀ p, p < 4 → zroom (86 + 2 * p) = 0) p hp]; exact fun e => e.1 rfl), zdec, if_neg (by omega), if_pos (by omega), zdW, if_neg (by omega), if_neg (by omega), if_neg (by omega), if_neg (by omega), if_neg (by omega), if_neg (by omega)]
  have e1 : (86 + 2 * p - 2 - 83) / 2 = p := by omega
  rw [show (i * 2 + c) / 2 = i by omega, show (i * 2 + c) % 2 = c by omega, e1]
theorem zg_ncel (C : zCt) {p i c : Nat} (hp : p < 4) (h : c < 2) : zI C (86 + 2 * p) (i * 2 + c) = C (10 + p) i c := zI_get (zd_ncel hp h)
theorem zu_ncel (C : zCt) {p i c : Nat} (hp : p < 4) (h : c < 2) (v : Int32) : zup (zI C) (86 + 2 * p) (i * 2 + c) v = zI (zcs C (10 + p) (zup (C (10 + p)) i c v)) := zI_put (zd_ncel hp h)
theorem zd_msun0 {i : Nat} (h : i < 3) : zdk (109 + i) 0 = some (21, i, 0) := by revert i; exact (by decide +kernel : ∀ i, i < 3 → zdk (109 + i) 0 = some (21, i, 0))
theorem zg_msun0 (C : zCt) {i : Nat} (h : i < 3) : zI C (109 + i) 0 = C 21 i 0 := zI_get (zd_msun0 h)
theorem zu_msun0 (C : zCt) {i : Nat} (h : i < 3) (v : Int32) : zup (zI C) (109 + i) 0 v = zI (zcs C 21 (zup (C 21) i 0 v)) := zI_put (zd_msun0 h)
theorem zd_msun1 {i : Nat} (h : i < 3) : zdk (109 + i) 1 = some (21, i, 1) := by revert i; exact (by decide +kernel : ∀ i, i < 3 → zdk (109 + i) 1 = some (21, i, 1))
theorem zg_msun1 (C : zCt) {i : Nat} (h : i < 3) : zI C (109 + i) 1 = C 21 i 1 := zI_get (zd_msun1 h)
theorem zu_msun1 (C : zCt) {i : Nat} (h : i < 3) (v : Int32) : zup (zI C) (109 + i) 1 v = zI (zcs C 21 (zup (C 21) i 1 v)) := zI_put (zd_msun1 h)
theorem zd_msun2 {i : Nat} (h : i < 3) : zdk (109 + i) 2 = some (21, i, 2) := by revert i; exact (by decide +kernel : ∀ i, i < 3 → zdk (109 + i) 2 = some (21, i, 2))
theorem zg_msun2 (C : zCt) {i : Nat} (h : i < 3) : zI C (109 + i) 2 = C 21 i 2 := zI_get (zd_msun2 h)
theorem zu_msun2 (C : zCt) {i : Nat} (h : i < 3) (v : Int32) : zup (zI C) (109 + i) 2 v = zI (zcs C 21 (zup (C 21) i 2 v)) := zI_put (zd_msun2 h)
theorem zd_mrock0 {i : Nat} (h : i < 8) : zdk (112 + 3 * i) 2 = some (22, i, 0) := by revert i; exact (by decide +kernel : ∀ i, i < 8 → zdk (112 + 3 * i) 2 = some (22, i, 0))
theorem zg_mrock0 (C : zCt) {i : Nat} (h : i < 8) : zI C (112 + 3 * i) 2 = C 22 i 0 := zI_get (zd_mrock0 h)
theorem zu_mrock0 (C : zCt) {i : Nat} (h : i < 8) (v : Int32) : zup (zI C) (112 + 3 * i) 2 v = zI (zcs C 22 (zup (C 22) i 0 v)) := zI_put (zd_mrock0 h)
theorem zd_mrock5 {i : Nat} (h : i < 8) : zdk (112 + 3 * i) 3 = some (22, i, 5) := by revert i; exact (by decide +kernel : ∀ i, i < 8 → zdk (112 + 3 * i) 3 = some (22, i, 5))
theorem zg_mrock5 (C : zCt) {i : Nat} (h : i < 8) : zI C (112 + 3 * i) 3 = C 22 i 5 := zI_get (zd_mrock5 h)
theorem zu_mrock5 (C : zCt) {i : Nat} (h : i < 8) (v : Int32) : zup (zI C) (112 + 3 * i) 3 v = zI (zcs C 22 (zup (C 22) i 5 v)) := zI_put (zd_mrock5 h)
theorem zd_mrock6 {i : Nat} (h : i < 8) : zdk (112 + 3 * i) 4 = some (22, i, 6) := by revert i; exact (by decide +kernel : ∀ i, i < 8 → zdk (112 + 3 * i) 4 = some (22, i, 6))
theorem zg_mrock6 (C : zCt) {i : Nat} (h : i < 8) : zI C (112 + 3 * i) 4 = C 22 i 6 := zI_get (zd_mrock6 h)
theorem zu_mrock6 (C : zCt) {i : Nat} (h : i < 8) (v : Int32) : zup (zI C) (112 + 3 * i) 4 v = zI (zcs C 22 (zup (C 22) i 6 v)) := zI_put (zd_mrock6 h)
theorem zd_mrock9 {i : Nat} (h : i < 8) : zdk (112 + 3 * i) 5 = some (22, i, 9) := by revert i; exact (by decide +kernel : ∀ i, i < 8 → zdk (112 + 3 * i) 5 = some (22, i, 9))
theorem zg_mrock9 (C : zCt) {i : Nat} (h : i < 8) : zI C (112 + 3 * i) 5 = C 22 i 9 := zI_get (zd_mrock9 h)
theorem zu_mrock9 (C : zCt) {i : Nat} (h : i < 8) (v : Int32) : zup (zI C) (112 + 3 * i) 5 v = zI (zcs C 22 (zup (C 22) i 9 v)) := zI_put (zd_mrock9 h)
theorem zd_mrock10 {i : Nat} (h : i < 8) : zdk (112 + 3 * i) 6 = some (22, i, 10) := by revert i; exact (by decide +kernel : ∀ i, i < 8 → zdk (112 + 3 * i) 6 = some (22, i, 10))
theorem zg_mrock10 (C : zCt) {i : Nat} (h : i < 8) : zI C (112 + 3 * i) 6 = C 22 i 10 := zI_get (zd_mrock10 h)
theorem zu_mrock10 (C : zCt) {i : Nat} (h : i < 8) (v : Int32) : zup (zI C) (112 + 3 * i) 6 v = zI (zcs C 22 (zup (C 22) i 10 v)) := zI_put (zd_mrock10 h)
theorem zd_mrock11 {i : Nat} (h : i < 8) : zdk (112 + 3 * i) 7 = some (22, i, 11) := by revert i; exact (by decide +kernel : ∀ i, i < 8 → zdk (112 + 3 * i) 7 = some (22, i, 11))
theorem zg_mrock11 (C : zCt) {i : Nat} (h : i < 8) : zI C (112 + 3 * i) 7 = C 22 i 11 := zI_get (zd_mrock11 h)
theorem zu_mrock11 (C : zCt) {i : Nat} (h : i < 8) (v : Int32) : zup (zI C) (112 + 3 * i) 7 v = zI (zcs C 22 (zup (C 22) i 11 v)) := zI_put (zd_mrock11 h)
theorem zd_mrock12 {i : Nat} (h : i < 8) : zdk (112 + 3 * i) 8 = some (22, i, 12) := by revert i; exact (by decide +kernel : ∀ i, i < 8 → zdk (112 + 3 * i) 8 = some (22, i, 12))
theorem zg_mrock12 (C : zCt) {i : Nat} (h : i < 8) : zI C (112 + 3 * i) 8 = C 22 i 12 := zI_get (zd_mrock12 h)
theorem zu_mrock12 (C : zCt) {i : Nat} (h : i < 8) (v : Int32) : zup (zI C) (112 + 3 * i) 8 v = zI (zcs C 22 (zup (C 22) i 12 v)) := zI_put (zd_mrock12 h)
theorem zd_mrock13 {i : Nat} (h : i < 8) : zdk (112 + 3 * i) 9 = some (22, i, 13) := by revert i; exact (by decide +kernel : ∀ i, i < 8 → zdk (112 + 3 * i) 9 = some (22, i, 13))
theorem zg_mrock13 (C : zCt) {i : Nat} (h : i < 8) : zI C (112 + 3 * i) 9 = C 22 i 13 := zI_get (zd_mrock13 h)
theorem zu_mrock13 (C : zCt) {i : Nat} (h : i < 8) (v : Int32) : zup (zI C) (112 + 3 * i) 9 v = zI (zcs C 22 (zup (C 22) i 13 v)) := zI_put (zd_mrock13 h)
theorem zd_mrock14 {i : Nat} (h : i < 8) : zdk (112 + 3 * i) 10 = some (22, i, 14) := by revert i; exact (by decide +kernel : ∀ i, i < 8 → zdk (112 + 3 * i) 10 = some (22, i, 14))
theorem zg_mrock14 (C : zCt) {i : Nat} (h : i < 8) : zI C (112 + 3 * i) 10 = C 22 i 14 := zI_get (zd_mrock14 h)
theorem zu_mrock14 (C : zCt) {i : Nat} (h : i < 8) (v : Int32) : zup (zI C) (112 + 3 * i) 10 v = zI (zcs C 22 (zup (C 22) i 14 v)) := zI_put (zd_mrock14 h)
theorem zd_mrock1 {i : Nat} (h : i < 8) : zdk (113 + 3 * i) 0 = some (22, i, 1) := by revert i; exact (by decide +kernel : ∀ i, i < 8 → zdk (113 + 3 * i) 0 = some (22, i, 1))
theorem zg_mrock1 (C : zCt) {i : Nat} (h : i < 8) : zI C (113 + 3 * i) 0 = C 22 i 1 := zI_get (zd_mrock1 h)
theorem zu_mrock1 (C : zCt) {i : Nat} (h : i < 8) (v : Int32) : zup (zI C) (113 + 3 * i) 0 v = zI (zcs C 22 (zup (C 22) i 1 v)) := zI_put (zd_mrock1 h)
theorem zd_mrock2 {i : Nat} (h : i < 8) : zdk (113 + 3 * i) 1 = some (22, i, 2) := by revert i; exact (by decide +kernel : ∀ i, i < 8 → zdk (113 + 3 * i) 1 = some (22, i, 2))
theorem zg_mrock2 (C : zCt) {i : Nat} (h : i < 8) : zI C (113 + 3 * i) 1 = C 22 i 2 := zI_get (zd_mrock2 h)
theorem zu_mrock2 (C : zCt) {i : Nat} (h : i < 8) (v : Int32) : zup (zI C) (113 + 3 * i) 1 v = zI (zcs C 22 (zup (C 22) i 2 v)) := zI_put (zd_mrock2 h)
theorem zd_mrock3 {i : Nat} (h : i < 8) : zdk (113 + 3 * i) 2 = some (22, i, 3) := by revert i; exact (by decide +kernel : ∀ i, i < 8 → zdk (113 + 3 * i) 2 = some (22, i, 3))
theorem zg_mrock3 (C : zCt) {i : Nat} (h : i < 8) : zI C (113 + 3 * i) 2 = C 22 i 3 := zI_get (zd_mrock3 h)
theorem zu_mrock3 (C : zCt) {i : Nat} (h : i < 8) (v : Int32) : zup (zI C) (113 + 3 * i) 2 v = zI (zcs C 22 (zup (C 22) i 3 v)) := zI_put (zd_mrock3 h)
theorem zd_mrock4 {i : Nat} (h : i < 8) : zdk (113 + 3 * i) 3 = some (22, i, 4) := by revert i; exact (by decide +kernel : ∀ i, i < 8 → zdk (113 + 3 * i) 3 = some (22, i, 4))
theorem zg_mrock4 (C : zCt) {i : Nat} (h : i < 8) : zI C (113 + 3 * i) 3 = C 22 i 4 := zI_get (zd_mrock4 h)
theorem zu_mrock4 (C : zCt) {i : Nat} (h : i < 8) (v : Int32) : zup (zI C) (113 + 3 * i) 3 v = zI (zcs C 22 (zup (C 22) i 4 v)) := zI_put (zd_mrock4 h)
theorem zd_mrock7 {i : Nat} (h : i < 8) : zdk (114 + 3 * i) 0 = some (22, i, 7) := by revert i; exact (by decide +kernel : ∀ i, i < 8 → zdk (114 + 3 * i) 0 = some (22, i, 7))
theorem zg_mrock7 (C : zCt) {i : Nat} (h : i < 8) : zI C (114 + 3 * i) 0 = C 22 i 7 := zI_get (zd_mrock7 h)
theorem zu_mrock7 (C : zCt) {i : Nat} (h : i < 8) (v : Int32) : zup (zI C) (114 + 3 * i) 0 v = zI (zcs C 22 (zup (C 22) i 7 v)) := zI_put (zd_mrock7 h)
theorem zd_mrock8 {i : Nat} (h : i < 8) : zdk (114 + 3 * i) 1 = some (22, i, 8) := by revert i; exact (by decide +kernel : ∀ i, i < 8 → zdk (114 + 3 * i) 1 = some (22, i, 8))
theorem zg_mrock8 (C : zCt) {i : Nat} (h : i < 8) : zI C (114 + 3 * i) 1 = C 22 i 8 := zI_get (zd_mrock8 h)
theorem zu_mrock8 (C : zCt) {i : Nat} (h : i < 8) (v : Int32) : zup (zI C) (114 + 3 * i) 1 v = zI (zcs C 22 (zup (C 22) i 8 v)) := zI_put (zd_mrock8 h)
theorem zd_mtug0 {i : Nat} (h : i < 4) : zdk (136 + 4 * i) 3 = some (23, i, 0) := by revert i; exact (by decide +kernel : ∀ i, i < 4 → zdk (136 + 4 * i) 3 = some (23, i, 0))
theorem zg_mtug0 (C : zCt) {i : Nat} (h : i < 4) : zI C (136 + 4 * i) 3 = C 23 i 0 := zI_get (zd_mtug0 h)
theorem zu_mtug0 (C : zCt) {i : Nat} (h : i < 4) (v : Int32) : zup (zI C) (136 + 4 * i) 3 v = zI (zcs C 23 (zup (C 23) i 0 v)) := zI_put (zd_mtug0 h)
theorem zd_mtug5 {i : Nat} (h : i < 4) : zdk (136 + 4 * i) 4 = some (23, i, 5) := by revert i; exact (by decide +kernel : ∀ i, i < 4 → zdk (136 + 4 * i) 4 = some (23, i, 5))
theorem zg_mtug5 (C : zCt) {i : Nat} (h : i < 4) : zI C (136 + 4 * i) 4 = C 23 i 5 := zI_get (zd_mtug5 h)
theorem zu_mtug5 (C : zCt) {i : Nat} (h : i < 4) (v : Int32) : zup (zI C) (136 + 4 * i) 4 v = zI (zcs C 23 (zup (C 23) i 5 v)) := zI_put (zd_mtug5 h)
theorem zd_mtug8 {i : Nat} (h : i < 4) : zdk (136 + 4 * i) 5 = some (23, i, 8) := by revert i; exact (by decide +kernel : ∀ i, i < 4 → zdk (136 + 4 * i) 5 = some (23, i, 8))
theorem zg_mtug8 (C : zCt) {i : Nat} (h : i < 4) : zI C (136 + 4 * i) 5 = C 23 i 8 := zI_get (zd_mtug8 h)
theorem zu_mtug8 (C : zCt) {i : Nat} (h : i < 4) (v : Int32) : zup (zI C) (136 + 4 * i) 5 v = zI (zcs C 23 (zup (C 23) i 8 v)) := zI_put (zd_mtug8 h)
theorem zd_mtug9 {i : Nat} (h : i < 4) : zdk (136 + 4 * i) 6 = some (23, i, 9) := by revert i; exact (by decide +kernel : ∀ i, i < 4 → zdk (136 + 4 * i) 6 = some (23, i, 9))
theorem zg_mtug9 (C : zCt) {i : Nat} (h : i < 4) : zI C (136 + 4 * i) 6 = C 23 i 9 := zI_get (zd_mtug9 h)
theorem zu_mtug9 (C : zCt) {i : Nat} (h : i < 4) (v : Int32) : zup (zI C) (136 + 4 * i) 6 v = zI (zcs C 23 (zup (C 23) i 9 v)) := zI_put (zd_mtug9 h)
theorem zd_mtug10 {i : Nat} (h : i < 4) : zdk (136 + 4 * i) 7 = some (23, i, 10) := by revert i; exact (by decide +kernel : ∀ i, i < 4 → zdk (136 + 4 * i) 7 = some (23, i, 10))
theorem zg_mtug10 (C : zCt) {i : Nat} (h : i < 4) : zI C (136 + 4 * i) 7 = C 23 i 10 := zI_get (zd_mtug10 h)
theorem zu_mtug10 (C : zCt) {i : Nat} (h : i < 4) (v : Int32) : zup (zI C) (136 + 4 * i) 7 v = zI (zcs C 23 (zup (C 23) i 10 v)) := zI_put (zd_mtug10 h)
theorem zd_mtug15 {i : Nat} (h : i < 4) : zdk (136 + 4 * i) 8 = some (23, i, 15) := by revert i; exact (by decide +kernel : ∀ i, i < 4 → zdk (136 + 4 * i) 8 = some (23, i, 15))
theorem zg_mtug15 (C : zCt) {i : Nat} (h : i < 4) : zI C (136 + 4 * i) 8 = C 23 i 15 := zI_get (zd_mtug15 h)
theorem zu_mtug15 (C : zCt) {i : Nat} (h : i < 4) (v : Int32) : zup (zI C) (136 + 4 * i) 8 v = zI (zcs C 23 (zup (C 23) i 15 v)) := zI_put (zd_mtug15 h)
theorem zd_mtug11 {i : Nat} (h : i < 4) : zdk (136 + 4 * i) 9 = some (23, i, 11) := by revert i; exact (by decide +kernel : ∀ i, i < 4 → zdk (136 + 4 * i) 9 = some (23, i, 11))
theorem zg_mtug11 (C : zCt) {i : Nat} (h : i < 4) : zI C (136 + 4 * i) 9 = C 23 i 11 := zI_get (zd_mtug11 h)
theorem zu_mtug11 (C : zCt) {i : Nat} (h : i < 4) (v : Int32) : zup (zI C) (136 + 4 * i) 9 v = zI (zcs C 23 (zup (C 23) i 11 v)) := zI_put (zd_mtug11 h)
theorem zd_mtug12 {i : Nat} (h : i < 4) : zdk (136 + 4 * i) 10 = some (23, i, 12) := by revert i; exact (by decide +kernel : ∀ i, i < 4 → zdk (136 + 4 * i) 10 = some (23, i, 12))
theorem zg_mtug12 (C : zCt) {i : Nat} (h : i < 4) : zI C (136 + 4 * i) 10 = C 23 i 12 := zI_get (zd_mtug12 h)
theorem zu_mtug12 (C : zCt) {i : Nat} (h : i < 4) (v : Int32) : zup (zI C) (136 + 4 * i) 10 v = zI (zcs C 23 (zup (C 23) i 12 v)) := zI_put (zd_mtug12 h)
theorem zd_mtug13 {i : Nat} (h : i < 4) : zdk (136 + 4 * i) 11 = some (23, i, 13) := by revert i; exact (by decide +kernel : ∀ i, i < 4 → zdk (136 + 4 * i) 11 = some (23, i, 13))
theorem zg_mtug13 (C : zCt) {i : Nat} (h : i < 4) : zI C (136 + 4 * i) 11 = C 23 i 13 := zI_get (zd_mtug13 h)
theorem zu_mtug13 (C : zCt) {i : Nat} (h : i < 4) (v : Int32) : zup (zI C) (136 + 4 * i) 11 v = zI (zcs C 23 (zup (C 23) i 13 v)) := zI_put (zd_mtug13 h)
theorem zd_mtug14 {i : Nat} (h : i < 4) : zdk (136 + 4 * i) 12 = some (23, i, 14) := by revert i; exact (by decide +kernel : ∀ i, i < 4 → zdk (136 + 4 * i) 12 = some (23, i, 14))
theorem zg_mtug14 (C : zCt) {i : Nat} (h : i < 4) : zI C (136 + 4 * i) 12 = C 23 i 14 := zI_get (zd_mtug14 h)
theorem zu_mtug14 (C : zCt) {i : Nat} (h : i < 4) (v : Int32) : zup (zI C) (136 + 4 * i) 12 v = zI (zcs C 23 (zup (C 23) i 14 v)) := zI_put (zd_mtug14 h)
theorem zd_mtug1 {i : Nat} (h : i < 4) : zdk (137 + 4 * i) 0 = some (23, i, 1) := by revert i; exact (by decide +kernel : ∀ i, i < 4 → zdk (137 + 4 * i) 0 = some (23, i, 1))
theorem zg_mtug1 (C : zCt) {i : Nat} (h : i < 4) : zI C (137 + 4 * i) 0 = C 23 i 1 := zI_get (zd_mtug1 h)
theorem zu_mtug1 (C : zCt) {i : Nat} (h : i < 4) (v : Int32) : zup (zI C) (137 + 4 * i) 0 v = zI (zcs C 23 (zup (C 23) i 1 v)) := zI_put (zd_mtug1 h)
theorem zd_mtug2 {i : Nat} (h : i < 4) : zdk (137 + 4 * i) 1 = some (23, i, 2) := by revert i; exact (by decide +kernel : ∀ i, i < 4 → zdk (137 + 4 * i) 1 = some (23, i, 2))
theorem zg_mtug2 (C : zCt) {i : Nat} (h : i < 4) : zI C (137 + 4 * i) 1 = C 23 i 2 := zI_get (zd_mtug2 h)
theorem zu_mtug2 (C : zCt) {i : Nat} (h : i < 4) (v : Int32) : zup (zI C) (137 + 4 * i) 1 v = zI (zcs C 23 (zup (C 23) i 2 v)) := zI_put (zd_mtug2 h)
theorem zd_mtug3 {i : Nat} (h : i < 4) : zdk (137 + 4 * i) 2 = some (23, i, 3) := by revert i; exact (by decide +kernel : ∀ i, i < 4 → zdk (137 + 4 * i) 2 = some (23, i, 3))
theorem zg_mtug3 (C : zCt) {i : Nat} (h : i < 4) : zI C (137 + 4 * i) 2 = C 23 i 3 := zI_get (zd_mtug3 h)
theorem zu_mtug3 (C : zCt) {i : Nat} (h : i < 4) (v : Int32) : zup (zI C) (137 + 4 * i) 2 v = zI (zcs C 23 (zup (C 23) i 3 v)) := zI_put (zd_mtug3 h)
theorem zd_mtug4 {i : Nat} (h : i < 4) : zdk (137 + 4 * i) 3 = some (23, i, 4) := by revert i; exact (by decide +kernel : ∀ i, i < 4 → zdk (137 + 4 * i) 3 = some (23, i, 4))
theorem zg_mtug4 (C : zCt) {i : Nat} (h : i < 4) : zI C (137 + 4 * i) 3 = C 23 i 4 := zI_get (zd_mtug4 h)
theorem zu_mtug4 (C : zCt) {i : Nat} (h : i < 4) (v : Int32) : zup (zI C) (137 + 4 * i) 3 v = zI (zcs C 23 (zup (C 23) i 4 v)) := zI_put (zd_mtug4 h)
theorem zd_mtug6 {i : Nat} (h : i < 4) : zdk (138 + 4 * i) 0 = some (23, i, 6) := by revert i; exact (by decide +kernel : ∀ i, i < 4 → zdk (138 + 4 * i) 0 = some (23, i, 6))
theorem zg_mtug6 (C : zCt) {i : Nat} (h : i < 4) : zI C (138 + 4 * i) 0 = C 23 i 6 := zI_get (zd_mtug6 h)
theorem zu_mtug6 (C : zCt) {i : Nat} (h : i < 4) (v : Int32) : zup (zI C) (138 + 4 * i) 0 v = zI (zcs C 23 (zup (C 23) i 6 v)) := zI_put (zd_mtug6 h)
theorem zd_mtug7 {i : Nat} (h : i < 4) : zdk (138 + 4 * i) 1 = some (23, i, 7) := by revert i; exact (by decide +kernel : ∀ i, i < 4 → zdk (138 + 4 * i) 1 = some (23, i, 7))
theorem zg_mtug7 (C : zCt) {i : Nat} (h : i < 4) : zI C (138 + 4 * i) 1 = C 23 i 7 := zI_get (zd_mtug7 h)
theorem zu_mtug7 (C : zCt) {i : Nat} (h : i < 4) (v : Int32) : zup (zI C) (138 + 4 * i) 1 v = zI (zcs C 23 (zup (C 23) i 7 v)) := zI_put (zd_mtug7 h)
theorem zd_mtug17 {i : Nat} (h : i < 4) : zdk (139 + 4 * i) 0 = some (23, i, 17) := by revert i; exact (by decide +kernel : ∀ i, i < 4 → zdk (139 + 4 * i) 0 = some (23, i, 17))
theorem zg_mtug17 (C : zCt) {i : Nat} (h : i < 4) : zI C (139 + 4 * i) 0 = C 23 i 17 := zI_get (zd_mtug17 h)
theorem zu_mtug17 (C : zCt) {i : Nat} (h : i < 4) (v : Int32) : zup (zI C) (139 + 4 * i) 0 v = zI (zcs C 23 (zup (C 23) i 17 v)) := zI_put (zd_mtug17 h)
theorem zd_mtug18 {i : Nat} (h : i < 4) : zdk (139 + 4 * i) 1 = some (23, i, 18) := by revert i; exact (by decide +kernel : ∀ i, i < 4 → zdk (139 + 4 * i) 1 = some (23, i, 18))
theorem zg_mtug18 (C : zCt) {i : Nat} (h : i < 4) : zI C (139 + 4 * i) 1 = C 23 i 18 := zI_get (zd_mtug18 h)
theorem zu_mtug18 (C : zCt) {i : Nat} (h : i < 4) (v : Int32) : zup (zI C) (139 + 4 * i) 1 v = zI (zcs C 23 (zup (C 23) i 18 v)) := zI_put (zd_mtug18 h)
theorem zd_mtug19 {i : Nat} (h : i < 4) : zdk (139 + 4 * i) 2 = some (23, i, 19) := by revert i; exact (by decide +kernel : ∀ i, i < 4 → zdk (139 + 4 * i) 2 = some (23, i, 19))
theorem zg_mtug19 (C : zCt) {i : Nat} (h : i < 4) : zI C (139 + 4 * i) 2 = C 23 i 19 := zI_get (zd_mtug19 h)
theorem zu_mtug19 (C : zCt) {i : Nat} (h : i < 4) (v : Int32) : zup (zI C) (139 + 4 * i) 2 v = zI (zcs C 23 (zup (C 23) i 19 v)) := zI_put (zd_mtug19 h)
theorem zd_mtug20 {i : Nat} (h : i < 4) : zdk (139 + 4 * i) 3 = some (23, i, 20) := by revert i; exact (by decide +kernel : ∀ i, i < 4 → zdk (139 + 4 * i) 3 = some (23, i, 20))
theorem zg_mtug20 (C : zCt) {i : Nat} (h : i < 4) : zI C (139 + 4 * i) 3 = C 23 i 20 := zI_get (zd_mtug20 h)
theorem zu_mtug20 (C : zCt) {i : Nat} (h : i < 4) (v : Int32) : zup (zI C) (139 + 4 * i) 3 v = zI (zcs C 23 (zup (C 23) i 20 v)) := zI_put (zd_mtug20 h)
theorem zd_mtug21 {i : Nat} (h : i < 4) : zdk (139 + 4 * i) 4 = some (23, i, 21) := by revert i; exact (by decide +kernel : ∀ i, i < 4 → zdk (139 + 4 * i) 4 = some (23, i, 21))
theorem zg_mtug21 (C : zCt) {i : Nat} (h : i < 4) : zI C (139 + 4 * i) 4 = C 23 i 21 := zI_get (zd_mtug21 h)
theorem zu_mtug21 (C : zCt) {i : Nat} (h : i < 4) (v : Int32) : zup (zI C) (139 + 4 * i) 4 v = zI (zcs C 23 (zup (C 23) i 21 v)) := zI_put (zd_mtug21 h)
theorem zd_mtug22 {i : Nat} (h : i < 4) : zdk (139 + 4 * i) 5 = some (23, i, 22) := by revert i; exact (by decide +kernel : ∀ i, i < 4 → zdk (139 + 4 * i) 5 = some (23, i, 22))
theorem zg_mtug22 (C : zCt) {i : Nat} (h : i < 4) : zI C (139 + 4 * i) 5 = C 23 i 22 := zI_get (zd_mtug22 h)
theorem zu_mtug22 (C : zCt) {i : Nat} (h : i < 4) (v : Int32) : zup (zI C) (139 + 4 * i) 5 v = zI (zcs C 23 (zup (C 23) i 22 v)) := zI_put (zd_mtug22 h)
theorem zd_mcon0 {i : Nat} (h : i < 8) : zdk (152 + i) 0 = some (27, i, 0) := by revert i; exact (by decide +kernel : ∀ i, i < 8 → zdk (152 + i) 0 = some (27, i, 0))
theorem zg_mcon0 (C : zCt) {i : Nat} (h : i < 8) : zI C (152 + i) 0 = C 27 i 0 := zI_get (zd_mcon0 h)
theorem zu_mcon0 (C : zCt) {i : Nat} (h : i < 8) (v : Int32) : zup (zI C) (152 + i) 0 v = zI (zcs C 27 (zup (C 27) i 0 v)) := zI_put (zd_mcon0 h)
theorem zd_mcon1 {i : Nat} (h : i < 8) : zdk (152 + i) 1 = some (27, i, 1) := by revert i; exact (by decide +kernel : ∀ i, i < 8 → zdk (152 + i) 1 = some (27, i, 1))
theorem zg_mcon1 (C : zCt) {i : Nat} (h : i < 8) : zI C (152 + i) 1 = C 27 i 1 := zI_get (zd_mcon1 h)
theorem zu_mcon1 (C : zCt) {i : Nat} (h : i < 8) (v : Int32) : zup (zI C) (152 + i) 1 v = zI (zcs C 27 (zup (C 27) i 1 v)) := zI_put (zd_mcon1 h)
theorem zd_mcon2 {i : Nat} (h : i < 8) : zdk (152 + i) 2 = some (27, i, 2) := by revert i; exact (by decide +kernel : ∀ i, i < 8 → zdk (152 + i) 2 = some (27, i, 2))
theorem zg_mcon2 (C : zCt) {i : Nat} (h : i < 8) : zI C (152 + i) 2 = C 27 i 2 := zI_get (zd_mcon2 h)
theorem zu_mcon2 (C : zCt) {i : Nat} (h : i < 8) (v : Int32) : zup (zI C) (152 + i) 2 v = zI (zcs C 27 (zup (C 27) i 2 v)) := zI_put (zd_mcon2 h)
theorem zd_mcon3 {i : Nat} (h : i < 8) : zdk (152 + i) 3 = some (27, i, 3) := by revert i; exact (by decide +kernel : ∀ i, i < 8 → zdk (152 + i) 3 = some (27, i, 3))
theorem zg_mcon3 (C : zCt) {i : Nat} (h : i < 8) : zI C (152 + i) 3 = C 27 i 3 := zI_get (zd_mcon3 h)
theorem zu_mcon3 (C : zCt) {i : Nat} (h : i < 8) (v : Int32) : zup (zI C) (152 + i) 3 v = zI (zcs C 27 (zup (C 27) i 3 v)) := zI_put (zd_mcon3 h)
theorem zd_mcon4 {i : Nat} (h : i < 8) : zdk (152 + i) 4 = some (27, i, 4) := by revert i; exact (by decide +kernel : ∀ i, i < 8 → zdk (152 + i) 4 = some (27, i, 4))
theorem zg_mcon4 (C : zCt) {i : Nat} (h : i < 8) : zI C (152 + i) 4 = C 27 i 4 := zI_get (zd_mcon4 h)
theorem zu_mcon4 (C : zCt) {i : Nat} (h : i < 8) (v : Int32) : zup (zI C) (152 + i) 4 v = zI (zcs C 27 (zup (C 27) i 4 v)) := zI_put (zd_mcon4 h)
theorem zd_mcon5 {i : Nat} (h : i < 8) : zdk (152 + i) 5 = some (27, i, 5) := by revert i; exact (by decide +kernel : ∀ i, i < 8 → zdk (152 + i) 5 = some (27, i, 5))
theorem zg_mcon5 (C : zCt) {i : Nat} (h : i < 8) : zI C (152 + i) 5 = C 27 i 5 := zI_get (zd_mcon5 h)
theorem zu_mcon5 (C : zCt) {i : Nat} (h : i < 8) (v : Int32) : zup (zI C) (152 + i) 5 v = zI (zcs C 27 (zup (C 27) i 5 v)) := zI_put (zd_mcon5 h)
theorem zd_mcon6 {i : Nat} (h : i < 8) : zdk (152 + i) 6 = some (27, i, 6) := by revert i; exact (by decide +kernel : ∀ i, i < 8 → zdk (152 + i) 6 = some (27, i, 6))
theorem zg_mcon6 (C : zCt) {i : Nat} (h : i < 8) : zI C (152 + i) 6 = C 27 i 6 := zI_get (zd_mcon6 h)
theorem zu_mcon6 (C : zCt) {i : Nat} (h : i < 8) (v : Int32) : zup (zI C) (152 + i) 6 v = zI (zcs C 27 (zup (C 27) i 6 v)) := zI_put (zd_mcon6 h)
theorem zd_mwin0 {i : Nat} (h : i < 16) : zdk (160 + i) 0 = some (28, i, 0) := by revert i; exact (by decide +kernel : ∀ i, i < 16 → zdk (160 + i) 0 = some (28, i, 0))
theorem zg_mwin0 (C : zCt) {i : Nat} (h : i < 16) : zI C (160 + i) 0 = C 28 i 0 := zI_get (zd_mwin0 h)
theorem zu_mwin0 (C : zCt) {i : Nat} (h : i < 16) (v : Int32) : zup (zI C) (160 + i) 0 v = zI (zcs C 28 (zup (C 28) i 0 v)) := zI_put (zd_mwin0 h)
theorem zd_mwin1 {i : Nat} (h : i < 16) : zdk (160 + i) 1 = some (28, i, 1) := by revert i; exact (by decide +kernel : ∀ i, i < 16 → zdk (160 + i) 1 = some (28, i, 1))
theorem zg_mwin1 (C : zCt) {i : Nat} (h : i < 16) : zI C (160 + i) 1 = C 28 i 1 := zI_get (zd_mwin1 h)
theorem zu_mwin1 (C : zCt) {i : Nat} (h : i < 16) (v : Int32) : zup (zI C) (160 + i) 1 v = zI (zcs C 28 (zup (C 28) i 1 v)) := zI_put (zd_mwin1 h)
theorem zd_mwin2 {i : Nat} (h : i < 16) : zdk (160 + i) 2 = some (28, i, 2) := by revert i; exact (by decide +kernel : ∀ i, i < 16 → zdk (160 + i) 2 = some (28, i, 2))
theorem zg_mwin2 (C : zCt) {i : Nat} (h : i < 16) : zI C (160 + i) 2 = C 28 i 2 := zI_get (zd_mwin2 h)
theorem zu_mwin2 (C : zCt) {i : Nat} (h : i < 16) (v : Int32) : zup (zI C) (160 + i) 2 v = zI (zcs C 28 (zup (C 28) i 2 v)) := zI_put (zd_mwin2 h)
theorem zd_mwin3 {i : Nat} (h : i < 16) : zdk (160 + i) 3 = some (28, i, 3) := by revert i; exact (by decide +kernel : ∀ i, i < 16 → zdk (160 + i) 3 = some (28, i, 3))
theorem zg_mwin3 (C : zCt) {i : Nat} (h : i < 16) : zI C (160 + i) 3 = C 28 i 3 := zI_get (zd_mwin3 h)
theorem zu_mwin3 (C : zCt) {i : Nat} (h : i < 16) (v : Int32) : zup (zI C) (160 + i) 3 v = zI (zcs C 28 (zup (C 28) i 3 v)) := zI_put (zd_mwin3 h)
theorem zd_mwin4 {i : Nat} (h : i < 16) : zdk (160 + i) 4 = some (28, i, 4) := by revert i; exact (by decide +kernel : ∀ i, i < 16 → zdk (160 + i) 4 = some (28, i, 4))
theorem zg_mwin4 (C : zCt) {i : Nat} (h : i < 16) : zI C (160 + i) 4 = C 28 i 4 := zI_get (zd_mwin4 h)
theorem zu_mwin4 (C : zCt) {i : Nat} (h : i < 16) (v : Int32) : zup (zI C) (160 + i) 4 v = zI (zcs C 28 (zup (C 28) i 4 v)) := zI_put (zd_mwin4 h)
theorem zd_mwin5 {i : Nat} (h : i < 16) : zdk (160 + i) 5 = some (28, i, 5) := by revert i; exact (by decide +kernel : ∀ i, i < 16 → zdk (160 + i) 5 = some (28, i, 5))
theorem zg_mwin5 (C : zCt) {i : Nat} (h : i < 16) : zI C (160 + i) 5 = C 28 i 5 := zI_get (zd_mwin5 h)
theorem zu_mwin5 (C : zCt) {i : Nat} (h : i < 16) (v : Int32) : zup (zI C) (160 + i) 5 v = zI (zcs C 28 (zup (C 28) i 5 v)) := zI_put (zd_mwin5 h)
theorem zk_mcode : ∀ i, i < 4 → zroom (176 + 2 * i) = 120 ∧ zwid (176 + 2 * i) = 2 := by decide +kernel
theorem zg_mcode0 (C : zCt) {i : Nat} (h : i < 4) : zI C (176 + 2 * i) 0 = 120 := by
  unfold zI zdk
  rw [(zk_mcode i h).1, if_pos ⟨by decide, by decide⟩]
  rfl
theorem zg_mcode1 (C : zCt) {i : Nat} (h : i < 4) : zI C (176 + 2 * i) 1 = 2 := by
  unfold zI zdk
  rw [(zk_mcode i h).1, if_pos ⟨by decide, by decide⟩]
  dsimp only
  rw [if_neg (by decide), (zk_mcode i h).2]; rfl
theorem zd_mcode3 {i : Nat} (h : i < 4) : zdk (176 + 2 * i) 3 = some (20, 0, (14 + i)) := by revert i; exact (by decide +kernel : ∀ i, i < 4 → zdk (176 + 2 * i) 3 = some (20, 0, 14 + i))
theorem zg_mcode3 (C : zCt) {i : Nat} (h : i < 4) : zI C (176 + 2 * i) 3 = C 20 0 (14 + i) := zI_get (zd_mcode3 h)
theorem zu_mcode3 (C : zCt) {i : Nat} (h : i < 4) (v : Int32) : zup (zI C) (176 + 2 * i) 3 v = zI (zcs C 20 (zup (C 20) 0 (14 + i) v)) := zI_put (zd_mcode3 h)
theorem zd_mrule {k : Nat} (h : k < 3) : zdk 108 k = some (20, 0, (1 + k)) := by revert k; exact (by decide +kernel : ∀ k, k < 3 → zdk 108 k = some (20, 0, 1 + k))
theorem zg_mrule (C : zCt) {k : Nat} (h : k < 3) : zI C 108 k = C 20 0 (1 + k) := zI_get (zd_mrule h)
theorem zu_mrule (C : zCt) {k : Nat} (h : k < 3) (v : Int32) : zup (zI C) 108 k v = zI (zcs C 20 (zup (C 20) 0 (1 + k) v)) := zI_put (zd_mrule h)
theorem zd_mstock {i k : Nat} (h : i < 8) (hk : k < 2) : zdk (114 + 3 * i) k = some (22, i, (k + 7)) := (by decide +kernel : ∀ i, i < 8 → ∀ k, k < 2 → zdk (114 + 3 * i) k = some (22, i, k + 7)) i h k hk
theorem zg_mstock (C : zCt) {i k : Nat} (h : i < 8) (hk : k < 2) : zI C (114 + 3 * i) k = C 22 i (k + 7) := zI_get (zd_mstock h hk)
theorem zu_mstock (C : zCt) {i k : Nat} (h : i < 8) (hk : k < 2) (v : Int32) : zup (zI C) (114 + 3 * i) k v = zI (zcs C 22 (zup (C 22) i (k + 7) v)) := zI_put (zd_mstock h hk)
theorem zd_mhold {i k : Nat} (h : i < 4) (hk : k < 2) : zdk (138 + 4 * i) k = some (23, i, (k + 6)) := (by decide +kernel : ∀ i, i < 4 → ∀ k, k < 2 → zdk (138 + 4 * i) k = some (23, i, k + 6)) i h k hk
theorem zg_mhold (C : zCt) {i k : Nat} (h : i < 4) (hk : k < 2) : zI C (138 + 4 * i) k = C 23 i (k + 6) := zI_get (zd_mhold h hk)
theorem zu_mhold (C : zCt) {i k : Nat} (h : i < 4) (hk : k < 2) (v : Int32) : zup (zI C) (138 + 4 * i) k v = zI (zcs C 23 (zup (C 23) i (k + 6) v)) := zI_put (zd_mhold h hk)
theorem zd_mknown {i k : Nat} (h : i < 4) (hk : k < 6) : zdk (139 + 4 * i) k = some (23, i, (k + 17)) := (by decide +kernel : ∀ i, i < 4 → ∀ k, k < 6 → zdk (139 + 4 * i) k = some (23, i, k + 17)) i h k hk
theorem zg_mknown (C : zCt) {i k : Nat} (h : i < 4) (hk : k < 6) : zI C (139 + 4 * i) k = C 23 i (k + 17) := zI_get (zd_mknown h hk)
theorem zu_mknown (C : zCt) {i k : Nat} (h : i < 4) (hk : k < 6) (v : Int32) : zup (zI C) (139 + 4 * i) k v = zI (zcs C 23 (zup (C 23) i (k + 17) v)) := zI_put (zd_mknown h hk)
theorem zd_mord {i c : Nat} (h : c < 3) : zdk 101 (i * 3 + c) = some (24, i, ((c + 2) % 3)) := by
  unfold zdk zdec zdW
  rw [if_neg (fun e => e.1 rfl), if_neg (by omega), if_neg (by omega), if_pos (by omega)]
  rw [show (i * 3 + c) / 3 = i by omega, show (i * 3 + c) % 3 = c by omega]
  rfl
theorem zg_mord (C : zCt) {i c : Nat} (h : c < 3) : zI C 101 (i * 3 + c) = C 24 i ((c + 2) % 3) := zI_get (zd_mord h)
theorem zu_mord (C : zCt) {i c : Nat} (h : c < 3) (v : Int32) : zup (zI C) 101 (i * 3 + c) v = zI (zcs C 24 (zup (C 24) i ((c + 2) % 3) v)) := zI_put (zd_mord h)
theorem zd_mrep {i c : Nat} (h : c < 8) : zdk 103 (i * 8 + c) = some (25, i, ((c + 7) % 8)) := by
  unfold zdk zdec zdW
  rw [if_neg (fun e => e.1 rfl), if_neg (by omega), if_neg (by omega), if_pos (by omega)]
  rw [show (i * 8 + c) / 8 = i by omega, show (i * 8 + c) % 8 = c by omega]
  rfl
theorem zg_mrep (C : zCt) {i c : Nat} (h : c < 8) : zI C 103 (i * 8 + c) = C 25 i ((c + 7) % 8) := zI_get (zd_mrep h)
theorem zu_mrep (C : zCt) {i c : Nat} (h : c < 8) (v : Int32) : zup (zI C) 103 (i * 8 + c) v = zI (zcs C 25 (zup (C 25) i ((c + 7) % 8) v)) := zI_put (zd_mrep h)
theorem zd_mcla {i c : Nat} (h : c < 3) : zdk 105 (i * 3 + c) = some (26, i, ((c + 2) % 3)) := by
  unfold zdk zdec zdW
  rw [if_neg (fun e => e.1 rfl), if_neg (by omega), if_neg (by omega), if_pos (by omega)]
  rw [show (i * 3 + c) / 3 = i by omega, show (i * 3 + c) % 3 = c by omega]
  rfl
theorem zg_mcla (C : zCt) {i c : Nat} (h : c < 3) : zI C 105 (i * 3 + c) = C 26 i ((c + 2) % 3) := zI_get (zd_mcla h)
theorem zu_mcla (C : zCt) {i c : Nat} (h : c < 3) (v : Int32) : zup (zI C) 105 (i * 3 + c) v = zI (zcs C 26 (zup (C 26) i ((c + 2) % 3) v)) := zI_put (zd_mcla h)
theorem zd_mtou {i c : Nat} (h : c < 4) : zdk 107 (i * 4 + c) = some (29, i, c) := by
  unfold zdk zdec zdW
  rw [if_neg (fun e => e.1 rfl), if_neg (by omega), if_neg (by omega), if_pos (by omega)]
  rw [show (i * 4 + c) / 4 = i by omega, show (i * 4 + c) % 4 = c by omega]
  rfl
theorem zg_mtou (C : zCt) {i c : Nat} (h : c < 4) : zI C 107 (i * 4 + c) = C 29 i c := zI_get (zd_mtou h)
theorem zu_mtou (C : zCt) {i c : Nat} (h : c < 4) (v : Int32) : zup (zI C) 107 (i * 4 + c) v = zI (zcs C 29 (zup (C 29) i c v)) := zI_put (zd_mtou h)
theorem zd_mcel {p i c : Nat} (hp : p < 4) (h : c < 2) : zdk (177 + 2 * p) (i * 2 + c) = some ((30 + p), i, c) := by
  rw [zdk, if_neg (by rw [(by decide +kernel : ∀ p, p < 4 → zroom (177 + 2 * p) = 0) p hp]; exact fun e => e.1 rfl), zdec, if_neg (by omega), if_neg (by omega), if_pos (by omega), zdW, if_neg (by omega), if_neg (by omega), if_neg (by omega), if_neg (by omega), if_neg (by omega), if_neg (by omega)]
  have e1 : (177 + 2 * p - 93 - 83) / 2 = p := by omega
  rw [show (i * 2 + c) / 2 = i by omega, show (i * 2 + c) % 2 = c by omega, e1]
  exact congrArg some (Prod.ext (by show 20 + (10 + p) = 30 + p; omega) rfl)
theorem zg_mcel (C : zCt) {p i c : Nat} (hp : p < 4) (h : c < 2) : zI C (177 + 2 * p) (i * 2 + c) = C (30 + p) i c := zI_get (zd_mcel hp h)
theorem zu_mcel (C : zCt) {p i c : Nat} (hp : p < 4) (h : c < 2) (v : Int32) : zup (zI C) (177 + 2 * p) (i * 2 + c) v = zI (zcs C (30 + p) (zup (C (30 + p)) i c v)) := zI_put (zd_mcel hp h)
theorem zd_ssun {i c : Nat} (hi : i < 3) (h : c < 3) : zdk 202 (20 + 3 * i + c) = some (41, i, c) := (by decide +kernel : ∀ i, i < 3 → ∀ c, c < 3 → zdk 202 (20 + 3 * i + c) = some (41, i, c)) i hi c h
theorem zg_ssun (C : zCt) {i c : Nat} (hi : i < 3) (h : c < 3) : zI C 202 (20 + 3 * i + c) = C 41 i c := zI_get (zd_ssun hi h)
theorem zu_ssun (C : zCt) {i c : Nat} (hi : i < 3) (h : c < 3) (v : Int32) : zup (zI C) 202 (20 + 3 * i + c) v = zI (zcs C 41 (zup (C 41) i c v)) := zI_put (zd_ssun hi h)
theorem zd_ssun0 {i : Nat} (hi : i < 3) : zdk 202 (20 + 3 * i) = some (41, i, 0) := zd_ssun (c := 0) hi (by decide)
theorem zg_ssun0 (C : zCt) {i : Nat} (hi : i < 3) : zI C 202 (20 + 3 * i) = C 41 i 0 := zI_get (zd_ssun0 hi)
theorem zu_ssun0 (C : zCt) {i : Nat} (hi : i < 3) (v : Int32) : zup (zI C) 202 (20 + 3 * i) v = zI (zcs C 41 (zup (C 41) i 0 v)) := zI_put (zd_ssun0 hi)
theorem zd_srock {i c : Nat} (hi : i < 8) (h : c < 16) : zdk 202 (30 + 16 * i + c) = some (42, i, c) := (by decide +kernel : ∀ i, i < 8 → ∀ c, c < 16 → zdk 202 (30 + 16 * i + c) = some (42, i, c)) i hi c h
theorem zg_srock (C : zCt) {i c : Nat} (hi : i < 8) (h : c < 16) : zI C 202 (30 + 16 * i + c) = C 42 i c := zI_get (zd_srock hi h)
theorem zu_srock (C : zCt) {i c : Nat} (hi : i < 8) (h : c < 16) (v : Int32) : zup (zI C) 202 (30 + 16 * i + c) v = zI (zcs C 42 (zup (C 42) i c v)) := zI_put (zd_srock hi h)
theorem zd_srock0 {i : Nat} (hi : i < 8) : zdk 202 (30 + 16 * i) = some (42, i, 0) := zd_srock (c := 0) hi (by decide)
theorem zg_srock0 (C : zCt) {i : Nat} (hi : i < 8) : zI C 202 (30 + 16 * i) = C 42 i 0 := zI_get (zd_srock0 hi)
theorem zu_srock0 (C : zCt) {i : Nat} (hi : i < 8) (v : Int32) : zup (zI C) 202 (30 + 16 * i) v = zI (zcs C 42 (zup (C 42) i 0 v)) := zI_put (zd_srock0 hi)
theorem zd_stug {i c : Nat} (hi : i < 4) (h : c < 28) : zdk 202 (160 + 28 * i + c) = some (43, i, c) := (by decide +kernel : ∀ i, i < 4 → ∀ c, c < 28 → zdk 202 (160 + 28 * i + c) = some (43, i, c)) i hi c h
theorem zg_stug (C : zCt) {i c : Nat} (hi : i < 4) (h : c < 28) : zI C 202 (160 + 28 * i + c) = C 43 i c := zI_get (zd_stug hi h)
theorem zu_stug (C : zCt) {i c : Nat} (hi : i < 4) (h : c < 28) (v : Int32) : zup (zI C) 202 (160 + 28 * i + c) v = zI (zcs C 43 (zup (C 43) i c v)) := zI_put (zd_stug hi h)
theorem zd_stug0 {i : Nat} (hi : i < 4) : zdk 202 (160 + 28 * i) = some (43, i, 0) := zd_stug (c := 0) hi (by decide)
theorem zg_stug0 (C : zCt) {i : Nat} (hi : i < 4) : zI C 202 (160 + 28 * i) = C 43 i 0 := zI_get (zd_stug0 hi)
theorem zu_stug0 (C : zCt) {i : Nat} (hi : i < 4) (v : Int32) : zup (zI C) 202 (160 + 28 * i) v = zI (zcs C 43 (zup (C 43) i 0 v)) := zI_put (zd_stug0 hi)
theorem zd_sord {i c : Nat} (hi : i < 30) (h : c < 3) : zdk 202 (272 + 3 * i + c) = some (44, i, c) := (by decide +kernel : ∀ i, i < 30 → ∀ c, c < 3 → zdk 202 (272 + 3 * i + c) = some (44, i, c)) i hi c h
theorem zg_sord (C : zCt) {i c : Nat} (hi : i < 30) (h : c < 3) : zI C 202 (272 + 3 * i + c) = C 44 i c := zI_get (zd_sord hi h)
theorem zu_sord (C : zCt) {i c : Nat} (hi : i < 30) (h : c < 3) (v : Int32) : zup (zI C) 202 (272 + 3 * i + c) v = zI (zcs C 44 (zup (C 44) i c v)) := zI_put (zd_sord hi h)
theorem zd_sord0 {i : Nat} (hi : i < 30) : zdk 202 (272 + 3 * i) = some (44, i, 0) := zd_sord (c := 0) hi (by decide)
theorem zg_sord0 (C : zCt) {i : Nat} (hi : i < 30) : zI C 202 (272 + 3 * i) = C 44 i 0 := zI_get (zd_sord0 hi)
theorem zu_sord0 (C : zCt) {i : Nat} (hi : i < 30) (v : Int32) : zup (zI C) 202 (272 + 3 * i) v = zI (zcs C 44 (zup (C 44) i 0 v)) := zI_put (zd_sord0 hi)
theorem zd_srep {i c : Nat} (hi : i < 60) (h : c < 8) : zdk 202 (362 + 8 * i + c) = some (45, i, c) := (by decide +kernel : ∀ i, i < 60 → ∀ c, c < 8 → zdk 202 (362 + 8 * i + c) = some (45, i, c)) i hi c h
theorem zg_srep (C : zCt) {i c : Nat} (hi : i < 60) (h : c < 8) : zI C 202 (362 + 8 * i + c) = C 45 i c := zI_get (zd_srep hi h)
theorem zu_srep (C : zCt) {i c : Nat} (hi : i < 60) (h : c < 8) (v : Int32) : zup (zI C) 202 (362 + 8 * i + c) v = zI (zcs C 45 (zup (C 45) i c v)) := zI_put (zd_srep hi h)
theorem zd_srep0 {i : Nat} (hi : i < 60) : zdk 202 (362 + 8 * i) = some (45, i, 0) := zd_srep (c := 0) hi (by decide)
theorem zg_srep0 (C : zCt) {i : Nat} (hi : i < 60) : zI C 202 (362 + 8 * i) = C 45 i 0 := zI_get (zd_srep0 hi)
theorem zu_srep0 (C : zCt) {i : Nat} (hi : i < 60) (v : Int32) : zup (zI C) 202 (362 + 8 * i) v = zI (zcs C 45 (zup (C 45) i 0 v)) := zI_put (zd_srep0 hi)
theorem zd_scla {i c : Nat} (hi : i < 20) (h : c < 3) : zdk 202 (842 + 3 * i + c) = some (46, i, c) := (by decide +kernel : ∀ i, i < 20 → ∀ c, c < 3 → zdk 202 (842 + 3 * i + c) = some (46, i, c)) i hi c h
theorem zg_scla (C : zCt) {i c : Nat} (hi : i < 20) (h : c < 3) : zI C 202 (842 + 3 * i + c) = C 46 i c := zI_get (zd_scla hi h)
theorem zu_scla (C : zCt) {i c : Nat} (hi : i < 20) (h : c < 3) (v : Int32) : zup (zI C) 202 (842 + 3 * i + c) v = zI (zcs C 46 (zup (C 46) i c v)) := zI_put (zd_scla hi h)
theorem zd_scla0 {i : Nat} (hi : i < 20) : zdk 202 (842 + 3 * i) = some (46, i, 0) := zd_scla (c := 0) hi (by decide)
theorem zg_scla0 (C : zCt) {i : Nat} (hi : i < 20) : zI C 202 (842 + 3 * i) = C 46 i 0 := zI_get (zd_scla0 hi)
theorem zu_scla0 (C : zCt) {i : Nat} (hi : i < 20) (v : Int32) : zup (zI C) 202 (842 + 3 * i) v = zI (zcs C 46 (zup (C 46) i 0 v)) := zI_put (zd_scla0 hi)
theorem zd_scon {i c : Nat} (hi : i < 8) (h : c < 8) : zdk 202 (902 + 8 * i + c) = some (47, i, c) := (by decide +kernel : ∀ i, i < 8 → ∀ c, c < 8 → zdk 202 (902 + 8 * i + c) = some (47, i, c)) i hi c h
theorem zg_scon (C : zCt) {i c : Nat} (hi : i < 8) (h : c < 8) : zI C 202 (902 + 8 * i + c) = C 47 i c := zI_get (zd_scon hi h)
theorem zu_scon (C : zCt) {i c : Nat} (hi : i < 8) (h : c < 8) (v : Int32) : zup (zI C) 202 (902 + 8 * i + c) v = zI (zcs C 47 (zup (C 47) i c v)) := zI_put (zd_scon hi h)
theorem zd_scon0 {i : Nat} (hi : i < 8) : zdk 202 (902 + 8 * i) = some (47, i, 0) := zd_scon (c := 0) hi (by decide)
theorem zg_scon0 (C : zCt) {i : Nat} (hi : i < 8) : zI C 202 (902 + 8 * i) = C 47 i 0 := zI_get (zd_scon0 hi)
theorem zu_scon0 (C : zCt) {i : Nat} (hi : i < 8) (v : Int32) : zup (zI C) 202 (902 + 8 * i) v = zI (zcs C 47 (zup (C 47) i 0 v)) := zI_put (zd_scon0 hi)
theorem zd_swin {i c : Nat} (hi : i < 16) (h : c < 6) : zdk 202 (966 + 6 * i + c) = some (48, i, c) := (by decide +kernel : ∀ i, i < 16 → ∀ c, c < 6 → zdk 202 (966 + 6 * i + c) = some (48, i, c)) i hi c h
theorem zg_swin (C : zCt) {i c : Nat} (hi : i < 16) (h : c < 6) : zI C 202 (966 + 6 * i + c) = C 48 i c := zI_get (zd_swin hi h)
theorem zu_swin (C : zCt) {i c : Nat} (hi : i < 16) (h : c < 6) (v : Int32) : zup (zI C) 202 (966 + 6 * i + c) v = zI (zcs C 48 (zup (C 48) i c v)) := zI_put (zd_swin hi h)
theorem zd_swin0 {i : Nat} (hi : i < 16) : zdk 202 (966 + 6 * i) = some (48, i, 0) := zd_swin (c := 0) hi (by decide)
theorem zg_swin0 (C : zCt) {i : Nat} (hi : i < 16) : zI C 202 (966 + 6 * i) = C 48 i 0 := zI_get (zd_swin0 hi)
theorem zu_swin0 (C : zCt) {i : Nat} (hi : i < 16) (v : Int32) : zup (zI C) 202 (966 + 6 * i) v = zI (zcs C 48 (zup (C 48) i 0 v)) := zI_put (zd_swin0 hi)
theorem zd_sleg {i c : Nat} (hi : i < 6) (h : c < 4) : zdk 202 (1062 + 4 * i + c) = some (49, i, c) := (by decide +kernel : ∀ i, i < 6 → ∀ c, c < 4 → zdk 202 (1062 + 4 * i + c) = some (49, i, c)) i hi c h
theorem zg_sleg (C : zCt) {i c : Nat} (hi : i < 6) (h : c < 4) : zI C 202 (1062 + 4 * i + c) = C 49 i c := zI_get (zd_sleg hi h)
theorem zu_sleg (C : zCt) {i c : Nat} (hi : i < 6) (h : c < 4) (v : Int32) : zup (zI C) 202 (1062 + 4 * i + c) v = zI (zcs C 49 (zup (C 49) i c v)) := zI_put (zd_sleg hi h)
theorem zd_sleg0 {i : Nat} (hi : i < 6) : zdk 202 (1062 + 4 * i) = some (49, i, 0) := zd_sleg (c := 0) hi (by decide)
theorem zg_sleg0 (C : zCt) {i : Nat} (hi : i < 6) : zI C 202 (1062 + 4 * i) = C 49 i 0 := zI_get (zd_sleg0 hi)
theorem zu_sleg0 (C : zCt) {i : Nat} (hi : i < 6) (v : Int32) : zup (zI C) 202 (1062 + 4 * i) v = zI (zcs C 49 (zup (C 49) i 0 v)) := zI_put (zd_sleg0 hi)
theorem zd_spro {p : Nat} (hp : p < 4) : zdk 202 (1086 + 782 * p) = some (40, 0, (14 + p)) := (by decide +kernel : ∀ p, p < 4 → zdk 202 (1086 + 782 * p) = some (40, 0, 14 + p)) p hp
theorem zg_spro (C : zCt) {p : Nat} (hp : p < 4) : zI C 202 (1086 + 782 * p) = C 40 0 (14 + p) := zI_get (zd_spro hp)
theorem zu_spro (C : zCt) {p : Nat} (hp : p < 4) (v : Int32) : zup (zI C) 202 (1086 + 782 * p) v = zI (zcs C 40 (zup (C 40) 0 (14 + p) v)) := zI_put (zd_spro hp)
theorem zq_sstp : ∀ p, p < 4 → ∀ j, j < 520 → zdk 202 (1086 + 782 * p + 2 + j) = some (50 + p, j / 4, j % 4) := by decide +kernel
theorem zq_swrd : ∀ p, p < 4 → ∀ j, j < 260 → zdk 202 (1086 + 782 * p + 522 + j) = some (54 + p, j / 2, j % 2) := by decide +kernel
theorem zd_sstp {p i c : Nat} (hp : p < 4) (hi : i < 130) (h : c < 4) : zdk 202 (1086 + 782 * p + 2 + 4 * i + c) = some ((50 + p), i, c) := by rw [Nat.add_assoc (1086 + 782 * p + 2), zq_sstp p hp _ (by omega), show (4 * i + c) / 4 = i by omega, show (4 * i + c) % 4 = c by omega]
theorem zg_sstp (C : zCt) {p i c : Nat} (hp : p < 4) (hi : i < 130) (h : c < 4) : zI C 202 (1086 + 782 * p + 2 + 4 * i + c) = C (50 + p) i c := zI_get (zd_sstp hp hi h)
theorem zu_sstp (C : zCt) {p i c : Nat} (hp : p < 4) (hi : i < 130) (h : c < 4) (v : Int32) : zup (zI C) 202 (1086 + 782 * p + 2 + 4 * i + c) v = zI (zcs C (50 + p) (zup (C (50 + p)) i c v)) := zI_put (zd_sstp hp hi h)
theorem zd_swrd {p i c : Nat} (hp : p < 4) (hi : i < 130) (h : c < 2) : zdk 202 (1086 + 782 * p + 522 + 2 * i + c) = some ((54 + p), i, c) := by rw [Nat.add_assoc (1086 + 782 * p + 522), zq_swrd p hp _ (by omega), show (2 * i + c) / 2 = i by omega, show (2 * i + c) % 2 = c by omega]
theorem zg_swrd (C : zCt) {p i c : Nat} (hp : p < 4) (hi : i < 130) (h : c < 2) : zI C 202 (1086 + 782 * p + 522 + 2 * i + c) = C (54 + p) i c := zI_get (zd_swrd hp hi h)
theorem zu_swrd (C : zCt) {p i c : Nat} (hp : p < 4) (hi : i < 130) (h : c < 2) (v : Int32) : zup (zI C) 202 (1086 + 782 * p + 522 + 2 * i + c) v = zI (zcs C (54 + p) (zup (C (54 + p)) i c v)) := zI_put (zd_swrd hp hi h)
theorem zd_ksun {i c : Nat} (hi : i < 3) (h : c < 3) : zdk 203 (20 + 3 * i + c) = some (61, i, c) := (by decide +kernel : ∀ i, i < 3 → ∀ c, c < 3 → zdk 203 (20 + 3 * i + c) = some (61, i, c)) i hi c h
theorem zg_ksun (C : zCt) {i c : Nat} (hi : i < 3) (h : c < 3) : zI C 203 (20 + 3 * i + c) = C 61 i c := zI_get (zd_ksun hi h)
theorem zu_ksun (C : zCt) {i c : Nat} (hi : i < 3) (h : c < 3) (v : Int32) : zup (zI C) 203 (20 + 3 * i + c) v = zI (zcs C 61 (zup (C 61) i c v)) := zI_put (zd_ksun hi h)
theorem zd_ksun0 {i : Nat} (hi : i < 3) : zdk 203 (20 + 3 * i) = some (61, i, 0) := zd_ksun (c := 0) hi (by decide)
theorem zg_ksun0 (C : zCt) {i : Nat} (hi : i < 3) : zI C 203 (20 + 3 * i) = C 61 i 0 := zI_get (zd_ksun0 hi)
theorem zu_ksun0 (C : zCt) {i : Nat} (hi : i < 3) (v : Int32) : zup (zI C) 203 (20 + 3 * i) v = zI (zcs C 61 (zup (C 61) i 0 v)) := zI_put (zd_ksun0 hi)
theorem zd_krock {i c : Nat} (hi : i < 8) (h : c < 16) : zdk 203 (30 + 16 * i + c) = some (62, i, c) := (by decide +kernel : ∀ i, i < 8 → ∀ c, c < 16 → zdk 203 (30 + 16 * i + c) = some (62, i, c)) i hi c h
theorem zg_krock (C : zCt) {i c : Nat} (hi : i < 8) (h : c < 16) : zI C 203 (30 + 16 * i + c) = C 62 i c := zI_get (zd_krock hi h)
theorem zu_krock (C : zCt) {i c : Nat} (hi : i < 8) (h : c < 16) (v : Int32) : zup (zI C) 203 (30 + 16 * i + c) v = zI (zcs C 62 (zup (C 62) i c v)) := zI_put (zd_krock hi h)
theorem zd_krock0 {i : Nat} (hi : i < 8) : zdk 203 (30 + 16 * i) = some (62, i, 0) := zd_krock (c := 0) hi (by decide)
theorem zg_krock0 (C : zCt) {i : Nat} (hi : i < 8) : zI C 203 (30 + 16 * i) = C 62 i 0 := zI_get (zd_krock0 hi)
theorem zu_krock0 (C : zCt) {i : Nat} (hi : i < 8) (v : Int32) : zup (zI C) 203 (30 + 16 * i) v = zI (zcs C 62 (zup (C 62) i 0 v)) := zI_put (zd_krock0 hi)
theorem zd_ktug {i c : Nat} (hi : i < 4) (h : c < 28) : zdk 203 (160 + 28 * i + c) = some (63, i, c) := (by decide +kernel : ∀ i, i < 4 → ∀ c, c < 28 → zdk 203 (160 + 28 * i + c) = some (63, i, c)) i hi c h
theorem zg_ktug (C : zCt) {i c : Nat} (hi : i < 4) (h : c < 28) : zI C 203 (160 + 28 * i + c) = C 63 i c := zI_get (zd_ktug hi h)
theorem zu_ktug (C : zCt) {i c : Nat} (hi : i < 4) (h : c < 28) (v : Int32) : zup (zI C) 203 (160 + 28 * i + c) v = zI (zcs C 63 (zup (C 63) i c v)) := zI_put (zd_ktug hi h)
theorem zd_ktug0 {i : Nat} (hi : i < 4) : zdk 203 (160 + 28 * i) = some (63, i, 0) := zd_ktug (c := 0) hi (by decide)
theorem zg_ktug0 (C : zCt) {i : Nat} (hi : i < 4) : zI C 203 (160 + 28 * i) = C 63 i 0 := zI_get (zd_ktug0 hi)
theorem zu_ktug0 (C : zCt) {i : Nat} (hi : i < 4) (v : Int32) : zup (zI C) 203 (160 + 28 * i) v = zI (zcs C 63 (zup (C 63) i 0 v)) := zI_put (zd_ktug0 hi)
theorem zd_kord {i c : Nat} (hi : i < 30) (h : c < 3) : zdk 203 (272 + 3 * i + c) = some (64, i, c) := (by decide +kernel : ∀ i, i < 30 → ∀ c, c < 3 → zdk 203 (272 + 3 * i + c) = some (64, i, c)) i hi c h
theorem zg_kord (C : zCt) {i c : Nat} (hi : i < 30) (h : c < 3) : zI C 203 (272 + 3 * i + c) = C 64 i c := zI_get (zd_kord hi h)
theorem zu_kord (C : zCt) {i c : Nat} (hi : i < 30) (h : c < 3) (v : Int32) : zup (zI C) 203 (272 + 3 * i + c) v = zI (zcs C 64 (zup (C 64) i c v)) := zI_put (zd_kord hi h)
theorem zd_kord0 {i : Nat} (hi : i < 30) : zdk 203 (272 + 3 * i) = some (64, i, 0) := zd_kord (c := 0) hi (by decide)
theorem zg_kord0 (C : zCt) {i : Nat} (hi : i < 30) : zI C 203 (272 + 3 * i) = C 64 i 0 := zI_get (zd_kord0 hi)
theorem zu_kord0 (C : zCt) {i : Nat} (hi : i < 30) (v : Int32) : zup (zI C) 203 (272 + 3 * i) v = zI (zcs C 64 (zup (C 64) i 0 v)) := zI_put (zd_kord0 hi)
theorem zd_krep {i c : Nat} (hi : i < 60) (h : c < 8) : zdk 203 (362 + 8 * i + c) = some (65, i, c) := (by decide +kernel : ∀ i, i < 60 → ∀ c, c < 8 → zdk 203 (362 + 8 * i + c) = some (65, i, c)) i hi c h
theorem zg_krep (C : zCt) {i c : Nat} (hi : i < 60) (h : c < 8) : zI C 203 (362 + 8 * i + c) = C 65 i c := zI_get (zd_krep hi h)
theorem zu_krep (C : zCt) {i c : Nat} (hi : i < 60) (h : c < 8) (v : Int32) : zup (zI C) 203 (362 + 8 * i + c) v = zI (zcs C 65 (zup (C 65) i c v)) := zI_put (zd_krep hi h)
theorem zd_krep0 {i : Nat} (hi : i < 60) : zdk 203 (362 + 8 * i) = some (65, i, 0) := zd_krep (c := 0) hi (by decide)
theorem zg_krep0 (C : zCt) {i : Nat} (hi : i < 60) : zI C 203 (362 + 8 * i) = C 65 i 0 := zI_get (zd_krep0 hi)
theorem zu_krep0 (C : zCt) {i : Nat} (hi : i < 60) (v : Int32) : zup (zI C) 203 (362 + 8 * i) v = zI (zcs C 65 (zup (C 65) i 0 v)) := zI_put (zd_krep0 hi)
theorem zd_kcla {i c : Nat} (hi : i < 20) (h : c < 3) : zdk 203 (842 + 3 * i + c) = some (66, i, c) := (by decide +kernel : ∀ i, i < 20 → ∀ c, c < 3 → zdk 203 (842 + 3 * i + c) = some (66, i, c)) i hi c h
theorem zg_kcla (C : zCt) {i c : Nat} (hi : i < 20) (h : c < 3) : zI C 203 (842 + 3 * i + c) = C 66 i c := zI_get (zd_kcla hi h)
theorem zu_kcla (C : zCt) {i c : Nat} (hi : i < 20) (h : c < 3) (v : Int32) : zup (zI C) 203 (842 + 3 * i + c) v = zI (zcs C 66 (zup (C 66) i c v)) := zI_put (zd_kcla hi h)
theorem zd_kcla0 {i : Nat} (hi : i < 20) : zdk 203 (842 + 3 * i) = some (66, i, 0) := zd_kcla (c := 0) hi (by decide)
theorem zg_kcla0 (C : zCt) {i : Nat} (hi : i < 20) : zI C 203 (842 + 3 * i) = C 66 i 0 := zI_get (zd_kcla0 hi)
theorem zu_kcla0 (C : zCt) {i : Nat} (hi : i < 20) (v : Int32) : zup (zI C) 203 (842 + 3 * i) v = zI (zcs C 66 (zup (C 66) i 0 v)) := zI_put (zd_kcla0 hi)
theorem zd_kcon {i c : Nat} (hi : i < 8) (h : c < 8) : zdk 203 (902 + 8 * i + c) = some (67, i, c) := (by decide +kernel : ∀ i, i < 8 → ∀ c, c < 8 → zdk 203 (902 + 8 * i + c) = some (67, i, c)) i hi c h
theorem zg_kcon (C : zCt) {i c : Nat} (hi : i < 8) (h : c < 8) : zI C 203 (902 + 8 * i + c) = C 67 i c := zI_get (zd_kcon hi h)
theorem zu_kcon (C : zCt) {i c : Nat} (hi : i < 8) (h : c < 8) (v : Int32) : zup (zI C) 203 (902 + 8 * i + c) v = zI (zcs C 67 (zup (C 67) i c v)) := zI_put (zd_kcon hi h)
theorem zd_kcon0 {i : Nat} (hi : i < 8) : zdk 203 (902 + 8 * i) = some (67, i, 0) := zd_kcon (c := 0) hi (by decide)
theorem zg_kcon0 (C : zCt) {i : Nat} (hi : i < 8) : zI C 203 (902 + 8 * i) = C 67 i 0 := zI_get (zd_kcon0 hi)
theorem zu_kcon0 (C : zCt) {i : Nat} (hi : i < 8) (v : Int32) : zup (zI C) 203 (902 + 8 * i) v = zI (zcs C 67 (zup (C 67) i 0 v)) := zI_put (zd_kcon0 hi)
theorem zd_kwin {i c : Nat} (hi : i < 16) (h : c < 6) : zdk 203 (966 + 6 * i + c) = some (68, i, c) := (by decide +kernel : ∀ i, i < 16 → ∀ c, c < 6 → zdk 203 (966 + 6 * i + c) = some (68, i, c)) i hi c h
theorem zg_kwin (C : zCt) {i c : Nat} (hi : i < 16) (h : c < 6) : zI C 203 (966 + 6 * i + c) = C 68 i c := zI_get (zd_kwin hi h)
theorem zu_kwin (C : zCt) {i c : Nat} (hi : i < 16) (h : c < 6) (v : Int32) : zup (zI C) 203 (966 + 6 * i + c) v = zI (zcs C 68 (zup (C 68) i c v)) := zI_put (zd_kwin hi h)
theorem zd_kwin0 {i : Nat} (hi : i < 16) : zdk 203 (966 + 6 * i) = some (68, i, 0) := zd_kwin (c := 0) hi (by decide)
theorem zg_kwin0 (C : zCt) {i : Nat} (hi : i < 16) : zI C 203 (966 + 6 * i) = C 68 i 0 := zI_get (zd_kwin0 hi)
theorem zu_kwin0 (C : zCt) {i : Nat} (hi : i < 16) (v : Int32) : zup (zI C) 203 (966 + 6 * i) v = zI (zcs C 68 (zup (C 68) i 0 v)) := zI_put (zd_kwin0 hi)
theorem zd_kleg {i c : Nat} (hi : i < 6) (h : c < 4) : zdk 203 (1062 + 4 * i + c) = some (69, i, c) := (by decide +kernel : ∀ i, i < 6 → ∀ c, c < 4 → zdk 203 (1062 + 4 * i + c) = some (69, i, c)) i hi c h
theorem zg_kleg (C : zCt) {i c : Nat} (hi : i < 6) (h : c < 4) : zI C 203 (1062 + 4 * i + c) = C 69 i c := zI_get (zd_kleg hi h)
theorem zu_kleg (C : zCt) {i c : Nat} (hi : i < 6) (h : c < 4) (v : Int32) : zup (zI C) 203 (1062 + 4 * i + c) v = zI (zcs C 69 (zup (C 69) i c v)) := zI_put (zd_kleg hi h)
theorem zd_kleg0 {i : Nat} (hi : i < 6) : zdk 203 (1062 + 4 * i) = some (69, i, 0) := zd_kleg (c := 0) hi (by decide)
theorem zg_kleg0 (C : zCt) {i : Nat} (hi : i < 6) : zI C 203 (1062 + 4 * i) = C 69 i 0 := zI_get (zd_kleg0 hi)
theorem zu_kleg0 (C : zCt) {i : Nat} (hi : i < 6) (v : Int32) : zup (zI C) 203 (1062 + 4 * i) v = zI (zcs C 69 (zup (C 69) i 0 v)) := zI_put (zd_kleg0 hi)
theorem zd_kpro {p : Nat} (hp : p < 4) : zdk 203 (1086 + 782 * p) = some (60, 0, (14 + p)) := (by decide +kernel : ∀ p, p < 4 → zdk 203 (1086 + 782 * p) = some (60, 0, 14 + p)) p hp
theorem zg_kpro (C : zCt) {p : Nat} (hp : p < 4) : zI C 203 (1086 + 782 * p) = C 60 0 (14 + p) := zI_get (zd_kpro hp)
theorem zu_kpro (C : zCt) {p : Nat} (hp : p < 4) (v : Int32) : zup (zI C) 203 (1086 + 782 * p) v = zI (zcs C 60 (zup (C 60) 0 (14 + p) v)) := zI_put (zd_kpro hp)
theorem zq_kstp : ∀ p, p < 4 → ∀ j, j < 520 → zdk 203 (1086 + 782 * p + 2 + j) = some (70 + p, j / 4, j % 4) := by decide +kernel
theorem zq_kwrd : ∀ p, p < 4 → ∀ j, j < 260 → zdk 203 (1086 + 782 * p + 522 + j) = some (74 + p, j / 2, j % 2) := by decide +kernel
theorem zd_kstp {p i c : Nat} (hp : p < 4) (hi : i < 130) (h : c < 4) : zdk 203 (1086 + 782 * p + 2 + 4 * i + c) = some ((70 + p), i, c) := by rw [Nat.add_assoc (1086 + 782 * p + 2), zq_kstp p hp _ (by omega), show (4 * i + c) / 4 = i by omega, show (4 * i + c) % 4 = c by omega]
theorem zg_kstp (C : zCt) {p i c : Nat} (hp : p < 4) (hi : i < 130) (h : c < 4) : zI C 203 (1086 + 782 * p + 2 + 4 * i + c) = C (70 + p) i c := zI_get (zd_kstp hp hi h)
theorem zu_kstp (C : zCt) {p i c : Nat} (hp : p < 4) (hi : i < 130) (h : c < 4) (v : Int32) : zup (zI C) 203 (1086 + 782 * p + 2 + 4 * i + c) v = zI (zcs C (70 + p) (zup (C (70 + p)) i c v)) := zI_put (zd_kstp hp hi h)
theorem zd_kwrd {p i c : Nat} (hp : p < 4) (hi : i < 130) (h : c < 2) : zdk 203 (1086 + 782 * p + 522 + 2 * i + c) = some ((74 + p), i, c) := by rw [Nat.add_assoc (1086 + 782 * p + 522), zq_kwrd p hp _ (by omega), show (2 * i + c) / 2 = i by omega, show (2 * i + c) % 2 = c by omega]
theorem zg_kwrd (C : zCt) {p i c : Nat} (hp : p < 4) (hi : i < 130) (h : c < 2) : zI C 203 (1086 + 782 * p + 522 + 2 * i + c) = C (74 + p) i c := zI_get (zd_kwrd hp hi h)
theorem zu_kwrd (C : zCt) {p i c : Nat} (hp : p < 4) (hi : i < 130) (h : c < 2) (v : Int32) : zup (zI C) 203 (1086 + 782 * p + 522 + 2 * i + c) v = zI (zcs C (74 + p) (zup (C (74 + p)) i c v)) := zI_put (zd_kwrd hp hi h)
theorem zL_add (n a : Nat) : (OfNat.ofNat n : Int32) + nI a = nI (n + a) := nI_add n a
theorem zL_add2 (n a : Nat) : nI a + (OfNat.ofNat n : Int32) = nI (a + n) := nI_add a n
theorem zL_mul (n a : Nat) : (OfNat.ofNat n : Int32) * nI a = nI (n * a) := (Int32.ofNat_mul n a).symm
theorem zL_mul2 (n a : Nat) : nI a * (OfNat.ofNat n : Int32) = nI (a * n) := (Int32.ofNat_mul a n).symm
theorem zix_n {n : Nat} (h : n < 2147483648) : zix (nI n) = n := nI_clamp h
theorem zix_l {n : Nat} (h : n < 2147483648) : zix (OfNat.ofNat n : Int32) = n := nI_clamp h
theorem zinb_n {n m : Nat} (h : n < m) (hm : n < 2147483648) : zinb (nI n) m = true := by
  unfold zinb
  rw [zix_n hm, decide_eq_true (nI_pos hm), decide_eq_true h]
  rfl
theorem zinb_l {n m : Nat} (h : n < m) (hm : n < 2147483648) : zinb (OfNat.ofNat n : Int32) m = true := zinb_n h hm
theorem zI_eqb (p : Prop) [Decidable p] : ((if p then (1 : Int32) else 0) = 0) = ¬ p := by
  by_cases h : p
  · rw [if_pos h]; exact propext ⟨fun e => absurd e (by decide), fun e => absurd h e⟩
  · rw [if_neg h]; exact propext ⟨fun _ => h, fun _ => rfl⟩
theorem zbool_i (p : Prop) [Decidable p] : zbool (if p then (1 : Int32) else 0) = true := by
  by_cases h : p
  · rw [if_pos h]; rfl
  · rw [if_neg h]; rfl
