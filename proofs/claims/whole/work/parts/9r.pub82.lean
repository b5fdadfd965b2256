/-! THE PROGRAM: S in the model (8): S with blocks, printed by wip/gen/pub82.py -/
theorem P_ifbf (L p0 p2 r2 r3 s4 : Nat) (T : Nat → Nat) (n : Nat) (x : zLx) (be N j : Nat) (hk : zTk T n x) (hV : zV T x = zWK 12) (hx5 : (zadv T n x).2.2 ≠ 5) {ws : List (Int32 × Int32)} {x2 : zLx} (hk2 : zTk T n x2) (hroom : (zadv T n x).1 + ws.length ≤ x2.1) (hq : zQt L p0 p2 r2 r3 s4 T n 0 (zadv T n x) 0 0 ws x2) (hns : zns_ T 1 x2) (h123 : zisg T x2 123) (hbe4 : be < 4) {x4 : zLx} (hY : zYf L p0 p2 r2 r3 s4 T n 0 (zadv T n x2) (be + 1) (N + 1) (j + ws.length) x4) : zPf L p0 p2 r2 r3 s4 T n x be N j x4 := by
  intro d C t B sm hbe hC hsm
  obtain ⟨C1, e1, m1, f1, c1', w1⟩ := O_ift L p0 p2 r2 r3 s4 T n x be N j hk hV hx5 hk2 hroom hq hns h123 hbe4 d C t B sm hbe hC hsm
  obtain ⟨C2, e2, b2⟩ := hY d C1 (t + 1) ((0, N) :: B) (by rw [List.length_cons, hbe]) m1
  exact ⟨C2, e1.trans e2, zBm_t f1 b2⟩
theorem P_ifbn (L p0 p2 r2 r3 s4 : Nat) (T : Nat → Nat) (n : Nat) (x : zLx) (be N j : Nat) (hk : zTk T n x) (hV : zV T x = zWK 12) (hx5 : (zadv T n x).2.2 ≠ 5) {ws : List (Int32 × Int32)} {x2 : zLx} (hk2 : zTk T n x2) (hroom : (zadv T n x).1 + ws.length ≤ x2.1) (hq : zQt L p0 p2 r2 r3 s4 T n 0 (zadv T n x) 0 0 ws x2) (hns : zns_ T 1 x2) (h123 : zisg T x2 123) (hbe4 : be < 4) {G1 : List zUn} {c1 : Nat} {x4 : zLx} (hk4 : zTk T n x4) (hY : zYt L p0 p2 r2 r3 s4 T n 0 (zadv T n x2) (be + 1) (N + 1) (j + ws.length) G1 c1 x4) (h0 : x4.2.2 = 0) : zPf L p0 p2 r2 r3 s4 T n x be N j x4 := by
  intro d C t B sm hbe hC hsm
  obtain ⟨C1, e1, m1, f1, c1', w1⟩ := O_ift L p0 p2 r2 r3 s4 T n x be N j hk hV hx5 hk2 hroom hq hns h123 hbe4 d C t B sm hbe hC hsm
  obtain ⟨C2, e2, m2, f2, g2⟩ := hY d C1 (t + 1) ((0, N) :: B) (by rw [List.length_cons, hbe]) m1
  obtain ⟨C3, e3, b3⟩ := P_end d L p0 p2 r2 r3 s4 C2 hk4 m2 (Or.inl ⟨h0, List.cons_ne_nil _ _⟩)
  exact ⟨C3, (e1.trans e2).trans e3, zBm_t (zFS_t f1 f2 (by omega) (by omega)) b3⟩

theorem P_whilebf (L p0 p2 r2 r3 s4 : Nat) (T : Nat → Nat) (n : Nat) (x : zLx) (be N j : Nat) (hk : zTk T n x) (hV : zV T x = zWK 13) (hx5 : (zadv T n x).2.2 ≠ 5) {ws : List (Int32 × Int32)} {x2 : zLx} (hk2 : zTk T n x2) (hroom : (zadv T n x).1 + ws.length ≤ x2.1) (hq : zQt L p0 p2 r2 r3 s4 T n 0 (zadv T n x) 0 0 ws x2) (hns : zns_ T 1 x2) (h123 : zisg T x2 123) (hbe4 : be < 4) {x4 : zLx} (hY : zYf L p0 p2 r2 r3 s4 T n 0 (zadv T n x2) (be + 1) (N + 1) (j + ws.length) x4) : zPf L p0 p2 r2 r3 s4 T n x be N j x4 := by
  intro d C t B sm hbe hC hsm
  obtain ⟨C1, e1, m1, f1, c1', w1⟩ := O_whilet L p0 p2 r2 r3 s4 T n x be N j hk hV hx5 hk2 hroom hq hns h123 hbe4 d C t B sm hbe hC hsm
  obtain ⟨C2, e2, b2⟩ := hY d C1 (t + 1) ((2, N) :: B) (by rw [List.length_cons, hbe]) m1
  exact ⟨C2, e1.trans e2, zBm_t f1 b2⟩
theorem P_whilebn (L p0 p2 r2 r3 s4 : Nat) (T : Nat → Nat) (n : Nat) (x : zLx) (be N j : Nat) (hk : zTk T n x) (hV : zV T x = zWK 13) (hx5 : (zadv T n x).2.2 ≠ 5) {ws : List (Int32 × Int32)} {x2 : zLx} (hk2 : zTk T n x2) (hroom : (zadv T n x).1 + ws.length ≤ x2.1) (hq : zQt L p0 p2 r2 r3 s4 T n 0 (zadv T n x) 0 0 ws x2) (hns : zns_ T 1 x2) (h123 : zisg T x2 123) (hbe4 : be < 4) {G1 : List zUn} {c1 : Nat} {x4 : zLx} (hk4 : zTk T n x4) (hY : zYt L p0 p2 r2 r3 s4 T n 0 (zadv T n x2) (be + 1) (N + 1) (j + ws.length) G1 c1 x4) (h0 : x4.2.2 = 0) : zPf L p0 p2 r2 r3 s4 T n x be N j x4 := by
  intro d C t B sm hbe hC hsm
  obtain ⟨C1, e1, m1, f1, c1', w1⟩ := O_whilet L p0 p2 r2 r3 s4 T n x be N j hk hV hx5 hk2 hroom hq hns h123 hbe4 d C t B sm hbe hC hsm
  obtain ⟨C2, e2, m2, f2, g2⟩ := hY d C1 (t + 1) ((2, N) :: B) (by rw [List.length_cons, hbe]) m1
  obtain ⟨C3, e3, b3⟩ := P_end d L p0 p2 r2 r3 s4 C2 hk4 m2 (Or.inl ⟨h0, List.cons_ne_nil _ _⟩)
  exact ⟨C3, (e1.trans e2).trans e3, zBm_t (zFS_t f1 f2 (by omega) (by omega)) b3⟩

/-- if, and no else -/
theorem P_ift (L p0 p2 r2 r3 s4 : Nat) (T : Nat → Nat) (n : Nat) (x : zLx) (be N j : Nat) (hk : zTk T n x) (hV : zV T x = zWK 12) (hx5 : (zadv T n x).2.2 ≠ 5) {ws : List (Int32 × Int32)} {x2 : zLx} (hk2 : zTk T n x2) (hroom : (zadv T n x).1 + ws.length ≤ x2.1) (hq : zQt L p0 p2 r2 r3 s4 T n 0 (zadv T n x) 0 0 ws x2) (hns : zns_ T 1 x2) (h123 : zisg T x2 123) (hbe4 : be < 4) {G1 : List zUn} {c1 : Nat} {x4 : zLx} (hk4 : zTk T n x4) (hY : zYt L p0 p2 r2 r3 s4 T n 0 (zadv T n x2) (be + 1) (N + 1) (j + ws.length) G1 c1 x4) (h125 : zisg T x4 125) (hV4 : zV T (zadv T n x4) ≠ zWK 14) (row : Int32 × Int32) : zPt L p0 p2 r2 r3 s4 T n x be N j ((ws, (13, nI j, nI (j + ws.length), nI (N + 1 + G1.length)), row) :: G1) (1 + c1) (zadv T n x4) := by
  intro d C t B sm hbe hC hsm
  obtain ⟨C1, e1, m1, f1, c1', w1⟩ := O_ift L p0 p2 r2 r3 s4 T n x be N j hk hV hx5 hk2 hroom hq hns h123 hbe4 d C t B sm hbe hC hsm
  obtain ⟨C2, e2, m2, f2, g2⟩ := hY d C1 (t + 1) ((0, N) :: B) (by rw [List.length_cons, hbe]) m1
  obtain ⟨C3, e3, m3, f3, p3, q3⟩ := K_if d L p0 p2 r2 r3 s4 C2 hk4 m2 h125 (by omega) hV4
  have cells : C3 405 0 (4 * N) = 13 ∧ C3 405 0 (4 * N + 1) = nI j ∧ C3 405 0 (4 * N + 2) = nI (j + ws.length) := ⟨by rw [p3 _ (by omega) (by omega), f2.2.2.1 _ (by omega)]; exact c1'.1, by rw [p3 _ (by omega) (by omega), f2.2.2.1 _ (by omega)]; exact c1'.2.1, by rw [p3 _ (by omega) (by omega), f2.2.2.1 _ (by omega)]; exact c1'.2.2⟩
  have wz : zmr (C3 406 0) j ws := zmr_c (fun i _ hi => by rw [f3.2.2.2 i (by omega), f2.2.2.2 i (by omega)]) w1
  have gz : zgs (C3 405 0) (C3 406 0) (N + 1) (j + ws.length) G1 := zgs_c (fun i h1 hi => p3 i (by omega) (by omega)) (fun i _ hi => f3.2.2.2 i (by omega)) g2
  have fz : zFS N j C C3 := zFS_t f1 (zFS_t (zFS_w f2 (Nat.le_succ N) (Nat.le_refl _)) (zFS_w f3 (Nat.le_refl N) (show j + ws.length ≤ j + ws.length + zwc G1 by omega)) (Nat.le_refl _) (Nat.le_refl _)) (Nat.le_refl _) (by omega)
  refine Or.inr ⟨zadv_n5 h125.1, C3, (e1.trans e2).trans e3, ?_, fz, ⟨cells.1, cells.2.1, cells.2.2, q3⟩, wz, gz⟩
  rw [List.length_cons, zwc, show N + (G1.length + 1) = N + 1 + G1.length by omega, show j + (ws.length + zwc G1) = j + ws.length + zwc G1 by omega, ← Nat.add_assoc]
  exact m3
theorem P_whilet (L p0 p2 r2 r3 s4 : Nat) (T : Nat → Nat) (n : Nat) (x : zLx) (be N j : Nat) (hk : zTk T n x) (hV : zV T x = zWK 13) (hx5 : (zadv T n x).2.2 ≠ 5) {ws : List (Int32 × Int32)} {x2 : zLx} (hk2 : zTk T n x2) (hroom : (zadv T n x).1 + ws.length ≤ x2.1) (hq : zQt L p0 p2 r2 r3 s4 T n 0 (zadv T n x) 0 0 ws x2) (hns : zns_ T 1 x2) (h123 : zisg T x2 123) (hbe4 : be < 4) {G1 : List zUn} {c1 : Nat} {x4 : zLx} (hk4 : zTk T n x4) (hY : zYt L p0 p2 r2 r3 s4 T n 0 (zadv T n x2) (be + 1) (N + 1) (j + ws.length) G1 c1 x4) (h125 : zisg T x4 125) (row row2 : Int32 × Int32) : zPt L p0 p2 r2 r3 s4 T n x be N j ((ws, (13, nI j, nI (j + ws.length), nI (N + 1 + G1.length + 1)), row) :: G1 ++ [(([] : List (Int32 × Int32)), ((14 : Int32), nI N, (0 : Int32), (0 : Int32)), row2)]) (1 + c1) (zadv T n x4) := by
  intro d C t B sm hbe hC hsm
  obtain ⟨C1, e1, m1, f1, c1', w1⟩ := O_whilet L p0 p2 r2 r3 s4 T n x be N j hk hV hx5 hk2 hroom hq hns h123 hbe4 d C t B sm hbe hC hsm
  obtain ⟨C2, e2, m2, f2, g2⟩ := hY d C1 (t + 1) ((2, N) :: B) (by rw [List.length_cons, hbe]) m1
  obtain ⟨C3, e3, m3, f3, p3, q3, q4⟩ := K_while d L p0 p2 r2 r3 s4 C2 hk4 m2 h125 (by omega)
  have cells : C3 405 0 (4 * N) = 13 ∧ C3 405 0 (4 * N + 1) = nI j ∧ C3 405 0 (4 * N + 2) = nI (j + ws.length) := ⟨by rw [p3 _ (by omega) (by omega), f2.2.2.1 _ (by omega)]; exact c1'.1, by rw [p3 _ (by omega) (by omega), f2.2.2.1 _ (by omega)]; exact c1'.2.1, by rw [p3 _ (by omega) (by omega), f2.2.2.1 _ (by omega)]; exact c1'.2.2⟩
  have wz : zmr (C3 406 0) j ws := zmr_c (fun i _ hi => by rw [f3.2.2.2 i (by omega), f2.2.2.2 i (by omega)]) w1
  have gz : zgs (C3 405 0) (C3 406 0) (N + 1) (j + ws.length) G1 := zgs_c (fun i h1 hi => p3 i (by omega) (by omega)) (fun i _ hi => f3.2.2.2 i (by omega)) g2
  have fz : zFS N j C C3 := zFS_t f1 (zFS_t (zFS_w f2 (Nat.le_succ N) (Nat.le_refl _)) (zFS_w f3 (Nat.le_refl N) (show j + ws.length ≤ j + ws.length + zwc G1 by omega)) (Nat.le_refl _) (Nat.le_refl _)) (Nat.le_refl _) (by omega)
  refine Or.inr ⟨zadv_n5 h125.1, C3, (e1.trans e2).trans e3, ?_, fz, ⟨cells.1, cells.2.1, cells.2.2, q3⟩, wz, zgs_app.mpr ⟨gz, q4, trivial, trivial⟩⟩
  have u1 : N + (((ws, ((13 : Int32), nI j, nI (j + ws.length), nI (N + 1 + G1.length + 1)), row) : zUn) :: G1 ++ [(([] : List (Int32 × Int32)), ((14 : Int32), nI N, (0 : Int32), (0 : Int32)), row2)]).length = N + 1 + G1.length + 1 := by rw [List.length_append, List.length_cons, List.length_cons, List.length_nil]; omega
  have u2 : j + zwc (((ws, ((13 : Int32), nI j, nI (j + ws.length), nI (N + 1 + G1.length + 1)), row) : zUn) :: G1 ++ [(([] : List (Int32 × Int32)), ((14 : Int32), nI N, (0 : Int32), (0 : Int32)), row2)]) = j + ws.length + zwc G1 := by rw [zwc_app]; show j + (ws.length + zwc G1 + (0 + 0)) = _; omega
  rw [u1, u2, ← Nat.add_assoc]
  exact m3

theorem P_ifeb (L p0 p2 r2 r3 s4 : Nat) (T : Nat → Nat) (n : Nat) (x : zLx) (be N j : Nat) (hk : zTk T n x) (hV : zV T x = zWK 12) (hx5 : (zadv T n x).2.2 ≠ 5) {ws : List (Int32 × Int32)} {x2 : zLx} (hk2 : zTk T n x2) (hroom : (zadv T n x).1 + ws.length ≤ x2.1) (hq : zQt L p0 p2 r2 r3 s4 T n 0 (zadv T n x) 0 0 ws x2) (hns : zns_ T 1 x2) (h123 : zisg T x2 123) (hbe4 : be < 4) {G1 : List zUn} {c1 : Nat} {x4 : zLx} (hk4 : zTk T n x4) (hY : zYt L p0 p2 r2 r3 s4 T n 0 (zadv T n x2) (be + 1) (N + 1) (j + ws.length) G1 c1 x4) (h125 : zisg T x4 125) (hV4 : zV T (zadv T n x4) = zWK 14) (hno : ¬ zisg T (zadv T n (zadv T n x4)) 123) : zPf L p0 p2 r2 r3 s4 T n x be N j (zadv T n (zadv T n x4)) := by
  intro d C t B sm hbe hC hsm
  obtain ⟨C1, e1, m1, f1, c1', w1⟩ := O_ift L p0 p2 r2 r3 s4 T n x be N j hk hV hx5 hk2 hroom hq hns h123 hbe4 d C t B sm hbe hC hsm
  obtain ⟨C2, e2, m2, f2, g2⟩ := hY d C1 (t + 1) ((0, N) :: B) (by rw [List.length_cons, hbe]) m1
  obtain ⟨C3, e3, b3⟩ := K_ifb d L p0 p2 r2 r3 s4 C2 hk4 m2 h125 (by omega) hV4 hno
  exact ⟨C3, (e1.trans e2).trans e3, zBm_t (zFS_t f1 f2 (by omega) (by omega)) b3⟩
theorem P_ifef (L p0 p2 r2 r3 s4 : Nat) (T : Nat → Nat) (n : Nat) (x : zLx) (be N j : Nat) (hk : zTk T n x) (hV : zV T x = zWK 12) (hx5 : (zadv T n x).2.2 ≠ 5) {ws : List (Int32 × Int32)} {x2 : zLx} (hk2 : zTk T n x2) (hroom : (zadv T n x).1 + ws.length ≤ x2.1) (hq : zQt L p0 p2 r2 r3 s4 T n 0 (zadv T n x) 0 0 ws x2) (hns : zns_ T 1 x2) (h123 : zisg T x2 123) (hbe4 : be < 4) {G1 : List zUn} {c1 : Nat} {x4 : zLx} (hk4 : zTk T n x4) (hY : zYt L p0 p2 r2 r3 s4 T n 0 (zadv T n x2) (be + 1) (N + 1) (j + ws.length) G1 c1 x4) (h125 : zisg T x4 125) (hV4 : zV T (zadv T n x4) = zWK 14) (hyes : zisg T (zadv T n (zadv T n x4)) 123) {x7 : zLx} (hZ : zYf L p0 p2 r2 r3 s4 T n 0 (zadv T n (zadv T n (zadv T n x4))) (be + 1) (N + 1 + G1.length + 1) (j + ws.length + zwc G1) x7) : zPf L p0 p2 r2 r3 s4 T n x be N j x7 := by
  intro d C t B sm hbe hC hsm
  obtain ⟨C1, e1, m1, f1, c1', w1⟩ := O_ift L p0 p2 r2 r3 s4 T n x be N j hk hV hx5 hk2 hroom hq hns h123 hbe4 d C t B sm hbe hC hsm
  obtain ⟨C2, e2, m2, f2, g2⟩ := hY d C1 (t + 1) ((0, N) :: B) (by rw [List.length_cons, hbe]) m1
  obtain ⟨C3, e3, m3, f3, p3, q3, q4⟩ := K_ife d L p0 p2 r2 r3 s4 C2 hk4 m2 h125 (by omega) hV4 hyes
  have cells : C3 405 0 (4 * N) = 13 ∧ C3 405 0 (4 * N + 1) = nI j ∧ C3 405 0 (4 * N + 2) = nI (j + ws.length) := ⟨by rw [p3 _ (by omega) (by omega), f2.2.2.1 _ (by omega)]; exact c1'.1, by rw [p3 _ (by omega) (by omega), f2.2.2.1 _ (by omega)]; exact c1'.2.1, by rw [p3 _ (by omega) (by omega), f2.2.2.1 _ (by omega)]; exact c1'.2.2⟩
  have wz : zmr (C3 406 0) j ws := zmr_c (fun i _ hi => by rw [f3.2.2.2 i (by omega), f2.2.2.2 i (by omega)]) w1
  have gz : zgs (C3 405 0) (C3 406 0) (N + 1) (j + ws.length) G1 := zgs_c (fun i h1 hi => p3 i (by omega) (by omega)) (fun i _ hi => f3.2.2.2 i (by omega)) g2
  have fz : zFS N j C C3 := zFS_t f1 (zFS_t (zFS_w f2 (Nat.le_succ N) (Nat.le_refl _)) (zFS_w f3 (Nat.le_refl N) (show j + ws.length ≤ j + ws.length + zwc G1 by omega)) (Nat.le_refl _) (Nat.le_refl _)) (Nat.le_refl _) (by omega)
  obtain ⟨C4, e4, b4⟩ := hZ d C3 (t + 1 + c1) ((1, N + 1 + G1.length) :: B) (by rw [List.length_cons, hbe]) m3
  exact ⟨C4, ((e1.trans e2).trans e3).trans e4, zBm_t fz b4⟩
theorem P_ifen (L p0 p2 r2 r3 s4 : Nat) (T : Nat → Nat) (n : Nat) (x : zLx) (be N j : Nat) (hk : zTk T n x) (hV : zV T x = zWK 12) (hx5 : (zadv T n x).2.2 ≠ 5) {ws : List (Int32 × Int32)} {x2 : zLx} (hk2 : zTk T n x2) (hroom : (zadv T n x).1 + ws.length ≤ x2.1) (hq : zQt L p0 p2 r2 r3 s4 T n 0 (zadv T n x) 0 0 ws x2) (hns : zns_ T 1 x2) (h123 : zisg T x2 123) (hbe4 : be < 4) {G1 : List zUn} {c1 : Nat} {x4 : zLx} (hk4 : zTk T n x4) (hY : zYt L p0 p2 r2 r3 s4 T n 0 (zadv T n x2) (be + 1) (N + 1) (j + ws.length) G1 c1 x4) (h125 : zisg T x4 125) (hV4 : zV T (zadv T n x4) = zWK 14) (hyes : zisg T (zadv T n (zadv T n x4)) 123) {G2 : List zUn} {c2 : Nat} {x7 : zLx} (hk7 : zTk T n x7) (hZ : zYt L p0 p2 r2 r3 s4 T n 0 (zadv T n (zadv T n (zadv T n x4))) (be + 1) (N + 1 + G1.length + 1) (j + ws.length + zwc G1) G2 c2 x7) (h0 : x7.2.2 = 0) : zPf L p0 p2 r2 r3 s4 T n x be N j x7 := by
  intro d C t B sm hbe hC hsm
  obtain ⟨C1, e1, m1, f1, c1', w1⟩ := O_ift L p0 p2 r2 r3 s4 T n x be N j hk hV hx5 hk2 hroom hq hns h123 hbe4 d C t B sm hbe hC hsm
  obtain ⟨C2, e2, m2, f2, g2⟩ := hY d C1 (t + 1) ((0, N) :: B) (by rw [List.length_cons, hbe]) m1
  obtain ⟨C3, e3, m3, f3, p3, q3, q4⟩ := K_ife d L p0 p2 r2 r3 s4 C2 hk4 m2 h125 (by omega) hV4 hyes
  have cells : C3 405 0 (4 * N) = 13 ∧ C3 405 0 (4 * N + 1) = nI j ∧ C3 405 0 (4 * N + 2) = nI (j + ws.length) := ⟨by rw [p3 _ (by omega) (by omega), f2.2.2.1 _ (by omega)]; exact c1'.1, by rw [p3 _ (by omega) (by omega), f2.2.2.1 _ (by omega)]; exact c1'.2.1, by rw [p3 _ (by omega) (by omega), f2.2.2.1 _ (by omega)]; exact c1'.2.2⟩
  have wz : zmr (C3 406 0) j ws := zmr_c (fun i _ hi => by rw [f3.2.2.2 i (by omega), f2.2.2.2 i (by omega)]) w1
  have gz : zgs (C3 405 0) (C3 406 0) (N + 1) (j + ws.length) G1 := zgs_c (fun i h1 hi => p3 i (by omega) (by omega)) (fun i _ hi => f3.2.2.2 i (by omega)) g2
  have fz : zFS N j C C3 := zFS_t f1 (zFS_t (zFS_w f2 (Nat.le_succ N) (Nat.le_refl _)) (zFS_w f3 (Nat.le_refl N) (show j + ws.length ≤ j + ws.length + zwc G1 by omega)) (Nat.le_refl _) (Nat.le_refl _)) (Nat.le_refl _) (by omega)
  obtain ⟨C4, e4, m4, f4, g4⟩ := hZ d C3 (t + 1 + c1) ((1, N + 1 + G1.length) :: B) (by rw [List.length_cons, hbe]) m3
  obtain ⟨C5, e5, b5⟩ := P_end d L p0 p2 r2 r3 s4 C4 hk7 m4 (Or.inl ⟨h0, List.cons_ne_nil _ _⟩)
  exact ⟨C5, (((e1.trans e2).trans e3).trans e4).trans e5, zBm_t (zFS_t fz f4 (by omega) (by omega)) b5⟩
theorem P_ifet (L p0 p2 r2 r3 s4 : Nat) (T : Nat → Nat) (n : Nat) (x : zLx) (be N j : Nat) (hk : zTk T n x) (hV : zV T x = zWK 12) (hx5 : (zadv T n x).2.2 ≠ 5) {ws : List (Int32 × Int32)} {x2 : zLx} (hk2 : zTk T n x2) (hroom : (zadv T n x).1 + ws.length ≤ x2.1) (hq : zQt L p0 p2 r2 r3 s4 T n 0 (zadv T n x) 0 0 ws x2) (hns : zns_ T 1 x2) (h123 : zisg T x2 123) (hbe4 : be < 4) {G1 : List zUn} {c1 : Nat} {x4 : zLx} (hk4 : zTk T n x4) (hY : zYt L p0 p2 r2 r3 s4 T n 0 (zadv T n x2) (be + 1) (N + 1) (j + ws.length) G1 c1 x4) (h125 : zisg T x4 125) (hV4 : zV T (zadv T n x4) = zWK 14) (hyes : zisg T (zadv T n (zadv T n x4)) 123) {G2 : List zUn} {c2 : Nat} {x7 : zLx} (hk7 : zTk T n x7) (hZ : zYt L p0 p2 r2 r3 s4 T n 0 (zadv T n (zadv T n (zadv T n x4))) (be + 1) (N + 1 + G1.length + 1) (j + ws.length + zwc G1) G2 c2 x7) (h7 : zisg T x7 125) (row row2 : Int32 × Int32) : zPt L p0 p2 r2 r3 s4 T n x be N j ((ws, (13, nI j, nI (j + ws.length), nI (N + 1 + G1.length + 1)), row) :: G1 ++ (([] : List (Int32 × Int32)), ((14 : Int32), nI (N + 1 + G1.length + 1 + G2.length), (0 : Int32), (0 : Int32)), row2) :: G2) (1 + (c1 + c2)) (zadv T n x7) := by
  intro d C t B sm hbe hC hsm
  obtain ⟨C1, e1, m1, f1, c1', w1⟩ := O_ift L p0 p2 r2 r3 s4 T n x be N j hk hV hx5 hk2 hroom hq hns h123 hbe4 d C t B sm hbe hC hsm
  obtain ⟨C2, e2, m2, f2, g2⟩ := hY d C1 (t + 1) ((0, N) :: B) (by rw [List.length_cons, hbe]) m1
  obtain ⟨C3, e3, m3, f3, p3, q3, q4⟩ := K_ife d L p0 p2 r2 r3 s4 C2 hk4 m2 h125 (by omega) hV4 hyes
  have cells : C3 405 0 (4 * N) = 13 ∧ C3 405 0 (4 * N + 1) = nI j ∧ C3 405 0 (4 * N + 2) = nI (j + ws.length) := ⟨by rw [p3 _ (by omega) (by omega), f2.2.2.1 _ (by omega)]; exact c1'.1, by rw [p3 _ (by omega) (by omega), f2.2.2.1 _ (by omega)]; exact c1'.2.1, by rw [p3 _ (by omega) (by omega), f2.2.2.1 _ (by omega)]; exact c1'.2.2⟩
  have wz : zmr (C3 406 0) j ws := zmr_c (fun i _ hi => by rw [f3.2.2.2 i (by omega), f2.2.2.2 i (by omega)]) w1
  have gz : zgs (C3 405 0) (C3 406 0) (N + 1) (j + ws.length) G1 := zgs_c (fun i h1 hi => p3 i (by omega) (by omega)) (fun i _ hi => f3.2.2.2 i (by omega)) g2
  have fz : zFS N j C C3 := zFS_t f1 (zFS_t (zFS_w f2 (Nat.le_succ N) (Nat.le_refl _)) (zFS_w f3 (Nat.le_refl N) (show j + ws.length ≤ j + ws.length + zwc G1 by omega)) (Nat.le_refl _) (Nat.le_refl _)) (Nat.le_refl _) (by omega)
  obtain ⟨C4, e4, m4, f4, g4⟩ := hZ d C3 (t + 1 + c1) ((1, N + 1 + G1.length) :: B) (by rw [List.length_cons, hbe]) m3
  obtain ⟨C5, e5, m5, f5, p5, q5⟩ := K_else d L p0 p2 r2 r3 s4 C4 hk7 m4 h7 (by omega)
  have k5 : ∀ i, i < 4 * (N + 1 + G1.length + 1) → i ≠ 4 * (N + 1 + G1.length) + 1 → C5 405 0 i = C3 405 0 i := fun i h1 h2 => by rw [p5 i (by omega) h2, f4.2.2.1 i h1]
  have k6 : ∀ i, i < 2 * (j + ws.length + zwc G1) → C5 406 0 i = C3 406 0 i := fun i h1 => by rw [f5.2.2.2 i (by omega), f4.2.2.2 i h1]
  have z1 : zmr (C5 406 0) j ws := zmr_c (fun i _ hi => k6 i (by omega)) wz
  have z2 : zgs (C5 405 0) (C5 406 0) (N + 1) (j + ws.length) G1 := zgs_c (fun i _ hi => k5 i (by omega) (by omega)) (fun i _ hi => k6 i (by omega)) gz
  have z3 : zgs (C5 405 0) (C5 406 0) (N + 1 + G1.length + 1) (j + ws.length + zwc G1) G2 := zgs_c (fun i _ hi => p5 i (by omega) (by omega)) (fun i _ hi => f5.2.2.2 i (by omega)) g4
  have z4 : zFS N j C C5 := zFS_t fz (zFS_t (zFS_w f4 (show N + 1 + G1.length ≤ N + 1 + G1.length + 1 by omega) (Nat.le_refl _)) (zFS_w f5 (Nat.le_refl _) (show j + ws.length + zwc G1 ≤ j + ws.length + zwc G1 + zwc G2 by omega)) (Nat.le_refl _) (Nat.le_refl _)) (by omega) (by omega)
  refine Or.inr ⟨zadv_n5 h7.1, C5, (((e1.trans e2).trans e3).trans e4).trans e5, ?_, z4, ⟨?_, ?_, ?_, ?_⟩, z1, zgs_app.mpr ⟨z2, ⟨?_, ?_, ?_, ?_⟩, trivial, z3⟩⟩
  · rw [List.length_append, List.length_cons, List.length_cons, zwc_app, zwc, zwc, show N + (G1.length + 1 + (G2.length + 1)) = N + 1 + G1.length + 1 + G2.length by omega, show j + (ws.length + zwc G1 + (([] : List (Int32 × Int32)).length + zwc G2)) = j + ws.length + zwc G1 + zwc G2 by rw [List.length_nil]; omega, show t + (1 + (c1 + c2)) = t + 1 + c1 + c2 by omega]
    exact m5
  · rw [k5 _ (by omega) (by omega)]; exact cells.1
  · rw [k5 _ (by omega) (by omega)]; exact cells.2.1
  · rw [k5 _ (by omega) (by omega)]; exact cells.2.2
  · rw [k5 _ (by omega) (by omega)]; exact q3
  · rw [k5 _ (by omega) (by omega)]; exact q4.1
  · exact q5
  · rw [k5 _ (by omega) (by omega)]; exact q4.2.2.1
  · rw [k5 _ (by omega) (by omega)]; exact q4.2.2.2

