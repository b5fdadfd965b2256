/-! THE PROGRAM: S in the model (1), printed by wip/gen/pub75.py -/
def zbx (T : Nat → Nat) (x : zLx) : Prop := x.2.2 = 5 ∨ zsgn T x / 10 = 3
/-- an E of the model from its beginning -/
theorem MX_in (d L p0 p2 r2 r3 s4 : Nat) (C : zCt) {T : Nat → Nat} {n j : Nat} {x : zLx} (h : zPM T n C x) (hj : C 401 0 14 = nI j) (hjx : j ≤ x.1) (h120 : x.1 ≤ 120) : ∃ C1, zR (d + 6) 192 0 [.ref 201, zmk, zmk, zmk] [] (zZ L, zI C, zPd p0 p2 r2 r3 s4) = zR (d + 6) 192 19 [.ref 201, .int 1, .int 1, zmk] [] (zZ L, zI C1, zPd p0 p2 r2 r3 s4) ∧ zME T n C1 x 0 0 [] j ∧ zFE j C C1 := by
  refine ⟨zcs C 401 (zup (zup (zup (C 401) 0 21 0) 0 22 0) 0 23 0), ?_, ⟨?_, ⟨?_, ?_, ?_, trivial, ?_, ?_⟩, ?_⟩, ?_⟩
  · rw [e192_0]
    simp +decide (disch := omega) only [zpre, ite_self, Nat.reduceAdd, zs1, zs2, zs3, zI_eqb, and_self, not_true_eq_false, if_true, if_false, ite_true, ite_false, not_false_eq_true, zBP, zBZ, zisO, zisA, zlen, decide_true, decide_false, Bool.and_self, Bool.and_true, Bool.true_and, cond_true, cond_false, zBG, zBR, zBU, zBV, zinb_n, zix_n, zlA, zlB, zlM, zlN, zlX, zlI, nI_add, Nat.add_eq_zero_iff, false_and, and_false, and_true, true_and, true_or, or_true, false_or, or_false, zbool_i, zb0, zb1, zshp_0, zcs_eq, zcs_n, zcs_cs, zup_g, zup_n, zg_srock2, zg_stug2, zg_ssun, zg_ssun0, zg_srock, zg_srock0, zg_stug, zg_stug0, zg_sord, zg_sord0, zg_srep, zg_srep0, zg_scla, zg_scla0, zg_scon, zg_scon0, zg_swin, zg_swin0, zg_sleg, zg_sleg0, zg_spro, zg_sstp, zg_swrd, zu_srock2, zu_stug2, zu_ssun, zu_ssun0, zu_srock, zu_srock0, zu_stug, zu_stug0, zu_sord, zu_sord0, zu_srep, zu_srep0, zu_scla, zu_scla0, zu_scon, zu_scon0, zu_swin, zu_swin0, zu_sleg, zu_sleg0, zu_spro, zu_sstp, zu_swrd]
  · unfold zPM zMT at *
    rw [zcs_eq, zcs_n _ _ (by decide)]
    simp (disch := omega) only [zup_n]
    exact h
  · rw [zcs_eq, zup_n _ _ (by omega), zup_g]; rfl
  · rw [zcs_eq, zup_g]; rfl
  · rw [zcs_eq, zup_n _ _ (by omega), zup_n _ _ (by omega), zup_g]; rfl
  · rw [zcs_eq]
    simp (disch := omega) only [zup_n]
    exact hj
  · simp only [List.length_nil]; omega
  · simp only [List.length_nil]; omega
  · exact ⟨fun g a _ _ => by rw [zcs_n _ _ a], fun f _ _ _ _ _ _ a7 a8 a9 => by rw [zcs_eq, zup_n _ _ (by omega), zup_n _ _ (by omega), zup_n _ _ (by omega)], fun i _ => by rw [zcs_n _ _ (by decide)]⟩
theorem MX_t (d L p0 p2 r2 r3 s4 : Nat) (C : zCt) {T : Nat → Nat} {n j : Nat} {x x' : zLx} {ws : List (Int32 × Int32)} (h : zPM T n C x) (hj : C 401 0 14 = nI j) (hjx : j ≤ x.1) (h120 : x.1 ≤ 120) (hk' : zTk T n x') (hq : zQt L p0 p2 r2 r3 s4 T n 0 x 0 0 ws x') (hns : zns_ T 1 x') : (zbx T x' ∧ ∃ C', zR (d + 6) 192 0 [.ref 201, zmk, zmk, zmk] [] (zZ L, zI C, zPd p0 p2 r2 r3 s4) = some (none, (zZ L, zI C', zPd p0 p2 r2 r3 s4)) ∧ zBd C C' x'.1) ∨ (x'.2.2 ≠ 5 ∧ ∃ C', zR (d + 6) 192 0 [.ref 201, zmk, zmk, zmk] [] (zZ L, zI C, zPd p0 p2 r2 r3 s4) = some (none, (zZ L, zI C', zPd p0 p2 r2 r3 s4)) ∧ zPM T n C' x' ∧ C' 401 0 14 = nI (j + ws.length) ∧ zmr (C' 406 0) j ws ∧ zFE j C C') := by
  obtain ⟨C1, t1, m1, f1⟩ := MX_in d L p0 p2 r2 r3 s4 C h hj hjx h120
  rcases hq d C1 [] j zmk m1 (fun a r e => absurd e (by simp)) with ⟨e5, C', y1, y2⟩ | ⟨e5, C2, P, w1, v', y1, y2, y3, y4, y5, y6, y7⟩
  · exact Or.inl ⟨Or.inl e5, C', t1.trans y1, zBd_t f1 y2⟩
  rcases zsgn_0 hns with hz | hz
  · obtain ⟨C3, z1, z2, z3, z4⟩ := M19_end d L p0 p2 r2 r3 s4 T n C2 x' 0 P (j + w1.length) v' hk' y2 (fun o ho => (y6 o ho).1) hz
    refine Or.inr ⟨e5, C3, t1.trans (y1.trans z1), z2.1, ?_, ?_, zFE_t f1 (zFE_t y3 z3 (by omega)) (Nat.le_refl _)⟩
    · rw [z2.2.1.2.2.2.2.1, y5, List.length_append, List.length_map]
      congr 1
      omega
    · rw [y5]
      exact zmr_app.mpr ⟨zmr_c (fun i _ hi => z3.2.2 i (by omega)) y4, z4⟩
  · obtain ⟨C3, z1, z2⟩ := M19_test d L p0 p2 r2 r3 s4 T n C2 x' 0 0 P [] (j + w1.length) v' hk' y2 (fun o ho => (y6 o ho).1) hz (y7 (by omega))
    exact Or.inl ⟨Or.inr hz, C3, t1.trans (y1.trans z1), zBd_t f1 (zBd_t y3 z2)⟩
theorem MX_f (d L p0 p2 r2 r3 s4 : Nat) (C : zCt) {T : Nat → Nat} {n j : Nat} {x x' : zLx} (h : zPM T n C x) (hj : C 401 0 14 = nI j) (hjx : j ≤ x.1) (h120 : x.1 ≤ 120) (hq : zQf L p0 p2 r2 r3 s4 T n 0 x 0 0 x') : ∃ C', zR (d + 6) 192 0 [.ref 201, zmk, zmk, zmk] [] (zZ L, zI C, zPd p0 p2 r2 r3 s4) = some (none, (zZ L, zI C', zPd p0 p2 r2 r3 s4)) ∧ zBd C C' x'.1 := by
  obtain ⟨C1, t1, m1, f1⟩ := MX_in d L p0 p2 r2 r3 s4 C h hj hjx h120
  obtain ⟨C', y1, y2⟩ := hq d C1 [] j zmk m1 (fun a r e => absurd e (by simp))
  exact ⟨C', t1.trans y1, zBd_t f1 y2⟩
theorem MX_b (d L p0 p2 r2 r3 s4 : Nat) (C : zCt) (h : C 401 0 10 = 1) : ∃ C', zR (d + 6) 192 0 [.ref 201, zmk, zmk, zmk] [] (zZ L, zI C, zPd p0 p2 r2 r3 s4) = some (none, (zZ L, zI C', zPd p0 p2 r2 r3 s4)) ∧ (∀ g, g ≠ 401 → C' g = C g) ∧ ∀ f, f ≠ 21 → f ≠ 22 → f ≠ 23 → C' 401 0 f = C 401 0 f := by
  refine ⟨zcs C 401 (zup (zup (zup (C 401) 0 21 0) 0 22 0) 0 23 0), ?_, fun g a => by rw [zcs_n _ _ a], fun f a b c => by rw [zcs_eq, zup_n _ _ (by omega), zup_n _ _ (by omega), zup_n _ _ (by omega)]⟩
  have t := M19_bad d L p0 p2 r2 r3 s4 (zcs C 401 (zup (zup (zup (C 401) 0 21 0) 0 22 0) 0 23 0)) (by rw [zcs_eq, zup_n _ _ (by omega), zup_n _ _ (by omega), zup_n _ _ (by omega)]; exact h) 1 zmk
  rw [e192_0]
  simp +decide (disch := omega) only [t, zpre, ite_self, Nat.reduceAdd, zs1, zs2, zs3, zI_eqb, and_self, not_true_eq_false, if_true, if_false, ite_true, ite_false, not_false_eq_true, zBP, zBZ, zisO, zisA, zlen, decide_true, decide_false, Bool.and_self, Bool.and_true, Bool.true_and, cond_true, cond_false, zBG, zBR, zBU, zBV, zinb_n, zix_n, zlA, zlB, zlM, zlN, zlX, zlI, nI_add, Nat.add_eq_zero_iff, false_and, and_false, and_true, true_and, true_or, or_true, false_or, or_false, zbool_i, zb0, zb1, zshp_0, zcs_eq, zcs_n, zcs_cs, zup_g, zup_n, zg_srock2, zg_stug2, zg_ssun, zg_ssun0, zg_srock, zg_srock0, zg_stug, zg_stug0, zg_sord, zg_sord0, zg_srep, zg_srep0, zg_scla, zg_scla0, zg_scon, zg_scon0, zg_swin, zg_swin0, zg_sleg, zg_sleg0, zg_spro, zg_sstp, zg_swrd, zu_srock2, zu_stug2, zu_ssun, zu_ssun0, zu_srock, zu_srock0, zu_stug, zu_stug0, zu_sord, zu_sord0, zu_srep, zu_srep0, zu_scla, zu_scla0, zu_scon, zu_scon0, zu_swin, zu_swin0, zu_sleg, zu_sleg0, zu_spro, zu_sstp, zu_swrd]
def zsp (C : zCt) (N : Nat) (o a b c : Int32) : zCt := zcs (zcs C 405 (zup (zup (zup (zup (C 405) 0 (4 * N) o) 0 (4 * N + 1) a) 0 (4 * N + 2) b) 0 (4 * N + 3) c)) 401 (zup (C 401) 0 13 (nI (N + 1)))
theorem M185 (d L p0 p2 r2 r3 s4 : Nat) (C : zCt) {N : Nat} (hN : N < 130) (h : C 401 0 13 = nI N) (o a b c : Int32) : zR d 185 0 [.ref 201, .int o, .int a, .int b, .int c] [] (zZ L, zI C, zPd p0 p2 r2 r3 s4) = some (none, (zZ L, zI (zsp C N o a b c), zPd p0 p2 r2 r3 s4)) := by
  unfold zsp
  simp +decide (disch := omega) only [e185_0, h, zpre, ite_self, Nat.reduceAdd, zs1, zs2, zs3, zI_eqb, and_self, not_true_eq_false, if_true, if_false, ite_true, ite_false, not_false_eq_true, zBP, zBZ, zisO, zisA, zlen, decide_true, decide_false, Bool.and_self, Bool.and_true, Bool.true_and, cond_true, cond_false, zBG, zBR, zBU, zBV, zinb_n, zix_n, zlA, zlB, zlM, zlN, zlX, zlI, nI_add, Nat.add_eq_zero_iff, false_and, and_false, and_true, true_and, true_or, or_true, false_or, or_false, zbool_i, zb0, zb1, zshp_0, zcs_eq, zcs_n, zcs_cs, zup_g, zup_n, zg_srock2, zg_stug2, zg_ssun, zg_ssun0, zg_srock, zg_srock0, zg_stug, zg_stug0, zg_sord, zg_sord0, zg_srep, zg_srep0, zg_scla, zg_scla0, zg_scon, zg_scon0, zg_swin, zg_swin0, zg_sleg, zg_sleg0, zg_spro, zg_sstp, zg_swrd, zu_srock2, zu_stug2, zu_ssun, zu_ssun0, zu_srock, zu_srock0, zu_stug, zu_stug0, zu_sord, zu_sord0, zu_srep, zu_srep0, zu_scla, zu_scla0, zu_scon, zu_scon0, zu_swin, zu_swin0, zu_sleg, zu_sleg0, zu_spro, zu_sstp, zu_swrd]
def zgs (S W : Nat → Int32) : Nat → Nat → List zUn → Prop
  | _, _, [] => True
  | N, j, u :: G => (S (4 * N) = u.2.1.1 ∧ S (4 * N + 1) = u.2.1.2.1 ∧ S (4 * N + 2) = u.2.1.2.2.1 ∧ S (4 * N + 3) = u.2.1.2.2.2) ∧ zmr W j u.1 ∧ zgs S W (N + 1) (j + u.1.length) G
theorem zgs_c {S W S' W' : Nat → Int32} : ∀ {G : List zUn} {N j : Nat}, (∀ i, 4 * N ≤ i → i < 4 * (N + G.length) → S' i = S i) → (∀ i, 2 * j ≤ i → i < 2 * (j + zwc G) → W' i = W i) → zgs S W N j G → zgs S' W' N j G := by
  intro G
  induction G with
  | nil => intro N j _ _ _; trivial
  | cons u r IH =>
    intro N j h1 h2 h
    obtain ⟨⟨k1, k2, k3, k4⟩, k5, k6⟩ := h
    simp only [List.length_cons, zwc] at h1 h2
    exact ⟨⟨(h1 _ (by omega) (by omega)).trans k1, (h1 _ (by omega) (by omega)).trans k2, (h1 _ (by omega) (by omega)).trans k3, (h1 _ (by omega) (by omega)).trans k4⟩, zmr_c (fun i hi hi2 => h2 i hi (by omega)) k5, IH (fun i hi hi2 => h1 i (by omega) (by omega)) (fun i hi hi2 => h2 i (by omega) (by omega)) k6⟩
theorem zgs_app {S W : Nat → Int32} : ∀ {a b : List zUn} {N j : Nat}, zgs S W N j (a ++ b) ↔ zgs S W N j a ∧ zgs S W (N + a.length) (j + zwc a) b := by
  intro a
  induction a with
  | nil => intro b N j; exact ⟨fun h => ⟨trivial, h⟩, fun h => h.2⟩
  | cons u r IH =>
    intro b N j
    have e1 : N + 1 + r.length = N + (u :: r).length := by simp only [List.length_cons]; omega
    have e2 : j + u.1.length + zwc r = j + zwc (u :: r) := by simp only [zwc]; omega
    constructor
    · rintro ⟨h1, h2, h4⟩
      have := IH.mp h4
      rw [e1, e2] at this
      exact ⟨⟨h1, h2, this.1⟩, this.2⟩
    · rintro ⟨⟨h1, h2, h4⟩, h5⟩
      rw [← e1, ← e2] at h5
      exact ⟨h1, h2, IH.mpr ⟨h4, h5⟩⟩
def zbk (f g : Nat → Int32) : List (Nat × Nat) → Prop
  | [] => True
  | q :: r => f r.length = nI q.1 ∧ g r.length = nI q.2 ∧ zbk f g r
def zMS (T : Nat → Nat) (n : Nat) (C : zCt) (x : zLx) (N j t : Nat) (B : List (Nat × Nat)) (sm : Int32) : Prop := zPM T n C x ∧ C 401 0 13 = nI N ∧ C 401 0 14 = nI j ∧ C 401 0 15 = nI t ∧ C 401 0 18 = nI B.length ∧ B.length ≤ 4 ∧ zbk (C 407 0) (C 408 0) B ∧ C 401 0 19 = sm ∧ N + j ≤ x.1
def zFS (N j : Nat) (C C' : zCt) : Prop := (∀ g, g ≠ 401 → g ≠ 405 → g ≠ 406 → g ≠ 407 → g ≠ 408 → g ≠ 409 → C' g = C g) ∧ (∀ f, f ≠ 5 → f ≠ 6 → f ≠ 8 → f ≠ 9 → f ≠ 10 → f ≠ 13 → f ≠ 14 → f ≠ 15 → f ≠ 18 → f ≠ 19 → f ≠ 21 → f ≠ 22 → f ≠ 23 → C' 401 0 f = C 401 0 f) ∧ (∀ i, i < 4 * N → C' 405 0 i = C 405 0 i) ∧ ∀ i, i < 2 * j → C' 406 0 i = C 406 0 i
theorem zFS_t {N j N' j' : Nat} {A B C : zCt} (h1 : zFS N j A B) (h2 : zFS N' j' B C) (hN : N ≤ N') (hj : j ≤ j') : zFS N j A C := ⟨fun g a b c d e k => (h2.1 g a b c d e k).trans (h1.1 g a b c d e k), fun f a0 a1 a2 a3 a4 a5 a6 a7 a8 a9 a10 a11 a12 => (h2.2.1 f a0 a1 a2 a3 a4 a5 a6 a7 a8 a9 a10 a11 a12).trans (h1.2.1 f a0 a1 a2 a3 a4 a5 a6 a7 a8 a9 a10 a11 a12), fun i hi => (h2.2.2.1 i (by omega)).trans (h1.2.2.1 i hi), fun i hi => (h2.2.2.2 i (by omega)).trans (h1.2.2.2 i hi)⟩
theorem zFS_E {N j : Nat} {C C' : zCt} (h : zFE j C C') : zFS N j C C' := ⟨fun g a b c d e k => h.1 g a c k, fun f a0 a1 a2 a3 a4 a5 a6 a7 a8 a9 a10 a11 a12 => h.2.1 f a0 a1 a2 a3 a4 a6 a10 a11 a12, fun i _ => by rw [h.1 405 (by decide) (by decide) (by decide)], h.2.2⟩
theorem zFS_4 {N j : Nat} {C : zCt} {F : zGp} (h : ∀ f, f ≠ 5 → f ≠ 6 → f ≠ 8 → f ≠ 9 → f ≠ 10 → f ≠ 13 → f ≠ 14 → f ≠ 15 → f ≠ 18 → f ≠ 19 → f ≠ 21 → f ≠ 22 → f ≠ 23 → F 0 f = C 401 0 f) : zFS N j C (zcs C 401 F) := ⟨fun g a _ _ _ _ _ => by rw [zcs_n _ _ a], fun f a0 a1 a2 a3 a4 a5 a6 a7 a8 a9 a10 a11 a12 => by rw [zcs_eq]; exact h f a0 a1 a2 a3 a4 a5 a6 a7 a8 a9 a10 a11 a12, fun i _ => by rw [zcs_n _ _ (by decide)], fun i _ => by rw [zcs_n _ _ (by decide)]⟩
theorem zFS_st {N j : Nat} {C : zCt} {o a b c : Int32} : zFS N j C (zsp C N o a b c) := by
  unfold zsp
  refine ⟨fun g a b _ _ _ _ => by rw [zcs_n _ _ a, zcs_n _ _ b], fun f a0 a1 a2 a3 a4 a5 a6 a7 a8 a9 a10 a11 a12 => by rw [zcs_eq, zup_n _ _ (by omega)], fun i hi => ?_, fun i _ => by rw [zcs_n _ _ (by decide), zcs_n _ _ (by decide)]⟩
  rw [zcs_n _ _ (by decide), zcs_eq, zup_n _ _ (by omega), zup_n _ _ (by omega), zup_n _ _ (by omega), zup_n _ _ (by omega)]
theorem zsp_s {N : Nat} {C : zCt} {o a b c : Int32} : zsp C N o a b c 405 0 (4 * N) = o ∧ zsp C N o a b c 405 0 (4 * N + 1) = a ∧ zsp C N o a b c 405 0 (4 * N + 2) = b ∧ zsp C N o a b c 405 0 (4 * N + 3) = c := by
  unfold zsp
  rw [zcs_n _ _ (by decide), zcs_eq]
  simp (disch := omega) only [zup_g, zup_n, and_self]
theorem zsp_g {N g : Nat} {C : zCt} {o a b c : Int32} (h1 : g ≠ 401) (h2 : g ≠ 405) : zsp C N o a b c g = C g := by unfold zsp; rw [zcs_n _ _ h1, zcs_n _ _ h2]
theorem zsp_f {N f : Nat} {C : zCt} {o a b c : Int32} (h : f ≠ 13) : zsp C N o a b c 401 0 f = C 401 0 f := by unfold zsp; rw [zcs_eq, zup_n _ _ (by omega)]
theorem zsp_13 {N : Nat} {C : zCt} {o a b c : Int32} : zsp C N o a b c 401 0 13 = nI (N + 1) := by unfold zsp; rw [zcs_eq, zup_g]
def zBm (C C' : zCt) (f : Nat) : Prop := C' 401 0 10 = 1 ∧ C' 401 0 9 = nI f ∧ zFS 0 0 C C'
theorem zBm_t {N j : Nat} {A B C : zCt} {f : Nat} (h1 : zFS N j A B) (h2 : zBm B C f) : zBm A C f := ⟨h2.1, h2.2.1, zFS_t (zFS_t h1 (show zFS N j B B from ⟨fun _ _ _ _ _ _ _ => rfl, fun _ _ _ _ _ _ _ _ _ _ _ _ _ _ => rfl, fun _ _ => rfl, fun _ _ => rfl⟩) (Nat.le_refl _) (Nat.le_refl _) |> fun q => ⟨q.1, q.2.1, fun i hi => absurd hi (by omega), fun i hi => absurd hi (by omega)⟩) h2.2.2 (Nat.le_refl _) (Nat.le_refl _)⟩
theorem zBm_d {C C' : zCt} {f : Nat} (h : zBd C C' f) : zBm C C' f := ⟨h.1, h.2.1, zFS_E h.2.2.1⟩

