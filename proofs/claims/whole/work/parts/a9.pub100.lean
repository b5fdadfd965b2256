/-! THE LAW: the cells behind the constructors, printed by wip/gen/pub100.py -/
def zKI : List (Nat × Nat) := [(9, 0), (9, 1), (11, 0), (11, 1), (13, 0), (13, 1), (15, 0), (15, 1), (17, 0), (17, 1), (17, 2), (85, 0), (85, 1), (87, 0), (87, 1), (89, 0), (89, 1), (91, 0), (91, 1), (100, 0), (100, 1), (102, 0), (102, 1), (104, 0), (104, 1), (106, 0), (106, 1), (108, 0), (108, 1), (108, 2), (176, 0), (176, 1), (178, 0), (178, 1), (180, 0), (180, 1), (182, 0), (182, 1), (189, 0), (189, 1), (195, 0), (195, 1), (197, 0), (197, 1), (202, 1), (202, 2), (202, 3), (221, 0), (221, 1)]
def zKP : List (Nat × Nat) := [(1, 0), (1, 1), (1, 3), (1, 5), (1, 7), (1, 8), (1, 9), (1, 10), (1, 11), (1, 12), (1, 13), (2, 0), (2, 1), (2, 2), (2, 3), (2, 4), (2, 10), (2, 11), (2, 12), (2, 13), (2, 14), (2, 16), (3, 0), (3, 1), (3, 2), (4, 0), (4, 1), (4, 2), (4, 3), (4, 4), (4, 5), (4, 6), (4, 7), (5, 0), (5, 1), (5, 2), (5, 3), (6, 0), (6, 1), (6, 2), (6, 3), (6, 4), (6, 5), (6, 6), (6, 7), (7, 0), (7, 1), (7, 2), (7, 3), (7, 4), (7, 5), (7, 6), (7, 7), (7, 8), (7, 9), (7, 10), (7, 11), (7, 12), (7, 13), (7, 14), (7, 15), (8, 0), (8, 1), (8, 2), (8, 3), (9, 2), (11, 2), (13, 2), (15, 2), (21, 0), (21, 1), (24, 0), (24, 1), (27, 0), (27, 1), (30, 0), (30, 1), (33, 0), (33, 1), (36, 0), (36, 1), (39, 0), (39, 1), (42, 0), (42, 1), (45, 0), (45, 1), (45, 2), (49, 0), (49, 1), (49, 2), (53, 0), (53, 1), (53, 2), (57, 0), (57, 1), (57, 2), (85, 2), (87, 2), (89, 2), (91, 2), (93, 0), (93, 1), (93, 2), (93, 3), (93, 4), (93, 10), (93, 11), (93, 12), (93, 13), (93, 14), (93, 16), (94, 0), (94, 1), (94, 2), (95, 0), (95, 1), (95, 2), (95, 3), (95, 4), (95, 5), (95, 6), (95, 7), (96, 0), (96, 1), (96, 2), (96, 3), (97, 0), (97, 1), (97, 2), (97, 3), (97, 4), (97, 5), (97, 6), (97, 7), (98, 0), (98, 1), (98, 2), (98, 3), (98, 4), (98, 5), (98, 6), (98, 7), (98, 8), (98, 9), (98, 10), (98, 11), (98, 12), (98, 13), (98, 14), (98, 15), (99, 0), (99, 1), (99, 2), (99, 3), (100, 2), (102, 2), (104, 2), (106, 2), (112, 0), (112, 1), (115, 0), (115, 1), (118, 0), (118, 1), (121, 0), (121, 1), (124, 0), (124, 1), (127, 0), (127, 1), (130, 0), (130, 1), (133, 0), (133, 1), (136, 0), (136, 1), (136, 2), (140, 0), (140, 1), (140, 2), (144, 0), (144, 1), (144, 2), (148, 0), (148, 1), (148, 2), (176, 2), (178, 2), (180, 2), (182, 2), (186, 0), (186, 1), (190, 0), (192, 0), (194, 0), (194, 1), (195, 2), (197, 2), (201, 0), (201, 1), (201, 3), (201, 11), (201, 12), (201, 16), (201, 17), (201, 20), (201, 24), (201, 25), (201, 26), (201, 27), (201, 28), (201, 29), (201, 30), (201, 31), (201, 32), (201, 36), (201, 38), (201, 39), (201, 40)]
theorem zfI_0 : ∀ (U : List (Nat × Nat × Nat × Int32)) (a k : Nat), (∀ q ∈ U, q.1 = 1 → ¬ (q.2.1 = a ∧ q.2.2.1 = k)) → zfI U a k = 0
  | [], _, _, _ => rfl
  | (t, b, j, v) :: U, a, k, h => by
    have ih := zfI_0 U a k (fun q hq => h q (List.mem_cons_of_mem _ hq))
    match t, h with
    | 0, h =>
      show (if a = b then 0 else zfI U a k) = 0
      rw [ih, ite_self]
    | 1, h =>
      show (if a = b ∧ k = j then v else zfI U a k) = 0
      have := h (1, b, j, v) (List.mem_cons_self ..) rfl
      rw [if_neg (fun w => this ⟨w.1.symm, w.2.symm⟩), ih]
    | t + 2, h =>
      show (if b ≤ a then 0 else zfI U a k) = 0
      rw [ih, ite_self]
theorem zfP_0 : ∀ (U : List (Nat × Nat × Nat × Nat)) (a k : Nat), (∀ q ∈ U, q.1 ≠ 0 → ¬ (q.2.1 = a ∧ ((q.1 = 1 ∧ q.2.2.1 = k) ∨ (q.1 ≠ 1 ∧ k < q.2.2.1)))) → zfP U a k = 0
  | [], _, _, _ => rfl
  | (t, b, j, v) :: U, a, k, h => by
    have ih := zfP_0 U a k (fun q hq => h q (List.mem_cons_of_mem _ hq))
    match t, h with
    | 0, h =>
      show (if a = b then 0 else zfP U a k) = 0
      rw [ih, ite_self]
    | 1, h =>
      show (if a = b ∧ k = j then v else zfP U a k) = 0
      have := h (1, b, j, v) (List.mem_cons_self ..) (by show (1 : Nat) ≠ 0; decide)
      rw [if_neg (fun w => this ⟨w.1.symm, Or.inl ⟨rfl, w.2.symm⟩⟩), ih]
    | t + 2, h =>
      show (if a = b ∧ k < j then b + 1 + k else if b ≤ a then 0 else zfP U a k) = 0
      have := h (t + 2, b, j, v) (List.mem_cons_self ..) (by show t + 2 ≠ 0; omega)
      rw [if_neg (fun w => this ⟨w.1.symm, Or.inr ⟨by show t + 2 ≠ 1; omega, w.2⟩⟩), ih, ite_self]
theorem zdk_u {a k : Nat} {t : Nat × Nat × Nat} (e : zdk a k = some t) : zunc t.1 t.2.1 t.2.2 = (a, k) := by
  unfold zdk at e
  split at e
  · cases e
  · cases e
    exact zdec_u a k
theorem zI_xs (xs : Nat → Int32) {a : Nat} (k : Nat) (h : 1 ≤ a) : zI (zCa0 xs) a k = zI (zCa0 (fun _ => 0)) a k := by
  unfold zI
  cases e : zdk a k with
  | none => rfl
  | some t =>
    obtain ⟨g, i, f⟩ := t
    have u := zdk_u e
    dsimp only at u ⊢
    have n : g ≠ 100 := by
      intro w
      subst w
      have : (0 : Nat) = a := congrArg Prod.fst u
      omega
    unfold zCa0
    rw [if_neg n, if_neg n]
set_option maxRecDepth 100000 in
theorem zKI_room : ∀ a, a < 223 → ∀ k, k < 2 → zroom a = 0 ∨ (a, k) ∈ zKI := by decide +kernel
theorem zI_n {a k : Nat} (h2 : a < 223) (hk : a = 189 ∨ a = 221 → k < 2) (hn : ¬ (a, k) ∈ zKI) : zI (zCa0 (fun _ => 0)) a k = 0 := by
  unfold zI
  cases e : zdk a k with
  | none =>
    exfalso
    unfold zdk at e
    split at e
    · next w => exact hn ((zKI_room a h2 k w.2).resolve_left w.1)
    · cases e
  | some t =>
    obtain ⟨g, i, f⟩ := t
    have u := zdk_u e
    dsimp only at u ⊢
    unfold zCa0
    by_cases g1 : g = 100
    · rw [if_pos g1]; exact ite_self _
    rw [if_neg g1]
    by_cases g2 : g = 0 ∨ g = 20 ∨ g = 40
    · rw [if_pos g2]
      by_cases i0 : i = 0
      · rw [if_pos i0]
        subst i0
        by_cases f1 : f = 1
        · subst f1
          refine absurd ?_ hn
          rw [← u]
          rcases g2 with rfl | rfl | rfl <;> decide +kernel
        rw [if_neg f1]
        by_cases f2 : f = 2
        · subst f2
          refine absurd ?_ hn
          rw [← u]
          rcases g2 with rfl | rfl | rfl <;> decide +kernel
        rw [if_neg f2]
        by_cases f3 : f = 3
        · subst f3
          refine absurd ?_ hn
          rw [← u]
          rcases g2 with rfl | rfl | rfl <;> decide +kernel
        rw [if_neg f3]
      · rw [if_neg i0]
    rw [if_neg g2]
    by_cases g3 : g = 389 ∨ g = 421
    · exfalso
      rcases g3 with rfl | rfl
      · have q : (189 : Nat) = a := congrArg Prod.fst u
        have := hk (Or.inl q.symm)
        subst q
        rcases (show k = 0 ∨ k = 1 by omega) with rfl | rfl <;> exact hn (by decide +kernel)
      · have q : (221 : Nat) = a := congrArg Prod.fst u
        have := hk (Or.inr q.symm)
        subst q
        rcases (show k = 0 ∨ k = 1 by omega) with rfl | rfl <;> exact hn (by decide +kernel)
    · rw [if_neg g3]
set_option maxRecDepth 100000 in
theorem zKI_all : ∀ q ∈ zUI2 ++ zUI1, q.1 = 1 → (q.2.1, q.2.2.1) ∈ zKI := by decide +kernel
set_option maxRecDepth 100000 in
theorem zKI_val : ∀ q ∈ zKI, zfI (zUI2 ++ zUI1) q.1 q.2 = zI (zCa0 (fun _ => 0)) q.1 q.2 := by decide +kernel
set_option maxRecDepth 100000 in
theorem zKP_all : ∀ q ∈ zUP2 ++ zUP1, q.1 ≠ 0 → (q.1 = 1 ∧ (q.2.1, q.2.2.1) ∈ zKP) ∨ (q.1 ≠ 1 ∧ q.2.1 = 186 ∧ q.2.2.1 = 2) := by decide +kernel
set_option maxRecDepth 100000 in
theorem zKP_val : ∀ q ∈ zKP, zfP (zUP2 ++ zUP1) q.1 q.2 = zPd 191 0 0 0 0 q.1 q.2 := by decide +kernel
set_option maxRecDepth 100000 in
theorem zPs_n : ∀ a, a < 223 → ∀ k, k < 41 → zPs a k = 0 ∨ (a, k) ∈ zKP := by decide +kernel
set_option maxRecDepth 100000 in
theorem zPl_l : ∀ a, a < 223 → (zPl.getD a []).length ≤ 41 := by decide +kernel
theorem zP_n {a k : Nat} (h : a < 223) (hn : ¬ (a, k) ∈ zKP) : zPd 191 0 0 0 0 a k = 0 := by
  have s : zPs a k = 0 := by
    by_cases hk : k < 41
    · exact (zPs_n a h k hk).resolve_right hn
    · have := zPl_l a h
      unfold zPs
      rw [List.getD_eq_getElem?_getD, List.getElem?_eq_none (by omega)]
      rfl
  unfold zPd
  by_cases w : a = 190 ∧ k = 0
  · obtain ⟨rfl, rfl⟩ := w
    exact absurd (by decide +kernel) hn
  · rw [if_neg w, s, ite_self, ite_self, ite_self, ite_self]
theorem z_hc (xs : Nat → Int32) : ∀ a k, 1 ≤ a → a < 223 → k < zwd (zshp ((99, 0) :: zZt) a) → zfI (zUI2 ++ zUI1) a k = zI (zCa0 xs) a k ∧ zfP (zUP2 ++ zUP1) a k = zPd 191 0 0 0 0 a k := by
  intro a k h1 h2 hk
  constructor
  · rw [zI_xs xs k h1]
    by_cases c : (a, k) ∈ zKI
    · exact zKI_val (a, k) c
    · rw [zI_n h2 ?_ c]
      · refine zfI_0 _ a k (fun q hq q1 w => c ?_)
        have := zKI_all q hq q1
        rw [w.1, w.2] at this
        exact this
      · intro w
        rcases w with rfl | rfl
        · have e : zwd (zshp ((99, 0) :: zZt) 189) = 2 := by decide +kernel
          omega
        · have e : zwd (zshp ((99, 0) :: zZt) 221) = 2 := by decide +kernel
          omega
  · by_cases c : (a, k) ∈ zKP
    · exact zKP_val (a, k) c
    · rw [zP_n h2 c]
      refine zfP_0 _ a k (fun q hq q1 w => c ?_)
      rcases zKP_all q hq q1 with ⟨e, m⟩ | ⟨e0, e1, e2⟩
      · have k0 : q.2.2.1 = k := by
          rcases w.2 with r | r
          · exact r.2
          · exact absurd e r.1
        rw [w.1, k0] at m
        exact m
      · rcases w.2 with r | r
        · exact absurd r.1 e0
        · have k2 : k < 2 := by rw [← e2]; exact r.2
          have a0 : a = 186 := by rw [← w.1]; exact e1
          subst a0
          rcases (show k = 0 ∨ k = 1 by omega) with rfl | rfl <;> decide +kernel

