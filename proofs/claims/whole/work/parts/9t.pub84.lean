/-! THE PROGRAM: all S, class and model together, printed by wip/gen/pub84.py -/
def zDA (be : Nat) : Nat := 106 - 4 * be
def zOA (L p r2 r3 s4 q0 q2 q3 q4 q5 : Nat) (T : Nat → Nat) (n : Nat) (x : zLx) (be N j : Nat) : Prop := (∃ G c x', zAt (zDA be - 1) L p r2 r3 s4 T n 18 [.ref 190, zmk] x be N j G c x' ∧ zPt L q0 q2 q3 q4 q5 T n x be N j G c x' ∧ zgv N j G) ∨ (∃ x', zAf (zDA be - 1) L p r2 r3 s4 T n 18 [.ref 190, zmk] x be N j x' ∧ zPf L q0 q2 q3 q4 q5 T n x be N j x')
def zOT (L p r2 r3 s4 q0 q2 q3 q4 q5 : Nat) (T : Nat → Nat) (n : Nat) (x : zLx) (be N j : Nat) : Prop := (∃ G c x', zTt (zDA be) L p r2 r3 s4 T n x be N j G c x' ∧ zYt L q0 q2 q3 q4 q5 T n 1 x be N j G c x' ∧ (zisg T x' 125 ∨ x'.2.2 = 0) ∧ zgv N j G) ∨ (∃ x', zTq (zDA be) L p r2 r3 s4 T n x be N j x' ∧ zYf L q0 q2 q3 q4 q5 T n 1 x be N j x')
def zOS (L p r2 r3 s4 q0 q2 q3 q4 q5 : Nat) (T : Nat → Nat) (n : Nat) (x : zLx) (be N j : Nat) : Prop := (∃ G c x', zAt (zDA be) L p r2 r3 s4 T n 17 [.ref 190, zmk] x be N j G c x' ∧ zYt L q0 q2 q3 q4 q5 T n 0 x be N j G c x' ∧ (zisg T x' 125 ∨ x'.2.2 = 0) ∧ zgv N j G) ∨ (∃ x', zAf (zDA be) L p r2 r3 s4 T n 17 [.ref 190, zmk] x be N j x' ∧ zYf L q0 q2 q3 q4 q5 T n 0 x be N j x')
theorem XE (L p r2 r3 s4 q0 q2 q3 q4 q5 : Nat) (T : Nat → Nat) (n : Nat) (hp : p < 4) (x : zLx) (hk : zTk T n x) (h5 : x.2.2 ≠ 5) : (∃ ws x2, zEt 84 L p r2 r3 s4 T n 24 [.ref 190, .int 0, zmk, zmk] x 0 0 ws x2 ∧ zQt L q0 q2 q3 q4 q5 T n 0 x 0 0 ws x2 ∧ zns_ T 1 x2 ∧ zdpl ws 0 = some 1) ∨ (∃ x2, zEf 84 L p r2 r3 s4 T n 24 [.ref 190, .int 0, zmk, zmk] x 0 0 x2 ∧ zQf L q0 q2 q3 q4 q5 T n 0 x 0 0 x2) := by
  rcases (EXPR L p r2 r3 s4 q0 q2 q3 q4 q5 T n hp (16 * (n - x.1) + 2 * (5 - 0) + 2)).2.1 0 x 0 0 (by omega) hk h5 (by omega) (by omega) (by omega) with ⟨ws, x2, h1, h2, h3, h4⟩ | ⟨x2, h1, h2⟩
  · exact Or.inl ⟨ws, x2, zEt_0 h1, h2, h3, h4 0⟩
  · exact Or.inr ⟨x2, h1, h2⟩
theorem X5 (L p r2 r3 s4 : Nat) (T : Nat → Nat) (n : Nat) (hp : p < 4) (x : zLx) (hk : zTk T n x) (h5 : x.2.2 = 5) : zEf 84 L p r2 r3 s4 T n 24 [.ref 190, .int 0, zmk, zmk] x 0 0 x := by
  have a0 := E_none 10 L p r2 r3 s4 hp (by omega) T n x 0 0 hk ⟨by rw [h5]; decide, by rw [h5]; decide⟩ (fun q => by rw [q.1] at h5; exact absurd h5 (by decide)) (fun q => by rw [q.1] at h5; exact absurd h5 (by decide)) (Or.inr fun q => by rw [q.1] at h5; exact absurd h5 (by decide)) (by omega)
  have a1 := E_x5f 11 10 L p r2 r3 s4 (by omega) T n x 0 0 a0
  have a2 := E_levf 12 11 L p r2 r3 s4 (by omega) T n 4 (by omega) x 0 0 a1
  have a3 := E_levf 13 12 L p r2 r3 s4 (by omega) T n 3 (by omega) x 0 0 a2
  have a4 := E_levf 14 13 L p r2 r3 s4 (by omega) T n 2 (by omega) x 0 0 a3
  have a5 := E_levf 15 14 L p r2 r3 s4 (by omega) T n 1 (by omega) x 0 0 a4
  exact E_levf 84 15 L p r2 r3 s4 (by omega) T n 0 (by omega) x 0 0 a5

theorem G_until (L p r2 r3 s4 q0 q2 q3 q4 q5 : Nat) (T : Nat → Nat) (n : Nat) (hp : p < 4) (x : zLx) (be N j : Nat) (hk : zTk T n x) (hbe : be ≤ 4) (hV : zV T x = zWK 11) : zOA L p r2 r3 s4 q0 q2 q3 q4 q5 T n x be N j := by
  have hkind := zV_1 (by omega) hV
  have ha := zadv_k T n x hk.2.1
  have hlt := hk.2.2.2.2.1 (by rw [hkind]; decide)
  by_cases h5 : (zadv T n x).2.2 = 5
  · exact Or.inr ⟨_, A_untilf (zDA be - 1) L p r2 r3 s4 hp T n x be N j hk (by unfold zDA; omega) hV (X5 L p r2 r3 s4 T n hp _ ha.1 h5), P_until5 L q0 q2 q3 q4 q5 T n x be N j hk hV h5⟩
  rcases XE L p r2 r3 s4 q0 q2 q3 q4 q5 T n hp (zadv T n x) ha.1 h5 with ⟨ws, x2, hE, hQ, hns, hd⟩ | ⟨x2, hE, hQ⟩
  case inr => exact Or.inr ⟨_, A_untilf (zDA be - 1) L p r2 r3 s4 hp T n x be N j hk (by unfold zDA; omega) hV hE, P_untilf L q0 q2 q3 q4 q5 T n x be N j hk hV h5 hQ⟩
  have hk2 := hE.2.2.1
  have hroom := hE.1
  have hx2 := hE.2.1
  exact Or.inl ⟨_, _, _, A_untilt (zDA be - 1) L p r2 r3 s4 hp T n x be N j hk (by unfold zDA; omega) hV hE, P_untilt L q0 q2 q3 q4 q5 T n x be N j hk hV h5 hk2 hroom hQ hns, V_until N j hd⟩
theorem G_burn (L p r2 r3 s4 q0 q2 q3 q4 q5 : Nat) (T : Nat → Nat) (n : Nat) (hp : p < 4) (x : zLx) (be N j : Nat) (hk : zTk T n x) (hbe : be ≤ 4) (hV : zV T x = zWK 1) : zOA L p r2 r3 s4 q0 q2 q3 q4 q5 T n x be N j := by
  have hkind := zV_1 (by omega) hV
  have ha := zadv_k T n x hk.2.1
  have hlt := hk.2.2.2.2.1 (by rw [hkind]; decide)
  by_cases h5 : (zadv T n x).2.2 = 5
  · exact Or.inr ⟨_, A_burnf (zDA be - 1) L p r2 r3 s4 hp T n x be N j hk (by unfold zDA; omega) hV (X5 L p r2 r3 s4 T n hp _ ha.1 h5), P_burn5 L q0 q2 q3 q4 q5 T n x be N j hk hV h5⟩
  rcases XE L p r2 r3 s4 q0 q2 q3 q4 q5 T n hp (zadv T n x) ha.1 h5 with ⟨ws, x2, hE, hQ, hns, hd⟩ | ⟨x2, hE, hQ⟩
  case inr => exact Or.inr ⟨_, A_burnf (zDA be - 1) L p r2 r3 s4 hp T n x be N j hk (by unfold zDA; omega) hV hE, P_burnf L q0 q2 q3 q4 q5 T n x be N j hk hV h5 hQ⟩
  have hk2 := hE.2.2.1
  have hroom := hE.1
  have hx2 := hE.2.1
  by_cases h44 : zisg T x2 44
  case neg => exact Or.inr ⟨_, A_burnn (zDA be - 1) L p r2 r3 s4 hp T n x be N j hk (by unfold zDA; omega) hV hE h44, P_burnn L q0 q2 q3 q4 q5 T n x be N j hk hV h5 hk2 hQ hns h44⟩
  have ha2 := zadv_k T n x2 hk2.2.1
  rcases XE L p r2 r3 s4 q0 q2 q3 q4 q5 T n hp (zadv T n x2) ha2.1 (zadv_n5 h44.1) with ⟨w2, x4, hE2, hQ2, hns2, hd2⟩ | ⟨x4, hE2, hQ2⟩
  case inr => exact Or.inr ⟨_, A_burng (zDA be - 1) L p r2 r3 s4 hp T n x be N j hk (by unfold zDA; omega) hV hE h44 hE2, P_burng L q0 q2 q3 q4 q5 T n x be N j hk hV h5 hk2 hroom hQ hns h44 hQ2⟩
  exact Or.inl ⟨_, _, _, A_burnt (zDA be - 1) L p r2 r3 s4 hp T n x be N j hk (by unfold zDA; omega) hV hE h44 hE2, P_burnt L q0 q2 q3 q4 q5 T n x be N j hk hV h5 hk2 hroom hQ hns h44 hE2.2.2.1 hE2.1 hQ2 hns2, V_burn N j hd hd2⟩

theorem G_while (L p r2 r3 s4 q0 q2 q3 q4 q5 : Nat) (T : Nat → Nat) (n : Nat) (hp : p < 4) (x : zLx) (be N j : Nat) (hk : zTk T n x) (hbe : be ≤ 4) (hV : zV T x = zWK 13) (hS : ∀ y N' j', zTk T n y → be < 4 → x.1 < y.1 → zOS L p r2 r3 s4 q0 q2 q3 q4 q5 T n y (be + 1) N' j') : zOA L p r2 r3 s4 q0 q2 q3 q4 q5 T n x be N j := by
  have hkind := zV_1 (by omega) hV
  have ha := zadv_k T n x hk.2.1
  have hlt := hk.2.2.2.2.1 (by rw [hkind]; decide)
  by_cases h5 : (zadv T n x).2.2 = 5
  · exact Or.inr ⟨_, A_whilef (zDA be - 1) (zDA be - 2) L p r2 r3 s4 hp (by unfold zDA; omega) (by unfold zDA; omega) T n x be N j hk hV (W_f (zDA be - 2) (zDA be - 3) L p r2 r3 s4 hp (by unfold zDA; omega) (by unfold zDA; omega) T n (zadv T n x) be N j ha.1 (X5 L p r2 r3 s4 T n hp _ ha.1 h5)), O_while5 L q0 q2 q3 q4 q5 T n x be N j hk hV h5⟩
  rcases XE L p r2 r3 s4 q0 q2 q3 q4 q5 T n hp (zadv T n x) ha.1 h5 with ⟨ws, x2, hE, hQ, hns, hd⟩ | ⟨x2, hE, hQ⟩
  case inr => exact Or.inr ⟨_, A_whilef (zDA be - 1) (zDA be - 2) L p r2 r3 s4 hp (by unfold zDA; omega) (by unfold zDA; omega) T n x be N j hk hV (W_f (zDA be - 2) (zDA be - 3) L p r2 r3 s4 hp (by unfold zDA; omega) (by unfold zDA; omega) T n (zadv T n x) be N j ha.1 hE), O_whilef L q0 q2 q3 q4 q5 T n x be N j hk hV h5 hQ⟩
  have hk2 := hE.2.2.1
  have hroom := hE.1
  have hx2 := hE.2.1
  by_cases hb : zisg T x2 123 ∧ be < 4
  case neg =>
    have hb' : ¬ zisg T x2 123 ∨ be = 4 := by by_cases q : zisg T x2 123; exact Or.inr (by have : ¬ be < 4 := fun w => hb ⟨q, w⟩; omega); exact Or.inl q
    exact Or.inr ⟨_, A_whilef (zDA be - 1) (zDA be - 2) L p r2 r3 s4 hp (by unfold zDA; omega) (by unfold zDA; omega) T n x be N j hk hV (W_g (zDA be - 2) (zDA be - 3) L p r2 r3 s4 hp (by unfold zDA; omega) (by unfold zDA; omega) T n (zadv T n x) be N j ha.1 hE (B_0 (zDA be - 3) L p r2 r3 s4 hp T n x2 be (N + 1) (j + ws.length) hk2 (by unfold zDA; omega) (hb'.symm.imp (fun q => by omega) id) (by omega))), O_whilen L q0 q2 q3 q4 q5 T n x be N j hk hV h5 hk2 hQ hns hb'⟩
  obtain ⟨h123, hb4⟩ := hb
  have ha2 := zadv_k T n x2 hk2.2.1
  have hlt2 := hk2.2.2.2.2.1 (by rw [h123.1]; decide)
  rcases hS (zadv T n x2) (N + 1) (j + ws.length) ha2.1 hb4 (by have := ha.2; have := ha2.2; omega) with ⟨G1, c1, x4, hA, hY, hst, hv⟩ | ⟨x4, hA, hY⟩
  case inr => exact Or.inr ⟨_, A_whilef (zDA be - 1) (zDA be - 2) L p r2 r3 s4 hp (by unfold zDA; omega) (by unfold zDA; omega) T n x be N j hk hV (W_g (zDA be - 2) (zDA be - 3) L p r2 r3 s4 hp (by unfold zDA; omega) (by unfold zDA; omega) T n (zadv T n x) be N j ha.1 hE (B_f (zDA be - 3) (zDA (be + 1)) L p r2 r3 s4 hp T n x2 be (N + 1) (j + ws.length) hk2 (by unfold zDA; omega) (by unfold zDA; omega) h123 hb4 (G := []) (c := 0) hA)), P_whilebf L q0 q2 q3 q4 q5 T n x be N j hk hV h5 hk2 hroom hQ hns h123 hb4 hY⟩
  have hk4 := hA.2.2.1
  by_cases h125 : zisg T x4 125
  case neg =>
    have h0 : x4.2.2 = 0 := hst.resolve_left h125
    exact Or.inr ⟨_, A_whilef (zDA be - 1) (zDA be - 2) L p r2 r3 s4 hp (by unfold zDA; omega) (by unfold zDA; omega) T n x be N j hk hV (W_g (zDA be - 2) (zDA be - 3) L p r2 r3 s4 hp (by unfold zDA; omega) (by unfold zDA; omega) T n (zadv T n x) be N j ha.1 hE (B_n (zDA be - 3) (zDA (be + 1)) L p r2 r3 s4 hp T n x2 be (N + 1) (j + ws.length) hk2 (by unfold zDA; omega) (by unfold zDA; omega) h123 hb4 hA h125)), P_whilebn L q0 q2 q3 q4 q5 T n x be N j hk hV h5 hk2 hroom hQ hns h123 hb4 hk4 hY h0⟩
  have ha4 := zadv_k T n x4 hk4.2.1
  have hlt4 := hk4.2.2.2.2.1 (by rw [h125.1]; decide)
  have hB := B_t (zDA be - 3) (zDA (be + 1)) L p r2 r3 s4 hp T n x2 be (N + 1) (j + ws.length) hk2 (by unfold zDA; omega) (by unfold zDA; omega) h123 hb4 hA h125
  have hr1 : x2.1 + (G1.length + zwc G1) + 2 ≤ (zadv T n x4).1 := by have := hA.1; have := ha2.2; have := ha4.2; omega
  exact Or.inl ⟨_, _, _, A_whilet (zDA be - 1) (zDA be - 2) L p r2 r3 s4 hp (by unfold zDA; omega) (by unfold zDA; omega) T n x be N j hk hV (W_t (zDA be - 2) (zDA be - 3) L p r2 r3 s4 hp (by unfold zDA; omega) (by unfold zDA; omega) T n (zadv T n x) be N j ha.1 hE hB hr1), P_whilet L q0 q2 q3 q4 q5 T n x be N j hk hV h5 hk2 hroom hQ hns h123 hb4 hk4 hY h125 _ _, V_while hd hv⟩
theorem G_if (L p r2 r3 s4 q0 q2 q3 q4 q5 : Nat) (T : Nat → Nat) (n : Nat) (hp : p < 4) (x : zLx) (be N j : Nat) (hk : zTk T n x) (hbe : be ≤ 4) (hV : zV T x = zWK 12) (hS : ∀ y N' j', zTk T n y → be < 4 → x.1 < y.1 → zOS L p r2 r3 s4 q0 q2 q3 q4 q5 T n y (be + 1) N' j') : zOA L p r2 r3 s4 q0 q2 q3 q4 q5 T n x be N j := by
  have hkind := zV_1 (by omega) hV
  have ha := zadv_k T n x hk.2.1
  have hlt := hk.2.2.2.2.1 (by rw [hkind]; decide)
  by_cases h5 : (zadv T n x).2.2 = 5
  · exact Or.inr ⟨_, A_iff (zDA be - 1) (zDA be - 2) L p r2 r3 s4 hp (by unfold zDA; omega) (by unfold zDA; omega) T n x be N j hk hV (I_f (zDA be - 2) (zDA be - 3) L p r2 r3 s4 hp (by unfold zDA; omega) (by unfold zDA; omega) T n (zadv T n x) be N j ha.1 (X5 L p r2 r3 s4 T n hp _ ha.1 h5)), O_if5 L q0 q2 q3 q4 q5 T n x be N j hk hV h5⟩
  rcases XE L p r2 r3 s4 q0 q2 q3 q4 q5 T n hp (zadv T n x) ha.1 h5 with ⟨ws, x2, hE, hQ, hns, hd⟩ | ⟨x2, hE, hQ⟩
  case inr => exact Or.inr ⟨_, A_iff (zDA be - 1) (zDA be - 2) L p r2 r3 s4 hp (by unfold zDA; omega) (by unfold zDA; omega) T n x be N j hk hV (I_f (zDA be - 2) (zDA be - 3) L p r2 r3 s4 hp (by unfold zDA; omega) (by unfold zDA; omega) T n (zadv T n x) be N j ha.1 hE), O_iff L q0 q2 q3 q4 q5 T n x be N j hk hV h5 hQ⟩
  have hk2 := hE.2.2.1
  have hroom := hE.1
  have hx2 := hE.2.1
  by_cases hb : zisg T x2 123 ∧ be < 4
  case neg =>
    have hb' : ¬ zisg T x2 123 ∨ be = 4 := by by_cases q : zisg T x2 123; exact Or.inr (by have : ¬ be < 4 := fun w => hb ⟨q, w⟩; omega); exact Or.inl q
    exact Or.inr ⟨_, A_iff (zDA be - 1) (zDA be - 2) L p r2 r3 s4 hp (by unfold zDA; omega) (by unfold zDA; omega) T n x be N j hk hV (I_g (zDA be - 2) (zDA be - 3) L p r2 r3 s4 hp (by unfold zDA; omega) (by unfold zDA; omega) T n (zadv T n x) be N j ha.1 hE (B_0 (zDA be - 3) L p r2 r3 s4 hp T n x2 be (N + 1) (j + ws.length) hk2 (by unfold zDA; omega) (hb'.symm.imp (fun q => by omega) id) (by omega))), O_ifn L q0 q2 q3 q4 q5 T n x be N j hk hV h5 hk2 hQ hns hb'⟩
  obtain ⟨h123, hb4⟩ := hb
  have ha2 := zadv_k T n x2 hk2.2.1
  have hlt2 := hk2.2.2.2.2.1 (by rw [h123.1]; decide)
  rcases hS (zadv T n x2) (N + 1) (j + ws.length) ha2.1 hb4 (by have := ha.2; have := ha2.2; omega) with ⟨G1, c1, x4, hA, hY, hst, hv⟩ | ⟨x4, hA, hY⟩
  case inr => exact Or.inr ⟨_, A_iff (zDA be - 1) (zDA be - 2) L p r2 r3 s4 hp (by unfold zDA; omega) (by unfold zDA; omega) T n x be N j hk hV (I_g (zDA be - 2) (zDA be - 3) L p r2 r3 s4 hp (by unfold zDA; omega) (by unfold zDA; omega) T n (zadv T n x) be N j ha.1 hE (B_f (zDA be - 3) (zDA (be + 1)) L p r2 r3 s4 hp T n x2 be (N + 1) (j + ws.length) hk2 (by unfold zDA; omega) (by unfold zDA; omega) h123 hb4 (G := []) (c := 0) hA)), P_ifbf L q0 q2 q3 q4 q5 T n x be N j hk hV h5 hk2 hroom hQ hns h123 hb4 hY⟩
  have hk4 := hA.2.2.1
  by_cases h125 : zisg T x4 125
  case neg =>
    have h0 : x4.2.2 = 0 := hst.resolve_left h125
    exact Or.inr ⟨_, A_iff (zDA be - 1) (zDA be - 2) L p r2 r3 s4 hp (by unfold zDA; omega) (by unfold zDA; omega) T n x be N j hk hV (I_g (zDA be - 2) (zDA be - 3) L p r2 r3 s4 hp (by unfold zDA; omega) (by unfold zDA; omega) T n (zadv T n x) be N j ha.1 hE (B_n (zDA be - 3) (zDA (be + 1)) L p r2 r3 s4 hp T n x2 be (N + 1) (j + ws.length) hk2 (by unfold zDA; omega) (by unfold zDA; omega) h123 hb4 hA h125)), P_ifbn L q0 q2 q3 q4 q5 T n x be N j hk hV h5 hk2 hroom hQ hns h123 hb4 hk4 hY h0⟩
  have ha4 := zadv_k T n x4 hk4.2.1
  have hlt4 := hk4.2.2.2.2.1 (by rw [h125.1]; decide)
  have hB := B_t (zDA be - 3) (zDA (be + 1)) L p r2 r3 s4 hp T n x2 be (N + 1) (j + ws.length) hk2 (by unfold zDA; omega) (by unfold zDA; omega) h123 hb4 hA h125
  have hr1 : x2.1 + (G1.length + zwc G1) + 2 ≤ (zadv T n x4).1 := by have := hA.1; have := ha2.2; have := ha4.2; omega
  by_cases hV4 : zV T (zadv T n x4) = zWK 14
  case neg => exact Or.inl ⟨_, _, _, A_ift (zDA be - 1) (zDA be - 2) L p r2 r3 s4 hp (by unfold zDA; omega) (by unfold zDA; omega) T n x be N j hk hV (I_t (zDA be - 2) (zDA be - 3) L p r2 r3 s4 hp (by unfold zDA; omega) (by unfold zDA; omega) T n (zadv T n x) be N j ha.1 hE hB hr1 hV4), P_ift L q0 q2 q3 q4 q5 T n x be N j hk hV h5 hk2 hroom hQ hns h123 hb4 hk4 hY h125 hV4 _, V_if hd hv⟩
  have hkind4 := zV_1 (by omega) hV4
  have ha5 := zadv_k T n (zadv T n x4) ha4.1.2.1
  have hlt5 := ha4.1.2.2.2.2.1 (by rw [hkind4]; decide)
  by_cases hyes : zisg T (zadv T n (zadv T n x4)) 123
  case neg => exact Or.inr ⟨_, A_iff (zDA be - 1) (zDA be - 2) L p r2 r3 s4 hp (by unfold zDA; omega) (by unfold zDA; omega) T n x be N j hk hV (I_ef (zDA be - 2) (zDA be - 3) L p r2 r3 s4 hp (by unfold zDA; omega) (by unfold zDA; omega) T n (zadv T n x) be N j ha.1 hE hB hr1 hV4 (G2 := []) (c2 := 0) (B_0 (zDA be - 3) L p r2 r3 s4 hp T n (zadv T n (zadv T n x4)) be (N + 1 + G1.length + 1) (j + ws.length + zwc G1) ha5.1 (by unfold zDA; omega) (Or.inr hyes) (by omega))), P_ifeb L q0 q2 q3 q4 q5 T n x be N j hk hV h5 hk2 hroom hQ hns h123 hb4 hk4 hY h125 hV4 hyes⟩
  have ha6 := zadv_k T n (zadv T n (zadv T n x4)) ha5.1.2.1
  rcases hS (zadv T n (zadv T n (zadv T n x4))) (N + 1 + G1.length + 1) (j + ws.length + zwc G1) ha6.1 hb4 (by have := ha.2; have := ha2.2; have := ha4.2; have := ha5.2; have := ha6.2; have := ha5.1.1; have := hA.2.1; omega) with ⟨G2, c2, x7, hA7, hY7, hst7, hv7⟩ | ⟨x7, hA7, hY7⟩
  case inr => exact Or.inr ⟨_, A_iff (zDA be - 1) (zDA be - 2) L p r2 r3 s4 hp (by unfold zDA; omega) (by unfold zDA; omega) T n x be N j hk hV (I_ef (zDA be - 2) (zDA be - 3) L p r2 r3 s4 hp (by unfold zDA; omega) (by unfold zDA; omega) T n (zadv T n x) be N j ha.1 hE hB hr1 hV4 (G2 := []) (c2 := 0) (B_f (zDA be - 3) (zDA (be + 1)) L p r2 r3 s4 hp T n (zadv T n (zadv T n x4)) be (N + 1 + G1.length + 1) (j + ws.length + zwc G1) ha5.1 (by unfold zDA; omega) (by unfold zDA; omega) hyes hb4 (G := []) (c := 0) hA7)), P_ifef L q0 q2 q3 q4 q5 T n x be N j hk hV h5 hk2 hroom hQ hns h123 hb4 hk4 hY h125 hV4 hyes hY7⟩
  by_cases h7 : zisg T x7 125
  case neg =>
    have h0 : x7.2.2 = 0 := hst7.resolve_left h7
    exact Or.inr ⟨_, A_iff (zDA be - 1) (zDA be - 2) L p r2 r3 s4 hp (by unfold zDA; omega) (by unfold zDA; omega) T n x be N j hk hV (I_ef (zDA be - 2) (zDA be - 3) L p r2 r3 s4 hp (by unfold zDA; omega) (by unfold zDA; omega) T n (zadv T n x) be N j ha.1 hE hB hr1 hV4 (G2 := []) (c2 := 0) (B_n (zDA be - 3) (zDA (be + 1)) L p r2 r3 s4 hp T n (zadv T n (zadv T n x4)) be (N + 1 + G1.length + 1) (j + ws.length + zwc G1) ha5.1 (by unfold zDA; omega) (by unfold zDA; omega) hyes hb4 hA7 h7)), P_ifen L q0 q2 q3 q4 q5 T n x be N j hk hV h5 hk2 hroom hQ hns h123 hb4 hk4 hY h125 hV4 hyes hA7.2.2.1 hY7 h0⟩
  exact Or.inl ⟨_, _, _, A_ift (zDA be - 1) (zDA be - 2) L p r2 r3 s4 hp (by unfold zDA; omega) (by unfold zDA; omega) T n x be N j hk hV (I_et (zDA be - 2) (zDA be - 3) L p r2 r3 s4 hp (by unfold zDA; omega) (by unfold zDA; omega) T n (zadv T n x) be N j ha.1 hE hB hr1 hV4 (B_t (zDA be - 3) (zDA (be + 1)) L p r2 r3 s4 hp T n (zadv T n (zadv T n x4)) be (N + 1 + G1.length + 1) (j + ws.length + zwc G1) ha5.1 (by unfold zDA; omega) (by unfold zDA; omega) hyes hb4 hA7 h7)), P_ifet L q0 q2 q3 q4 q5 T n x be N j hk hV h5 hk2 hroom hQ hns h123 hb4 hk4 hY h125 hV4 hyes hA7.2.2.1 hY7 h7 _ _, V_else hd hv hv7⟩

theorem G_act (L p r2 r3 s4 q0 q2 q3 q4 q5 : Nat) (T : Nat → Nat) (n : Nat) (hp : p < 4) (x : zLx) (be N j : Nat) (hk : zTk T n x) (hbe : be ≤ 4) (hS : ∀ y N' j', zTk T n y → be < 4 → x.1 < y.1 → zOS L p r2 r3 s4 q0 q2 q3 q4 q5 T n y (be + 1) N' j') : zOA L p r2 r3 s4 q0 q2 q3 q4 q5 T n x be N j := by
  by_cases hw : ∃ w, w < 14 ∧ zV T x = zWK w
  case neg =>
    have hV : ∀ w, w < 14 → zV T x ≠ zWK w := fun w h q => hw ⟨w, h, q⟩
    exact Or.inr ⟨_, A_none (zDA be - 1) L p r2 r3 s4 hp T n x be N j hk (by unfold zDA; omega) hV, P_none L q0 q2 q3 q4 q5 T n x be N j hk hV⟩
  obtain ⟨w, hw, hV⟩ := hw
  by_cases h2 : 2 ≤ w ∧ w ≤ 10
  · exact Or.inl ⟨_, _, _, A_simple (zDA be - 1) L p r2 r3 s4 hp T n x be N j hk (by unfold zDA; omega) w h2.1 h2.2 hV, P_simple L q0 q2 q3 q4 q5 T n x be N j hk w h2.1 h2.2 hV, V_simple N j w h2.1 h2.2⟩
  rcases (show w = 0 ∨ w = 1 ∨ w = 11 ∨ w = 12 ∨ w = 13 by omega) with e | e | e | e | e <;> subst e
  · by_cases hk2 : (zadv T n x).2.2 = 2
    · exact Or.inl ⟨_, _, _, A_aimt (zDA be - 1) L p r2 r3 s4 hp T n x be N j hk (by unfold zDA; omega) hV hk2, P_aimt L q0 q2 q3 q4 q5 T n x be N j hk hV hk2, V_aim N j _⟩
    · have hA := A_aimf (zDA be - 1) L p r2 r3 s4 hp T n x be N j hk (by unfold zDA; omega) hV hk2
      by_cases h5 : (zadv T n x).2.2 = 5
      · exact Or.inr ⟨_, hA, P_aim5 L q0 q2 q3 q4 q5 T n x be N j hk hV h5⟩
      · exact Or.inr ⟨_, hA, P_aimf L q0 q2 q3 q4 q5 T n x be N j hk hV h5 hk2⟩
  · exact G_burn L p r2 r3 s4 q0 q2 q3 q4 q5 T n hp x be N j hk hbe hV
  · exact G_until L p r2 r3 s4 q0 q2 q3 q4 q5 T n hp x be N j hk hbe hV
  · exact G_if L p r2 r3 s4 q0 q2 q3 q4 q5 T n hp x be N j hk hbe hV hS
  · exact G_while L p r2 r3 s4 q0 q2 q3 q4 q5 T n hp x be N j hk hbe hV hS

/-- ALL S: the induction -/
theorem ACTS (L p r2 r3 s4 q0 q2 q3 q4 q5 : Nat) (T : Nat → Nat) (n : Nat) (hp : p < 4) : ∀ F : Nat, (∀ x be N j, zTk T n x → be ≤ 4 → 2 * (n - x.1) < F → zOA L p r2 r3 s4 q0 q2 q3 q4 q5 T n x be N j) ∧ (∀ x be N j, zTk T n x → be ≤ 4 → 2 * (n - x.1) + 1 < F → zOT L p r2 r3 s4 q0 q2 q3 q4 q5 T n x be N j) ∧ (∀ x be N j, zTk T n x → be ≤ 4 → 2 * (n - x.1) + 1 < F → zOS L p r2 r3 s4 q0 q2 q3 q4 q5 T n x be N j) := by
  intro F
  induction F with
  | zero => exact ⟨fun x be N j _ _ h => absurd h (by omega), fun x be N j _ _ h => absurd h (by omega), fun x be N j _ _ h => absurd h (by omega)⟩
  | succ F IH =>
    obtain ⟨I1, I2, I3⟩ := IH
    have bad : ∀ y be N j, zTk T n y → be ≤ 4 → zbx T y → zTq (zDA be) L p r2 r3 s4 T n y be N j y := fun y be N j hk hbe hb => by
      have hz := zbx_n hb
      exact T_f (zDA be) (zDA be - 1) L p r2 r3 s4 (by unfold zDA; omega) (by unfold zDA; omega) T n y be N j hk hz.1 hz.2.1 (A_none (zDA be - 1) L p r2 r3 s4 hp T n y be N j hk (by unfold zDA; omega) (fun w hw => hz.2.2 w (by omega)))
    refine ⟨fun x be N j hk hbe hF => ?_, fun x be N j hk hbe hF => ?_, fun x be N j hk hbe hF => ?_⟩
    · exact G_act L p r2 r3 s4 q0 q2 q3 q4 q5 T n hp x be N j hk hbe (fun y N' j' hy hb4 hlt => I3 y (be + 1) N' j' hy (by omega) (by have := hy.1; have := hy.2.1; omega))
    · by_cases hst : zisg T x 125 ∨ x.2.2 = 0
      · exact Or.inl ⟨[], 0, x, T_stop (zDA be) L p r2 r3 s4 (by unfold zDA; omega) T n x be N j hk hst, Y_stop L q0 q2 q3 q4 q5 T n x be N j, hst, zgv_0 N j⟩
      have h0 : x.2.2 ≠ 0 := fun q => hst (Or.inr q)
      have h125 : ¬ zisg T x 125 := fun q => hst (Or.inl q)
      rcases I1 x be N j hk hbe (by omega) with ⟨G1, c1, x1, hA, hP, hv⟩ | ⟨x1, hA, hP⟩
      case inr => exact Or.inr ⟨x1, T_f (zDA be) (zDA be - 1) L p r2 r3 s4 (by unfold zDA; omega) (by unfold zDA; omega) T n x be N j hk h0 h125 hA, Y_f L q0 q2 q3 q4 q5 T n 1 x be N j (Or.inr ⟨rfl, h0, h125⟩) hP⟩
      by_cases hb : zbx T x1
      · exact Or.inr ⟨x1, T_g (zDA be) (zDA be - 1) L p r2 r3 s4 (by unfold zDA; omega) (by unfold zDA; omega) T n x be N j hk h0 h125 hA (bad x1 be _ _ hA.2.2.1 hbe hb), Y_b L q0 q2 q3 q4 q5 T n 1 x be N j (Or.inr ⟨rfl, h0, h125⟩) hP hA.2.2.1 hb⟩
      rcases I2 x1 be (N + G1.length) (j + zwc G1) hA.2.2.1 hbe (by have := hA.2.1; have := hA.2.2.1.1; have := hA.2.2.1.2.1; omega) with ⟨G2, c2, x2, hT, hY, hst2, hv2⟩ | ⟨x2, hT, hY⟩
      · exact Or.inl ⟨_, _, x2, T_t (zDA be) (zDA be - 1) L p r2 r3 s4 (by unfold zDA; omega) (by unfold zDA; omega) T n x be N j hk h0 h125 hA hT, Y_t L q0 q2 q3 q4 q5 T n 1 x be N j (Or.inr ⟨rfl, h0, h125⟩) hP hb hY, hst2, zgv_app hv hv2⟩
      · exact Or.inr ⟨x2, T_g (zDA be) (zDA be - 1) L p r2 r3 s4 (by unfold zDA; omega) (by unfold zDA; omega) T n x be N j hk h0 h125 hA hT, Y_g L q0 q2 q3 q4 q5 T n 1 x be N j (Or.inr ⟨rfl, h0, h125⟩) hP hb hY⟩
    · rcases I1 x be N j hk hbe (by omega) with ⟨G1, c1, x1, hA, hP, hv⟩ | ⟨x1, hA, hP⟩
      case inr => exact Or.inr ⟨x1, S_f (zDA be) (zDA be - 1) L p r2 r3 s4 (by unfold zDA; omega) T n x be N j hA, Y_f L q0 q2 q3 q4 q5 T n 0 x be N j (Or.inl rfl) hP⟩
      by_cases hb : zbx T x1
      · exact Or.inr ⟨x1, S_g (zDA be) (zDA be - 1) L p r2 r3 s4 (by unfold zDA; omega) T n x be N j hA (bad x1 be _ _ hA.2.2.1 hbe hb), Y_b L q0 q2 q3 q4 q5 T n 0 x be N j (Or.inl rfl) hP hA.2.2.1 hb⟩
      rcases I2 x1 be (N + G1.length) (j + zwc G1) hA.2.2.1 hbe (by have := hA.2.1; have := hA.2.2.1.1; have := hA.2.2.1.2.1; omega) with ⟨G2, c2, x2, hT, hY, hst2, hv2⟩ | ⟨x2, hT, hY⟩
      · exact Or.inl ⟨_, _, x2, S_t (zDA be) (zDA be - 1) L p r2 r3 s4 (by unfold zDA; omega) T n x be N j hA hT, Y_t L q0 q2 q3 q4 q5 T n 0 x be N j (Or.inl rfl) hP hb hY, hst2, zgv_app hv hv2⟩
      · exact Or.inr ⟨x2, S_g (zDA be) (zDA be - 1) L p r2 r3 s4 (by unfold zDA; omega) T n x be N j hA hT, Y_g L q0 q2 q3 q4 q5 T n 0 x be N j (Or.inl rfl) hP hb hY⟩

