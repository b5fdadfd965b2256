/-! THE PROGRAM: an E in the model (4), printed by wip/gen/pub67.py -/
theorem V_open (L p0 p2 r2 r3 s4 : Nat) (T : Nat → Nat) (n : Nat) (x : zLx) (b s : Nat) (hk : zTk T n x) (hs : zisg T x 40) (h8b : b < 8) (d : Nat) (C : zCt) (K : List Nat) (j : Nat) (v3 : Value) (hC : zME T n C x b s K j) : ∃ C2, zR (d + 6) 192 19 [.ref 201, .int 1, .int 1, v3] [] (zZ L, zI C, zPd p0 p2 r2 r3 s4) = zR (d + 6) 192 19 [.ref 201, .int 1, .int 1, v3] [] (zZ L, zI C2, zPd p0 p2 r2 r3 s4) ∧ zME T n C2 (zadv T n x) (b + 1) s (1 :: K) j ∧ zFE j C C2 := by
  have hkind : x.2.2 = 3 := hs.1
  have ha := zadv_k T n x hk.2.1
  have hlt := hk.2.2.2.2.1 (by rw [hkind]; decide)
  obtain ⟨hM, hS, hjx⟩ := hC
  have h120 := hM.1.2.1
  have hn := hk.2.1
  have h10 := hM.2.2.2.2
  have h22 := hS.1
  have h21 := hS.2.2.1
  have c1 : ¬ nI b = 8 := fun q => by have := (nI_eq (b := 8) (by omega) (by decide)).mp q; omega
  obtain ⟨C1, hC1⟩ : ∃ C1, C1 = zcs (zcs C 409 (zup (C 409) 0 K.length 1)) 401 (zup (zup (C 401) 0 21 (nI (K.length + 1))) 0 22 (nI (b + 1))) := ⟨_, rfl⟩
  have n1 : zSK C1 (b + 1) s (1 :: K) j := by
    rw [hC1]
    exact zSK_pu (o := 1) hS (by omega) (by omega) (by rw [zup_n _ _ (by omega), zup_n _ _ (by omega)]) (by rw [zup_n _ _ (by omega), zup_g]) (by rw [zup_g]) (by rw [zup_n _ _ (by omega), zup_n _ _ (by omega)]; exact hS.2.1)
  have p1 : zPM T n C1 x := by
    rw [hC1]
    exact zPM_pu hM (fun f hf => by rw [zup_n _ _ (by omega), zup_n _ _ (by omega)])
  have f1 : zFE j C C1 := by
    rw [hC1]
    exact zFE_pu (fun f a b c => by rw [zup_n _ _ (by omega), zup_n _ _ (by omega)])
  obtain ⟨F, tm, f2, f3⟩ := M180 (d + 2) L p0 p2 r2 r3 s4 C1 p1 hk.2.1 (by rw [hkind]; decide)
  rcases f2 with ⟨e5, f2⟩ | ⟨e5, _⟩
  case inr => exact absurd e5 (zadv_n5 hkind)
  refine ⟨zcs C1 401 F, ?_, ⟨f2, zSK_4 n1 f3, by simp only [List.length_cons]; omega⟩, zFE_t f1 (zFE_4 j f3) (Nat.le_refl _)⟩
  have t1 : zR (d + 4) 183 0 [.ref 201, .int 33] [] (zZ L, zI C, zPd p0 p2 r2 r3 s4) = _ := M183_n (d + 4) L p0 p2 r2 r3 s4 C hM hk (c := 33) (by decide) (fun q => by have := q.2; rw [hs.2] at this; omega)
  have t2 : zR (d + 4) 183 0 [.ref 201, .int 45] [] (zZ L, zI C, zPd p0 p2 r2 r3 s4) = _ := M183_n (d + 4) L p0 p2 r2 r3 s4 C hM hk (c := 45) (by decide) (fun q => by have := q.2; rw [hs.2] at this; omega)
  have t3 : zR (d + 4) 183 0 [.ref 201, .int 40] [] (zZ L, zI C, zPd p0 p2 r2 r3 s4) = _ := M183_y (d + 4) L p0 p2 r2 r3 s4 C hM hk hs
  rw [hC1] at tm ⊢
  rw [e192_19]
  simp +decide (disch := omega) only [e192_23, e192_30, e192_34, e192_38, e193_0, e193_6, e193_9, e193_15, e193_82, e193_88, e193_91, e193_106, e193_140, h10, h22, h21, c1, t1, t2, t3, tm, zpre, ite_self, Nat.reduceAdd, zs1, zs2, zs3, zI_eqb, and_self, not_true_eq_false, if_true, if_false, ite_true, ite_false, not_false_eq_true, zBP, zBZ, zisO, zisA, zlen, decide_true, decide_false, Bool.and_self, Bool.and_true, Bool.true_and, cond_true, cond_false, zBG, zBR, zBU, zBV, zinb_n, zix_n, zlA, zlB, zlM, zlN, zlX, zlI, nI_add, Nat.add_eq_zero_iff, false_and, and_false, and_true, true_and, true_or, or_true, false_or, or_false, zbool_i, zb0, zb1, zshp_0, zcs_eq, zcs_n, zcs_cs, zup_g, zup_n, zg_srock2, zg_stug2, zg_ssun, zg_ssun0, zg_srock, zg_srock0, zg_stug, zg_stug0, zg_sord, zg_sord0, zg_srep, zg_srep0, zg_scla, zg_scla0, zg_scon, zg_scon0, zg_swin, zg_swin0, zg_sleg, zg_sleg0, zg_spro, zg_sstp, zg_swrd, zu_srock2, zu_stug2, zu_ssun, zu_ssun0, zu_srock, zu_srock0, zu_stug, zu_stug0, zu_sord, zu_sord0, zu_srep, zu_srep0, zu_scla, zu_scla0, zu_scon, zu_scon0, zu_swin, zu_swin0, zu_sleg, zu_sleg0, zu_spro, zu_sstp, zu_swrd]
/-- a bracket is closed -/
theorem V_shut (d L p0 p2 r2 r3 s4 : Nat) (T : Nat → Nat) (n : Nat) (C : zCt) (x : zLx) (b s0 : Nat) (P Q K : List Nat) (j : Nat) (v3 : Value) (hk : zTk T n x) (h41 : zisg T x 41) (hb : b < 8) (hC : zME T n C x (b + 1) (s0 + Q.length) (P ++ 1 :: (Q ++ K)) j) (hP : ∀ o, o ∈ P → 10 ≤ o) (hQ : ∀ o, o ∈ Q → o = 3 ∨ o = 4) (hK : ∀ a r, K = a :: r → a ≠ 3 ∧ a ≠ 4) : ∃ (C' : zCt) (v3' : Value), zR (d + 6) 192 19 [.ref 201, .int 0, .int 1, v3] [] (zZ L, zI C, zPd p0 p2 r2 r3 s4) = zR (d + 6) 192 19 [.ref 201, .int 0, .int 1, v3'] [] (zZ L, zI C', zPd p0 p2 r2 r3 s4) ∧ zME T n C' (zadv T n x) b s0 K (j + P.length + Q.length) ∧ zFE j C C' ∧ zmr (C' 406 0) j (P.map zow ++ Q.map zow) := by
  have hkind : x.2.2 = 3 := h41.1
  have ha := zadv_k T n x hk.2.1
  have hlt := hk.2.2.2.2.1 (by rw [hkind]; decide)
  obtain ⟨hM, hS, hjx⟩ := hC
  have h10 := hM.2.2.2.2
  have t1 := M197 (d + 5) L p0 p2 r2 r3 s4 C hM hk
  have h0 : zsgn T x = 0 := by unfold zsgn; rw [if_pos hkind, h41.2]; rfl
  rw [h0] at t1
  have t1 : zR (d + 5) 197 0 [.ref 201] [] (zZ L, zI C, zPd p0 p2 r2 r3 s4) = some (some (.int 0), (zZ L, zI C, zPd p0 p2 r2 r3 s4)) := t1
  have t2 : zR (d + 5) 183 0 [.ref 201, .int 41] [] (zZ L, zI C, zPd p0 p2 r2 r3 s4) = _ := M183_y (d + 5) L p0 p2 r2 r3 s4 C hM hk h41
  have h22 := hS.1
  have c1 : ¬ nI (b + 1) ≤ 0 := nI_eqz (by omega) (by omega)
  obtain ⟨C1, t3, n1, g1, m1⟩ := M198 (d + 4) L p0 p2 r2 r3 s4 1 (by decide) P (1 :: (Q ++ K)) C (b + 1) (s0 + Q.length) j hS (fun o ho => ⟨hP o ho, by have := hP o ho; omega⟩) (fun a r e => by
    simp only [List.cons.injEq] at e
    rw [← e.1]
    omega)
  have t3 : zR (d + 5) 198 0 [.ref 201, .int 1] [] (zZ L, zI C, zPd p0 p2 r2 r3 s4) = some (none, (zZ L, zI C1, zPd p0 p2 r2 r3 s4)) := t3
  obtain ⟨k1, k2, k3, ⟨k4, k4', k4''⟩, k5, k6⟩ := n1
  simp only [List.length_cons] at k3 k6
  obtain ⟨C2, hC2⟩ : ∃ C2, C2 = zcs C1 401 (zup (zup (C1 401) 0 21 (nI (Q ++ K).length)) 0 22 (nI b)) := ⟨_, rfl⟩
  have n2 : zSK C2 b (s0 + Q.length) (Q ++ K) (j + P.length) := by
    rw [hC2]
    refine ⟨by rw [zcs_eq, zup_g], by rw [zcs_eq, zup_n _ _ (by omega), zup_n _ _ (by omega)]; exact k2, by rw [zcs_eq, zup_n _ _ (by omega), zup_g], by rw [zcs_n _ _ (by decide)]; exact k4'', by rw [zcs_eq, zup_n _ _ (by omega), zup_n _ _ (by omega)]; exact k5, by omega⟩
  have g2 : zFX j C1 C2 := by
    rw [hC2]
    exact ⟨fun g a _ => by rw [zcs_n _ _ a], fun f _ a b _ => by rw [zcs_eq, zup_n _ _ (by omega), zup_n _ _ (by omega)], fun i _ => by rw [zcs_n _ _ (by decide)]⟩
  have pm2 := zPM_X (zPM_X hM g1) g2
  obtain ⟨F, tm, f2, f3⟩ := M180 (d + 3) L p0 p2 r2 r3 s4 C2 pm2 hk.2.1 (by rw [hkind]; decide)
  rcases f2 with ⟨e5, f2⟩ | ⟨e5, _⟩
  case inr => exact absurd e5 (zadv_n5 hkind)
  obtain ⟨C4, tp, n4, g4, m4⟩ := M196 (d + 4) L p0 p2 r2 r3 s4 Q K _ b s0 (j + P.length) (zSK_4 n2 f3) hQ hK
  have w2 : zmr (C2 406 0) j (P.map zow) := by
    rw [hC2, zcs_n _ _ (by decide)]; exact m1
  refine ⟨C4, .int 0, ?_, ⟨zPM_X f2 g4, n4, ?_⟩, zFE_t (zFE_X g1) (zFE_t (zFE_X g2) (zFE_t (zFE_4 j f3) (zFE_w (zFE_X g4) (by omega)) (Nat.le_refl _)) (Nat.le_refl _)) (Nat.le_refl _), ?_⟩
  · rw [hC2] at tm tp
    rw [zcs_cs] at tm tp
    rw [e192_19]
    simp +decide (disch := omega) only [e192_23, e192_30, e192_42, e192_46, e192_140, e192_146, e192_149, e192_156, e192_161, e192_185, e192_189, e192_205, h10, t1, t2, t3, h22, k1, k3, nI_pred, c1, tm, tp, zpre, ite_self, Nat.reduceAdd, zs1, zs2, zs3, zI_eqb, and_self, not_true_eq_false, if_true, if_false, ite_true, ite_false, not_false_eq_true, zBP, zBZ, zisO, zisA, zlen, decide_true, decide_false, Bool.and_self, Bool.and_true, Bool.true_and, cond_true, cond_false, zBG, zBR, zBU, zBV, zinb_n, zix_n, zlA, zlB, zlM, zlN, zlX, zlI, nI_add, Nat.add_eq_zero_iff, false_and, and_false, and_true, true_and, true_or, or_true, false_or, or_false, zbool_i, zb0, zb1, zshp_0, zcs_eq, zcs_n, zcs_cs, zup_g, zup_n, zg_srock2, zg_stug2, zg_ssun, zg_ssun0, zg_srock, zg_srock0, zg_stug, zg_stug0, zg_sord, zg_sord0, zg_srep, zg_srep0, zg_scla, zg_scla0, zg_scon, zg_scon0, zg_swin, zg_swin0, zg_sleg, zg_sleg0, zg_spro, zg_sstp, zg_swrd, zu_srock2, zu_stug2, zu_ssun, zu_ssun0, zu_srock, zu_srock0, zu_stug, zu_stug0, zu_sord, zu_sord0, zu_srep, zu_srep0, zu_scla, zu_scla0, zu_scon, zu_scon0, zu_swin, zu_swin0, zu_sleg, zu_sleg0, zu_spro, zu_sstp, zu_swrd]
  · rw [List.length_append, List.length_cons, List.length_append] at hjx
    omega
  · refine zmr_app.mpr ⟨zmr_c (fun i hi hi2 => ?_) w2, ?_⟩
    · rw [List.length_map] at hi2
      rw [g4.2.2 i (by omega), zcs_n _ _ (by decide)]
    · rw [List.length_map]; exact m4

theorem V_part (L p0 p2 r2 r3 s4 : Nat) (T : Nat → Nat) (n : Nat) (x : zLx) (b s : Nat) (hk : zTk T n x) (hs : zisg T x 40) (h8b : b < 8) {ws : List (Int32 × Int32)} {x' : zLx} (hk' : zTk T n x') (hsub : zQt L p0 p2 r2 r3 s4 T n 0 (zadv T n x) (b + 1) s ws x') (h41 : zisg T x' 41) : zVt L p0 p2 r2 r3 s4 T n x b s ws (zadv T n x') := by
  intro d C Q K j v3 s0 hC hs0 hQ hK
  obtain ⟨C2, y1, y2, y3⟩ := V_open L p0 p2 r2 r3 s4 T n x b s hk hs h8b d C (Q ++ K) j v3 hC
  rcases hsub d C2 (1 :: (Q ++ K)) j v3 y2 (fun a r e => by simp only [List.cons.injEq] at e; rw [← e.1]; omega) with ⟨e5, _⟩ | ⟨e5, C3, P, w1, v3', z1, z2, z3, z4, z5, z6, z7⟩
  · rw [h41.1] at e5; exact absurd e5 (by decide)
  rw [hs0] at z2
  obtain ⟨C4, v4, q1, q2, q3, q4⟩ := V_shut d L p0 p2 r2 r3 s4 T n C3 x' b s0 P Q K (j + w1.length) v3' hk' h41 h8b z2 (fun o ho => (z6 o ho).1) hQ hK
  refine Or.inr ⟨zadv_n5 h41.1, C4, v4, y1.trans (z1.trans q1), ?_, zFE_t y3 (zFE_t z3 q3 (by omega)) (Nat.le_refl _), ?_⟩
  · rw [z5, List.length_append, List.length_map]
    rw [show j + (w1.length + P.length) + Q.length = j + w1.length + P.length + Q.length by omega]
    exact q2
  · rw [z5, List.append_assoc]
    exact zmr_app.mpr ⟨zmr_c (fun i hi hi2 => q3.2.2 i (by omega)) z4, q4⟩
theorem V_parn (L p0 p2 r2 r3 s4 : Nat) (T : Nat → Nat) (n : Nat) (x : zLx) (b s : Nat) (hk : zTk T n x) (hs : zisg T x 40) (h8b : b < 8) {ws : List (Int32 × Int32)} {x' : zLx} (hk' : zTk T n x') (hsub : zQt L p0 p2 r2 r3 s4 T n 0 (zadv T n x) (b + 1) s ws x') (h41 : ¬ zisg T x' 41) (hz : zsgn T x' = 0 ∨ zsgn T x' / 10 = 3) : zVf L p0 p2 r2 r3 s4 T n x b s x' := by
  intro d C Q K j v3 s0 hC hs0 hQ hK
  obtain ⟨C2, y1, y2, y3⟩ := V_open L p0 p2 r2 r3 s4 T n x b s hk hs h8b d C (Q ++ K) j v3 hC
  rcases hsub d C2 (1 :: (Q ++ K)) j v3 y2 (fun a r e => by simp only [List.cons.injEq] at e; rw [← e.1]; omega) with ⟨e5, C', z1, z2⟩ | ⟨e5, C3, P, w1, v3', z1, z2, z3, z4, z5, z6, z7⟩
  · exact ⟨C', y1.trans z1, zBd_t y3 z2⟩
  rcases hz with hz | hz
  · obtain ⟨C4, q1, q2⟩ := M19_par d L p0 p2 r2 r3 s4 T n C3 x' (b + 1) s _ (j + w1.length) v3' hk' z2 hz (by omega) (by omega) h41
    exact ⟨C4, y1.trans (z1.trans q1), zBd_t y3 (zBd_t z3 q2)⟩
  · obtain ⟨C4, q1, q2⟩ := M19_test d L p0 p2 r2 r3 s4 T n C3 x' (b + 1) s P _ (j + w1.length) v3' hk' z2 (fun o ho => (z6 o ho).1) hz (z7 (by omega))
    exact ⟨C4, y1.trans (z1.trans q1), zBd_t y3 (zBd_t z3 q2)⟩
theorem V_parf (L p0 p2 r2 r3 s4 : Nat) (T : Nat → Nat) (n : Nat) (x : zLx) (b s : Nat) (hk : zTk T n x) (hs : zisg T x 40) (h8b : b < 8) {x' : zLx} (hsub : zQf L p0 p2 r2 r3 s4 T n 0 (zadv T n x) (b + 1) s x') : zVf L p0 p2 r2 r3 s4 T n x b s x' := by
  intro d C Q K j v3 s0 hC hs0 hQ hK
  obtain ⟨C2, y1, y2, y3⟩ := V_open L p0 p2 r2 r3 s4 T n x b s hk hs h8b d C (Q ++ K) j v3 hC
  obtain ⟨C', z1, z2⟩ := hsub d C2 (1 :: (Q ++ K)) j v3 y2 (fun a r e => by simp only [List.cons.injEq] at e; rw [← e.1]; omega)
  exact ⟨C', y1.trans z1, zBd_t y3 z2⟩
theorem Q_5 (L p0 p2 r2 r3 s4 : Nat) (T : Nat → Nat) (n : Nat) (x : zLx) (b s : Nat) {ws : List (Int32 × Int32)} {x' : zLx} (h : zVt L p0 p2 r2 r3 s4 T n x b s ws x') : zQt L p0 p2 r2 r3 s4 T n 5 x b s ws x' := by
  intro d C K j v3 hC hK
  rcases h d C [] K j v3 s hC rfl (fun o ho => absurd ho (by simp)) (fun a r e => ⟨(hK a r e).1, (hK a r e).2.1⟩) with y | ⟨e5, C', v3', y1, y2, y3, y4⟩
  · exact Or.inl y
  · refine Or.inr ⟨e5, C', [], ws, v3', y1, y2, y3, ?_, ?_, fun o ho => absurd ho (by simp), fun q => absurd q (by decide)⟩
    · rw [List.map_nil, List.append_nil] at y4; exact y4
    · rw [List.map_nil, List.append_nil]
theorem Q_5f (L p0 p2 r2 r3 s4 : Nat) (T : Nat → Nat) (n : Nat) (x : zLx) (b s : Nat) {x' : zLx} (h : zVf L p0 p2 r2 r3 s4 T n x b s x') : zQf L p0 p2 r2 r3 s4 T n 5 x b s x' := fun d C K j v3 hC hK => h d C [] K j v3 s hC rfl (fun o ho => absurd ho (by simp)) (fun a r e => ⟨(hK a r e).1, (hK a r e).2.1⟩)
/-- the loop of a level, in the model -/
def zNt (L p0 p2 r2 r3 s4 : Nat) (T : Nat → Nat) (n m : Nat) (x : zLx) (b s : Nat) (ws : List (Int32 × Int32)) (x' : zLx) : Prop := ∀ (d : Nat) (C : zCt) (P K : List Nat) (j : Nat) (v3 : Value), zME T n C x b s (P ++ K) j → zKo m K → (∀ o, o ∈ P → 10 ≤ o ∧ m + 1 ≤ o / 10) → (m = 2 → ∀ o, o ∈ P → 4 ≤ o / 10) → (m < 2 → zpd T x P) → (x'.2.2 = 5 ∧ ∃ C', zR (d + 6) 192 19 [.ref 201, .int 0, .int 1, v3] [] (zZ L, zI C, zPd p0 p2 r2 r3 s4) = some (none, (zZ L, zI C', zPd p0 p2 r2 r3 s4)) ∧ zBd C C' x'.1) ∨ (x'.2.2 ≠ 5 ∧ ∃ (C' : zCt) (P' : List Nat) (w1 : List (Int32 × Int32)) (v3' : Value), zR (d + 6) 192 19 [.ref 201, .int 0, .int 1, v3] [] (zZ L, zI C, zPd p0 p2 r2 r3 s4) = zR (d + 6) 192 19 [.ref 201, .int 0, .int 1, v3'] [] (zZ L, zI C', zPd p0 p2 r2 r3 s4) ∧ zME T n C' x' b s (P' ++ K) (j + w1.length) ∧ zFE j C C' ∧ zmr (C' 406 0) j w1 ∧ P.map zow ++ ws = w1 ++ P'.map zow ∧ (∀ o, o ∈ P' → 10 ≤ o ∧ m + 1 ≤ o / 10) ∧ (m ≤ 2 → zpd T x' P'))
def zNf (L p0 p2 r2 r3 s4 : Nat) (T : Nat → Nat) (n m : Nat) (x : zLx) (b s : Nat) (x' : zLx) : Prop := ∀ (d : Nat) (C : zCt) (P K : List Nat) (j : Nat) (v3 : Value), zME T n C x b s (P ++ K) j → zKo m K → (∀ o, o ∈ P → 10 ≤ o ∧ m + 1 ≤ o / 10) → (m = 2 → ∀ o, o ∈ P → 4 ≤ o / 10) → (m < 2 → zpd T x P) → ∃ C', zR (d + 6) 192 19 [.ref 201, .int 0, .int 1, v3] [] (zZ L, zI C, zPd p0 p2 r2 r3 s4) = some (none, (zZ L, zI C', zPd p0 p2 r2 r3 s4)) ∧ zBd C C' x'.1
theorem Q_lev (L p0 p2 r2 r3 s4 : Nat) (T : Nat → Nat) (n m : Nat) (x : zLx) (b s : Nat) {ws w2 : List (Int32 × Int32)} {x1 x2 : zLx} (h1 : zQt L p0 p2 r2 r3 s4 T n (m + 1) x b s ws x1) (h2 : x1.2.2 ≠ 5 → zNt L p0 p2 r2 r3 s4 T n m x1 b s w2 x2) (h3 : x1.2.2 = 5 → x2 = x1) : zQt L p0 p2 r2 r3 s4 T n m x b s (ws ++ w2) x2 := by
  intro d C K j v3 hC hK
  rcases h1 d C K j v3 hC (fun a r e => ⟨(hK a r e).1, (hK a r e).2.1, fun q => by have := (hK a r e).2.2 q; omega⟩) with ⟨e5, y⟩ | ⟨e5, C1, P, w1, v1, y1, y2, y3, y4, y5, y6, y7⟩
  · rw [h3 e5]; exact Or.inl ⟨e5, y⟩
  rcases h2 e5 d C1 P K (j + w1.length) v1 y2 hK (fun o ho => ⟨(y6 o ho).1, by have := (y6 o ho).2; omega⟩) (fun e o ho => by have := (y6 o ho).2; omega) (fun e => y7 (by omega)) with ⟨e6, C', z1, z2⟩ | ⟨e6, C', P', w', v', z1, z2, z3, z4, z5, z6, z7⟩
  · exact Or.inl ⟨e6, C', y1.trans z1, zBd_t y3 z2⟩
  · refine Or.inr ⟨e6, C', P', w1 ++ w', v', y1.trans z1, ?_, zFE_t y3 z3 (by omega), zmr_app.mpr ⟨zmr_c (fun i _ hi => z3.2.2 i (by omega)) y4, z4⟩, ?_, z6, z7⟩
    · rw [List.length_append, ← Nat.add_assoc]; exact z2
    · rw [y5, List.append_assoc, z5, List.append_assoc]
theorem Q_levf (L p0 p2 r2 r3 s4 : Nat) (T : Nat → Nat) (n m : Nat) (x : zLx) (b s : Nat) {x1 : zLx} (h1 : zQf L p0 p2 r2 r3 s4 T n (m + 1) x b s x1) : zQf L p0 p2 r2 r3 s4 T n m x b s x1 := fun d C K j v3 hC hK => h1 d C K j v3 hC (fun a r e => ⟨(hK a r e).1, (hK a r e).2.1, fun q => by have := (hK a r e).2.2 q; omega⟩)
theorem Q_levg (L p0 p2 r2 r3 s4 : Nat) (T : Nat → Nat) (n m : Nat) (x : zLx) (b s : Nat) {ws : List (Int32 × Int32)} {x1 x2 : zLx} (h1 : zQt L p0 p2 r2 r3 s4 T n (m + 1) x b s ws x1) (e5 : x1.2.2 ≠ 5) (h2 : zNf L p0 p2 r2 r3 s4 T n m x1 b s x2) : zQf L p0 p2 r2 r3 s4 T n m x b s x2 := by
  intro d C K j v3 hC hK
  rcases h1 d C K j v3 hC (fun a r e => ⟨(hK a r e).1, (hK a r e).2.1, fun q => by have := (hK a r e).2.2 q; omega⟩) with ⟨e5', y⟩ | ⟨_, C1, P, w1, v1, y1, y2, y3, y4, y5, y6, y7⟩
  · exact absurd e5' e5
  obtain ⟨C', z1, z2⟩ := h2 d C1 P K (j + w1.length) v1 y2 hK (fun o ho => ⟨(y6 o ho).1, by have := (y6 o ho).2; omega⟩) (fun e o ho => by have := (y6 o ho).2; omega) (fun e => y7 (by omega))
  exact ⟨C', y1.trans z1, zBd_t y3 z2⟩
theorem N_stop (L p0 p2 r2 r3 s4 : Nat) (T : Nat → Nat) (n m : Nat) (x : zLx) (b s : Nat) (h5 : x.2.2 ≠ 5) (hs : ¬ zsgn T x / 10 = m + 1) : zNt L p0 p2 r2 r3 s4 T n m x b s [] x := by
  intro d C P K j v3 hC hK hP h2 hpd
  refine Or.inr ⟨h5, C, P, [], v3, rfl, hC, zFE_r _ _, trivial, by rw [List.append_nil, List.nil_append], hP, fun hm => ?_⟩
  by_cases e : m = 2
  · intro q; subst e; exact absurd q hs
  · exact hpd (by omega)

theorem N_sign (L p0 p2 r2 r3 s4 : Nat) (T : Nat → Nat) (n m : Nat) (hm : m < 5) (x : zLx) (b s : Nat) (hk : zTk T n x) (hs : zsgn T x / 10 = m + 1) (d : Nat) (C : zCt) (P K : List Nat) (j : Nat) (v3 : Value) (hC : zME T n C x b s (P ++ K) j) (hK : zKo m K) (hP : ∀ o, o ∈ P → 10 ≤ o ∧ m + 1 ≤ o / 10) (h2 : m = 2 → ∀ o, o ∈ P → 4 ≤ o / 10) : ∃ (C' : zCt) (v3' : Value), zR (d + 6) 192 19 [.ref 201, .int 0, .int 1, v3] [] (zZ L, zI C, zPd p0 p2 r2 r3 s4) = zR (d + 6) 192 19 [.ref 201, .int 1, .int 1, v3'] [] (zZ L, zI C', zPd p0 p2 r2 r3 s4) ∧ zME T n C' (zadv T n x) b s (zsgn T x :: K) (j + P.length) ∧ zFE j C C' ∧ zmr (C' 406 0) j (P.map zow) := by
  have hkind : x.2.2 = 3 := by
    by_cases q : x.2.2 = 3
    · exact q
    · unfold zsgn at hs
      rw [if_neg q] at hs
      omega
  have ha := zadv_k T n x hk.2.1
  have hlt := hk.2.2.2.2.1 (by rw [hkind]; decide)
  obtain ⟨hM, hS, hjx⟩ := hC
  have h120 := hM.1.2.1
  have hn := hk.2.1
  have h10 := hM.2.2.2.2
  have t1 := M197 (d + 5) L p0 p2 r2 r3 s4 C hM hk
  have hc60 : zsgn T x < 60 := by have := (zsc_b (T x.1)).2.2.2.2.2; unfold zsgn; split <;> omega
  have hd := nI_d10 (zsgn T x) (by omega)
  rw [hs] at hd
  have hn0 : ¬ nI (zsgn T x) = 0 := fun q => by
    have := (nI_eq (b := 0) (by omega) (by decide)).mp q
    rw [this] at hs
    omega
  rw [List.length_append] at hjx
  obtain ⟨c, hcd⟩ : ∃ c, c = if m = 2 then 4 else m + 1 := ⟨_, rfl⟩
  have hcc : (m = 2 ∧ c = 4) ∨ (m ≠ 2 ∧ c = m + 1) := by
    by_cases e : m = 2
    · rw [if_pos e] at hcd; exact Or.inl ⟨e, hcd⟩
    · rw [if_neg e] at hcd; exact Or.inr ⟨e, hcd⟩
  obtain ⟨C1, t3, n1, g1, m1⟩ := M198 (d + 4) L p0 p2 r2 r3 s4 c (by omega) P K C b s j hS (fun o ho => by
    have q1 := hP o ho
    rcases hcc with ⟨e1, e2⟩ | ⟨e1, e2⟩
    · have := h2 e1 o ho; omega
    · omega) (fun a r e => by
    have q := (hK a r e).2.2
    by_cases q2 : 10 ≤ a
    · have := q q2; omega
    · omega)
  have k3 := n1.2.2.1
  obtain ⟨C2, hC2⟩ : ∃ C2, C2 = zcs (zcs C1 409 (zup (C1 409) 0 K.length (nI (zsgn T x)))) 401 (zup (C1 401) 0 21 (nI (K.length + 1))) := ⟨_, rfl⟩
  have n2 : zSK C2 b s (zsgn T x :: K) (j + P.length) := by
    rw [hC2]
    exact zSK_pu n1 (by omega) (by omega) (by rw [zup_n _ _ (by omega)]) (by rw [zup_g]) (by rw [zup_n _ _ (by omega)]; exact n1.1) (by rw [zup_n _ _ (by omega)]; exact n1.2.1)
  have p1 := zPM_X hM g1
  have p2' : zPM T n C2 x := by
    rw [hC2]
    exact zPM_pu p1 (fun f hf => by rw [zup_n _ _ (by omega)])
  have f1 : zFE j C1 C2 := by
    rw [hC2]
    exact zFE_pu (fun f a b c => by rw [zup_n _ _ (by omega)])
  obtain ⟨F, tm, f2, f3⟩ := M180 (d + 3) L p0 p2 r2 r3 s4 C2 p2' hk.2.1 (by rw [hkind]; decide)
  rcases f2 with ⟨e5, f2⟩ | ⟨e5, _⟩
  case inr => exact absurd e5 (zadv_n5 hkind)
  have w2 : zmr ((zcs C2 401 F) 406 0) j (P.map zow) := by
    rw [zcs_n _ _ (by decide), hC2, zcs_n _ _ (by decide), zcs_n _ _ (by decide)]; exact m1
  refine ⟨zcs C2 401 F, .int (nI (zsgn T x)), ?_, ⟨f2, zSK_4 n2 f3, by simp only [List.length_cons]; omega⟩, zFE_t (zFE_X g1) (zFE_t f1 (zFE_4 j f3) (Nat.le_refl _)) (Nat.le_refl _), w2⟩
  rw [hC2] at tm ⊢
  rw [e192_19]
  rcases hcc with ⟨e1, rfl⟩ | ⟨e1, rfl⟩
  · subst e1
    have hd : nI (zsgn T x) / 10 = 3 := hd
    have t3 : zR (d + 5) 198 0 [.ref 201, .int 4] [] (zZ L, zI C, zPd p0 p2 r2 r3 s4) = some (none, (zZ L, zI C1, zPd p0 p2 r2 r3 s4)) := t3
    cases K with
    | nil =>
      have k3 : C1 401 0 21 = 0 := k3
      have c0 : (0 : Int32) ≤ 0 := by decide
      have z1 : nI (([] : List Nat).length + 1) = 1 := rfl
      have z2 : ([] : List Nat).length = 0 := rfl
      have z3 : (0 : Int32) + 1 = 1 := rfl
      rw [z1, z2] at tm
      rw [z1, z2]
      simp +decide (disch := omega) only [e192_23, e192_30, e192_42, e192_46, e192_51, e192_60, e192_68, e192_71, e192_79, e192_111, e192_137, e192_205, h10, t1, hd, hn0, t3, k3, c0, tm, z3, zpre, ite_self, Nat.reduceAdd, zs1, zs2, zs3, zI_eqb, and_self, not_true_eq_false, if_true, if_false, ite_true, ite_false, not_false_eq_true, zBP, zBZ, zisO, zisA, zlen, decide_true, decide_false, Bool.and_self, Bool.and_true, Bool.true_and, cond_true, cond_false, zBG, zBR, zBU, zBV, zinb_n, zix_n, zlA, zlB, zlM, zlN, zlX, zlI, nI_add, Nat.add_eq_zero_iff, false_and, and_false, and_true, true_and, true_or, or_true, false_or, or_false, zbool_i, zb0, zb1, zshp_0, zcs_eq, zcs_n, zcs_cs, zup_g, zup_n, zg_srock2, zg_stug2, zg_ssun, zg_ssun0, zg_srock, zg_srock0, zg_stug, zg_stug0, zg_sord, zg_sord0, zg_srep, zg_srep0, zg_scla, zg_scla0, zg_scon, zg_scon0, zg_swin, zg_swin0, zg_sleg, zg_sleg0, zg_spro, zg_sstp, zg_swrd, zu_srock2, zu_stug2, zu_ssun, zu_ssun0, zu_srock, zu_srock0, zu_stug, zu_stug0, zu_sord, zu_sord0, zu_srep, zu_srep0, zu_scla, zu_scla0, zu_scon, zu_scon0, zu_swin, zu_swin0, zu_sleg, zu_sleg0, zu_spro, zu_sstp, zu_swrd]
    | cons a r =>
      obtain ⟨k4, k4', _⟩ := n1.2.2.2.1
      have q := (hK a r rfl).2.2
      have ht' := nI_d10 a k4'
      have c3 : ¬ nI (a / 10) = 3 := fun w => by
        have := (nI_eq (b := 3) (by omega) (by decide)).mp w
        have := q (by omega)
        omega
      have k6 := n1.2.2.2.2.2
      simp only [List.length_cons] at k3 tm k6 ⊢
      have c1 : ¬ nI (r.length + 1) ≤ 0 := nI_eqz (by omega) (by omega)
      simp +decide (disch := omega) only [e192_23, e192_30, e192_42, e192_46, e192_51, e192_60, e192_68, e192_71, e192_79, e192_86, e192_111, e192_137, e192_205, h10, t1, hd, hn0, t3, k3, k4, nI_pred, ht', c1, c3, tm, zpre, ite_self, Nat.reduceAdd, zs1, zs2, zs3, zI_eqb, and_self, not_true_eq_false, if_true, if_false, ite_true, ite_false, not_false_eq_true, zBP, zBZ, zisO, zisA, zlen, decide_true, decide_false, Bool.and_self, Bool.and_true, Bool.true_and, cond_true, cond_false, zBG, zBR, zBU, zBV, zinb_n, zix_n, zlA, zlB, zlM, zlN, zlX, zlI, nI_add, Nat.add_eq_zero_iff, false_and, and_false, and_true, true_and, true_or, or_true, false_or, or_false, zbool_i, zb0, zb1, zshp_0, zcs_eq, zcs_n, zcs_cs, zup_g, zup_n, zg_srock2, zg_stug2, zg_ssun, zg_ssun0, zg_srock, zg_srock0, zg_stug, zg_stug0, zg_sord, zg_sord0, zg_srep, zg_srep0, zg_scla, zg_scla0, zg_scon, zg_scon0, zg_swin, zg_swin0, zg_sleg, zg_sleg0, zg_spro, zg_sstp, zg_swrd, zu_srock2, zu_stug2, zu_ssun, zu_ssun0, zu_srock, zu_srock0, zu_stug, zu_stug0, zu_sord, zu_sord0, zu_srep, zu_srep0, zu_scla, zu_scla0, zu_scon, zu_scon0, zu_swin, zu_swin0, zu_sleg, zu_sleg0, zu_spro, zu_sstp, zu_swrd]
  · have c3 : ¬ nI (m + 1) = 3 := fun w => by
      have := (nI_eq (b := 3) (by omega) (by decide)).mp w
      omega
    simp +decide (disch := omega) only [e192_23, e192_30, e192_42, e192_46, e192_51, e192_64, e192_68, e192_71, e192_111, e192_137, e192_205, h10, t1, hd, hn0, t3, k3, c3, tm, zpre, ite_self, Nat.reduceAdd, zs1, zs2, zs3, zI_eqb, and_self, not_true_eq_false, if_true, if_false, ite_true, ite_false, not_false_eq_true, zBP, zBZ, zisO, zisA, zlen, decide_true, decide_false, Bool.and_self, Bool.and_true, Bool.true_and, cond_true, cond_false, zBG, zBR, zBU, zBV, zinb_n, zix_n, zlA, zlB, zlM, zlN, zlX, zlI, nI_add, Nat.add_eq_zero_iff, false_and, and_false, and_true, true_and, true_or, or_true, false_or, or_false, zbool_i, zb0, zb1, zshp_0, zcs_eq, zcs_n, zcs_cs, zup_g, zup_n, zg_srock2, zg_stug2, zg_ssun, zg_ssun0, zg_srock, zg_srock0, zg_stug, zg_stug0, zg_sord, zg_sord0, zg_srep, zg_srep0, zg_scla, zg_scla0, zg_scon, zg_scon0, zg_swin, zg_swin0, zg_sleg, zg_sleg0, zg_spro, zg_sstp, zg_swrd, zu_srock2, zu_stug2, zu_ssun, zu_ssun0, zu_srock, zu_srock0, zu_stug, zu_stug0, zu_sord, zu_sord0, zu_srep, zu_srep0, zu_scla, zu_scla0, zu_scon, zu_scon0, zu_swin, zu_swin0, zu_sleg, zu_sleg0, zu_spro, zu_sstp, zu_swrd]

theorem zsgn_10 {T : Nat → Nat} {x : zLx} {m : Nat} (hs : zsgn T x / 10 = m + 1) : 10 ≤ zsgn T x := by omega
theorem N_join2 (L p0 p2 r2 r3 s4 : Nat) (T : Nat → Nat) (n m : Nat) (hm : m < 5) (x : zLx) (b s : Nat) (hk : zTk T n x) (hs : zsgn T x / 10 = m + 1) (hm2 : m = 2) {ws : List (Int32 × Int32)} {x1 : zLx} (h1 : zQt L p0 p2 r2 r3 s4 T n (m + 1) (zadv T n x) b s ws x1) : zNt L p0 p2 r2 r3 s4 T n m x b s (ws ++ [(nI (zsgn T x), 0)]) x1 := by
  intro d C P K j v3 hC hK hP h2 hpd
  obtain ⟨C1, v1, y1, y2, y3, y4⟩ := N_sign L p0 p2 r2 r3 s4 T n m hm x b s hk hs d C P K j v3 hC hK hP h2
  have h10 := zsgn_10 hs
  rcases h1 d C1 (zsgn T x :: K) (j + P.length) v1 y2 (fun a r e => by simp only [List.cons.injEq] at e; rw [← e.1]; exact ⟨by omega, by omega, fun _ => by omega⟩) with ⟨e5, C', z1, z2⟩ | ⟨e5, C', P2, w1, v', z1, z2, z3, z4, z5, z6, z7⟩
  · exact Or.inl ⟨e5, C', y1.trans z1, zBd_t y3 z2⟩
  · refine Or.inr ⟨e5, C', P2 ++ [zsgn T x], P.map zow ++ w1, v', y1.trans z1, ?_, zFE_t y3 z3 (by omega), ?_, ?_, ?_, ?_⟩
    · rw [List.length_append, List.length_map, ← Nat.add_assoc, List.append_assoc]; exact z2
    · exact zmr_app.mpr ⟨zmr_c (fun i _ hi => z3.2.2 i (by rw [List.length_map] at hi; exact hi)) y4, by rw [List.length_map]; exact z4⟩
    · rw [z5, List.map_append, List.append_assoc, List.append_assoc]; rfl
    · intro o ho
      rcases List.mem_append.mp ho with q | q
      · have := z6 o q; omega
      · rw [List.mem_singleton.mp q]; omega
    · intro _ _
      exact ⟨P2, zsgn T x, [], rfl, by omega, fun o ho => by have := (z6 o ho).2; omega⟩
theorem N_joint (L p0 p2 r2 r3 s4 : Nat) (T : Nat → Nat) (n m : Nat) (hm : m < 5) (x : zLx) (b s : Nat) (hk : zTk T n x) (hs : zsgn T x / 10 = m + 1) (hm2 : m ≠ 2) {ws w2 : List (Int32 × Int32)} {x1 x2 : zLx} (h1 : zQt L p0 p2 r2 r3 s4 T n (m + 1) (zadv T n x) b s ws x1) (h3 : x1.2.2 ≠ 5 → zNt L p0 p2 r2 r3 s4 T n m x1 b s w2 x2) (h4 : x1.2.2 = 5 → x2 = x1) : zNt L p0 p2 r2 r3 s4 T n m x b s (ws ++ [(nI (zsgn T x), 0)] ++ w2) x2 := by
  intro d C P K j v3 hC hK hP h2 hpd
  obtain ⟨C1, v1, y1, y2, y3, y4⟩ := N_sign L p0 p2 r2 r3 s4 T n m hm x b s hk hs d C P K j v3 hC hK hP h2
  have h10 := zsgn_10 hs
  rcases h1 d C1 (zsgn T x :: K) (j + P.length) v1 y2 (fun a r e => by simp only [List.cons.injEq] at e; rw [← e.1]; exact ⟨by omega, by omega, fun _ => by omega⟩) with ⟨e5, C', z1, z2⟩ | ⟨e5, C', P2, w1, v', z1, z2, z3, z4, z5, z6, z7⟩
  · rw [h4 e5]; exact Or.inl ⟨e5, C', y1.trans z1, zBd_t y3 z2⟩
  have hP2 : ∀ o, o ∈ P2 ++ [zsgn T x] → 10 ≤ o ∧ m + 1 ≤ o / 10 := by
    intro o ho
    rcases List.mem_append.mp ho with q | q
    · have := z6 o q; omega
    · rw [List.mem_singleton.mp q]; omega
  rcases h3 e5 d C' (P2 ++ [zsgn T x]) K (j + P.length + w1.length) v' (by rw [List.append_assoc]; exact z2) hK hP2 (fun e => absurd e hm2) (fun e q => by
    obtain ⟨Pa, t, Pb, q1, q2, q3⟩ := z7 (by omega) q
    exact ⟨Pa, t, Pb ++ [zsgn T x], by rw [q1, List.append_assoc]; rfl, q2, q3⟩) with ⟨e6, C4, k1, k2⟩ | ⟨e6, C4, P4, w4, v4, k1, k2, k3, k4, k5, k6, k7⟩
  · exact Or.inl ⟨e6, C4, y1.trans (z1.trans k1), zBd_t y3 (zBd_t z3 k2)⟩
  · refine Or.inr ⟨e6, C4, P4, P.map zow ++ w1 ++ w4, v4, y1.trans (z1.trans k1), ?_, zFE_t y3 (zFE_t z3 k3 (by omega)) (by omega), ?_, ?_, k6, k7⟩
    · rw [List.length_append, List.length_append, List.length_map, ← Nat.add_assoc, ← Nat.add_assoc]; exact k2
    · refine zmr_app.mpr ⟨zmr_app.mpr ⟨zmr_c (fun i _ hi => ?_) y4, zmr_c (fun i hi hi2 => ?_) (by rw [List.length_map]; exact z4)⟩, by rw [List.length_append, List.length_map, ← Nat.add_assoc]; exact k4⟩
      · rw [List.length_map] at hi
        rw [k3.2.2 i (by omega), z3.2.2 i hi]
      · rw [List.length_map] at hi2
        exact k3.2.2 i hi2
    · rw [z5, List.append_assoc, List.append_assoc, List.append_assoc, List.append_assoc, ← k5, List.map_append]
      simp only [List.append_assoc]
      rfl
theorem N_joinf (L p0 p2 r2 r3 s4 : Nat) (T : Nat → Nat) (n m : Nat) (hm : m < 5) (x : zLx) (b s : Nat) (hk : zTk T n x) (hs : zsgn T x / 10 = m + 1) {x1 : zLx} (h1 : zQf L p0 p2 r2 r3 s4 T n (m + 1) (zadv T n x) b s x1) : zNf L p0 p2 r2 r3 s4 T n m x b s x1 := by
  intro d C P K j v3 hC hK hP h2 hpd
  obtain ⟨C1, v1, y1, y2, y3, y4⟩ := N_sign L p0 p2 r2 r3 s4 T n m hm x b s hk hs d C P K j v3 hC hK hP h2
  have h10 := zsgn_10 hs
  obtain ⟨C', z1, z2⟩ := h1 d C1 (zsgn T x :: K) (j + P.length) v1 y2 (fun a r e => by simp only [List.cons.injEq] at e; rw [← e.1]; exact ⟨by omega, by omega, fun _ => by omega⟩)
  exact ⟨C', y1.trans z1, zBd_t y3 z2⟩
theorem N_joing (L p0 p2 r2 r3 s4 : Nat) (T : Nat → Nat) (n m : Nat) (hm : m < 5) (x : zLx) (b s : Nat) (hk : zTk T n x) (hs : zsgn T x / 10 = m + 1) (hm2 : m ≠ 2) {ws : List (Int32 × Int32)} {x1 x2 : zLx} (h1 : zQt L p0 p2 r2 r3 s4 T n (m + 1) (zadv T n x) b s ws x1) (e5 : x1.2.2 ≠ 5) (h3 : zNf L p0 p2 r2 r3 s4 T n m x1 b s x2) : zNf L p0 p2 r2 r3 s4 T n m x b s x2 := by
  intro d C P K j v3 hC hK hP h2 hpd
  obtain ⟨C1, v1, y1, y2, y3, y4⟩ := N_sign L p0 p2 r2 r3 s4 T n m hm x b s hk hs d C P K j v3 hC hK hP h2
  have h10 := zsgn_10 hs
  rcases h1 d C1 (zsgn T x :: K) (j + P.length) v1 y2 (fun a r e => by simp only [List.cons.injEq] at e; rw [← e.1]; exact ⟨by omega, by omega, fun _ => by omega⟩) with ⟨e5', _⟩ | ⟨_, C', P2, w1, v', z1, z2, z3, z4, z5, z6, z7⟩
  · exact absurd e5' e5
  have hP2 : ∀ o, o ∈ P2 ++ [zsgn T x] → 10 ≤ o ∧ m + 1 ≤ o / 10 := by
    intro o ho
    rcases List.mem_append.mp ho with q | q
    · have := z6 o q; omega
    · rw [List.mem_singleton.mp q]; omega
  obtain ⟨C4, k1, k2⟩ := h3 d C' (P2 ++ [zsgn T x]) K (j + P.length + w1.length) v' (by rw [List.append_assoc]; exact z2) hK hP2 (fun e => absurd e hm2) (fun e q => by
    obtain ⟨Pa, t, Pb, q1, q2, q3⟩ := z7 (by omega) q
    exact ⟨Pa, t, Pb ++ [zsgn T x], by rw [q1, List.append_assoc]; rfl, q2, q3⟩)
  exact ⟨C4, y1.trans (z1.trans k1), zBd_t y3 (zBd_t z3 k2)⟩

