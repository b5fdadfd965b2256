/-! THE PROGRAM: S in the class (4), printed by wip/gen/pub74.py -/
theorem I_et (D D' L p r2 r3 s4 : Nat) (hp : p < 4) (hD : 87 ≤ D) (hD' : D' + 1 ≤ D) (T : Nat → Nat) (n : Nat) (x : zLx) (be N j : Nat) (hk : zTk T n x) {ws : List (Int32 × Int32)} {G1 G2 : List zUn} {c1 c2 : Nat} {x2 x5 x8 : zLx} (h1 : zEt 84 L p r2 r3 s4 T n 24 [.ref 190, .int 0, zmk, zmk] x 0 0 ws x2) (h2 : zAt D' L p r2 r3 s4 T n 32 [.ref 190] x2 be (N + 1) (j + ws.length) G1 c1 x5) (hroom : x2.1 + (G1.length + zwc G1) + 2 ≤ x5.1) (hV : zV T x5 = zWK 14) (h3 : zAt D' L p r2 r3 s4 T n 32 [.ref 190] (zadv T n x5) be (N + 1 + G1.length + 1) (j + ws.length + zwc G1) G2 c2 x8) : zIt D L p r2 r3 s4 T n 31 [.ref 190, zmk, zmk] x be N j ((ws, (13, nI j, nI (j + ws.length), nI (N + 1 + G1.length + 1)), (12, nI (N + 1 + G1.length + 1 + (j + ws.length + zwc G1)))) :: G1 ++ (([] : List (Int32 × Int32)), ((14 : Int32), nI (N + 1 + G1.length + 1 + G2.length), (0 : Int32), (0 : Int32)), ((15 : Int32), nI ((N + 1 + G1.length + 1 + G2.length) + (j + ws.length + zwc G1 + zwc G2)))) :: G2) (c1 + c2) x8 := by
  obtain ⟨a1, a2, a3, a4⟩ := h1
  obtain ⟨b1, b2, b3, b4⟩ := h2
  have hn5 := b3.1
  have hn6 := b3.2.1
  have hkind5 := zV_1 (by omega) hV
  have ha5 := zadv_k T n x5 b3.2.1
  have hlt5 := b3.2.2.2.2.1 (by rw [hkind5]; decide)
  obtain ⟨c1', c2', c3', c4'⟩ := h3
  have hn8 := c3'.1
  have hn9 := c3'.2.1
  refine ⟨by simp only [List.length_cons, List.length_nil, List.length_append, zwc, zwc_app]; omega, by omega, c3', ?_⟩
  intro e he C t h h6 h7 h8 h9 hU hUx
  obtain ⟨d, rfl⟩ : ∃ d, e = d + 87 := ⟨e - 87, by omega⟩
  have h120 := h.1.2.1
  have hn := hk.2.1
  obtain ⟨C1, t1, k1⟩ := a4 (d + 86) (by omega) C (N + j) h h7 h8 hU (by omega)
  have e1 := zCa_un hp k1 h9 (13, nI j, nI (j + ws.length), nI (N + 1 + G1.length + 1)) 12 0
  have t2 := C23 (d + 85) L p r2 r3 s4 hp C1 (U := N + j + ws.length) (by have := a3.1; have := a3.2.1; omega) k1.2.2.2.1 12 0
  obtain ⟨C2, hC2⟩ : ∃ C2, C2 = zem p C1 (N + j + ws.length) 12 0 := ⟨_, rfl⟩
  rw [← hC2] at e1 t2
  have u1 : C2 0 0 (14 + p) = nI (N + 1 + (j + ws.length)) := by
    rw [e1.2.2.2.2.1]
    congr 1
    simp only [List.length_cons, List.length_nil, zwc]
    omega
  have q6 : C2 390 0 6 = nI be := by rw [e1.2.2.1 6 (by decide) (by decide) (by decide) (by decide)]; exact h6
  have q7 : C2 390 0 7 = nI 0 := by rw [e1.2.2.1 7 (by decide) (by decide) (by decide) (by decide)]; exact h7
  have q8 : C2 390 0 8 = nI 0 := by rw [e1.2.2.1 8 (by decide) (by decide) (by decide) (by decide)]; exact h8
  obtain ⟨C3, t3, e2⟩ := b4 (d + 86) (by omega) C2 t e1.1 q6 q7 q8 e1.2.2.2.1 u1 (by omega)
  have e3 : zCa p T n (N + j) t c1 C C3 ((ws, (13, nI j, nI (j + ws.length), nI (N + 1 + G1.length + 1)), (12, 0)) :: G1) x5 := by
    have := zCa_t e1 (show zCa p T n (N + j + (([(ws, (13, nI j, nI (j + ws.length), nI (N + 1 + G1.length + 1)), (12, 0))] : List zUn).length + zwc [(ws, (13, nI j, nI (j + ws.length), nI (N + 1 + G1.length + 1)), (12, 0))])) (t + 0) c1 C2 C3 G1 x5 from by
      rw [show N + j + (([(ws, (13, nI j, nI (j + ws.length), nI (N + 1 + G1.length + 1)), (12, 0))] : List zUn).length + zwc [(ws, (13, nI j, nI (j + ws.length), nI (N + 1 + G1.length + 1)), (12, 0))]) = N + 1 + (j + ws.length) by simp only [List.length_cons, List.length_nil, zwc]; omega]
      exact e2)
    rw [Nat.zero_add] at this
    exact this
  have hz : (N + j + (((ws, (13, nI j, nI (j + ws.length), nI (N + 1 + G1.length + 1)), (12, 0)) :: G1).length + zwc ((ws, (13, nI j, nI (j + ws.length), nI (N + 1 + G1.length + 1)), (12, 0)) :: G1))) = N + 1 + G1.length + (j + ws.length + zwc G1) := by
    simp only [List.length_cons, List.length_nil, List.length_append, zwc, zwc_app]
    omega
  have t4 := C19 (d + 84) L p r2 r3 s4 C3 e3.1 b3 zmk
  rw [zfj_w (by omega) hV, show nI 14 = 14 from rfl] at t4
  obtain ⟨F, t5, f2, f3⟩ := C14 (d + 84) L p r2 r3 s4 C3 e3.1 b3.2.1 (by rw [hkind5]; decide)
  have e4 := zCa_e e3 (zCk_go hp f2 f3 e3.2.2.2.2.1)
  have e5 := zCa_un hp (zCk_0 e4.1 e4.2.2.2.2.1) e4.2.2.2.1 (14, nI (N + 1 + G1.length + 1 + G2.length), 0, 0) 15 0
  rw [List.length_nil, Nat.add_zero (N + j + (((ws, (13, nI j, nI (j + ws.length), nI (N + 1 + G1.length + 1)), (12, 0)) :: G1).length + zwc ((ws, (13, nI j, nI (j + ws.length), nI (N + 1 + G1.length + 1)), (12, 0)) :: G1)))] at e5
  have t6 := C23 (d + 85) L p r2 r3 s4 hp (zcs C3 390 F) (U := (N + j + (((ws, (13, nI j, nI (j + ws.length), nI (N + 1 + G1.length + 1)), (12, 0)) :: G1).length + zwc ((ws, (13, nI j, nI (j + ws.length), nI (N + 1 + G1.length + 1)), (12, 0)) :: G1)))) (by rw [hz]; omega) e4.2.2.2.2.1 15 0
  have e6 := zCa_t e4 e5
  rw [Nat.add_zero c1] at e6
  obtain ⟨C5, hC5⟩ : ∃ C5, C5 = zem p (zcs C3 390 F) (N + j + (((ws, (13, nI j, nI (j + ws.length), nI (N + 1 + G1.length + 1)), (12, 0)) :: G1).length + zwc ((ws, (13, nI j, nI (j + ws.length), nI (N + 1 + G1.length + 1)), (12, 0)) :: G1))) 15 0 := ⟨_, rfl⟩
  rw [← hC5] at e6 t6
  have u5 : C5 0 0 (14 + p) = nI (N + 1 + G1.length + 1 + (j + ws.length + zwc G1)) := by
    rw [e6.2.2.2.2.1]
    congr 1
    simp only [List.length_cons, List.length_nil, List.length_append, zwc, zwc_app]
    omega
  have e7 := zCa_pt hp (Ga := []) (row := N + j + ws.length) e6 (by simp only [List.length_nil, zwc]; omega) (nI (N + 1 + G1.length + 1 + (j + ws.length + zwc G1)))
  have t7 := C33 (d + 85) L p r2 r3 s4 hp C5 (row := N + j + ws.length) (U := N + 1 + G1.length + 1 + (j + ws.length + zwc G1)) (by omega) (by omega) u5
  obtain ⟨C6, hC6⟩ : ∃ C6, C6 = zcs C5 (10 + p) (zup (C5 (10 + p)) (N + j + ws.length) 1 (nI (N + 1 + G1.length + 1 + (j + ws.length + zwc G1)))) := ⟨_, rfl⟩
  rw [← hC6] at e7 t7
  have u6 : C6 0 0 (14 + p) = nI (N + 1 + G1.length + 1 + (j + ws.length + zwc G1)) := by rw [hC6, zcs_n _ _ (by omega)]; exact u5
  obtain ⟨C7, t8, e8⟩ := c4' (d + 86) (by omega) C6 (t + c1) e7.1 (by rw [e7.2.2.1 6 (by decide) (by decide) (by decide) (by decide)]; exact h6) (by rw [e7.2.2.1 7 (by decide) (by decide) (by decide) (by decide)]; exact h7) (by rw [e7.2.2.1 8 (by decide) (by decide) (by decide) (by decide)]; exact h8) e7.2.2.2.1 u6 (by omega)
  have e9 := zCa_t e7 (C := C7) (G2 := G2) (c2 := c2) (x2 := x8) (by
    have hq : N + j + ((([] : List zUn) ++ (ws, (13, nI j, nI (j + ws.length), nI (N + 1 + G1.length + 1)), (12, nI (N + 1 + G1.length + 1 + (j + ws.length + zwc G1)))) :: (G1 ++ ([(([] : List (Int32 × Int32)), ((14 : Int32), nI (N + 1 + G1.length + 1 + G2.length), (0 : Int32), (0 : Int32)), ((15 : Int32), (0 : Int32)))] : List zUn))).length + zwc (([] : List zUn) ++ (ws, (13, nI j, nI (j + ws.length), nI (N + 1 + G1.length + 1)), (12, nI (N + 1 + G1.length + 1 + (j + ws.length + zwc G1)))) :: (G1 ++ ([(([] : List (Int32 × Int32)), ((14 : Int32), nI (N + 1 + G1.length + 1 + G2.length), (0 : Int32), (0 : Int32)), ((15 : Int32), (0 : Int32)))] : List zUn)))) = N + 1 + G1.length + 1 + (j + ws.length + zwc G1) := by
      simp only [List.nil_append, List.length_cons, List.length_nil, List.length_append, zwc, zwc_app]
      omega
    exact Eq.mp (congrArg (fun z => zCa p T n z (t + c1) c2 C6 C7 G2 x8) hq.symm) e8)
  have e10 : zCa p T n (N + j) t (c1 + c2) C C7 (((ws, (13, nI j, nI (j + ws.length), nI (N + 1 + G1.length + 1)), (12, nI (N + 1 + G1.length + 1 + (j + ws.length + zwc G1)))) :: G1) ++ (([] : List (Int32 × Int32)), ((14 : Int32), nI (N + 1 + G1.length + 1 + G2.length), (0 : Int32), (0 : Int32)), ((15 : Int32), (0 : Int32))) :: G2) x8 := by
    have q : ((([] : List zUn) ++ (ws, (13, nI j, nI (j + ws.length), nI (N + 1 + G1.length + 1)), (12, nI (N + 1 + G1.length + 1 + (j + ws.length + zwc G1)))) :: (G1 ++ ([(([] : List (Int32 × Int32)), ((14 : Int32), nI (N + 1 + G1.length + 1 + G2.length), (0 : Int32), (0 : Int32)), ((15 : Int32), (0 : Int32)))] : List zUn))) ++ G2) = ((ws, (13, nI j, nI (j + ws.length), nI (N + 1 + G1.length + 1)), (12, nI (N + 1 + G1.length + 1 + (j + ws.length + zwc G1)))) :: G1) ++ (([] : List (Int32 × Int32)), ((14 : Int32), nI (N + 1 + G1.length + 1 + G2.length), (0 : Int32), (0 : Int32)), ((15 : Int32), (0 : Int32))) :: G2 := by
      simp only [List.nil_append, List.cons_append, List.append_assoc]
    rw [← q]
    exact e9
  have u7 : C7 0 0 (14 + p) = nI ((N + 1 + G1.length + 1 + G2.length) + (j + ws.length + zwc G1 + zwc G2)) := by
    rw [e10.2.2.2.2.1]
    congr 1
    simp only [List.length_cons, List.length_nil, List.length_append, zwc, zwc_app]
    omega
  have hz2 : (N + j + (((ws, (13, nI j, nI (j + ws.length), nI (N + 1 + G1.length + 1)), (12, 0)) :: G1).length + zwc ((ws, (13, nI j, nI (j + ws.length), nI (N + 1 + G1.length + 1)), (12, 0)) :: G1))) = (N + j + (((ws, (13, nI j, nI (j + ws.length), nI (N + 1 + G1.length + 1)), (12, nI (N + 1 + G1.length + 1 + (j + ws.length + zwc G1)))) :: G1).length + zwc ((ws, (13, nI j, nI (j + ws.length), nI (N + 1 + G1.length + 1)), (12, nI (N + 1 + G1.length + 1 + (j + ws.length + zwc G1)))) :: G1))) := by
    rw [hz]
    simp only [List.length_cons, zwc]
    omega
  have e11 := zCa_pt hp (row := (N + j + (((ws, (13, nI j, nI (j + ws.length), nI (N + 1 + G1.length + 1)), (12, 0)) :: G1).length + zwc ((ws, (13, nI j, nI (j + ws.length), nI (N + 1 + G1.length + 1)), (12, 0)) :: G1)))) e10 (by rw [hz2]; rfl) (nI ((N + 1 + G1.length + 1 + G2.length) + (j + ws.length + zwc G1 + zwc G2)))
  have t9 := C33 (d + 85) L p r2 r3 s4 hp C7 (row := (N + j + (((ws, (13, nI j, nI (j + ws.length), nI (N + 1 + G1.length + 1)), (12, 0)) :: G1).length + zwc ((ws, (13, nI j, nI (j + ws.length), nI (N + 1 + G1.length + 1)), (12, 0)) :: G1)))) (U := (N + 1 + G1.length + 1 + G2.length) + (j + ws.length + zwc G1 + zwc G2)) (by rw [hz]; omega) (by omega) u7
  refine ⟨_, ?_, e11⟩
  simp +decide (disch := omega) only [e31_0, e31_5, e31_10, e31_17, e31_22, e31_27, e31_31, e31_43, e31_47, e31_54, e31_60, e31_64, t1, t2, t3, t4, t5, t6, t7, t8, e31_69, e31_74, t9, zpre, ite_self, zs1, zs2, zs3, zI_eqb, and_self, not_true_eq_false, if_true, if_false, ite_true, ite_false, not_false_eq_true, zBP, zBZ, zisO, zisA, zlen, decide_true, decide_false, Bool.and_self, Bool.and_true, Bool.true_and, cond_true, cond_false, zBG, zBR, zBU, zBV, zinb_n, zix_n, zlA, zlB, zlM, zlN, zlX, zlI, nI_add, Nat.add_eq_zero_iff, false_and, and_false, and_true, true_and, true_or, or_true, false_or, or_false, zbool_i, zb0, zb1, zshp_0, zcs_eq, zcs_n, zcs_cs, zup_g, zup_n, zp2_sun, zp2_rock, zp2_tug, zp2_contract, zp2_window, zp2_code, zp2_rbody, zp2_rstock, zp2_tfree, zp2_thold, zp2_tknown, zp2_ccells, zsh2_sun, zsh2_rock, zsh2_body, zsh2_stock, zsh2_tug, zsh2_free, zsh2_hold, zsh2_known, zsh2_contract, zsh2_window, zsh2_code, zsh2_cells, zg_nsun0, zg_nsun1, zg_nsun2, zg_nrock0, zg_nrock1, zg_nrock2, zg_nrock3, zg_nrock4, zg_nrock5, zg_nrock6, zg_nrock7, zg_nrock8, zg_nrock9, zg_nrock10, zg_nrock11, zg_nrock12, zg_nrock13, zg_nrock14, zg_ntug0, zg_ntug1, zg_ntug2, zg_ntug3, zg_ntug4, zg_ntug5, zg_ntug6, zg_ntug7, zg_ntug8, zg_ntug9, zg_ntug10, zg_ntug11, zg_ntug12, zg_ntug13, zg_ntug14, zg_ntug15, zg_ntug17, zg_ntug18, zg_ntug19, zg_ntug20, zg_ntug21, zg_ntug22, zg_ncon0, zg_ncon1, zg_ncon2, zg_ncon3, zg_ncon4, zg_ncon5, zg_ncon6, zg_nwin0, zg_nwin1, zg_nwin2, zg_nwin3, zg_nwin4, zg_nwin5, zg_ncode0, zg_ncode1, zg_ncode3, zg_nrule, zg_nstock, zg_nhold, zg_nknown, zg_nord, zg_nrep, zg_ncla, zg_ntou, zg_ncel, zu_nsun0, zu_nsun1, zu_nsun2, zu_nrock0, zu_nrock1, zu_nrock2, zu_nrock3, zu_nrock4, zu_nrock5, zu_nrock6, zu_nrock7, zu_nrock8, zu_nrock9, zu_nrock10, zu_nrock11, zu_nrock12, zu_nrock13, zu_nrock14, zu_ntug0, zu_ntug1, zu_ntug2, zu_ntug3, zu_ntug4, zu_ntug5, zu_ntug6, zu_ntug7, zu_ntug8, zu_ntug9, zu_ntug10, zu_ntug11, zu_ntug12, zu_ntug13, zu_ntug14, zu_ntug15, zu_ntug17, zu_ntug18, zu_ntug19, zu_ntug20, zu_ntug21, zu_ntug22, zu_ncon0, zu_ncon1, zu_ncon2, zu_ncon3, zu_ncon4, zu_ncon5, zu_ncon6, zu_nwin0, zu_nwin1, zu_nwin2, zu_nwin3, zu_nwin4, zu_nwin5, zu_ncode3, zu_nrule, zu_nstock, zu_nhold, zu_nknown, zu_nord, zu_nrep, zu_ncla, zu_ntou, zu_ncel]
theorem I_ef (D D' L p r2 r3 s4 : Nat) (hp : p < 4) (hD : 87 ≤ D) (hD' : D' + 1 ≤ D) (T : Nat → Nat) (n : Nat) (x : zLx) (be N j : Nat) (hk : zTk T n x) {ws : List (Int32 × Int32)} {G1 G2 : List zUn} {c1 c2 : Nat} {x2 x5 x8 : zLx} (h1 : zEt 84 L p r2 r3 s4 T n 24 [.ref 190, .int 0, zmk, zmk] x 0 0 ws x2) (h2 : zAt D' L p r2 r3 s4 T n 32 [.ref 190] x2 be (N + 1) (j + ws.length) G1 c1 x5) (hroom : x2.1 + (G1.length + zwc G1) + 2 ≤ x5.1) (hV : zV T x5 = zWK 14) (h3 : zAf D' L p r2 r3 s4 T n 32 [.ref 190] (zadv T n x5) be (N + 1 + G1.length + 1) (j + ws.length + zwc G1) x8) : zIf D L p r2 r3 s4 T n 31 [.ref 190, zmk, zmk] x be N j x8 := by
  obtain ⟨a1, a2, a3, a4⟩ := h1
  obtain ⟨b1, b2, b3, b4⟩ := h2
  have hn5 := b3.1
  have hn6 := b3.2.1
  have hkind5 := zV_1 (by omega) hV
  have ha5 := zadv_k T n x5 b3.2.1
  have hlt5 := b3.2.2.2.2.1 (by rw [hkind5]; decide)
  intro e he C t h h6 h7 h8 h9 hU hUx
  obtain ⟨d, rfl⟩ : ∃ d, e = d + 87 := ⟨e - 87, by omega⟩
  have h120 := h.1.2.1
  have hn := hk.2.1
  obtain ⟨C1, t1, k1⟩ := a4 (d + 86) (by omega) C (N + j) h h7 h8 hU (by omega)
  have e1 := zCa_un hp k1 h9 (13, nI j, nI (j + ws.length), nI (N + 1 + G1.length + 1)) 12 0
  have t2 := C23 (d + 85) L p r2 r3 s4 hp C1 (U := N + j + ws.length) (by have := a3.1; have := a3.2.1; omega) k1.2.2.2.1 12 0
  obtain ⟨C2, hC2⟩ : ∃ C2, C2 = zem p C1 (N + j + ws.length) 12 0 := ⟨_, rfl⟩
  rw [← hC2] at e1 t2
  have u1 : C2 0 0 (14 + p) = nI (N + 1 + (j + ws.length)) := by
    rw [e1.2.2.2.2.1]
    congr 1
    simp only [List.length_cons, List.length_nil, zwc]
    omega
  have q6 : C2 390 0 6 = nI be := by rw [e1.2.2.1 6 (by decide) (by decide) (by decide) (by decide)]; exact h6
  have q7 : C2 390 0 7 = nI 0 := by rw [e1.2.2.1 7 (by decide) (by decide) (by decide) (by decide)]; exact h7
  have q8 : C2 390 0 8 = nI 0 := by rw [e1.2.2.1 8 (by decide) (by decide) (by decide) (by decide)]; exact h8
  obtain ⟨C3, t3, e2⟩ := b4 (d + 86) (by omega) C2 t e1.1 q6 q7 q8 e1.2.2.2.1 u1 (by omega)
  have e3 : zCa p T n (N + j) t c1 C C3 ((ws, (13, nI j, nI (j + ws.length), nI (N + 1 + G1.length + 1)), (12, 0)) :: G1) x5 := by
    have := zCa_t e1 (show zCa p T n (N + j + (([(ws, (13, nI j, nI (j + ws.length), nI (N + 1 + G1.length + 1)), (12, 0))] : List zUn).length + zwc [(ws, (13, nI j, nI (j + ws.length), nI (N + 1 + G1.length + 1)), (12, 0))])) (t + 0) c1 C2 C3 G1 x5 from by
      rw [show N + j + (([(ws, (13, nI j, nI (j + ws.length), nI (N + 1 + G1.length + 1)), (12, 0))] : List zUn).length + zwc [(ws, (13, nI j, nI (j + ws.length), nI (N + 1 + G1.length + 1)), (12, 0))]) = N + 1 + (j + ws.length) by simp only [List.length_cons, List.length_nil, zwc]; omega]
      exact e2)
    rw [Nat.zero_add] at this
    exact this
  have hz : (N + j + (((ws, (13, nI j, nI (j + ws.length), nI (N + 1 + G1.length + 1)), (12, 0)) :: G1).length + zwc ((ws, (13, nI j, nI (j + ws.length), nI (N + 1 + G1.length + 1)), (12, 0)) :: G1))) = N + 1 + G1.length + (j + ws.length + zwc G1) := by
    simp only [List.length_cons, List.length_nil, List.length_append, zwc, zwc_app]
    omega
  have t4 := C19 (d + 84) L p r2 r3 s4 C3 e3.1 b3 zmk
  rw [zfj_w (by omega) hV, show nI 14 = 14 from rfl] at t4
  obtain ⟨F, t5, f2, f3⟩ := C14 (d + 84) L p r2 r3 s4 C3 e3.1 b3.2.1 (by rw [hkind5]; decide)
  have e4 := zCa_e e3 (zCk_go hp f2 f3 e3.2.2.2.2.1)
  have e5 := zCa_un hp (zCk_0 e4.1 e4.2.2.2.2.1) e4.2.2.2.1 (14, nI 0, 0, 0) 15 0
  rw [List.length_nil, Nat.add_zero (N + j + (((ws, (13, nI j, nI (j + ws.length), nI (N + 1 + G1.length + 1)), (12, 0)) :: G1).length + zwc ((ws, (13, nI j, nI (j + ws.length), nI (N + 1 + G1.length + 1)), (12, 0)) :: G1)))] at e5
  have t6 := C23 (d + 85) L p r2 r3 s4 hp (zcs C3 390 F) (U := (N + j + (((ws, (13, nI j, nI (j + ws.length), nI (N + 1 + G1.length + 1)), (12, 0)) :: G1).length + zwc ((ws, (13, nI j, nI (j + ws.length), nI (N + 1 + G1.length + 1)), (12, 0)) :: G1)))) (by rw [hz]; omega) e4.2.2.2.2.1 15 0
  have e6 := zCa_t e4 e5
  rw [Nat.add_zero c1] at e6
  obtain ⟨C5, hC5⟩ : ∃ C5, C5 = zem p (zcs C3 390 F) (N + j + (((ws, (13, nI j, nI (j + ws.length), nI (N + 1 + G1.length + 1)), (12, 0)) :: G1).length + zwc ((ws, (13, nI j, nI (j + ws.length), nI (N + 1 + G1.length + 1)), (12, 0)) :: G1))) 15 0 := ⟨_, rfl⟩
  rw [← hC5] at e6 t6
  have u5 : C5 0 0 (14 + p) = nI (N + 1 + G1.length + 1 + (j + ws.length + zwc G1)) := by
    rw [e6.2.2.2.2.1]
    congr 1
    simp only [List.length_cons, List.length_nil, List.length_append, zwc, zwc_app]
    omega
  have e7 := zCa_pt hp (Ga := []) (row := N + j + ws.length) e6 (by simp only [List.length_nil, zwc]; omega) (nI (N + 1 + G1.length + 1 + (j + ws.length + zwc G1)))
  have t7 := C33 (d + 85) L p r2 r3 s4 hp C5 (row := N + j + ws.length) (U := N + 1 + G1.length + 1 + (j + ws.length + zwc G1)) (by omega) (by omega) u5
  obtain ⟨C6, hC6⟩ : ∃ C6, C6 = zcs C5 (10 + p) (zup (C5 (10 + p)) (N + j + ws.length) 1 (nI (N + 1 + G1.length + 1 + (j + ws.length + zwc G1)))) := ⟨_, rfl⟩
  rw [← hC6] at e7 t7
  have u6 : C6 0 0 (14 + p) = nI (N + 1 + G1.length + 1 + (j + ws.length + zwc G1)) := by rw [hC6, zcs_n _ _ (by omega)]; exact u5
  obtain ⟨C7, t8, e8, e9⟩ := h3 (d + 86) (by omega) C6 (t + c1) e7.1 (by rw [e7.2.2.1 6 (by decide) (by decide) (by decide) (by decide)]; exact h6) (by rw [e7.2.2.1 7 (by decide) (by decide) (by decide) (by decide)]; exact h7) (by rw [e7.2.2.1 8 (by decide) (by decide) (by decide) (by decide)]; exact h8) e7.2.2.2.1 u6 (by omega)
  refine ⟨C7, ?_, e8, zFC_t e7.2.1 e9⟩
  simp +decide (disch := omega) only [e31_0, e31_5, e31_10, e31_17, e31_22, e31_27, e31_31, e31_43, e31_47, e31_54, e31_60, e31_64, t1, t2, t3, t4, t5, t6, t7, t8, e31_67, zpre, ite_self, zs1, zs2, zs3, zI_eqb, and_self, not_true_eq_false, if_true, if_false, ite_true, ite_false, not_false_eq_true, zBP, zBZ, zisO, zisA, zlen, decide_true, decide_false, Bool.and_self, Bool.and_true, Bool.true_and, cond_true, cond_false, zBG, zBR, zBU, zBV, zinb_n, zix_n, zlA, zlB, zlM, zlN, zlX, zlI, nI_add, Nat.add_eq_zero_iff, false_and, and_false, and_true, true_and, true_or, or_true, false_or, or_false, zbool_i, zb0, zb1, zshp_0, zcs_eq, zcs_n, zcs_cs, zup_g, zup_n, zp2_sun, zp2_rock, zp2_tug, zp2_contract, zp2_window, zp2_code, zp2_rbody, zp2_rstock, zp2_tfree, zp2_thold, zp2_tknown, zp2_ccells, zsh2_sun, zsh2_rock, zsh2_body, zsh2_stock, zsh2_tug, zsh2_free, zsh2_hold, zsh2_known, zsh2_contract, zsh2_window, zsh2_code, zsh2_cells, zg_nsun0, zg_nsun1, zg_nsun2, zg_nrock0, zg_nrock1, zg_nrock2, zg_nrock3, zg_nrock4, zg_nrock5, zg_nrock6, zg_nrock7, zg_nrock8, zg_nrock9, zg_nrock10, zg_nrock11, zg_nrock12, zg_nrock13, zg_nrock14, zg_ntug0, zg_ntug1, zg_ntug2, zg_ntug3, zg_ntug4, zg_ntug5, zg_ntug6, zg_ntug7, zg_ntug8, zg_ntug9, zg_ntug10, zg_ntug11, zg_ntug12, zg_ntug13, zg_ntug14, zg_ntug15, zg_ntug17, zg_ntug18, zg_ntug19, zg_ntug20, zg_ntug21, zg_ntug22, zg_ncon0, zg_ncon1, zg_ncon2, zg_ncon3, zg_ncon4, zg_ncon5, zg_ncon6, zg_nwin0, zg_nwin1, zg_nwin2, zg_nwin3, zg_nwin4, zg_nwin5, zg_ncode0, zg_ncode1, zg_ncode3, zg_nrule, zg_nstock, zg_nhold, zg_nknown, zg_nord, zg_nrep, zg_ncla, zg_ntou, zg_ncel, zu_nsun0, zu_nsun1, zu_nsun2, zu_nrock0, zu_nrock1, zu_nrock2, zu_nrock3, zu_nrock4, zu_nrock5, zu_nrock6, zu_nrock7, zu_nrock8, zu_nrock9, zu_nrock10, zu_nrock11, zu_nrock12, zu_nrock13, zu_nrock14, zu_ntug0, zu_ntug1, zu_ntug2, zu_ntug3, zu_ntug4, zu_ntug5, zu_ntug6, zu_ntug7, zu_ntug8, zu_ntug9, zu_ntug10, zu_ntug11, zu_ntug12, zu_ntug13, zu_ntug14, zu_ntug15, zu_ntug17, zu_ntug18, zu_ntug19, zu_ntug20, zu_ntug21, zu_ntug22, zu_ncon0, zu_ncon1, zu_ncon2, zu_ncon3, zu_ncon4, zu_ncon5, zu_ncon6, zu_nwin0, zu_nwin1, zu_nwin2, zu_nwin3, zu_nwin4, zu_nwin5, zu_ncode3, zu_nrule, zu_nstock, zu_nhold, zu_nknown, zu_nord, zu_nrep, zu_ncla, zu_ntou, zu_ncel]
theorem A_ift (D D' L p r2 r3 s4 : Nat) (hp : p < 4) (hD : 86 ≤ D) (hD' : D' + 1 ≤ D) (T : Nat → Nat) (n : Nat) (x : zLx) (be N j : Nat) (hk : zTk T n x) (hV : zV T x = zWK 12) {G : List zUn} {c : Nat} {x2 : zLx} (h1 : zIt D' L p r2 r3 s4 T n 31 [.ref 190, zmk, zmk] (zadv T n x) be N j G c x2) : zAt D L p r2 r3 s4 T n 18 [.ref 190, zmk] x be N j G (1 + c) x2 := by
  have hkind := zV_1 (by omega) hV
  have ha := zadv_k T n x hk.2.1
  have hlt := hk.2.2.2.2.1 (by rw [hkind]; decide)
  obtain ⟨a1, a2, a3, a4⟩ := h1
  refine ⟨by omega, by omega, a3, ?_⟩
  intro e he C t h h6 h7 h8 h9 hU hUx
  obtain ⟨d, rfl⟩ : ∃ d, e = d + 86 := ⟨e - 86, by omega⟩
  have h120 := h.1.2.1
  have hn := hk.2.1
  obtain ⟨F, t1, f2, f9, f3⟩ := C18_pre (d + 82) L p r2 r3 s4 C h hk (show 12 < 14 by omega) hV h9
  have e0 := zCa_pre hp f2 f9 f3 hU
  have hU1 : (zcs C 390 F) 0 0 (14 + p) = nI (N + j) := by rw [zcs_n _ _ (by decide)]; exact hU
  have r6 : (zcs C 390 F) 390 0 6 = nI be := by rw [zcs_eq, f3 6 (by decide) (by decide) (by decide) (by decide)]; exact h6
  have r7 : (zcs C 390 F) 390 0 7 = nI 0 := by rw [zcs_eq, f3 7 (by decide) (by decide) (by decide) (by decide)]; exact h7
  have r8 : (zcs C 390 F) 390 0 8 = nI 0 := by rw [zcs_eq, f3 8 (by decide) (by decide) (by decide) (by decide)]; exact h8
  have r9 : (zcs C 390 F) 390 0 9 = nI (t + 1) := by rw [zcs_eq]; exact f9
  have hsw : zswT 32 (124) (0) (13) #[72, 77, 124, 124, 124, 124, 124, 124, 124, 124, 124, 104, 114, 119]  (nI 12) = 146 := by decide
  have hswl : zswT 32 (124) (0) (13) #[72, 77, 124, 124, 124, 124, 124, 124, 124, 124, 124, 104, 114, 119]  12 = 146 := by decide
  obtain ⟨C2, t2, e1⟩ := a4 (d + 85) (by omega) _ (t + 1) f2 r6 r7 r8 r9 hU1 (by omega)
  refine ⟨_, t1.trans ?_, zCa_t0 e0 e1⟩
  simp +decide (disch := omega) only [e18_31, hsw, e18_146, e18_150, t2, zpre, ite_self, zs1, zs2, zs3, zI_eqb, and_self, not_true_eq_false, if_true, if_false, ite_true, ite_false, not_false_eq_true, zBP, zBZ, zisO, zisA, zlen, decide_true, decide_false, Bool.and_self, Bool.and_true, Bool.true_and, cond_true, cond_false, zBG, zBR, zBU, zBV, zinb_n, zix_n, zlA, zlB, zlM, zlN, zlX, zlI, nI_add, Nat.add_eq_zero_iff, false_and, and_false, and_true, true_and, true_or, or_true, false_or, or_false, zbool_i, zb0, zb1, zshp_0, zcs_eq, zcs_n, zcs_cs, zup_g, zup_n, zp2_sun, zp2_rock, zp2_tug, zp2_contract, zp2_window, zp2_code, zp2_rbody, zp2_rstock, zp2_tfree, zp2_thold, zp2_tknown, zp2_ccells, zsh2_sun, zsh2_rock, zsh2_body, zsh2_stock, zsh2_tug, zsh2_free, zsh2_hold, zsh2_known, zsh2_contract, zsh2_window, zsh2_code, zsh2_cells, zg_nsun0, zg_nsun1, zg_nsun2, zg_nrock0, zg_nrock1, zg_nrock2, zg_nrock3, zg_nrock4, zg_nrock5, zg_nrock6, zg_nrock7, zg_nrock8, zg_nrock9, zg_nrock10, zg_nrock11, zg_nrock12, zg_nrock13, zg_nrock14, zg_ntug0, zg_ntug1, zg_ntug2, zg_ntug3, zg_ntug4, zg_ntug5, zg_ntug6, zg_ntug7, zg_ntug8, zg_ntug9, zg_ntug10, zg_ntug11, zg_ntug12, zg_ntug13, zg_ntug14, zg_ntug15, zg_ntug17, zg_ntug18, zg_ntug19, zg_ntug20, zg_ntug21, zg_ntug22, zg_ncon0, zg_ncon1, zg_ncon2, zg_ncon3, zg_ncon4, zg_ncon5, zg_ncon6, zg_nwin0, zg_nwin1, zg_nwin2, zg_nwin3, zg_nwin4, zg_nwin5, zg_ncode0, zg_ncode1, zg_ncode3, zg_nrule, zg_nstock, zg_nhold, zg_nknown, zg_nord, zg_nrep, zg_ncla, zg_ntou, zg_ncel, zu_nsun0, zu_nsun1, zu_nsun2, zu_nrock0, zu_nrock1, zu_nrock2, zu_nrock3, zu_nrock4, zu_nrock5, zu_nrock6, zu_nrock7, zu_nrock8, zu_nrock9, zu_nrock10, zu_nrock11, zu_nrock12, zu_nrock13, zu_nrock14, zu_ntug0, zu_ntug1, zu_ntug2, zu_ntug3, zu_ntug4, zu_ntug5, zu_ntug6, zu_ntug7, zu_ntug8, zu_ntug9, zu_ntug10, zu_ntug11, zu_ntug12, zu_ntug13, zu_ntug14, zu_ntug15, zu_ntug17, zu_ntug18, zu_ntug19, zu_ntug20, zu_ntug21, zu_ntug22, zu_ncon0, zu_ncon1, zu_ncon2, zu_ncon3, zu_ncon4, zu_ncon5, zu_ncon6, zu_nwin0, zu_nwin1, zu_nwin2, zu_nwin3, zu_nwin4, zu_nwin5, zu_ncode3, zu_nrule, zu_nstock, zu_nhold, zu_nknown, zu_nord, zu_nrep, zu_ncla, zu_ntou, zu_ncel]
theorem A_iff (D D' L p r2 r3 s4 : Nat) (hp : p < 4) (hD : 86 ≤ D) (hD' : D' + 1 ≤ D) (T : Nat → Nat) (n : Nat) (x : zLx) (be N j : Nat) (hk : zTk T n x) (hV : zV T x = zWK 12) {x2 : zLx} (h1 : zIf D' L p r2 r3 s4 T n 31 [.ref 190, zmk, zmk] (zadv T n x) be N j x2) : zAf D L p r2 r3 s4 T n 18 [.ref 190, zmk] x be N j x2 := by
  have hkind := zV_1 (by omega) hV
  have ha := zadv_k T n x hk.2.1
  have hlt := hk.2.2.2.2.1 (by rw [hkind]; decide)
  intro e he C t h h6 h7 h8 h9 hU hUx
  obtain ⟨d, rfl⟩ : ∃ d, e = d + 86 := ⟨e - 86, by omega⟩
  have h120 := h.1.2.1
  have hn := hk.2.1
  obtain ⟨F, t1, f2, f9, f3⟩ := C18_pre (d + 82) L p r2 r3 s4 C h hk (show 12 < 14 by omega) hV h9
  have e0 := zCa_pre hp f2 f9 f3 hU
  have hU1 : (zcs C 390 F) 0 0 (14 + p) = nI (N + j) := by rw [zcs_n _ _ (by decide)]; exact hU
  have r6 : (zcs C 390 F) 390 0 6 = nI be := by rw [zcs_eq, f3 6 (by decide) (by decide) (by decide) (by decide)]; exact h6
  have r7 : (zcs C 390 F) 390 0 7 = nI 0 := by rw [zcs_eq, f3 7 (by decide) (by decide) (by decide) (by decide)]; exact h7
  have r8 : (zcs C 390 F) 390 0 8 = nI 0 := by rw [zcs_eq, f3 8 (by decide) (by decide) (by decide) (by decide)]; exact h8
  have r9 : (zcs C 390 F) 390 0 9 = nI (t + 1) := by rw [zcs_eq]; exact f9
  have hsw : zswT 32 (124) (0) (13) #[72, 77, 124, 124, 124, 124, 124, 124, 124, 124, 124, 104, 114, 119]  (nI 12) = 146 := by decide
  have hswl : zswT 32 (124) (0) (13) #[72, 77, 124, 124, 124, 124, 124, 124, 124, 124, 124, 104, 114, 119]  12 = 146 := by decide
  obtain ⟨C2, t2, e1, e2⟩ := h1 (d + 85) (by omega) _ (t + 1) f2 r6 r7 r8 r9 hU1 (by omega)
  refine ⟨C2, t1.trans ?_, e1, zFC_t (zFC_390 C F) e2⟩
  simp +decide (disch := omega) only [e18_31, hsw, e18_146, e18_150, t2, zpre, ite_self, zs1, zs2, zs3, zI_eqb, and_self, not_true_eq_false, if_true, if_false, ite_true, ite_false, not_false_eq_true, zBP, zBZ, zisO, zisA, zlen, decide_true, decide_false, Bool.and_self, Bool.and_true, Bool.true_and, cond_true, cond_false, zBG, zBR, zBU, zBV, zinb_n, zix_n, zlA, zlB, zlM, zlN, zlX, zlI, nI_add, Nat.add_eq_zero_iff, false_and, and_false, and_true, true_and, true_or, or_true, false_or, or_false, zbool_i, zb0, zb1, zshp_0, zcs_eq, zcs_n, zcs_cs, zup_g, zup_n, zp2_sun, zp2_rock, zp2_tug, zp2_contract, zp2_window, zp2_code, zp2_rbody, zp2_rstock, zp2_tfree, zp2_thold, zp2_tknown, zp2_ccells, zsh2_sun, zsh2_rock, zsh2_body, zsh2_stock, zsh2_tug, zsh2_free, zsh2_hold, zsh2_known, zsh2_contract, zsh2_window, zsh2_code, zsh2_cells, zg_nsun0, zg_nsun1, zg_nsun2, zg_nrock0, zg_nrock1, zg_nrock2, zg_nrock3, zg_nrock4, zg_nrock5, zg_nrock6, zg_nrock7, zg_nrock8, zg_nrock9, zg_nrock10, zg_nrock11, zg_nrock12, zg_nrock13, zg_nrock14, zg_ntug0, zg_ntug1, zg_ntug2, zg_ntug3, zg_ntug4, zg_ntug5, zg_ntug6, zg_ntug7, zg_ntug8, zg_ntug9, zg_ntug10, zg_ntug11, zg_ntug12, zg_ntug13, zg_ntug14, zg_ntug15, zg_ntug17, zg_ntug18, zg_ntug19, zg_ntug20, zg_ntug21, zg_ntug22, zg_ncon0, zg_ncon1, zg_ncon2, zg_ncon3, zg_ncon4, zg_ncon5, zg_ncon6, zg_nwin0, zg_nwin1, zg_nwin2, zg_nwin3, zg_nwin4, zg_nwin5, zg_ncode0, zg_ncode1, zg_ncode3, zg_nrule, zg_nstock, zg_nhold, zg_nknown, zg_nord, zg_nrep, zg_ncla, zg_ntou, zg_ncel, zu_nsun0, zu_nsun1, zu_nsun2, zu_nrock0, zu_nrock1, zu_nrock2, zu_nrock3, zu_nrock4, zu_nrock5, zu_nrock6, zu_nrock7, zu_nrock8, zu_nrock9, zu_nrock10, zu_nrock11, zu_nrock12, zu_nrock13, zu_nrock14, zu_ntug0, zu_ntug1, zu_ntug2, zu_ntug3, zu_ntug4, zu_ntug5, zu_ntug6, zu_ntug7, zu_ntug8, zu_ntug9, zu_ntug10, zu_ntug11, zu_ntug12, zu_ntug13, zu_ntug14, zu_ntug15, zu_ntug17, zu_ntug18, zu_ntug19, zu_ntug20, zu_ntug21, zu_ntug22, zu_ncon0, zu_ncon1, zu_ncon2, zu_ncon3, zu_ncon4, zu_ncon5, zu_ncon6, zu_nwin0, zu_nwin1, zu_nwin2, zu_nwin3, zu_nwin4, zu_nwin5, zu_ncode3, zu_nrule, zu_nstock, zu_nhold, zu_nknown, zu_nord, zu_nrep, zu_ncla, zu_ntou, zu_ncel]

theorem A_whilet (D D' L p r2 r3 s4 : Nat) (hp : p < 4) (hD : 86 ≤ D) (hD' : D' + 1 ≤ D) (T : Nat → Nat) (n : Nat) (x : zLx) (be N j : Nat) (hk : zTk T n x) (hV : zV T x = zWK 13) {G : List zUn} {c : Nat} {x2 : zLx} (h1 : zIt D' L p r2 r3 s4 T n 34 [.ref 190, zmk, zmk] (zadv T n x) be N j G c x2) : zAt D L p r2 r3 s4 T n 18 [.ref 190, zmk] x be N j G (1 + c) x2 := by
  have hkind := zV_1 (by omega) hV
  have ha := zadv_k T n x hk.2.1
  have hlt := hk.2.2.2.2.1 (by rw [hkind]; decide)
  obtain ⟨a1, a2, a3, a4⟩ := h1
  refine ⟨by omega, by omega, a3, ?_⟩
  intro e he C t h h6 h7 h8 h9 hU hUx
  obtain ⟨d, rfl⟩ : ∃ d, e = d + 86 := ⟨e - 86, by omega⟩
  have h120 := h.1.2.1
  have hn := hk.2.1
  obtain ⟨F, t1, f2, f9, f3⟩ := C18_pre (d + 82) L p r2 r3 s4 C h hk (show 13 < 14 by omega) hV h9
  have e0 := zCa_pre hp f2 f9 f3 hU
  have hU1 : (zcs C 390 F) 0 0 (14 + p) = nI (N + j) := by rw [zcs_n _ _ (by decide)]; exact hU
  have r6 : (zcs C 390 F) 390 0 6 = nI be := by rw [zcs_eq, f3 6 (by decide) (by decide) (by decide) (by decide)]; exact h6
  have r7 : (zcs C 390 F) 390 0 7 = nI 0 := by rw [zcs_eq, f3 7 (by decide) (by decide) (by decide) (by decide)]; exact h7
  have r8 : (zcs C 390 F) 390 0 8 = nI 0 := by rw [zcs_eq, f3 8 (by decide) (by decide) (by decide) (by decide)]; exact h8
  have r9 : (zcs C 390 F) 390 0 9 = nI (t + 1) := by rw [zcs_eq]; exact f9
  have hsw : zswT 32 (124) (0) (13) #[72, 77, 124, 124, 124, 124, 124, 124, 124, 124, 124, 104, 114, 119]  (nI 13) = 151 := by decide
  have hswl : zswT 32 (124) (0) (13) #[72, 77, 124, 124, 124, 124, 124, 124, 124, 124, 124, 104, 114, 119]  13 = 151 := by decide
  obtain ⟨C2, t2, e1⟩ := a4 (d + 85) (by omega) _ (t + 1) f2 r6 r7 r8 r9 hU1 (by omega)
  refine ⟨_, t1.trans ?_, zCa_t0 e0 e1⟩
  simp +decide (disch := omega) only [e18_31, hsw, e18_151, e18_155, t2, zpre, ite_self, zs1, zs2, zs3, zI_eqb, and_self, not_true_eq_false, if_true, if_false, ite_true, ite_false, not_false_eq_true, zBP, zBZ, zisO, zisA, zlen, decide_true, decide_false, Bool.and_self, Bool.and_true, Bool.true_and, cond_true, cond_false, zBG, zBR, zBU, zBV, zinb_n, zix_n, zlA, zlB, zlM, zlN, zlX, zlI, nI_add, Nat.add_eq_zero_iff, false_and, and_false, and_true, true_and, true_or, or_true, false_or, or_false, zbool_i, zb0, zb1, zshp_0, zcs_eq, zcs_n, zcs_cs, zup_g, zup_n, zp2_sun, zp2_rock, zp2_tug, zp2_contract, zp2_window, zp2_code, zp2_rbody, zp2_rstock, zp2_tfree, zp2_thold, zp2_tknown, zp2_ccells, zsh2_sun, zsh2_rock, zsh2_body, zsh2_stock, zsh2_tug, zsh2_free, zsh2_hold, zsh2_known, zsh2_contract, zsh2_window, zsh2_code, zsh2_cells, zg_nsun0, zg_nsun1, zg_nsun2, zg_nrock0, zg_nrock1, zg_nrock2, zg_nrock3, zg_nrock4, zg_nrock5, zg_nrock6, zg_nrock7, zg_nrock8, zg_nrock9, zg_nrock10, zg_nrock11, zg_nrock12, zg_nrock13, zg_nrock14, zg_ntug0, zg_ntug1, zg_ntug2, zg_ntug3, zg_ntug4, zg_ntug5, zg_ntug6, zg_ntug7, zg_ntug8, zg_ntug9, zg_ntug10, zg_ntug11, zg_ntug12, zg_ntug13, zg_ntug14, zg_ntug15, zg_ntug17, zg_ntug18, zg_ntug19, zg_ntug20, zg_ntug21, zg_ntug22, zg_ncon0, zg_ncon1, zg_ncon2, zg_ncon3, zg_ncon4, zg_ncon5, zg_ncon6, zg_nwin0, zg_nwin1, zg_nwin2, zg_nwin3, zg_nwin4, zg_nwin5, zg_ncode0, zg_ncode1, zg_ncode3, zg_nrule, zg_nstock, zg_nhold, zg_nknown, zg_nord, zg_nrep, zg_ncla, zg_ntou, zg_ncel, zu_nsun0, zu_nsun1, zu_nsun2, zu_nrock0, zu_nrock1, zu_nrock2, zu_nrock3, zu_nrock4, zu_nrock5, zu_nrock6, zu_nrock7, zu_nrock8, zu_nrock9, zu_nrock10, zu_nrock11, zu_nrock12, zu_nrock13, zu_nrock14, zu_ntug0, zu_ntug1, zu_ntug2, zu_ntug3, zu_ntug4, zu_ntug5, zu_ntug6, zu_ntug7, zu_ntug8, zu_ntug9, zu_ntug10, zu_ntug11, zu_ntug12, zu_ntug13, zu_ntug14, zu_ntug15, zu_ntug17, zu_ntug18, zu_ntug19, zu_ntug20, zu_ntug21, zu_ntug22, zu_ncon0, zu_ncon1, zu_ncon2, zu_ncon3, zu_ncon4, zu_ncon5, zu_ncon6, zu_nwin0, zu_nwin1, zu_nwin2, zu_nwin3, zu_nwin4, zu_nwin5, zu_ncode3, zu_nrule, zu_nstock, zu_nhold, zu_nknown, zu_nord, zu_nrep, zu_ncla, zu_ntou, zu_ncel]
theorem A_whilef (D D' L p r2 r3 s4 : Nat) (hp : p < 4) (hD : 86 ≤ D) (hD' : D' + 1 ≤ D) (T : Nat → Nat) (n : Nat) (x : zLx) (be N j : Nat) (hk : zTk T n x) (hV : zV T x = zWK 13) {x2 : zLx} (h1 : zIf D' L p r2 r3 s4 T n 34 [.ref 190, zmk, zmk] (zadv T n x) be N j x2) : zAf D L p r2 r3 s4 T n 18 [.ref 190, zmk] x be N j x2 := by
  have hkind := zV_1 (by omega) hV
  have ha := zadv_k T n x hk.2.1
  have hlt := hk.2.2.2.2.1 (by rw [hkind]; decide)
  intro e he C t h h6 h7 h8 h9 hU hUx
  obtain ⟨d, rfl⟩ : ∃ d, e = d + 86 := ⟨e - 86, by omega⟩
  have h120 := h.1.2.1
  have hn := hk.2.1
  obtain ⟨F, t1, f2, f9, f3⟩ := C18_pre (d + 82) L p r2 r3 s4 C h hk (show 13 < 14 by omega) hV h9
  have e0 := zCa_pre hp f2 f9 f3 hU
  have hU1 : (zcs C 390 F) 0 0 (14 + p) = nI (N + j) := by rw [zcs_n _ _ (by decide)]; exact hU
  have r6 : (zcs C 390 F) 390 0 6 = nI be := by rw [zcs_eq, f3 6 (by decide) (by decide) (by decide) (by decide)]; exact h6
  have r7 : (zcs C 390 F) 390 0 7 = nI 0 := by rw [zcs_eq, f3 7 (by decide) (by decide) (by decide) (by decide)]; exact h7
  have r8 : (zcs C 390 F) 390 0 8 = nI 0 := by rw [zcs_eq, f3 8 (by decide) (by decide) (by decide) (by decide)]; exact h8
  have r9 : (zcs C 390 F) 390 0 9 = nI (t + 1) := by rw [zcs_eq]; exact f9
  have hsw : zswT 32 (124) (0) (13) #[72, 77, 124, 124, 124, 124, 124, 124, 124, 124, 124, 104, 114, 119]  (nI 13) = 151 := by decide
  have hswl : zswT 32 (124) (0) (13) #[72, 77, 124, 124, 124, 124, 124, 124, 124, 124, 124, 104, 114, 119]  13 = 151 := by decide
  obtain ⟨C2, t2, e1, e2⟩ := h1 (d + 85) (by omega) _ (t + 1) f2 r6 r7 r8 r9 hU1 (by omega)
  refine ⟨C2, t1.trans ?_, e1, zFC_t (zFC_390 C F) e2⟩
  simp +decide (disch := omega) only [e18_31, hsw, e18_151, e18_155, t2, zpre, ite_self, zs1, zs2, zs3, zI_eqb, and_self, not_true_eq_false, if_true, if_false, ite_true, ite_false, not_false_eq_true, zBP, zBZ, zisO, zisA, zlen, decide_true, decide_false, Bool.and_self, Bool.and_true, Bool.true_and, cond_true, cond_false, zBG, zBR, zBU, zBV, zinb_n, zix_n, zlA, zlB, zlM, zlN, zlX, zlI, nI_add, Nat.add_eq_zero_iff, false_and, and_false, and_true, true_and, true_or, or_true, false_or, or_false, zbool_i, zb0, zb1, zshp_0, zcs_eq, zcs_n, zcs_cs, zup_g, zup_n, zp2_sun, zp2_rock, zp2_tug, zp2_contract, zp2_window, zp2_code, zp2_rbody, zp2_rstock, zp2_tfree, zp2_thold, zp2_tknown, zp2_ccells, zsh2_sun, zsh2_rock, zsh2_body, zsh2_stock, zsh2_tug, zsh2_free, zsh2_hold, zsh2_known, zsh2_contract, zsh2_window, zsh2_code, zsh2_cells, zg_nsun0, zg_nsun1, zg_nsun2, zg_nrock0, zg_nrock1, zg_nrock2, zg_nrock3, zg_nrock4, zg_nrock5, zg_nrock6, zg_nrock7, zg_nrock8, zg_nrock9, zg_nrock10, zg_nrock11, zg_nrock12, zg_nrock13, zg_nrock14, zg_ntug0, zg_ntug1, zg_ntug2, zg_ntug3, zg_ntug4, zg_ntug5, zg_ntug6, zg_ntug7, zg_ntug8, zg_ntug9, zg_ntug10, zg_ntug11, zg_ntug12, zg_ntug13, zg_ntug14, zg_ntug15, zg_ntug17, zg_ntug18, zg_ntug19, zg_ntug20, zg_ntug21, zg_ntug22, zg_ncon0, zg_ncon1, zg_ncon2, zg_ncon3, zg_ncon4, zg_ncon5, zg_ncon6, zg_nwin0, zg_nwin1, zg_nwin2, zg_nwin3, zg_nwin4, zg_nwin5, zg_ncode0, zg_ncode1, zg_ncode3, zg_nrule, zg_nstock, zg_nhold, zg_nknown, zg_nord, zg_nrep, zg_ncla, zg_ntou, zg_ncel, zu_nsun0, zu_nsun1, zu_nsun2, zu_nrock0, zu_nrock1, zu_nrock2, zu_nrock3, zu_nrock4, zu_nrock5, zu_nrock6, zu_nrock7, zu_nrock8, zu_nrock9, zu_nrock10, zu_nrock11, zu_nrock12, zu_nrock13, zu_nrock14, zu_ntug0, zu_ntug1, zu_ntug2, zu_ntug3, zu_ntug4, zu_ntug5, zu_ntug6, zu_ntug7, zu_ntug8, zu_ntug9, zu_ntug10, zu_ntug11, zu_ntug12, zu_ntug13, zu_ntug14, zu_ntug15, zu_ntug17, zu_ntug18, zu_ntug19, zu_ntug20, zu_ntug21, zu_ntug22, zu_ncon0, zu_ncon1, zu_ncon2, zu_ncon3, zu_ncon4, zu_ncon5, zu_ncon6, zu_nwin0, zu_nwin1, zu_nwin2, zu_nwin3, zu_nwin4, zu_nwin5, zu_ncode3, zu_nrule, zu_nstock, zu_nhold, zu_nknown, zu_nord, zu_nrep, zu_ncla, zu_ntou, zu_ncel]

/-- more S follow -/
def zTt (D L p r2 r3 s4 : Nat) (T : Nat → Nat) (n : Nat) (x : zLx) (be N j : Nat) (G : List zUn) (c : Nat) (x' : zLx) : Prop := x.1 + (G.length + zwc G) ≤ x'.1 ∧ zTk T n x' ∧ ∀ d, D ≤ d → ∀ (C : zCt) (t i : Nat), zPC T n C x → C 390 0 6 = nI be → C 390 0 7 = nI 0 → C 390 0 8 = nI 0 → C 390 0 9 = nI t → C 0 0 (14 + p) = nI (N + j) → N + j ≤ x.1 → i ≤ x.1 → ∃ C', zR d 17 11 [.ref 190, .int (nI i)] [] (zZ L, zI C, zPd 184 (85 + 2 * p) r2 r3 s4) = some (some (.int 1), (zZ L, zI C', zPd 184 (85 + 2 * p) r2 r3 s4)) ∧ zCa p T n (N + j) t c C C' G x'
def zTq (D L p r2 r3 s4 : Nat) (T : Nat → Nat) (n : Nat) (x : zLx) (be N j : Nat) (x' : zLx) : Prop := ∀ d, D ≤ d → ∀ (C : zCt) (t i : Nat), zPC T n C x → C 390 0 6 = nI be → C 390 0 7 = nI 0 → C 390 0 8 = nI 0 → C 390 0 9 = nI t → C 0 0 (14 + p) = nI (N + j) → N + j ≤ x.1 → i ≤ x.1 → ∃ C', zR d 17 11 [.ref 190, .int (nI i)] [] (zZ L, zI C, zPd 184 (85 + 2 * p) r2 r3 s4) = some (some (.int 0), (zZ L, zI C', zPd 184 (85 + 2 * p) r2 r3 s4)) ∧ C' 390 0 4 = nI x'.1 ∧ zFC p C C'
theorem T_stop (D L p r2 r3 s4 : Nat) (hD : 4 ≤ D) (T : Nat → Nat) (n : Nat) (x : zLx) (be N j : Nat) (hk : zTk T n x) (hs : zisg T x 125 ∨ x.2.2 = 0) : zTt D L p r2 r3 s4 T n x be N j [] 0 x := by
  refine ⟨Nat.le_refl _, hk, ?_⟩
  intro e he C t i h h6 h7 h8 h9 hU hUx hi
  obtain ⟨d, rfl⟩ : ∃ d, e = d + 4 := ⟨e - 4, by omega⟩
  refine ⟨C, ?_, zCa_k (zCk_0 h hU) h9⟩
  rw [e17_11]
  by_cases c : (120 : Int32) ≤ nI i
  · rw [if_pos c, e17_48]
  · rw [if_neg c]
    by_cases q : zisg T x 125
    · have t1 : zR (d + 3) 27 0 [.ref 190, .int 125] [] (zZ L, zI C, zPd 184 (85 + 2 * p) r2 r3 s4) = _ := C27_y (d + 2) L p r2 r3 s4 C h hk q
      simp +decide (disch := omega) only [e17_17, e17_23, e17_48, t1, zpre, ite_self, zs1, zs2, zs3, zI_eqb, and_self, not_true_eq_false, if_true, if_false, ite_true, ite_false, not_false_eq_true, zBP, zBZ, zisO, zisA, zlen, decide_true, decide_false, Bool.and_self, Bool.and_true, Bool.true_and, cond_true, cond_false, zBG, zBR, zBU, zBV, zinb_n, zix_n, zlA, zlB, zlM, zlN, zlX, zlI, nI_add, Nat.add_eq_zero_iff, false_and, and_false, and_true, true_and, true_or, or_true, false_or, or_false, zbool_i, zb0, zb1, zshp_0, zcs_eq, zcs_n, zcs_cs, zup_g, zup_n, zp2_sun, zp2_rock, zp2_tug, zp2_contract, zp2_window, zp2_code, zp2_rbody, zp2_rstock, zp2_tfree, zp2_thold, zp2_tknown, zp2_ccells, zsh2_sun, zsh2_rock, zsh2_body, zsh2_stock, zsh2_tug, zsh2_free, zsh2_hold, zsh2_known, zsh2_contract, zsh2_window, zsh2_code, zsh2_cells, zg_nsun0, zg_nsun1, zg_nsun2, zg_nrock0, zg_nrock1, zg_nrock2, zg_nrock3, zg_nrock4, zg_nrock5, zg_nrock6, zg_nrock7, zg_nrock8, zg_nrock9, zg_nrock10, zg_nrock11, zg_nrock12, zg_nrock13, zg_nrock14, zg_ntug0, zg_ntug1, zg_ntug2, zg_ntug3, zg_ntug4, zg_ntug5, zg_ntug6, zg_ntug7, zg_ntug8, zg_ntug9, zg_ntug10, zg_ntug11, zg_ntug12, zg_ntug13, zg_ntug14, zg_ntug15, zg_ntug17, zg_ntug18, zg_ntug19, zg_ntug20, zg_ntug21, zg_ntug22, zg_ncon0, zg_ncon1, zg_ncon2, zg_ncon3, zg_ncon4, zg_ncon5, zg_ncon6, zg_nwin0, zg_nwin1, zg_nwin2, zg_nwin3, zg_nwin4, zg_nwin5, zg_ncode0, zg_ncode1, zg_ncode3, zg_nrule, zg_nstock, zg_nhold, zg_nknown, zg_nord, zg_nrep, zg_ncla, zg_ntou, zg_ncel, zu_nsun0, zu_nsun1, zu_nsun2, zu_nrock0, zu_nrock1, zu_nrock2, zu_nrock3, zu_nrock4, zu_nrock5, zu_nrock6, zu_nrock7, zu_nrock8, zu_nrock9, zu_nrock10, zu_nrock11, zu_nrock12, zu_nrock13, zu_nrock14, zu_ntug0, zu_ntug1, zu_ntug2, zu_ntug3, zu_ntug4, zu_ntug5, zu_ntug6, zu_ntug7, zu_ntug8, zu_ntug9, zu_ntug10, zu_ntug11, zu_ntug12, zu_ntug13, zu_ntug14, zu_ntug15, zu_ntug17, zu_ntug18, zu_ntug19, zu_ntug20, zu_ntug21, zu_ntug22, zu_ncon0, zu_ncon1, zu_ncon2, zu_ncon3, zu_ncon4, zu_ncon5, zu_ncon6, zu_nwin0, zu_nwin1, zu_nwin2, zu_nwin3, zu_nwin4, zu_nwin5, zu_ncode3, zu_nrule, zu_nstock, zu_nhold, zu_nknown, zu_nord, zu_nrep, zu_ncla, zu_ntou, zu_ncel]
    · have q0 : x.2.2 = 0 := by rcases hs with w | w; exact absurd w q; exact w
      have t1 : zR (d + 3) 27 0 [.ref 190, .int 125] [] (zZ L, zI C, zPd 184 (85 + 2 * p) r2 r3 s4) = _ := C27_n (d + 2) L p r2 r3 s4 C h hk (c := 125) (by decide) q
      have h3 : C 390 0 3 = 0 := by have := h.2.1; rw [q0] at this; exact this
      simp +decide (disch := omega) only [e17_17, e17_23, e17_26, e17_48, t1, h3, zpre, ite_self, zs1, zs2, zs3, zI_eqb, and_self, not_true_eq_false, if_true, if_false, ite_true, ite_false, not_false_eq_true, zBP, zBZ, zisO, zisA, zlen, decide_true, decide_false, Bool.and_self, Bool.and_true, Bool.true_and, cond_true, cond_false, zBG, zBR, zBU, zBV, zinb_n, zix_n, zlA, zlB, zlM, zlN, zlX, zlI, nI_add, Nat.add_eq_zero_iff, false_and, and_false, and_true, true_and, true_or, or_true, false_or, or_false, zbool_i, zb0, zb1, zshp_0, zcs_eq, zcs_n, zcs_cs, zup_g, zup_n, zp2_sun, zp2_rock, zp2_tug, zp2_contract, zp2_window, zp2_code, zp2_rbody, zp2_rstock, zp2_tfree, zp2_thold, zp2_tknown, zp2_ccells, zsh2_sun, zsh2_rock, zsh2_body, zsh2_stock, zsh2_tug, zsh2_free, zsh2_hold, zsh2_known, zsh2_contract, zsh2_window, zsh2_code, zsh2_cells, zg_nsun0, zg_nsun1, zg_nsun2, zg_nrock0, zg_nrock1, zg_nrock2, zg_nrock3, zg_nrock4, zg_nrock5, zg_nrock6, zg_nrock7, zg_nrock8, zg_nrock9, zg_nrock10, zg_nrock11, zg_nrock12, zg_nrock13, zg_nrock14, zg_ntug0, zg_ntug1, zg_ntug2, zg_ntug3, zg_ntug4, zg_ntug5, zg_ntug6, zg_ntug7, zg_ntug8, zg_ntug9, zg_ntug10, zg_ntug11, zg_ntug12, zg_ntug13, zg_ntug14, zg_ntug15, zg_ntug17, zg_ntug18, zg_ntug19, zg_ntug20, zg_ntug21, zg_ntug22, zg_ncon0, zg_ncon1, zg_ncon2, zg_ncon3, zg_ncon4, zg_ncon5, zg_ncon6, zg_nwin0, zg_nwin1, zg_nwin2, zg_nwin3, zg_nwin4, zg_nwin5, zg_ncode0, zg_ncode1, zg_ncode3, zg_nrule, zg_nstock, zg_nhold, zg_nknown, zg_nord, zg_nrep, zg_ncla, zg_ntou, zg_ncel, zu_nsun0, zu_nsun1, zu_nsun2, zu_nrock0, zu_nrock1, zu_nrock2, zu_nrock3, zu_nrock4, zu_nrock5, zu_nrock6, zu_nrock7, zu_nrock8, zu_nrock9, zu_nrock10, zu_nrock11, zu_nrock12, zu_nrock13, zu_nrock14, zu_ntug0, zu_ntug1, zu_ntug2, zu_ntug3, zu_ntug4, zu_ntug5, zu_ntug6, zu_ntug7, zu_ntug8, zu_ntug9, zu_ntug10, zu_ntug11, zu_ntug12, zu_ntug13, zu_ntug14, zu_ntug15, zu_ntug17, zu_ntug18, zu_ntug19, zu_ntug20, zu_ntug21, zu_ntug22, zu_ncon0, zu_ncon1, zu_ncon2, zu_ncon3, zu_ncon4, zu_ncon5, zu_ncon6, zu_nwin0, zu_nwin1, zu_nwin2, zu_nwin3, zu_nwin4, zu_nwin5, zu_ncode3, zu_nrule, zu_nstock, zu_nhold, zu_nknown, zu_nord, zu_nrep, zu_ncla, zu_ntou, zu_ncel]

theorem T_f (D D' L p r2 r3 s4 : Nat) (hD : 4 ≤ D) (hD' : D' + 1 ≤ D) (T : Nat → Nat) (n : Nat) (x : zLx) (be N j : Nat) (hk : zTk T n x) (h0 : x.2.2 ≠ 0) (h125 : ¬ zisg T x 125) {x1 : zLx} (h1 : zAf D' L p r2 r3 s4 T n 18 [.ref 190, zmk] x be N j x1) : zTq D L p r2 r3 s4 T n x be N j x1 := by
  intro e he C t i h h6 h7 h8 h9 hU hUx hi
  obtain ⟨d, rfl⟩ : ∃ d, e = d + 4 := ⟨e - 4, by omega⟩
  have h120 := h.1.2.1
  have hn := hk.2.1
  have h5k := hk.2.2.1
  have hlt := hk.2.2.2.2.1 h0
  have t1 : zR (d + 3) 27 0 [.ref 190, .int 125] [] (zZ L, zI C, zPd 184 (85 + 2 * p) r2 r3 s4) = _ := C27_n (d + 2) L p r2 r3 s4 C h hk (c := 125) (by decide) h125
  have h3 : ¬ C 390 0 3 = 0 := by
    rw [h.2.1]
    exact fun q => by have := (nI_eq (b := 0) (by omega) (by decide)).mp q; omega
  have cc1 : ¬ (120 : Int32) ≤ nI i := nI_ge (b := 120) (by omega) (by decide)
  obtain ⟨C1, t2, e1, e2⟩ := h1 (d + 3) (by omega) C t h h6 h7 h8 h9 hU hUx
  refine ⟨C1, ?_, e1, e2⟩
  rw [e17_11, if_neg cc1]
  simp +decide (disch := omega) only [e17_17, e17_23, e17_26, e17_33, e17_37, e17_40, t1, h3, t2, zpre, ite_self, zs1, zs2, zs3, zI_eqb, and_self, not_true_eq_false, if_true, if_false, ite_true, ite_false, not_false_eq_true, zBP, zBZ, zisO, zisA, zlen, decide_true, decide_false, Bool.and_self, Bool.and_true, Bool.true_and, cond_true, cond_false, zBG, zBR, zBU, zBV, zinb_n, zix_n, zlA, zlB, zlM, zlN, zlX, zlI, nI_add, Nat.add_eq_zero_iff, false_and, and_false, and_true, true_and, true_or, or_true, false_or, or_false, zbool_i, zb0, zb1, zshp_0, zcs_eq, zcs_n, zcs_cs, zup_g, zup_n, zp2_sun, zp2_rock, zp2_tug, zp2_contract, zp2_window, zp2_code, zp2_rbody, zp2_rstock, zp2_tfree, zp2_thold, zp2_tknown, zp2_ccells, zsh2_sun, zsh2_rock, zsh2_body, zsh2_stock, zsh2_tug, zsh2_free, zsh2_hold, zsh2_known, zsh2_contract, zsh2_window, zsh2_code, zsh2_cells, zg_nsun0, zg_nsun1, zg_nsun2, zg_nrock0, zg_nrock1, zg_nrock2, zg_nrock3, zg_nrock4, zg_nrock5, zg_nrock6, zg_nrock7, zg_nrock8, zg_nrock9, zg_nrock10, zg_nrock11, zg_nrock12, zg_nrock13, zg_nrock14, zg_ntug0, zg_ntug1, zg_ntug2, zg_ntug3, zg_ntug4, zg_ntug5, zg_ntug6, zg_ntug7, zg_ntug8, zg_ntug9, zg_ntug10, zg_ntug11, zg_ntug12, zg_ntug13, zg_ntug14, zg_ntug15, zg_ntug17, zg_ntug18, zg_ntug19, zg_ntug20, zg_ntug21, zg_ntug22, zg_ncon0, zg_ncon1, zg_ncon2, zg_ncon3, zg_ncon4, zg_ncon5, zg_ncon6, zg_nwin0, zg_nwin1, zg_nwin2, zg_nwin3, zg_nwin4, zg_nwin5, zg_ncode0, zg_ncode1, zg_ncode3, zg_nrule, zg_nstock, zg_nhold, zg_nknown, zg_nord, zg_nrep, zg_ncla, zg_ntou, zg_ncel, zu_nsun0, zu_nsun1, zu_nsun2, zu_nrock0, zu_nrock1, zu_nrock2, zu_nrock3, zu_nrock4, zu_nrock5, zu_nrock6, zu_nrock7, zu_nrock8, zu_nrock9, zu_nrock10, zu_nrock11, zu_nrock12, zu_nrock13, zu_nrock14, zu_ntug0, zu_ntug1, zu_ntug2, zu_ntug3, zu_ntug4, zu_ntug5, zu_ntug6, zu_ntug7, zu_ntug8, zu_ntug9, zu_ntug10, zu_ntug11, zu_ntug12, zu_ntug13, zu_ntug14, zu_ntug15, zu_ntug17, zu_ntug18, zu_ntug19, zu_ntug20, zu_ntug21, zu_ntug22, zu_ncon0, zu_ncon1, zu_ncon2, zu_ncon3, zu_ncon4, zu_ncon5, zu_ncon6, zu_nwin0, zu_nwin1, zu_nwin2, zu_nwin3, zu_nwin4, zu_nwin5, zu_ncode3, zu_nrule, zu_nstock, zu_nhold, zu_nknown, zu_nord, zu_nrep, zu_ncla, zu_ntou, zu_ncel]
theorem T_t (D D' L p r2 r3 s4 : Nat) (hD : 4 ≤ D) (hD' : D' + 1 ≤ D) (T : Nat → Nat) (n : Nat) (x : zLx) (be N j : Nat) (hk : zTk T n x) (h0 : x.2.2 ≠ 0) (h125 : ¬ zisg T x 125) {G1 G2 : List zUn} {c1 c2 : Nat} {x1 x2 : zLx} (h1 : zAt D' L p r2 r3 s4 T n 18 [.ref 190, zmk] x be N j G1 c1 x1) (h2 : zTt D L p r2 r3 s4 T n x1 be (N + G1.length) (j + zwc G1) G2 c2 x2) : zTt D L p r2 r3 s4 T n x be N j (G1 ++ G2) (c1 + c2) x2 := by
  obtain ⟨a1, a2, a3, a4⟩ := h1
  obtain ⟨b1, b2, b3⟩ := h2
  refine ⟨by rw [List.length_append, zwc_app]; omega, b2, ?_⟩
  intro e he C t i h h6 h7 h8 h9 hU hUx hi
  obtain ⟨d, rfl⟩ : ∃ d, e = d + 4 := ⟨e - 4, by omega⟩
  have h120 := h.1.2.1
  have hn := hk.2.1
  have h5k := hk.2.2.1
  have hlt := hk.2.2.2.2.1 h0
  have t1 : zR (d + 3) 27 0 [.ref 190, .int 125] [] (zZ L, zI C, zPd 184 (85 + 2 * p) r2 r3 s4) = _ := C27_n (d + 2) L p r2 r3 s4 C h hk (c := 125) (by decide) h125
  have h3 : ¬ C 390 0 3 = 0 := by
    rw [h.2.1]
    exact fun q => by have := (nI_eq (b := 0) (by omega) (by decide)).mp q; omega
  have cc1 : ¬ (120 : Int32) ≤ nI i := nI_ge (b := 120) (by omega) (by decide)
  obtain ⟨C1, t2, e1⟩ := a4 (d + 3) (by omega) C t h h6 h7 h8 h9 hU hUx
  have eq1 : N + G1.length + (j + zwc G1) = N + j + (G1.length + zwc G1) := by omega
  obtain ⟨C2, t3, e2⟩ := b3 (d + 4) he C1 (t + c1) (i + 1) e1.1 (by rw [e1.2.2.1 6 (by decide) (by decide) (by decide) (by decide)]; exact h6) (by rw [e1.2.2.1 7 (by decide) (by decide) (by decide) (by decide)]; exact h7) (by rw [e1.2.2.1 8 (by decide) (by decide) (by decide) (by decide)]; exact h8) e1.2.2.2.1 (by rw [eq1]; exact e1.2.2.2.2.1) (by omega) (by omega)
  rw [eq1] at e2
  refine ⟨C2, ?_, zCa_t e1 e2⟩
  rw [← t3, e17_11, if_neg cc1]
  simp +decide (disch := omega) only [e17_17, e17_23, e17_26, e17_33, e17_37, e17_42, t1, h3, t2, zpre, ite_self, zs1, zs2, zs3, zI_eqb, and_self, not_true_eq_false, if_true, if_false, ite_true, ite_false, not_false_eq_true, zBP, zBZ, zisO, zisA, zlen, decide_true, decide_false, Bool.and_self, Bool.and_true, Bool.true_and, cond_true, cond_false, zBG, zBR, zBU, zBV, zinb_n, zix_n, zlA, zlB, zlM, zlN, zlX, zlI, nI_add, Nat.add_eq_zero_iff, false_and, and_false, and_true, true_and, true_or, or_true, false_or, or_false, zbool_i, zb0, zb1, zshp_0, zcs_eq, zcs_n, zcs_cs, zup_g, zup_n, zp2_sun, zp2_rock, zp2_tug, zp2_contract, zp2_window, zp2_code, zp2_rbody, zp2_rstock, zp2_tfree, zp2_thold, zp2_tknown, zp2_ccells, zsh2_sun, zsh2_rock, zsh2_body, zsh2_stock, zsh2_tug, zsh2_free, zsh2_hold, zsh2_known, zsh2_contract, zsh2_window, zsh2_code, zsh2_cells, zg_nsun0, zg_nsun1, zg_nsun2, zg_nrock0, zg_nrock1, zg_nrock2, zg_nrock3, zg_nrock4, zg_nrock5, zg_nrock6, zg_nrock7, zg_nrock8, zg_nrock9, zg_nrock10, zg_nrock11, zg_nrock12, zg_nrock13, zg_nrock14, zg_ntug0, zg_ntug1, zg_ntug2, zg_ntug3, zg_ntug4, zg_ntug5, zg_ntug6, zg_ntug7, zg_ntug8, zg_ntug9, zg_ntug10, zg_ntug11, zg_ntug12, zg_ntug13, zg_ntug14, zg_ntug15, zg_ntug17, zg_ntug18, zg_ntug19, zg_ntug20, zg_ntug21, zg_ntug22, zg_ncon0, zg_ncon1, zg_ncon2, zg_ncon3, zg_ncon4, zg_ncon5, zg_ncon6, zg_nwin0, zg_nwin1, zg_nwin2, zg_nwin3, zg_nwin4, zg_nwin5, zg_ncode0, zg_ncode1, zg_ncode3, zg_nrule, zg_nstock, zg_nhold, zg_nknown, zg_nord, zg_nrep, zg_ncla, zg_ntou, zg_ncel, zu_nsun0, zu_nsun1, zu_nsun2, zu_nrock0, zu_nrock1, zu_nrock2, zu_nrock3, zu_nrock4, zu_nrock5, zu_nrock6, zu_nrock7, zu_nrock8, zu_nrock9, zu_nrock10, zu_nrock11, zu_nrock12, zu_nrock13, zu_nrock14, zu_ntug0, zu_ntug1, zu_ntug2, zu_ntug3, zu_ntug4, zu_ntug5, zu_ntug6, zu_ntug7, zu_ntug8, zu_ntug9, zu_ntug10, zu_ntug11, zu_ntug12, zu_ntug13, zu_ntug14, zu_ntug15, zu_ntug17, zu_ntug18, zu_ntug19, zu_ntug20, zu_ntug21, zu_ntug22, zu_ncon0, zu_ncon1, zu_ncon2, zu_ncon3, zu_ncon4, zu_ncon5, zu_ncon6, zu_nwin0, zu_nwin1, zu_nwin2, zu_nwin3, zu_nwin4, zu_nwin5, zu_ncode3, zu_nrule, zu_nstock, zu_nhold, zu_nknown, zu_nord, zu_nrep, zu_ncla, zu_ntou, zu_ncel]
theorem T_g (D D' L p r2 r3 s4 : Nat) (hD : 4 ≤ D) (hD' : D' + 1 ≤ D) (T : Nat → Nat) (n : Nat) (x : zLx) (be N j : Nat) (hk : zTk T n x) (h0 : x.2.2 ≠ 0) (h125 : ¬ zisg T x 125) {G1 : List zUn} {c1 : Nat} {x1 x2 : zLx} (h1 : zAt D' L p r2 r3 s4 T n 18 [.ref 190, zmk] x be N j G1 c1 x1) (h2 : zTq D L p r2 r3 s4 T n x1 be (N + G1.length) (j + zwc G1) x2) : zTq D L p r2 r3 s4 T n x be N j x2 := by
  obtain ⟨a1, a2, a3, a4⟩ := h1
  intro e he C t i h h6 h7 h8 h9 hU hUx hi
  obtain ⟨d, rfl⟩ : ∃ d, e = d + 4 := ⟨e - 4, by omega⟩
  have h120 := h.1.2.1
  have hn := hk.2.1
  have h5k := hk.2.2.1
  have hlt := hk.2.2.2.2.1 h0
  have t1 : zR (d + 3) 27 0 [.ref 190, .int 125] [] (zZ L, zI C, zPd 184 (85 + 2 * p) r2 r3 s4) = _ := C27_n (d + 2) L p r2 r3 s4 C h hk (c := 125) (by decide) h125
  have h3 : ¬ C 390 0 3 = 0 := by
    rw [h.2.1]
    exact fun q => by have := (nI_eq (b := 0) (by omega) (by decide)).mp q; omega
  have cc1 : ¬ (120 : Int32) ≤ nI i := nI_ge (b := 120) (by omega) (by decide)
  obtain ⟨C1, t2, e1⟩ := a4 (d + 3) (by omega) C t h h6 h7 h8 h9 hU hUx
  have eq1 : N + G1.length + (j + zwc G1) = N + j + (G1.length + zwc G1) := by omega
  obtain ⟨C2, t3, e2, e3⟩ := h2 (d + 4) he C1 (t + c1) (i + 1) e1.1 (by rw [e1.2.2.1 6 (by decide) (by decide) (by decide) (by decide)]; exact h6) (by rw [e1.2.2.1 7 (by decide) (by decide) (by decide) (by decide)]; exact h7) (by rw [e1.2.2.1 8 (by decide) (by decide) (by decide) (by decide)]; exact h8) e1.2.2.2.1 (by rw [eq1]; exact e1.2.2.2.2.1) (by omega) (by omega)
  refine ⟨C2, ?_, e2, zFC_t e1.2.1 e3⟩
  rw [← t3, e17_11, if_neg cc1]
  simp +decide (disch := omega) only [e17_17, e17_23, e17_26, e17_33, e17_37, e17_42, t1, h3, t2, zpre, ite_self, zs1, zs2, zs3, zI_eqb, and_self, not_true_eq_false, if_true, if_false, ite_true, ite_false, not_false_eq_true, zBP, zBZ, zisO, zisA, zlen, decide_true, decide_false, Bool.and_self, Bool.and_true, Bool.true_and, cond_true, cond_false, zBG, zBR, zBU, zBV, zinb_n, zix_n, zlA, zlB, zlM, zlN, zlX, zlI, nI_add, Nat.add_eq_zero_iff, false_and, and_false, and_true, true_and, true_or, or_true, false_or, or_false, zbool_i, zb0, zb1, zshp_0, zcs_eq, zcs_n, zcs_cs, zup_g, zup_n, zp2_sun, zp2_rock, zp2_tug, zp2_contract, zp2_window, zp2_code, zp2_rbody, zp2_rstock, zp2_tfree, zp2_thold, zp2_tknown, zp2_ccells, zsh2_sun, zsh2_rock, zsh2_body, zsh2_stock, zsh2_tug, zsh2_free, zsh2_hold, zsh2_known, zsh2_contract, zsh2_window, zsh2_code, zsh2_cells, zg_nsun0, zg_nsun1, zg_nsun2, zg_nrock0, zg_nrock1, zg_nrock2, zg_nrock3, zg_nrock4, zg_nrock5, zg_nrock6, zg_nrock7, zg_nrock8, zg_nrock9, zg_nrock10, zg_nrock11, zg_nrock12, zg_nrock13, zg_nrock14, zg_ntug0, zg_ntug1, zg_ntug2, zg_ntug3, zg_ntug4, zg_ntug5, zg_ntug6, zg_ntug7, zg_ntug8, zg_ntug9, zg_ntug10, zg_ntug11, zg_ntug12, zg_ntug13, zg_ntug14, zg_ntug15, zg_ntug17, zg_ntug18, zg_ntug19, zg_ntug20, zg_ntug21, zg_ntug22, zg_ncon0, zg_ncon1, zg_ncon2, zg_ncon3, zg_ncon4, zg_ncon5, zg_ncon6, zg_nwin0, zg_nwin1, zg_nwin2, zg_nwin3, zg_nwin4, zg_nwin5, zg_ncode0, zg_ncode1, zg_ncode3, zg_nrule, zg_nstock, zg_nhold, zg_nknown, zg_nord, zg_nrep, zg_ncla, zg_ntou, zg_ncel, zu_nsun0, zu_nsun1, zu_nsun2, zu_nrock0, zu_nrock1, zu_nrock2, zu_nrock3, zu_nrock4, zu_nrock5, zu_nrock6, zu_nrock7, zu_nrock8, zu_nrock9, zu_nrock10, zu_nrock11, zu_nrock12, zu_nrock13, zu_nrock14, zu_ntug0, zu_ntug1, zu_ntug2, zu_ntug3, zu_ntug4, zu_ntug5, zu_ntug6, zu_ntug7, zu_ntug8, zu_ntug9, zu_ntug10, zu_ntug11, zu_ntug12, zu_ntug13, zu_ntug14, zu_ntug15, zu_ntug17, zu_ntug18, zu_ntug19, zu_ntug20, zu_ntug21, zu_ntug22, zu_ncon0, zu_ncon1, zu_ncon2, zu_ncon3, zu_ncon4, zu_ncon5, zu_ncon6, zu_nwin0, zu_nwin1, zu_nwin2, zu_nwin3, zu_nwin4, zu_nwin5, zu_ncode3, zu_nrule, zu_nstock, zu_nhold, zu_nknown, zu_nord, zu_nrep, zu_ncla, zu_ntou, zu_ncel]
theorem S_f (D D' L p r2 r3 s4 : Nat) (hD' : D' + 1 ≤ D) (T : Nat → Nat) (n : Nat) (x : zLx) (be N j : Nat) {x1 : zLx} (h1 : zAf D' L p r2 r3 s4 T n 18 [.ref 190, zmk] x be N j x1) : zAf D L p r2 r3 s4 T n 17 [.ref 190, zmk] x be N j x1 := by
  intro e he C t h h6 h7 h8 h9 hU hUx
  obtain ⟨d, rfl⟩ : ∃ d, e = d + 1 := ⟨e - 1, by omega⟩
  obtain ⟨C1, t2, e1, e2⟩ := h1 d (by omega) C t h h6 h7 h8 h9 hU hUx
  refine ⟨C1, ?_, e1, e2⟩
  simp +decide (disch := omega) only [e17_0, e17_4, e17_7, t2, zpre, ite_self, zs1, zs2, zs3, zI_eqb, and_self, not_true_eq_false, if_true, if_false, ite_true, ite_false, not_false_eq_true, zBP, zBZ, zisO, zisA, zlen, decide_true, decide_false, Bool.and_self, Bool.and_true, Bool.true_and, cond_true, cond_false, zBG, zBR, zBU, zBV, zinb_n, zix_n, zlA, zlB, zlM, zlN, zlX, zlI, nI_add, Nat.add_eq_zero_iff, false_and, and_false, and_true, true_and, true_or, or_true, false_or, or_false, zbool_i, zb0, zb1, zshp_0, zcs_eq, zcs_n, zcs_cs, zup_g, zup_n, zp2_sun, zp2_rock, zp2_tug, zp2_contract, zp2_window, zp2_code, zp2_rbody, zp2_rstock, zp2_tfree, zp2_thold, zp2_tknown, zp2_ccells, zsh2_sun, zsh2_rock, zsh2_body, zsh2_stock, zsh2_tug, zsh2_free, zsh2_hold, zsh2_known, zsh2_contract, zsh2_window, zsh2_code, zsh2_cells, zg_nsun0, zg_nsun1, zg_nsun2, zg_nrock0, zg_nrock1, zg_nrock2, zg_nrock3, zg_nrock4, zg_nrock5, zg_nrock6, zg_nrock7, zg_nrock8, zg_nrock9, zg_nrock10, zg_nrock11, zg_nrock12, zg_nrock13, zg_nrock14, zg_ntug0, zg_ntug1, zg_ntug2, zg_ntug3, zg_ntug4, zg_ntug5, zg_ntug6, zg_ntug7, zg_ntug8, zg_ntug9, zg_ntug10, zg_ntug11, zg_ntug12, zg_ntug13, zg_ntug14, zg_ntug15, zg_ntug17, zg_ntug18, zg_ntug19, zg_ntug20, zg_ntug21, zg_ntug22, zg_ncon0, zg_ncon1, zg_ncon2, zg_ncon3, zg_ncon4, zg_ncon5, zg_ncon6, zg_nwin0, zg_nwin1, zg_nwin2, zg_nwin3, zg_nwin4, zg_nwin5, zg_ncode0, zg_ncode1, zg_ncode3, zg_nrule, zg_nstock, zg_nhold, zg_nknown, zg_nord, zg_nrep, zg_ncla, zg_ntou, zg_ncel, zu_nsun0, zu_nsun1, zu_nsun2, zu_nrock0, zu_nrock1, zu_nrock2, zu_nrock3, zu_nrock4, zu_nrock5, zu_nrock6, zu_nrock7, zu_nrock8, zu_nrock9, zu_nrock10, zu_nrock11, zu_nrock12, zu_nrock13, zu_nrock14, zu_ntug0, zu_ntug1, zu_ntug2, zu_ntug3, zu_ntug4, zu_ntug5, zu_ntug6, zu_ntug7, zu_ntug8, zu_ntug9, zu_ntug10, zu_ntug11, zu_ntug12, zu_ntug13, zu_ntug14, zu_ntug15, zu_ntug17, zu_ntug18, zu_ntug19, zu_ntug20, zu_ntug21, zu_ntug22, zu_ncon0, zu_ncon1, zu_ncon2, zu_ncon3, zu_ncon4, zu_ncon5, zu_ncon6, zu_nwin0, zu_nwin1, zu_nwin2, zu_nwin3, zu_nwin4, zu_nwin5, zu_ncode3, zu_nrule, zu_nstock, zu_nhold, zu_nknown, zu_nord, zu_nrep, zu_ncla, zu_ntou, zu_ncel]
theorem S_t (D D' L p r2 r3 s4 : Nat) (hD' : D' + 1 ≤ D) (T : Nat → Nat) (n : Nat) (x : zLx) (be N j : Nat) {G1 G2 : List zUn} {c1 c2 : Nat} {x1 x2 : zLx} (h1 : zAt D' L p r2 r3 s4 T n 18 [.ref 190, zmk] x be N j G1 c1 x1) (h2 : zTt D L p r2 r3 s4 T n x1 be (N + G1.length) (j + zwc G1) G2 c2 x2) : zAt D L p r2 r3 s4 T n 17 [.ref 190, zmk] x be N j (G1 ++ G2) (c1 + c2) x2 := by
  obtain ⟨a1, a2, a3, a4⟩ := h1
  obtain ⟨b1, b2, b3⟩ := h2
  refine ⟨by rw [List.length_append, zwc_app]; omega, by omega, b2, ?_⟩
  intro e he C t h h6 h7 h8 h9 hU hUx
  obtain ⟨d, rfl⟩ : ∃ d, e = d + 1 := ⟨e - 1, by omega⟩
  obtain ⟨C1, t2, e1⟩ := a4 d (by omega) C t h h6 h7 h8 h9 hU hUx
  have eq1 : N + G1.length + (j + zwc G1) = N + j + (G1.length + zwc G1) := by omega
  obtain ⟨C2, t3, e2⟩ := b3 (d + 1) he C1 (t + c1) 0 e1.1 (by rw [e1.2.2.1 6 (by decide) (by decide) (by decide) (by decide)]; exact h6) (by rw [e1.2.2.1 7 (by decide) (by decide) (by decide) (by decide)]; exact h7) (by rw [e1.2.2.1 8 (by decide) (by decide) (by decide) (by decide)]; exact h8) e1.2.2.2.1 (by rw [eq1]; exact e1.2.2.2.2.1) (by omega) (by omega)
  rw [eq1] at e2
  refine ⟨C2, ?_, zCa_t e1 e2⟩
  rw [← t3]
  simp +decide (disch := omega) only [e17_0, e17_4, e17_9, t2, zn0, zpre, ite_self, zs1, zs2, zs3, zI_eqb, and_self, not_true_eq_false, if_true, if_false, ite_true, ite_false, not_false_eq_true, zBP, zBZ, zisO, zisA, zlen, decide_true, decide_false, Bool.and_self, Bool.and_true, Bool.true_and, cond_true, cond_false, zBG, zBR, zBU, zBV, zinb_n, zix_n, zlA, zlB, zlM, zlN, zlX, zlI, nI_add, Nat.add_eq_zero_iff, false_and, and_false, and_true, true_and, true_or, or_true, false_or, or_false, zbool_i, zb0, zb1, zshp_0, zcs_eq, zcs_n, zcs_cs, zup_g, zup_n, zp2_sun, zp2_rock, zp2_tug, zp2_contract, zp2_window, zp2_code, zp2_rbody, zp2_rstock, zp2_tfree, zp2_thold, zp2_tknown, zp2_ccells, zsh2_sun, zsh2_rock, zsh2_body, zsh2_stock, zsh2_tug, zsh2_free, zsh2_hold, zsh2_known, zsh2_contract, zsh2_window, zsh2_code, zsh2_cells, zg_nsun0, zg_nsun1, zg_nsun2, zg_nrock0, zg_nrock1, zg_nrock2, zg_nrock3, zg_nrock4, zg_nrock5, zg_nrock6, zg_nrock7, zg_nrock8, zg_nrock9, zg_nrock10, zg_nrock11, zg_nrock12, zg_nrock13, zg_nrock14, zg_ntug0, zg_ntug1, zg_ntug2, zg_ntug3, zg_ntug4, zg_ntug5, zg_ntug6, zg_ntug7, zg_ntug8, zg_ntug9, zg_ntug10, zg_ntug11, zg_ntug12, zg_ntug13, zg_ntug14, zg_ntug15, zg_ntug17, zg_ntug18, zg_ntug19, zg_ntug20, zg_ntug21, zg_ntug22, zg_ncon0, zg_ncon1, zg_ncon2, zg_ncon3, zg_ncon4, zg_ncon5, zg_ncon6, zg_nwin0, zg_nwin1, zg_nwin2, zg_nwin3, zg_nwin4, zg_nwin5, zg_ncode0, zg_ncode1, zg_ncode3, zg_nrule, zg_nstock, zg_nhold, zg_nknown, zg_nord, zg_nrep, zg_ncla, zg_ntou, zg_ncel, zu_nsun0, zu_nsun1, zu_nsun2, zu_nrock0, zu_nrock1, zu_nrock2, zu_nrock3, zu_nrock4, zu_nrock5, zu_nrock6, zu_nrock7, zu_nrock8, zu_nrock9, zu_nrock10, zu_nrock11, zu_nrock12, zu_nrock13, zu_nrock14, zu_ntug0, zu_ntug1, zu_ntug2, zu_ntug3, zu_ntug4, zu_ntug5, zu_ntug6, zu_ntug7, zu_ntug8, zu_ntug9, zu_ntug10, zu_ntug11, zu_ntug12, zu_ntug13, zu_ntug14, zu_ntug15, zu_ntug17, zu_ntug18, zu_ntug19, zu_ntug20, zu_ntug21, zu_ntug22, zu_ncon0, zu_ncon1, zu_ncon2, zu_ncon3, zu_ncon4, zu_ncon5, zu_ncon6, zu_nwin0, zu_nwin1, zu_nwin2, zu_nwin3, zu_nwin4, zu_nwin5, zu_ncode3, zu_nrule, zu_nstock, zu_nhold, zu_nknown, zu_nord, zu_nrep, zu_ncla, zu_ntou, zu_ncel]
theorem S_g (D D' L p r2 r3 s4 : Nat) (hD' : D' + 1 ≤ D) (T : Nat → Nat) (n : Nat) (x : zLx) (be N j : Nat) {G1 : List zUn} {c1 : Nat} {x1 x2 : zLx} (h1 : zAt D' L p r2 r3 s4 T n 18 [.ref 190, zmk] x be N j G1 c1 x1) (h2 : zTq D L p r2 r3 s4 T n x1 be (N + G1.length) (j + zwc G1) x2) : zAf D L p r2 r3 s4 T n 17 [.ref 190, zmk] x be N j x2 := by
  obtain ⟨a1, a2, a3, a4⟩ := h1
  intro e he C t h h6 h7 h8 h9 hU hUx
  obtain ⟨d, rfl⟩ : ∃ d, e = d + 1 := ⟨e - 1, by omega⟩
  obtain ⟨C1, t2, e1⟩ := a4 d (by omega) C t h h6 h7 h8 h9 hU hUx
  have eq1 : N + G1.length + (j + zwc G1) = N + j + (G1.length + zwc G1) := by omega
  obtain ⟨C2, t3, e2, e3⟩ := h2 (d + 1) he C1 (t + c1) 0 e1.1 (by rw [e1.2.2.1 6 (by decide) (by decide) (by decide) (by decide)]; exact h6) (by rw [e1.2.2.1 7 (by decide) (by decide) (by decide) (by decide)]; exact h7) (by rw [e1.2.2.1 8 (by decide) (by decide) (by decide) (by decide)]; exact h8) e1.2.2.2.1 (by rw [eq1]; exact e1.2.2.2.2.1) (by omega) (by omega)
  refine ⟨C2, ?_, e2, zFC_t e1.2.1 e3⟩
  rw [← t3]
  simp +decide (disch := omega) only [e17_0, e17_4, e17_9, t2, zn0, zpre, ite_self, zs1, zs2, zs3, zI_eqb, and_self, not_true_eq_false, if_true, if_false, ite_true, ite_false, not_false_eq_true, zBP, zBZ, zisO, zisA, zlen, decide_true, decide_false, Bool.and_self, Bool.and_true, Bool.true_and, cond_true, cond_false, zBG, zBR, zBU, zBV, zinb_n, zix_n, zlA, zlB, zlM, zlN, zlX, zlI, nI_add, Nat.add_eq_zero_iff, false_and, and_false, and_true, true_and, true_or, or_true, false_or, or_false, zbool_i, zb0, zb1, zshp_0, zcs_eq, zcs_n, zcs_cs, zup_g, zup_n, zp2_sun, zp2_rock, zp2_tug, zp2_contract, zp2_window, zp2_code, zp2_rbody, zp2_rstock, zp2_tfree, zp2_thold, zp2_tknown, zp2_ccells, zsh2_sun, zsh2_rock, zsh2_body, zsh2_stock, zsh2_tug, zsh2_free, zsh2_hold, zsh2_known, zsh2_contract, zsh2_window, zsh2_code, zsh2_cells, zg_nsun0, zg_nsun1, zg_nsun2, zg_nrock0, zg_nrock1, zg_nrock2, zg_nrock3, zg_nrock4, zg_nrock5, zg_nrock6, zg_nrock7, zg_nrock8, zg_nrock9, zg_nrock10, zg_nrock11, zg_nrock12, zg_nrock13, zg_nrock14, zg_ntug0, zg_ntug1, zg_ntug2, zg_ntug3, zg_ntug4, zg_ntug5, zg_ntug6, zg_ntug7, zg_ntug8, zg_ntug9, zg_ntug10, zg_ntug11, zg_ntug12, zg_ntug13, zg_ntug14, zg_ntug15, zg_ntug17, zg_ntug18, zg_ntug19, zg_ntug20, zg_ntug21, zg_ntug22, zg_ncon0, zg_ncon1, zg_ncon2, zg_ncon3, zg_ncon4, zg_ncon5, zg_ncon6, zg_nwin0, zg_nwin1, zg_nwin2, zg_nwin3, zg_nwin4, zg_nwin5, zg_ncode0, zg_ncode1, zg_ncode3, zg_nrule, zg_nstock, zg_nhold, zg_nknown, zg_nord, zg_nrep, zg_ncla, zg_ntou, zg_ncel, zu_nsun0, zu_nsun1, zu_nsun2, zu_nrock0, zu_nrock1, zu_nrock2, zu_nrock3, zu_nrock4, zu_nrock5, zu_nrock6, zu_nrock7, zu_nrock8, zu_nrock9, zu_nrock10, zu_nrock11, zu_nrock12, zu_nrock13, zu_nrock14, zu_ntug0, zu_ntug1, zu_ntug2, zu_ntug3, zu_ntug4, zu_ntug5, zu_ntug6, zu_ntug7, zu_ntug8, zu_ntug9, zu_ntug10, zu_ntug11, zu_ntug12, zu_ntug13, zu_ntug14, zu_ntug15, zu_ntug17, zu_ntug18, zu_ntug19, zu_ntug20, zu_ntug21, zu_ntug22, zu_ncon0, zu_ncon1, zu_ncon2, zu_ncon3, zu_ncon4, zu_ncon5, zu_ncon6, zu_nwin0, zu_nwin1, zu_nwin2, zu_nwin3, zu_nwin4, zu_nwin5, zu_ncode3, zu_nrule, zu_nstock, zu_nhold, zu_nknown, zu_nord, zu_nrep, zu_ncla, zu_ntou, zu_ncel]

