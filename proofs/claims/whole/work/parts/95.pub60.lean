/-! THE PROGRAM: small methods of the model, printed by wip/gen/pub60.py -/
theorem M183_y (d L p0 p2 r2 r3 s4 : Nat) (C : zCt) {T : Nat → Nat} {n : Nat} {x : zLx} (h : zPM T n C x) (hk : zTk T n x) {c : Nat} (hs : zisg T x c) : zR d 183 0 [.ref 201, .int (nI c)] [] (zZ L, zI C, zPd p0 p2 r2 r3 s4) = some (some (.int 1), (zZ L, zI C, zPd p0 p2 r2 r3 s4)) := by
  obtain ⟨hL, h8, h5, h6, h10⟩ := h
  have t := (hL.2.2 x.1 (zPC_lt hk (by rw [hs.1]; decide))).1
  have h120 := hL.2.1
  have hlt := zPC_lt hk (show x.2.2 ≠ 0 by rw [hs.1]; decide)
  rw [hs.1] at h8
  have h8 : C 401 0 8 = 3 := h8
  rw [hs.2] at t
  simp +decide (disch := omega) only [e183_0, e183_8, e183_21, e183_26, h8, h5, t, zpre, ite_self, Nat.reduceAdd, zs1, zs2, zs3, zI_eqb, and_self, not_true_eq_false, if_true, if_false, ite_true, ite_false, not_false_eq_true, zBP, zBZ, zisO, zisA, zlen, decide_true, decide_false, Bool.and_self, Bool.and_true, Bool.true_and, cond_true, cond_false, zBG, zBR, zBU, zBV, zinb_n, zix_n, zlA, zlB, zlM, zlN, zlX, zlI, nI_add, Nat.add_eq_zero_iff, false_and, and_false, and_true, true_and, true_or, or_true, false_or, or_false, zbool_i, zb0, zb1, zshp_0, zcs_eq, zcs_n, zcs_cs, zup_g, zup_n, zg_srock2, zg_stug2, zg_ssun, zg_ssun0, zg_srock, zg_srock0, zg_stug, zg_stug0, zg_sord, zg_sord0, zg_srep, zg_srep0, zg_scla, zg_scla0, zg_scon, zg_scon0, zg_swin, zg_swin0, zg_sleg, zg_sleg0, zg_spro, zg_sstp, zg_swrd, zu_srock2, zu_stug2, zu_ssun, zu_ssun0, zu_srock, zu_srock0, zu_stug, zu_stug0, zu_sord, zu_sord0, zu_srep, zu_srep0, zu_scla, zu_scla0, zu_scon, zu_scon0, zu_swin, zu_swin0, zu_sleg, zu_sleg0, zu_spro, zu_sstp, zu_swrd]
theorem M183_n (d L p0 p2 r2 r3 s4 : Nat) (C : zCt) {T : Nat → Nat} {n : Nat} {x : zLx} (h : zPM T n C x) (hk : zTk T n x) {c : Nat} (hc : c < 256) (hs : ¬ zisg T x c) : zR d 183 0 [.ref 201, .int (nI c)] [] (zZ L, zI C, zPd p0 p2 r2 r3 s4) = some (some (.int 0), (zZ L, zI C, zPd p0 p2 r2 r3 s4)) := by
  obtain ⟨hL, h8, h5, h6, h10⟩ := h
  by_cases e : x.2.2 = 3
  · have hlt := zPC_lt hk (show x.2.2 ≠ 0 by rw [e]; decide)
    have t := (hL.2.2 x.1 hlt).1
    have h120 := hL.2.1
    have hb := (hL.2.2 x.1 hlt).2
    rw [e] at h8
    have h8 : C 401 0 8 = 3 := h8
    have e2 : ¬ nI (T x.1) = nI c := fun q => hs ⟨e, (nI_eq (by omega) (by omega)).mp q⟩
    simp +decide (disch := omega) only [e183_0, e183_8, e183_25, e183_26, h8, h5, t, e2, zpre, ite_self, Nat.reduceAdd, zs1, zs2, zs3, zI_eqb, and_self, not_true_eq_false, if_true, if_false, ite_true, ite_false, not_false_eq_true, zBP, zBZ, zisO, zisA, zlen, decide_true, decide_false, Bool.and_self, Bool.and_true, Bool.true_and, cond_true, cond_false, zBG, zBR, zBU, zBV, zinb_n, zix_n, zlA, zlB, zlM, zlN, zlX, zlI, nI_add, Nat.add_eq_zero_iff, false_and, and_false, and_true, true_and, true_or, or_true, false_or, or_false, zbool_i, zb0, zb1, zshp_0, zcs_eq, zcs_n, zcs_cs, zup_g, zup_n, zg_srock2, zg_stug2, zg_ssun, zg_ssun0, zg_srock, zg_srock0, zg_stug, zg_stug0, zg_sord, zg_sord0, zg_srep, zg_srep0, zg_scla, zg_scla0, zg_scon, zg_scon0, zg_swin, zg_swin0, zg_sleg, zg_sleg0, zg_spro, zg_sstp, zg_swrd, zu_srock2, zu_stug2, zu_ssun, zu_ssun0, zu_srock, zu_srock0, zu_stug, zu_stug0, zu_sord, zu_sord0, zu_srep, zu_srep0, zu_scla, zu_scla0, zu_scon, zu_scon0, zu_swin, zu_swin0, zu_sleg, zu_sleg0, zu_spro, zu_sstp, zu_swrd]
  · have h8' : ¬ C 401 0 8 = 3 := by
      rw [h8]
      intro q
      have h5k := hk.2.2.1
      have hz : zso x.2.2 = 3 := by
        unfold zso at q ⊢
        split at q
        · exact absurd q (by decide)
        · rw [if_neg (by assumption)]
          exact (nI_eq (b := 3) (by omega) (by decide)).mp q
      unfold zso at hz
      split at hz
      · exact absurd hz (by decide)
      · exact e hz
    simp +decide (disch := omega) only [e183_0, e183_25, e183_26, h8', zpre, ite_self, Nat.reduceAdd, zs1, zs2, zs3, zI_eqb, and_self, not_true_eq_false, if_true, if_false, ite_true, ite_false, not_false_eq_true, zBP, zBZ, zisO, zisA, zlen, decide_true, decide_false, Bool.and_self, Bool.and_true, Bool.true_and, cond_true, cond_false, zBG, zBR, zBU, zBV, zinb_n, zix_n, zlA, zlB, zlM, zlN, zlX, zlI, nI_add, Nat.add_eq_zero_iff, false_and, and_false, and_true, true_and, true_or, or_true, false_or, or_false, zbool_i, zb0, zb1, zshp_0, zcs_eq, zcs_n, zcs_cs, zup_g, zup_n, zg_srock2, zg_stug2, zg_ssun, zg_ssun0, zg_srock, zg_srock0, zg_stug, zg_stug0, zg_sord, zg_sord0, zg_srep, zg_srep0, zg_scla, zg_scla0, zg_scon, zg_scon0, zg_swin, zg_swin0, zg_sleg, zg_sleg0, zg_spro, zg_sstp, zg_swrd, zu_srock2, zu_stug2, zu_ssun, zu_ssun0, zu_srock, zu_srock0, zu_stug, zu_stug0, zu_sord, zu_sord0, zu_srep, zu_srep0, zu_scla, zu_scla0, zu_scon, zu_scon0, zu_swin, zu_swin0, zu_sleg, zu_sleg0, zu_spro, zu_sstp, zu_swrd]
theorem zsw_s : ∀ b, b < 256 → zswL 19 (108) #[(38, 84), (42, 102), (43, 96), (45, 99), (47, 105), (60, 87), (61, 90), (62, 93), (124, 81)]  (nI b) = (if b = 124 then 100 else if b = 38 then 103 else if b = 60 then 106 else if b = 61 then 109 else if b = 62 then 112 else if b = 43 then 115 else if b = 45 then 118 else if b = 42 then 121 else if b = 47 then 124 else 127) := by decide +kernel
theorem M197 (d L p0 p2 r2 r3 s4 : Nat) (C : zCt) {T : Nat → Nat} {n : Nat} {x : zLx} (h : zPM T n C x) (hk : zTk T n x) : zR d 197 0 [.ref 201] [] (zZ L, zI C, zPd p0 p2 r2 r3 s4) = some (some (.int (nI (zsgn T x))), (zZ L, zI C, zPd p0 p2 r2 r3 s4)) := by
  have h' := h
  obtain ⟨hL, h8, h5, h6, h10⟩ := h
  by_cases e : x.2.2 = 3
  · have hlt := zPC_lt hk (show x.2.2 ≠ 0 by rw [e]; decide)
    obtain ⟨t, hb⟩ := hL.2.2 x.1 hlt
    have h120 := hL.2.1
    rw [e] at h8
    have h8 : C 401 0 8 = 3 := h8
    unfold zsgn
    rw [if_pos e]
    obtain ⟨b, hb'⟩ : ∃ b, b = T x.1 := ⟨_, rfl⟩
    rw [← hb'] at t hb ⊢
    have hsw := zsw_s b hb
    unfold zsc
    rw [e197_0]
    simp +decide (disch := omega) only [e197_10, h8, h5, t, zpre, ite_self, Nat.reduceAdd, zs1, zs2, zs3, zI_eqb, and_self, not_true_eq_false, if_true, if_false, ite_true, ite_false, not_false_eq_true, zBP, zBZ, zisO, zisA, zlen, decide_true, decide_false, Bool.and_self, Bool.and_true, Bool.true_and, cond_true, cond_false, zBG, zBR, zBU, zBV, zinb_n, zix_n, zlA, zlB, zlM, zlN, zlX, zlI, nI_add, Nat.add_eq_zero_iff, false_and, and_false, and_true, true_and, true_or, or_true, false_or, or_false, zbool_i, zb0, zb1, zshp_0, zcs_eq, zcs_n, zcs_cs, zup_g, zup_n, zg_srock2, zg_stug2, zg_ssun, zg_ssun0, zg_srock, zg_srock0, zg_stug, zg_stug0, zg_sord, zg_sord0, zg_srep, zg_srep0, zg_scla, zg_scla0, zg_scon, zg_scon0, zg_swin, zg_swin0, zg_sleg, zg_sleg0, zg_spro, zg_sstp, zg_swrd, zu_srock2, zu_stug2, zu_ssun, zu_ssun0, zu_srock, zu_srock0, zu_stug, zu_stug0, zu_sord, zu_sord0, zu_srep, zu_srep0, zu_scla, zu_scla0, zu_scon, zu_scon0, zu_swin, zu_swin0, zu_sleg, zu_sleg0, zu_spro, zu_sstp, zu_swrd]
    rw [hsw]
    repeat' split
    all_goals first | rw [e197_100] | rw [e197_103] | rw [e197_106] | rw [e197_109] | rw [e197_112] | rw [e197_115] | rw [e197_118] | rw [e197_121] | rw [e197_124] | rw [e197_127]
    all_goals rfl
  · have h8' : ¬ C 401 0 8 = 3 := by
      rw [h8]
      intro q
      have h5k := hk.2.2.1
      unfold zso at q
      split at q
      · exact absurd q (by decide)
      · exact e ((nI_eq (b := 3) (by omega) (by decide)).mp q)
    unfold zsgn
    rw [if_neg e]
    simp +decide (disch := omega) only [e197_8, e197_0, h8', zn0, zpre, ite_self, Nat.reduceAdd, zs1, zs2, zs3, zI_eqb, and_self, not_true_eq_false, if_true, if_false, ite_true, ite_false, not_false_eq_true, zBP, zBZ, zisO, zisA, zlen, decide_true, decide_false, Bool.and_self, Bool.and_true, Bool.true_and, cond_true, cond_false, zBG, zBR, zBU, zBV, zinb_n, zix_n, zlA, zlB, zlM, zlN, zlX, zlI, nI_add, Nat.add_eq_zero_iff, false_and, and_false, and_true, true_and, true_or, or_true, false_or, or_false, zbool_i, zb0, zb1, zshp_0, zcs_eq, zcs_n, zcs_cs, zup_g, zup_n, zg_srock2, zg_stug2, zg_ssun, zg_ssun0, zg_srock, zg_srock0, zg_stug, zg_stug0, zg_sord, zg_sord0, zg_srep, zg_srep0, zg_scla, zg_scla0, zg_scon, zg_scon0, zg_swin, zg_swin0, zg_sleg, zg_sleg0, zg_spro, zg_sstp, zg_swrd, zu_srock2, zu_stug2, zu_ssun, zu_ssun0, zu_srock, zu_srock0, zu_stug, zu_stug0, zu_sord, zu_sord0, zu_srep, zu_srep0, zu_scla, zu_scla0, zu_scon, zu_scon0, zu_swin, zu_swin0, zu_sleg, zu_sleg0, zu_spro, zu_sstp, zu_swrd]
theorem M195 (d : Nat) (Z : List (Nat × Nat)) (I : Nat → Nat → Int32) (P : Nat → Nat → Nat) {b : Nat} (hb : b < 256) : zR d 195 0 [.int (nI b)] [] (Z, I, P) = some (some (.int (if znm b = true then 1 else 0)), (Z, I, P)) := by
  have e : ∀ c, c < 256 → (nI b = nI c ↔ b = c) := fun c hc => nI_eq (by omega) (by omega)

  by_cases hn : znm b = true
  · rw [if_pos hn]
    have : b = 120 ∨ b = 121 ∨ b = 117 ∨ b = 118 ∨ b = 102 ∨ b = 119 ∨ b = 109 ∨ b = 116 ∨ b = 107 ∨ b = 115 := by
      unfold znm at hn
      simpa using hn
    rcases this with rfl | rfl | rfl | rfl | rfl | rfl | rfl | rfl | rfl | rfl <;> (simp +decide only [e195_0, e195_6, e195_12, e195_18, e195_24, e195_30, e195_36, e195_42, e195_48, e195_54, e195_60, e195_64, e195_65, if_true, if_false, not_true_eq_false, zbool]; rfl)
  · rw [if_neg hn]
    have hno : ∀ c, znm c = true → ¬ b = c := fun c hc q => hn (by rw [q]; exact hc)
    have k120 : ¬ nI b = 120 := fun q => hno 120 (by decide) ((e 120 (by decide)).mp q)
    have k121 : ¬ nI b = 121 := fun q => hno 121 (by decide) ((e 121 (by decide)).mp q)
    have k117 : ¬ nI b = 117 := fun q => hno 117 (by decide) ((e 117 (by decide)).mp q)
    have k118 : ¬ nI b = 118 := fun q => hno 118 (by decide) ((e 118 (by decide)).mp q)
    have k102 : ¬ nI b = 102 := fun q => hno 102 (by decide) ((e 102 (by decide)).mp q)
    have k119 : ¬ nI b = 119 := fun q => hno 119 (by decide) ((e 119 (by decide)).mp q)
    have k109 : ¬ nI b = 109 := fun q => hno 109 (by decide) ((e 109 (by decide)).mp q)
    have k116 : ¬ nI b = 116 := fun q => hno 116 (by decide) ((e 116 (by decide)).mp q)
    have k107 : ¬ nI b = 107 := fun q => hno 107 (by decide) ((e 107 (by decide)).mp q)
    have k115 : ¬ nI b = 115 := fun q => hno 115 (by decide) ((e 115 (by decide)).mp q)
    simp +decide only [e195_0, e195_6, e195_12, e195_18, e195_24, e195_30, e195_36, e195_42, e195_48, e195_54, e195_60, e195_64, e195_65, k120, k121, k117, k118, k102, k119, k109, k116, k107, k115, if_false, zbool, not_false_eq_true, if_true]
    rfl

def zstk (f : Nat → Int32) : List Nat → Prop
  | [] => True
  | a :: r => f r.length = nI a ∧ a < 100 ∧ zstk f r
/-- the open signs of the model -/
def zSK (C : zCt) (b s : Nat) (K : List Nat) (j : Nat) : Prop := C 401 0 22 = nI b ∧ C 401 0 23 = nI s ∧ C 401 0 21 = nI K.length ∧ zstk (C 409 0) K ∧ C 401 0 14 = nI j ∧ j + K.length ≤ 120
def zmr (f : Nat → Int32) : Nat → List (Int32 × Int32) → Prop
  | _, [] => True
  | j, q :: r => f (2 * j) = q.1 ∧ f (2 * j + 1) = q.2 ∧ zmr f (j + 1) r
def zFX (j : Nat) (C C' : zCt) : Prop := (∀ g, g ≠ 401 → g ≠ 406 → C' g = C g) ∧ (∀ f, f ≠ 14 → f ≠ 21 → f ≠ 22 → f ≠ 23 → C' 401 0 f = C 401 0 f) ∧ ∀ i, i < 2 * j → C' 406 0 i = C 406 0 i
def zow (o : Nat) : Int32 × Int32 := (nI o, 0)
theorem zmr_app {f : Nat → Int32} : ∀ {a b : List (Int32 × Int32)} {j : Nat}, zmr f j (a ++ b) ↔ zmr f j a ∧ zmr f (j + a.length) b := by
  intro a
  induction a with
  | nil => intro b j; exact ⟨fun h => ⟨trivial, h⟩, fun h => h.2⟩
  | cons q r IH =>
    intro b j
    have e : j + 1 + r.length = j + (q :: r).length := by simp only [List.length_cons]; omega
    constructor
    · rintro ⟨h1, h2, h3⟩
      have := IH.mp h3
      rw [e] at this
      exact ⟨⟨h1, h2, this.1⟩, this.2⟩
    · rintro ⟨⟨h1, h2, h3⟩, h4⟩
      rw [← e] at h4
      exact ⟨h1, h2, IH.mpr ⟨h3, h4⟩⟩
theorem zmr_c {f g : Nat → Int32} : ∀ {a : List (Int32 × Int32)} {j : Nat}, (∀ i, 2 * j ≤ i → i < 2 * (j + a.length) → g i = f i) → zmr f j a → zmr g j a := by
  intro a
  induction a with
  | nil => intro j _ _; trivial
  | cons q r IH =>
    intro j hg h
    obtain ⟨h1, h2, h3⟩ := h
    simp only [List.length_cons] at hg
    exact ⟨(hg _ (by omega) (by omega)).trans h1, (hg _ (by omega) (by omega)).trans h2, IH (fun i hi hi2 => hg i (by omega) (by omega)) h3⟩
theorem zFX_r (j : Nat) (C : zCt) : zFX j C C := ⟨fun _ _ _ => rfl, fun _ _ _ _ _ => rfl, fun _ _ => rfl⟩
theorem zFX_t {j k : Nat} {A B C : zCt} (h1 : zFX j A B) (h2 : zFX k B C) (hj : j ≤ k) : zFX j A C := ⟨fun g a b => (h2.1 g a b).trans (h1.1 g a b), fun f a b c d => (h2.2.1 f a b c d).trans (h1.2.1 f a b c d), fun i hi => (h2.2.2 i (by omega)).trans (h1.2.2 i hi)⟩
theorem M194 (d L p0 p2 r2 r3 s4 : Nat) (C : zCt) {j : Nat} (hj : j < 130) (h : C 401 0 14 = nI j) (w v : Int32) : zR d 194 0 [.ref 201, .int w, .int v] [] (zZ L, zI C, zPd p0 p2 r2 r3 s4) = some (none, (zZ L, zI (zcs (zcs C 406 (zup (zup (C 406) 0 (2 * j) w) 0 (2 * j + 1) v)) 401 (zup (C 401) 0 14 (nI (j + 1)))), zPd p0 p2 r2 r3 s4)) := by
  simp +decide (disch := omega) only [e194_0, h, zpre, ite_self, Nat.reduceAdd, zs1, zs2, zs3, zI_eqb, and_self, not_true_eq_false, if_true, if_false, ite_true, ite_false, not_false_eq_true, zBP, zBZ, zisO, zisA, zlen, decide_true, decide_false, Bool.and_self, Bool.and_true, Bool.true_and, cond_true, cond_false, zBG, zBR, zBU, zBV, zinb_n, zix_n, zlA, zlB, zlM, zlN, zlX, zlI, nI_add, Nat.add_eq_zero_iff, false_and, and_false, and_true, true_and, true_or, or_true, false_or, or_false, zbool_i, zb0, zb1, zshp_0, zcs_eq, zcs_n, zcs_cs, zup_g, zup_n, zg_srock2, zg_stug2, zg_ssun, zg_ssun0, zg_srock, zg_srock0, zg_stug, zg_stug0, zg_sord, zg_sord0, zg_srep, zg_srep0, zg_scla, zg_scla0, zg_scon, zg_scon0, zg_swin, zg_swin0, zg_sleg, zg_sleg0, zg_spro, zg_sstp, zg_swrd, zu_srock2, zu_stug2, zu_ssun, zu_ssun0, zu_srock, zu_srock0, zu_stug, zu_stug0, zu_sord, zu_sord0, zu_srep, zu_srep0, zu_scla, zu_scla0, zu_scon, zu_scon0, zu_swin, zu_swin0, zu_sleg, zu_sleg0, zu_spro, zu_sstp, zu_swrd]
theorem zSK_em {C : zCt} {b s j : Nat} {K : List Nat} (h : zSK C b s K j) (hj : j + 1 + K.length ≤ 120) (w v : Int32) : zSK (zcs (zcs C 406 (zup (zup (C 406) 0 (2 * j) w) 0 (2 * j + 1) v)) 401 (zup (C 401) 0 14 (nI (j + 1)))) b s K (j + 1) ∧ zFX j C (zcs (zcs C 406 (zup (zup (C 406) 0 (2 * j) w) 0 (2 * j + 1) v)) 401 (zup (C 401) 0 14 (nI (j + 1)))) ∧ zmr ((zcs (zcs C 406 (zup (zup (C 406) 0 (2 * j) w) 0 (2 * j + 1) v)) 401 (zup (C 401) 0 14 (nI (j + 1)))) 406 0) j [(w, v)] := by
  obtain ⟨h1, h2, h3, h4, h5, h6⟩ := h
  refine ⟨⟨?_, ?_, ?_, ?_, ?_, by omega⟩, ⟨fun g a b => ?_, fun f a b c d => ?_, fun i hi => ?_⟩, ?_, ?_, trivial⟩
  · rw [zcs_eq, zup_n _ _ (by omega)]; exact h1
  · rw [zcs_eq, zup_n _ _ (by omega)]; exact h2
  · rw [zcs_eq, zup_n _ _ (by omega)]; exact h3
  · rw [zcs_n _ _ (by decide), zcs_n _ _ (by decide)]; exact h4
  · rw [zcs_eq, zup_g]
  · rw [zcs_n _ _ a, zcs_n _ _ b]
  · rw [zcs_eq, zup_n _ _ (by omega)]
  · rw [zcs_n _ _ (by decide), zcs_eq, zup_n _ _ (by omega), zup_n _ _ (by omega)]
  · rw [zcs_n _ _ (by decide), zcs_eq, zup_n _ _ (by omega), zup_g]
  · rw [zcs_n _ _ (by decide), zcs_eq, zup_g]

/-- what stands right ahead of a part -/
theorem M196 (d L p0 p2 r2 r3 s4 : Nat) : ∀ (Q K : List Nat) (C : zCt) (b s j : Nat), zSK C b (s + Q.length) (Q ++ K) j → (∀ o, o ∈ Q → o = 3 ∨ o = 4) → (∀ a r, K = a :: r → a ≠ 3 ∧ a ≠ 4) → ∃ C', zR (d + 1) 196 0 [.ref 201] [] (zZ L, zI C, zPd p0 p2 r2 r3 s4) = some (none, (zZ L, zI C', zPd p0 p2 r2 r3 s4)) ∧ zSK C' b s K (j + Q.length) ∧ zFX j C C' ∧ zmr (C' 406 0) j (Q.map zow) := by
  intro Q
  induction Q with
  | nil =>
    intro K C b s j h _ hK
    refine ⟨C, ?_, h, zFX_r _ _, trivial⟩
    obtain ⟨h1, h2, h3, h4, h5, h6⟩ := h
    simp only [List.nil_append] at h3 h4 h6
    cases K with
    | nil =>
      have h3 : C 401 0 21 = 0 := h3
      have c : (0 : Int32) ≤ 0 := by decide
      simp +decide (disch := omega) only [e196_0, e196_74, h3, c, zpre, ite_self, Nat.reduceAdd, zs1, zs2, zs3, zI_eqb, and_self, not_true_eq_false, if_true, if_false, ite_true, ite_false, not_false_eq_true, zBP, zBZ, zisO, zisA, zlen, decide_true, decide_false, Bool.and_self, Bool.and_true, Bool.true_and, cond_true, cond_false, zBG, zBR, zBU, zBV, zinb_n, zix_n, zlA, zlB, zlM, zlN, zlX, zlI, nI_add, Nat.add_eq_zero_iff, false_and, and_false, and_true, true_and, true_or, or_true, false_or, or_false, zbool_i, zb0, zb1, zshp_0, zcs_eq, zcs_n, zcs_cs, zup_g, zup_n, zg_srock2, zg_stug2, zg_ssun, zg_ssun0, zg_srock, zg_srock0, zg_stug, zg_stug0, zg_sord, zg_sord0, zg_srep, zg_srep0, zg_scla, zg_scla0, zg_scon, zg_scon0, zg_swin, zg_swin0, zg_sleg, zg_sleg0, zg_spro, zg_sstp, zg_swrd, zu_srock2, zu_stug2, zu_ssun, zu_ssun0, zu_srock, zu_srock0, zu_stug, zu_stug0, zu_sord, zu_sord0, zu_srep, zu_srep0, zu_scla, zu_scla0, zu_scon, zu_scon0, zu_swin, zu_swin0, zu_sleg, zu_sleg0, zu_spro, zu_sstp, zu_swrd]
    | cons a r =>
      obtain ⟨k1, k2⟩ := hK a r rfl
      obtain ⟨g1, g2, g3⟩ := h4
      simp only [List.length_cons] at h3 h6
      have c1 : ¬ nI (r.length + 1) ≤ 0 := nI_eqz (by omega) (by omega)
      have c3 : ¬ nI a = 3 := fun q => k1 ((nI_eq (b := 3) (by omega) (by decide)).mp q)
      have c4 : ¬ nI a = 4 := fun q => k2 ((nI_eq (b := 4) (by omega) (by decide)).mp q)
      simp +decide (disch := omega) only [e196_0, e196_7, e196_22, e196_74, h3, nI_pred, g1, c1, c3, c4, zpre, ite_self, Nat.reduceAdd, zs1, zs2, zs3, zI_eqb, and_self, not_true_eq_false, if_true, if_false, ite_true, ite_false, not_false_eq_true, zBP, zBZ, zisO, zisA, zlen, decide_true, decide_false, Bool.and_self, Bool.and_true, Bool.true_and, cond_true, cond_false, zBG, zBR, zBU, zBV, zinb_n, zix_n, zlA, zlB, zlM, zlN, zlX, zlI, nI_add, Nat.add_eq_zero_iff, false_and, and_false, and_true, true_and, true_or, or_true, false_or, or_false, zbool_i, zb0, zb1, zshp_0, zcs_eq, zcs_n, zcs_cs, zup_g, zup_n, zg_srock2, zg_stug2, zg_ssun, zg_ssun0, zg_srock, zg_srock0, zg_stug, zg_stug0, zg_sord, zg_sord0, zg_srep, zg_srep0, zg_scla, zg_scla0, zg_scon, zg_scon0, zg_swin, zg_swin0, zg_sleg, zg_sleg0, zg_spro, zg_sstp, zg_swrd, zu_srock2, zu_stug2, zu_ssun, zu_ssun0, zu_srock, zu_srock0, zu_stug, zu_stug0, zu_sord, zu_sord0, zu_srep, zu_srep0, zu_scla, zu_scla0, zu_scon, zu_scon0, zu_swin, zu_swin0, zu_sleg, zu_sleg0, zu_spro, zu_sstp, zu_swrd]
  | cons o Q IH =>
    intro K C b s j h hQ hK
    obtain ⟨h1, h2, h3, h4, h5, h6⟩ := h
    simp only [List.cons_append, List.length_cons] at h2 h3 h4 h6
    obtain ⟨g1, g2, g3⟩ := h4
    obtain ⟨C1, hC1⟩ : ∃ C1, C1 = zcs C 401 (zup (zup (C 401) 0 21 (nI (Q ++ K).length)) 0 23 (nI (s + Q.length))) := ⟨_, rfl⟩
    have n1 : zSK C1 b (s + Q.length) (Q ++ K) j := by
      rw [hC1]
      refine ⟨?_, ?_, ?_, ?_, ?_, by omega⟩
      · rw [zcs_eq, zup_n _ _ (by omega), zup_n _ _ (by omega)]; exact h1
      · rw [zcs_eq, zup_g]
      · rw [zcs_eq, zup_n _ _ (by omega), zup_g]
      · rw [zcs_n _ _ (by decide)]; exact g3
      · rw [zcs_eq, zup_n _ _ (by omega), zup_n _ _ (by omega)]; exact h5
    have f1 : zFX j C C1 := by
      rw [hC1]
      exact ⟨fun g a b => by rw [zcs_n _ _ a], fun f a b c d => by rw [zcs_eq, zup_n _ _ (by omega), zup_n _ _ (by omega)], fun i _ => by rw [zcs_n _ _ (by decide)]⟩
    obtain ⟨n2, f2, m2⟩ := zSK_em n1 (by omega) (nI o) 0
    have t := M194 d L p0 p2 r2 r3 s4 C1 (j := j) (by omega) n1.2.2.2.2.1 (nI o) 0
    obtain ⟨C', q1, q2, q3, q4⟩ := IH K _ b s (j + 1) n2 (fun o ho => hQ o (List.mem_cons_of_mem _ ho)) hK
    refine ⟨C', ?_, ?_, zFX_t f1 (zFX_t f2 q3 (by omega)) (Nat.le_refl _), ?_⟩
    · have c1 : ¬ nI ((Q ++ K).length + 1) ≤ 0 := nI_eqz (by omega) (by omega)
      rw [hC1] at t q1
      rw [← q1, e196_0]
      rcases hQ o (List.mem_cons_self ..) with rfl | rfl
      · rw [zn3] at t g1 ⊢
        simp +decide (disch := omega) only [e196_7, e196_37, e196_71, h3, h2, ← Nat.add_assoc, nI_pred, g1, c1, t, zpre, ite_self, Nat.reduceAdd, zs1, zs2, zs3, zI_eqb, and_self, not_true_eq_false, if_true, if_false, ite_true, ite_false, not_false_eq_true, zBP, zBZ, zisO, zisA, zlen, decide_true, decide_false, Bool.and_self, Bool.and_true, Bool.true_and, cond_true, cond_false, zBG, zBR, zBU, zBV, zinb_n, zix_n, zlA, zlB, zlM, zlN, zlX, zlI, nI_add, Nat.add_eq_zero_iff, false_and, and_false, and_true, true_and, true_or, or_true, false_or, or_false, zbool_i, zb0, zb1, zshp_0, zcs_eq, zcs_n, zcs_cs, zup_g, zup_n, zg_srock2, zg_stug2, zg_ssun, zg_ssun0, zg_srock, zg_srock0, zg_stug, zg_stug0, zg_sord, zg_sord0, zg_srep, zg_srep0, zg_scla, zg_scla0, zg_scon, zg_scon0, zg_swin, zg_swin0, zg_sleg, zg_sleg0, zg_spro, zg_sstp, zg_swrd, zu_srock2, zu_stug2, zu_ssun, zu_ssun0, zu_srock, zu_srock0, zu_stug, zu_stug0, zu_sord, zu_sord0, zu_srep, zu_srep0, zu_scla, zu_scla0, zu_scon, zu_scon0, zu_swin, zu_swin0, zu_sleg, zu_sleg0, zu_spro, zu_sstp, zu_swrd]
      · rw [show nI 4 = 4 from rfl] at t g1 ⊢
        simp +decide (disch := omega) only [e196_7, e196_22, e196_37, e196_71, h3, h2, ← Nat.add_assoc, nI_pred, g1, c1, t, zpre, ite_self, Nat.reduceAdd, zs1, zs2, zs3, zI_eqb, and_self, not_true_eq_false, if_true, if_false, ite_true, ite_false, not_false_eq_true, zBP, zBZ, zisO, zisA, zlen, decide_true, decide_false, Bool.and_self, Bool.and_true, Bool.true_and, cond_true, cond_false, zBG, zBR, zBU, zBV, zinb_n, zix_n, zlA, zlB, zlM, zlN, zlX, zlI, nI_add, Nat.add_eq_zero_iff, false_and, and_false, and_true, true_and, true_or, or_true, false_or, or_false, zbool_i, zb0, zb1, zshp_0, zcs_eq, zcs_n, zcs_cs, zup_g, zup_n, zg_srock2, zg_stug2, zg_ssun, zg_ssun0, zg_srock, zg_srock0, zg_stug, zg_stug0, zg_sord, zg_sord0, zg_srep, zg_srep0, zg_scla, zg_scla0, zg_scon, zg_scon0, zg_swin, zg_swin0, zg_sleg, zg_sleg0, zg_spro, zg_sstp, zg_swrd, zu_srock2, zu_stug2, zu_ssun, zu_ssun0, zu_srock, zu_srock0, zu_stug, zu_stug0, zu_sord, zu_sord0, zu_srep, zu_srep0, zu_scla, zu_scla0, zu_scon, zu_scon0, zu_swin, zu_swin0, zu_sleg, zu_sleg0, zu_spro, zu_sstp, zu_swrd]
    · rw [show j + (o :: Q).length = j + 1 + Q.length by simp only [List.length_cons]; omega]
      exact q2
    · exact ⟨(q3.2.2 (2 * j) (by omega)).trans m2.1, (q3.2.2 (2 * j + 1) (by omega)).trans m2.2.1, q4⟩
/-- signs that bind closely are worked out -/
theorem M198 (d L p0 p2 r2 r3 s4 c : Nat) (hc : c < 10) : ∀ (Q K : List Nat) (C : zCt) (b s j : Nat), zSK C b s (Q ++ K) j → (∀ o, o ∈ Q → 10 ≤ o ∧ c ≤ o / 10) → (∀ a r, K = a :: r → a / 10 < c ∨ a < 10) → ∃ C', zR (d + 1) 198 0 [.ref 201, .int (nI c)] [] (zZ L, zI C, zPd p0 p2 r2 r3 s4) = some (none, (zZ L, zI C', zPd p0 p2 r2 r3 s4)) ∧ zSK C' b s K (j + Q.length) ∧ zFX j C C' ∧ zmr (C' 406 0) j (Q.map zow) := by
  have hdiv : ∀ a : Nat, a < 100 → nI a / 10 = nI (a / 10) := by decide +kernel
  intro Q
  induction Q with
  | nil =>
    intro K C b s j h _ hK
    refine ⟨C, ?_, h, zFX_r _ _, trivial⟩
    obtain ⟨h1, h2, h3, h4, h5, h6⟩ := h
    simp only [List.nil_append] at h3 h4 h6
    cases K with
    | nil =>
      have h3 : C 401 0 21 = 0 := h3
      have c : (0 : Int32) ≤ 0 := by decide
      simp +decide (disch := omega) only [e198_0, e198_68, h3, c, zpre, ite_self, Nat.reduceAdd, zs1, zs2, zs3, zI_eqb, and_self, not_true_eq_false, if_true, if_false, ite_true, ite_false, not_false_eq_true, zBP, zBZ, zisO, zisA, zlen, decide_true, decide_false, Bool.and_self, Bool.and_true, Bool.true_and, cond_true, cond_false, zBG, zBR, zBU, zBV, zinb_n, zix_n, zlA, zlB, zlM, zlN, zlX, zlI, nI_add, Nat.add_eq_zero_iff, false_and, and_false, and_true, true_and, true_or, or_true, false_or, or_false, zbool_i, zb0, zb1, zshp_0, zcs_eq, zcs_n, zcs_cs, zup_g, zup_n, zg_srock2, zg_stug2, zg_ssun, zg_ssun0, zg_srock, zg_srock0, zg_stug, zg_stug0, zg_sord, zg_sord0, zg_srep, zg_srep0, zg_scla, zg_scla0, zg_scon, zg_scon0, zg_swin, zg_swin0, zg_sleg, zg_sleg0, zg_spro, zg_sstp, zg_swrd, zu_srock2, zu_stug2, zu_ssun, zu_ssun0, zu_srock, zu_srock0, zu_stug, zu_stug0, zu_sord, zu_sord0, zu_srep, zu_srep0, zu_scla, zu_scla0, zu_scon, zu_scon0, zu_swin, zu_swin0, zu_sleg, zu_sleg0, zu_spro, zu_sstp, zu_swrd]
    | cons a r =>
      have k := hK a r rfl
      obtain ⟨g1, g2, g3⟩ := h4
      simp only [List.length_cons] at h3 h6
      have hd := hdiv a g2
      have c1 : ¬ nI (r.length + 1) ≤ 0 := nI_eqz (by omega) (by omega)
      by_cases k1 : a / 10 < c
      · have c3 : nI (a / 10) < nI c := nI_lt k1 (by omega)
        simp +decide (disch := omega) only [e198_0, e198_7, e198_68, h3, nI_pred, g1, hd, c1, c3, zpre, ite_self, Nat.reduceAdd, zs1, zs2, zs3, zI_eqb, and_self, not_true_eq_false, if_true, if_false, ite_true, ite_false, not_false_eq_true, zBP, zBZ, zisO, zisA, zlen, decide_true, decide_false, Bool.and_self, Bool.and_true, Bool.true_and, cond_true, cond_false, zBG, zBR, zBU, zBV, zinb_n, zix_n, zlA, zlB, zlM, zlN, zlX, zlI, nI_add, Nat.add_eq_zero_iff, false_and, and_false, and_true, true_and, true_or, or_true, false_or, or_false, zbool_i, zb0, zb1, zshp_0, zcs_eq, zcs_n, zcs_cs, zup_g, zup_n, zg_srock2, zg_stug2, zg_ssun, zg_ssun0, zg_srock, zg_srock0, zg_stug, zg_stug0, zg_sord, zg_sord0, zg_srep, zg_srep0, zg_scla, zg_scla0, zg_scon, zg_scon0, zg_swin, zg_swin0, zg_sleg, zg_sleg0, zg_spro, zg_sstp, zg_swrd, zu_srock2, zu_stug2, zu_ssun, zu_ssun0, zu_srock, zu_srock0, zu_stug, zu_stug0, zu_sord, zu_sord0, zu_srep, zu_srep0, zu_scla, zu_scla0, zu_scon, zu_scon0, zu_swin, zu_swin0, zu_sleg, zu_sleg0, zu_spro, zu_sstp, zu_swrd]
      · have c3 : ¬ nI (a / 10) < nI c := nI_nlt (by omega) (by omega)
        have c4 : nI a < 10 := nI_lt (b := 10) (by omega) (by decide)
        simp +decide (disch := omega) only [e198_0, e198_7, e198_25, e198_68, h3, nI_pred, g1, hd, c1, c3, c4, zpre, ite_self, Nat.reduceAdd, zs1, zs2, zs3, zI_eqb, and_self, not_true_eq_false, if_true, if_false, ite_true, ite_false, not_false_eq_true, zBP, zBZ, zisO, zisA, zlen, decide_true, decide_false, Bool.and_self, Bool.and_true, Bool.true_and, cond_true, cond_false, zBG, zBR, zBU, zBV, zinb_n, zix_n, zlA, zlB, zlM, zlN, zlX, zlI, nI_add, Nat.add_eq_zero_iff, false_and, and_false, and_true, true_and, true_or, or_true, false_or, or_false, zbool_i, zb0, zb1, zshp_0, zcs_eq, zcs_n, zcs_cs, zup_g, zup_n, zg_srock2, zg_stug2, zg_ssun, zg_ssun0, zg_srock, zg_srock0, zg_stug, zg_stug0, zg_sord, zg_sord0, zg_srep, zg_srep0, zg_scla, zg_scla0, zg_scon, zg_scon0, zg_swin, zg_swin0, zg_sleg, zg_sleg0, zg_spro, zg_sstp, zg_swrd, zu_srock2, zu_stug2, zu_ssun, zu_ssun0, zu_srock, zu_srock0, zu_stug, zu_stug0, zu_sord, zu_sord0, zu_srep, zu_srep0, zu_scla, zu_scla0, zu_scon, zu_scon0, zu_swin, zu_swin0, zu_sleg, zu_sleg0, zu_spro, zu_sstp, zu_swrd]
  | cons o Q IH =>
    intro K C b s j h hQ hK
    obtain ⟨h1, h2, h3, h4, h5, h6⟩ := h
    simp only [List.cons_append, List.length_cons] at h3 h4 h6
    obtain ⟨g1, g2, g3⟩ := h4
    obtain ⟨C1, hC1⟩ : ∃ C1, C1 = zcs C 401 (zup (C 401) 0 21 (nI (Q ++ K).length)) := ⟨_, rfl⟩
    have n1 : zSK C1 b s (Q ++ K) j := by
      rw [hC1]
      refine ⟨?_, ?_, ?_, ?_, ?_, by omega⟩
      · rw [zcs_eq, zup_n _ _ (by omega)]; exact h1
      · rw [zcs_eq, zup_n _ _ (by omega)]; exact h2
      · rw [zcs_eq, zup_g]
      · rw [zcs_n _ _ (by decide)]; exact g3
      · rw [zcs_eq, zup_n _ _ (by omega)]; exact h5
    have f1 : zFX j C C1 := by
      rw [hC1]
      exact ⟨fun g a b => by rw [zcs_n _ _ a], fun f a b c d => by rw [zcs_eq, zup_n _ _ (by omega)], fun i _ => by rw [zcs_n _ _ (by decide)]⟩
    obtain ⟨n2, f2, m2⟩ := zSK_em n1 (by omega) (nI o) 0
    have t := M194 d L p0 p2 r2 r3 s4 C1 (j := j) (by omega) n1.2.2.2.2.1 (nI o) 0
    obtain ⟨C', q1, q2, q3, q4⟩ := IH K _ b s (j + 1) n2 (fun o ho => hQ o (List.mem_cons_of_mem _ ho)) hK
    refine ⟨C', ?_, ?_, zFX_t f1 (zFX_t f2 q3 (by omega)) (Nat.le_refl _), ?_⟩
    · have c1 : ¬ nI ((Q ++ K).length + 1) ≤ 0 := nI_eqz (by omega) (by omega)
      obtain ⟨k1, k2⟩ := hQ o (List.mem_cons_self ..)
      have hd := hdiv o g2
      have c3 : ¬ nI (o / 10) < nI c := nI_nlt (by omega) (by omega)
      have c4 : ¬ nI o < 10 := nI_nlt (b := 10) (by omega) (by omega)
      rw [hC1] at t q1
      rw [← q1, e198_0]
      simp +decide (disch := omega) only [e198_7, e198_25, e198_41, e198_65, h3, nI_pred, g1, hd, c1, c3, c4, t, zpre, ite_self, Nat.reduceAdd, zs1, zs2, zs3, zI_eqb, and_self, not_true_eq_false, if_true, if_false, ite_true, ite_false, not_false_eq_true, zBP, zBZ, zisO, zisA, zlen, decide_true, decide_false, Bool.and_self, Bool.and_true, Bool.true_and, cond_true, cond_false, zBG, zBR, zBU, zBV, zinb_n, zix_n, zlA, zlB, zlM, zlN, zlX, zlI, nI_add, Nat.add_eq_zero_iff, false_and, and_false, and_true, true_and, true_or, or_true, false_or, or_false, zbool_i, zb0, zb1, zshp_0, zcs_eq, zcs_n, zcs_cs, zup_g, zup_n, zg_srock2, zg_stug2, zg_ssun, zg_ssun0, zg_srock, zg_srock0, zg_stug, zg_stug0, zg_sord, zg_sord0, zg_srep, zg_srep0, zg_scla, zg_scla0, zg_scon, zg_scon0, zg_swin, zg_swin0, zg_sleg, zg_sleg0, zg_spro, zg_sstp, zg_swrd, zu_srock2, zu_stug2, zu_ssun, zu_ssun0, zu_srock, zu_srock0, zu_stug, zu_stug0, zu_sord, zu_sord0, zu_srep, zu_srep0, zu_scla, zu_scla0, zu_scon, zu_scon0, zu_swin, zu_swin0, zu_sleg, zu_sleg0, zu_spro, zu_sstp, zu_swrd]
    · rw [show j + (o :: Q).length = j + 1 + Q.length by simp only [List.length_cons]; omega]
      exact q2
    · exact ⟨(q3.2.2 (2 * j) (by omega)).trans m2.1, (q3.2.2 (2 * j + 1) (by omega)).trans m2.2.1, q4⟩

