/-! THE PROGRAM: an E on both sides, printed by wip/gen/pub68.py -/
/-- depth of the pile behind words -/
def zdpl : List (Int32 × Int32) → Nat → Option Nat
  | [], s => some s
  | q :: r, s => if q.1 = 1 ∨ q.1 = 2 then zdpl r (s + 1) else if q.1 = 3 ∨ q.1 = 4 then (if 1 ≤ s then zdpl r s else none) else if 2 ≤ s then zdpl r (s - 1) else none
theorem zdpl_app : ∀ (a b : List (Int32 × Int32)) (s : Nat), zdpl (a ++ b) s = (zdpl a s).bind (zdpl b) := by
  intro a
  induction a with
  | nil => intro b s; rfl
  | cons q r IH =>
    intro b s
    simp only [List.cons_append, zdpl]
    split
    · exact IH _ _
    split
    · split
      · exact IH _ _
      · rfl
    split
    · exact IH _ _
    · rfl
theorem zdpl_1 (v : Int32) (q : Nat) : zdpl [(1, v)] q = some (q + 1) := rfl
theorem zdpl_2 (v : Int32) (q : Nat) : zdpl [(2, v)] q = some (q + 1) := rfl
theorem zdpl_u (b : Prop) [Decidable b] (q : Nat) : zdpl [(if b then 3 else 4, 0)] (q + 1) = some (q + 1) := by
  by_cases h : b
  · rw [if_pos h]; rfl
  · rw [if_neg h]; rfl
theorem zdpl_c {c : Nat} (h : 10 ≤ c) (h2 : c < 100) (q : Nat) : zdpl [(nI c, 0)] (q + 2) = some (q + 1) := by
  have e : ∀ k, k < 10 → ¬ nI c = nI k := fun k hk w => by have := (nI_eq (by omega) (by omega)).mp w; omega
  simp only [zdpl]
  rw [if_neg (fun w => w.elim (e 1 (by decide)) (e 2 (by decide))), if_neg (fun w => w.elim (e 3 (by decide)) (e 4 (by decide))), if_pos (by omega)]
  rfl
def znd (b s : Nat) : Nat := 7 * (8 - b) + 2 * (8 - s) + 6
def zOP (L p r2 r3 s4 q0 q2 q3 q4 q5 : Nat) (T : Nat → Nat) (n : Nat) (x : zLx) (b s : Nat) : Prop := (∃ ws x', zEt (znd b s) L p r2 r3 s4 T n 25 [.ref 190] x b s ws x' ∧ zVt L q0 q2 q3 q4 q5 T n x b s ws x' ∧ ∀ q, zdpl ws q = some (q + 1)) ∨ (∃ x', zEf (znd b s) L p r2 r3 s4 T n 25 [.ref 190] x b s x' ∧ zVf L q0 q2 q3 q4 q5 T n x b s x')
def zns_ (T : Nat → Nat) (m : Nat) (x : zLx) : Prop := ∀ k, m ≤ k → k ≤ 5 → k ≠ 3 → zsgn T x / 10 ≠ k
def zOE (L p r2 r3 s4 q0 q2 q3 q4 q5 : Nat) (T : Nat → Nat) (n : Nat) (m : Nat) (x : zLx) (b s : Nat) : Prop := (∃ ws x', zEt (znd b s + 6 - m) L p r2 r3 s4 T n 24 [.ref 190, .int (nI m), zmk, zmk] x b s ws x' ∧ zQt L q0 q2 q3 q4 q5 T n m x b s ws x' ∧ zns_ T (m + 1) x' ∧ ∀ q, zdpl ws q = some (q + 1)) ∨ (∃ x', zEf (znd b s + 6 - m) L p r2 r3 s4 T n 24 [.ref 190, .int (nI m), zmk, zmk] x b s x' ∧ zQf L q0 q2 q3 q4 q5 T n m x b s x')
def zOL (L p r2 r3 s4 q0 q2 q3 q4 q5 : Nat) (T : Nat → Nat) (n : Nat) (m : Nat) (x : zLx) (b s : Nat) : Prop := (∃ ws x', zLt (znd b s + 6 - m) L p r2 r3 s4 T n m x b s ws x' ∧ (x.2.2 ≠ 5 → zNt L q0 q2 q3 q4 q5 T n m x b s ws x') ∧ (x.2.2 = 5 → x' = x) ∧ zns_ T (m + 1) x' ∧ ∀ q, zdpl ws (q + 1) = some (q + 1)) ∨ (∃ x', x.2.2 ≠ 5 ∧ zLf (znd b s + 6 - m) L p r2 r3 s4 T n m x b s x' ∧ zNf L q0 q2 q3 q4 q5 T n m x b s x')
theorem zsgn5 {T : Nat → Nat} {x : zLx} (h : x.2.2 = 5) : zsgn T x = 0 := by
  unfold zsgn
  rw [if_neg (by omega)]
theorem zsgn_0 {T : Nat → Nat} {x : zLx} (h : zns_ T 1 x) : zsgn T x = 0 ∨ zsgn T x / 10 = 3 := by
  have h60 : zsgn T x < 60 ∧ (zsgn T x = 0 ∨ 10 ≤ zsgn T x) := by
    unfold zsgn zsc
    repeat' split
    all_goals omega
  have h1 := h 1 (by omega) (by omega) (by omega)
  have h2 := h 2 (by omega) (by omega) (by omega)
  have h4 := h 4 (by omega) (by omega) (by omega)
  have h5 := h 5 (by omega) (by omega) (by omega)
  omega
theorem EXPR (L p r2 r3 s4 q0 q2 q3 q4 q5 : Nat) (T : Nat → Nat) (n : Nat) (hp : p < 4) : ∀ F : Nat, (∀ x b s, zTk T n x → x.2.2 ≠ 5 → b ≤ 8 → s ≤ 8 → 16 * (n - x.1) < F → zOP L p r2 r3 s4 q0 q2 q3 q4 q5 T n x b s) ∧ (∀ m x b s, m ≤ 5 → zTk T n x → x.2.2 ≠ 5 → b ≤ 8 → s ≤ 8 → 16 * (n - x.1) + 2 * (5 - m) + 1 < F → zOE L p r2 r3 s4 q0 q2 q3 q4 q5 T n m x b s) ∧ (∀ m x b s, m < 5 → zTk T n x → b ≤ 8 → s ≤ 8 → zns_ T (m + 2) x → 16 * (n - x.1) + 1 < F → zOL L p r2 r3 s4 q0 q2 q3 q4 q5 T n m x b s) := by
  intro F
  induction F with
  | zero => exact ⟨fun _ _ _ _ _ _ _ h => absurd h (by omega), fun _ _ _ _ _ _ _ _ _ h => absurd h (by omega), fun _ _ _ _ _ _ _ _ _ h => absurd h (by omega)⟩
  | succ F IH =>
    obtain ⟨IP, IE, IL⟩ := IH
    refine ⟨?_, ?_, ?_⟩
    · -- a part
      intro x b s hk h5 hb hs hF
      have hnd : 6 ≤ znd b s := by unfold znd; omega
      have ha := zadv_k T n x hk.2.1
      by_cases k2 : x.2.2 = 2
      · exact Or.inl ⟨_, _, E_num _ L p r2 r3 s4 hp hnd T n x b s hk k2, V_num L q0 q2 q3 q4 q5 T n x b s hk k2, fun q => zdpl_1 _ q⟩
      by_cases k1 : x.2.2 = 1
      · by_cases hm : x.2.1 - x.1 = 1 ∧ znm (T x.1) = true
        · exact Or.inl ⟨_, _, E_name _ L p r2 r3 s4 hp hnd T n x b s hk k1 hm.1 hm.2, V_name L q0 q2 q3 q4 q5 T n x b s hk k1 hm.1 hm.2, fun q => zdpl_2 _ q⟩
        · exact Or.inr ⟨_, E_noname _ L p r2 r3 s4 hp hnd T n x b s hk k1 hm, V_none L q0 q2 q3 q4 q5 T n x b s hk (zsg0 (by omega)) (zsg0 (by omega)) (zsg0 (by omega)) k2 h5 (fun q => hm q.2)⟩
      by_cases hpre : zisg T x 33 ∨ zisg T x 45
      · have k3 : x.2.2 = 3 := by rcases hpre with q | q <;> exact q.1
        have hlt := hk.2.2.2.2.1 (by omega)
        have hn := hk.2.1
        by_cases h8 : s < 8
        · have hD : znd b (s + 1) + 2 ≤ znd b s := by unfold znd; omega
          rcases IP (zadv T n x) b (s + 1) ha.1 (zadv_n5 k3) hb (by omega) (by omega) with ⟨ws, x', y1, y2, y9⟩ | ⟨x', y1, y2⟩
          · exact Or.inl ⟨_, _, E_pret _ _ L p r2 r3 s4 hp hnd hD T n x b s hk hpre h8 y1, V_pret L q0 q2 q3 q4 q5 T n x b s hk hpre h8 y2, fun q => by rw [zdpl_app, y9]; exact zdpl_u _ q⟩
          · exact Or.inr ⟨_, E_pref _ _ L p r2 r3 s4 hp hnd hD T n x b s hk hpre h8 (ws := []) y1, V_pref L q0 q2 q3 q4 q5 T n x b s hk hpre h8 (ws := []) y2⟩
        · exact Or.inr ⟨_, E_pre0 _ L p r2 r3 s4 hp hnd T n x b s hk hpre (by omega) (by omega), V_pre0 L q0 q2 q3 q4 q5 T n x b s hk hpre (by omega)⟩
      have h33 : ¬ zisg T x 33 := fun q => hpre (Or.inl q)
      have h45 : ¬ zisg T x 45 := fun q => hpre (Or.inr q)
      by_cases h40 : zisg T x 40
      · have k3 : x.2.2 = 3 := h40.1
        have hlt := hk.2.2.2.2.1 (by omega)
        have hn := hk.2.1
        by_cases h8 : b < 8
        · have hD : (znd (b + 1) s + 6 - 0) + 1 ≤ znd b s := by unfold znd; omega
          rcases IE 0 (zadv T n x) (b + 1) s (by omega) ha.1 (zadv_n5 k3) (by omega) hs (by omega) with ⟨ws, x', y1, y2, y3, y9⟩ | ⟨x', y1, y2⟩
          · have hk' := y1.2.2.1
            by_cases h41 : zisg T x' 41
            · exact Or.inl ⟨_, _, E_part _ _ L p r2 r3 s4 hp hnd hD T n x b s hk h40 h8 y1 h41, V_part L q0 q2 q3 q4 q5 T n x b s hk h40 h8 hk' y2 h41, y9⟩
            · exact Or.inr ⟨_, E_parn _ _ L p r2 r3 s4 hp hnd hD T n x b s hk h40 h8 y1 h41, V_parn L q0 q2 q3 q4 q5 T n x b s hk h40 h8 hk' y2 h41 (zsgn_0 y3)⟩
          · exact Or.inr ⟨_, E_parf _ _ L p r2 r3 s4 hp hnd hD T n x b s hk h40 h8 (ws := []) y1, V_parf L q0 q2 q3 q4 q5 T n x b s hk h40 h8 y2⟩
        · exact Or.inr ⟨_, E_none _ L p r2 r3 s4 hp hnd T n x b s hk ⟨k1, k2⟩ h33 h45 (Or.inl (by omega)) (by omega), V_par0 L q0 q2 q3 q4 q5 T n x b s hk h40 (by omega)⟩
      · exact Or.inr ⟨_, E_none _ L p r2 r3 s4 hp hnd T n x b s hk ⟨k1, k2⟩ h33 h45 (Or.inr h40) (by omega), V_none L q0 q2 q3 q4 q5 T n x b s hk h33 h45 h40 k2 h5 (fun q => k1 q.1)⟩
    · -- a level
      intro m x b s hm hk h5 hb hs hF
      by_cases e : m = 5
      · subst e
        have hD : znd b s + 1 ≤ znd b s + 6 - 5 := by omega
        rcases IP x b s hk h5 hb hs (by omega) with ⟨ws, x', y1, y2, y9⟩ | ⟨x', y1, y2⟩
        · exact Or.inl ⟨_, _, E_x5 _ _ L p r2 r3 s4 hD T n x b s y1, Q_5 L q0 q2 q3 q4 q5 T n x b s y2, fun k h1 h2 _ => absurd h2 (by omega), y9⟩
        · exact Or.inr ⟨_, E_x5f _ _ L p r2 r3 s4 hD T n x b s y1, Q_5f L q0 q2 q3 q4 q5 T n x b s y2⟩
      have hm5 : m < 5 := by omega
      have hD : (znd b s + 6 - (m + 1)) + 1 ≤ znd b s + 6 - m := by omega
      rcases IE (m + 1) x b s (by omega) hk h5 hb hs (by omega) with ⟨ws, x1, y1, y2, y3, y9⟩ | ⟨x', y1, y2⟩
      · have hk1 := y1.2.2.1
        have hlt := y1.2.1
        have hx1 := hk1.1
        have hx2 := hk1.2.1
        rcases IL m x1 b s hm5 hk1 hb hs y3 (by omega) with ⟨w2, x2, z1, z2, z3, z4, z9⟩ | ⟨x2, z0, z1, z2⟩
        · exact Or.inl ⟨_, _, E_lev _ _ L p r2 r3 s4 hD T n m hm5 x b s y1 z1, Q_lev L q0 q2 q3 q4 q5 T n m x b s y2 z2 z3, z4, fun q => by rw [zdpl_app, y9]; exact z9 q⟩
        · exact Or.inr ⟨_, E_levg _ _ L p r2 r3 s4 hD T n m hm5 x b s y1 z1, Q_levg L q0 q2 q3 q4 q5 T n m x b s y2 z0 z2⟩
      · exact Or.inr ⟨_, E_levf _ _ L p r2 r3 s4 hD T n m hm5 x b s y1, Q_levf L q0 q2 q3 q4 q5 T n m x b s y2⟩
    · -- a level's loop
      intro m x b s hm hk hb hs hns hF
      have h4 : 4 ≤ znd b s + 6 - m := by unfold znd; omega
      by_cases hsg : zsgn T x / 10 = m + 1
      · have k3 : x.2.2 = 3 := by
          by_cases q : x.2.2 = 3
          · exact q
          · unfold zsgn at hsg
            rw [if_neg q] at hsg
            omega
        have ha := zadv_k T n x hk.2.1
        have hlt := hk.2.2.2.2.1 (by omega)
        have hn := hk.2.1
        have hD : (znd b s + 6 - (m + 1)) + 1 ≤ znd b s + 6 - m := by omega
        have hc1 : 10 ≤ zsgn T x := zsgn_10 hsg
        have hc2 : zsgn T x < 100 := by have := (zsc_b (T x.1)).2.2.2.2.2; unfold zsgn; split <;> omega
        rcases IE (m + 1) (zadv T n x) b s (by omega) ha.1 (zadv_n5 k3) hb hs (by omega) with ⟨ws, x1, y1, y2, y3, y9⟩ | ⟨x', y1, y2⟩
        · have hk1 := y1.2.2.1
          have hlt1 := y1.2.1
          have hx1 := hk1.1
          have hx2 := hk1.2.1
          by_cases hm2 : m = 2
          · refine Or.inl ⟨_, _, L_join2 _ _ L p r2 r3 s4 hp h4 hD T n m hm hm2 x b s hk hsg (w2 := []) (x2 := x) y1, fun _ => N_join2 L q0 q2 q3 q4 q5 T n m hm x b s hk hsg hm2 y2, fun q => absurd q (by omega), fun k h1 h2 h3 => y3 k (by omega) h2 h3, fun q => ?_⟩
            rw [zdpl_app, y9]
            exact zdpl_c hc1 hc2 q
          · rcases IL m x1 b s hm hk1 hb hs y3 (by omega) with ⟨w2, x2, z1, z2, z3, z4, z9⟩ | ⟨x2, z0, z1, z2⟩
            · exact Or.inl ⟨_, _, L_joint _ _ L p r2 r3 s4 hp h4 hD T n m hm hm2 x b s hk hsg y1 z1, fun _ => N_joint L q0 q2 q3 q4 q5 T n m hm x b s hk hsg hm2 y2 z2 z3, fun q => absurd q (by omega), z4, fun q => by rw [zdpl_app, zdpl_app, y9]; show ((zdpl [(nI (zsgn T x), 0)] (q + 2)).bind _) = _; rw [zdpl_c hc1 hc2 q]; exact z9 q⟩
            · exact Or.inr ⟨_, by omega, L_joing _ _ L p r2 r3 s4 hp h4 hD T n m hm hm2 x b s hk hsg (w2 := []) y1 z1, N_joing L q0 q2 q3 q4 q5 T n m hm x b s hk hsg hm2 y2 z0 z2⟩
        · exact Or.inr ⟨_, by omega, L_joinf _ _ L p r2 r3 s4 hp h4 hD T n m hm x b s hk hsg (ws := []) (w2 := []) (x2 := x) y1, N_joinf L q0 q2 q3 q4 q5 T n m hm x b s hk hsg y2⟩
      · refine Or.inl ⟨_, _, L_stop _ L p r2 r3 s4 h4 T n m hm x b s hk hsg, fun h5 => N_stop L q0 q2 q3 q4 q5 T n m x b s h5 hsg, fun _ => rfl, fun k h1 h2 h3 => ?_, fun _ => rfl⟩
        by_cases e : k = m + 1
        · rw [e]; exact hsg
        · exact hns k (by omega) h2 h3

