/-! WHAT A RUN ANSWERS, without counting its steps: equations -/
theorem zrun_up : ∀ (n d y pc : Nat) (lv st : List Value) (hp : zHp) (r : Option Value × zHp), zrun n d y pc lv st hp = some r → zrun (n + 1) d y pc lv st hp = some r := by
  intro n
  induction n with
  | zero => intro d y pc lv st hp r h; simp [zrun] at h
  | succ n ih =>
    intro d y pc lv st hp r h
    rw [zrun] at h
    rw [zrun]
    split at h
    · cases h
    rename_i row hr
    split at h
    · cases h
    · rename_i g pc1 lv1 st1 hp1 hz
      cases g with
      | false => simp at h
      | true =>
        exact ih _ _ _ _ _ _ _ h
    · rename_i g v1 hz
      exact h
    · rename_i g z As rest hz
      cases g with
      | false => simp at h
      | true =>
        simp only [cond_true] at h ⊢
        cases d with
        | zero => simp at h
        | succ d =>
          dsimp only at h ⊢
          split at h
          · cases h
          · rename_i v1 hp2 h1
            rw [ih _ _ _ _ _ _ _ h1]
            exact ih _ _ _ _ _ _ _ h
theorem zrun_le {n k d y pc : Nat} {lv st : List Value} {hp : zHp} {r : Option Value × zHp} (h : zrun n d y pc lv st hp = some r) (hk : n ≤ k) : zrun k d y pc lv st hp = some r := by
  obtain ⟨j, rfl⟩ : ∃ j, k = n + j := ⟨k - n, by omega⟩
  induction j with
  | zero => exact h
  | succ j ih => exact zrun_up _ _ _ _ _ _ _ _ (ih (by omega))
theorem zrun_one {n k d y pc : Nat} {lv st : List Value} {hp : zHp} {r r' : Option Value × zHp} (h : zrun n d y pc lv st hp = some r) (h' : zrun k d y pc lv st hp = some r') : r = r' := by
  have a := zrun_le h (Nat.le_max_left n k)
  have b := zrun_le h' (Nat.le_max_right n k)
  rw [a] at b
  exact Option.some.inj b
def zRdef (d y pc : Nat) (lv st : List Value) (hp : zHp) (r : Option Value × zHp) : Prop := ∃ n, zrun n d y pc lv st hp = some r

noncomputable def zR (d y pc : Nat) (lv st : List Value) (hp : zHp) : Option (Option Value × zHp) := @dite _ (∃ r, zRdef d y pc lv st hp r) (Classical.propDecidable _) (fun h => some (Classical.choose h)) (fun _ => none)
theorem zR_iff {d y pc : Nat} {lv st : List Value} {hp : zHp} {r : Option Value × zHp} : zR d y pc lv st hp = some r ↔ ∃ n, zrun n d y pc lv st hp = some r := by
  unfold zR
  constructor
  · intro h
    split at h
    · rename_i hh
      have := Classical.choose_spec hh
      rw [← Option.some.inj h]
      exact this
    · cases h
  · intro h
    have hh : ∃ r, zRdef d y pc lv st hp r := ⟨r, h⟩
    rw [dif_pos hh]
    obtain ⟨n, hn⟩ := h
    obtain ⟨k, hk⟩ := Classical.choose_spec hh
    exact congrArg some (zrun_one hk hn)
theorem zopt_ext {α : Type} {a b : Option α} (h : ∀ r, a = some r ↔ b = some r) : a = b := by
  cases a with
  | none =>
    cases b with
    | none => rfl
    | some x => exact absurd ((h x).mpr rfl) (by simp)
  | some x => exact ((h x).mp rfl).symm
theorem zR_step {d y pc : Nat} {lv st : List Value} {hp : zHp} {row : zRow} {g : Bool} {pc' : Nat} {lv' st' : List Value} {hp' : zHp} (hf : zfetch y pc = some row) (hz : zstp y row lv st hp = some (g, .inl (pc', lv', st', hp'))) : zR d y pc lv st hp = bif g then zR d y pc' lv' st' hp' else none := by
  apply zopt_ext
  intro r
  rw [zR_iff]
  cases g with
  | false =>
    simp only [cond_false]
    constructor
    · rintro ⟨n, hn⟩
      cases n with
      | zero => simp [zrun] at hn
      | succ n => rw [zrun, hf] at hn; simp [hz] at hn
    · intro h; cases h
  | true =>
    simp only [cond_true]
    rw [zR_iff]
    constructor
    · rintro ⟨n, hn⟩
      cases n with
      | zero => simp [zrun] at hn
      | succ n => rw [zrun, hf] at hn; simp only [hz, cond_true] at hn; exact ⟨n, hn⟩
    · rintro ⟨n, hn⟩
      refine ⟨n + 1, ?_⟩
      rw [zrun, hf]
      simp only [hz, cond_true]
      exact hn
theorem zR_ret {d y pc : Nat} {lv st : List Value} {hp : zHp} {row : zRow} {g : Bool} {v : Option Value} (hf : zfetch y pc = some row) (hz : zstp y row lv st hp = some (g, .inr (.inl v))) : zR d y pc lv st hp = bif g then some (v, hp) else none := by
  apply zopt_ext
  intro r
  rw [zR_iff]
  constructor
  · rintro ⟨n, hn⟩
    cases n with
    | zero => simp [zrun] at hn
    | succ n => rw [zrun, hf] at hn; simp only [hz] at hn; exact hn
  · intro h
    refine ⟨1, ?_⟩
    rw [zrun, hf]
    simp only [hz]
    exact h
theorem zR_call {d y pc : Nat} {lv st : List Value} {hp : zHp} {row : zRow} {g : Bool} {z : Nat} {As rest : List Value} (hf : zfetch y pc = some row) (hz : zstp y row lv st hp = some (g, .inr (.inr (z, As, rest)))) : zR (d + 1) y pc lv st hp = bif g then (zR d z 0 (zini z As) [] hp).bind (fun q => zR (d + 1) y (pc + 3) lv (q.1.toList ++ rest) q.2) else none := by
  apply zopt_ext
  intro r
  rw [zR_iff]
  cases g with
  | false =>
    simp only [cond_false]
    constructor
    · rintro ⟨n, hn⟩
      cases n with
      | zero => simp [zrun] at hn
      | succ n => rw [zrun, hf] at hn; simp [hz] at hn
    · intro h; cases h
  | true =>
    simp only [cond_true]
    rw [Option.bind_eq_some_iff]
    constructor
    · rintro ⟨n, hn⟩
      cases n with
      | zero => simp [zrun] at hn
      | succ n =>
        rw [zrun, hf] at hn
        simp only [hz, cond_true] at hn
        split at hn
        · cases hn
        · rename_i v1 hp2 h1
          exact ⟨(v1, hp2), zR_iff.mpr ⟨n, h1⟩, zR_iff.mpr ⟨n, hn⟩⟩
    · rintro ⟨⟨v1, hp2⟩, h1, h2⟩
      obtain ⟨n1, h1⟩ := zR_iff.mp h1
      obtain ⟨n2, h2⟩ := zR_iff.mp h2
      refine ⟨max n1 n2 + 1, ?_⟩
      rw [zrun, hf]
      simp only [hz, cond_true]
      rw [zrun_le h1 (Nat.le_max_left n1 n2)]
      exact zrun_le h2 (Nat.le_max_right n1 n2)
/-- a stretch of rows, one behind another -/
def zsq (y : Nat) : Nat → List zRow → List Value → List Value → zHp → Option (Bool × Nat × List Value × List Value × zHp)
  | pc, [], lv, st, hp => some (true, pc, lv, st, hp)
  | pc, r :: rs, lv, st, hp => bif r.1 == pc then (match zstp y r lv st hp with
    | some (g, .inl (pc', lv', st', hp')) => (match zsq y pc' rs lv' st' hp' with
      | some (g2, q) => some (g && g2, q)
      | none => none)
    | _ => none) else none
/-- the rows stand in the order of their places -/
def zinc : List zRow → Bool
  | [] => true
  | r :: rs => rs.all (fun q => decide (r.1 < q.1)) && zinc rs
theorem zinc_find : ∀ {K : List zRow}, zinc K = true → ∀ r ∈ K, K.find? (fun q => q.1 == r.1) = some r := by
  intro K
  induction K with
  | nil => intro _ r h; cases h
  | cons a K ih =>
    intro h r hr
    simp only [zinc, Bool.and_eq_true] at h
    rw [List.find?_cons]
    rcases List.mem_cons.mp hr with q | q
    · subst q; simp
    · have := List.all_eq_true.mp h.1 r q
      rw [decide_eq_true_eq] at this
      rw [show (a.1 == r.1) = false by simp; omega]
      exact ih h.2 r q
theorem zR_sq {d y : Nat} (hinc : zinc (zK y) = true) : ∀ (rows : List zRow) (pc : Nat) (lv st : List Value) (hp : zHp) (g : Bool) (pc' : Nat) (lv' st' : List Value) (hp' : zHp), (∀ r ∈ rows, r ∈ zK y) → zsq y pc rows lv st hp = some (g, pc', lv', st', hp') → zR d y pc lv st hp = bif g then zR d y pc' lv' st' hp' else none := by
  intro rows
  induction rows with
  | nil =>
    intro pc lv st hp g pc' lv' st' hp' _ h
    simp only [zsq, Option.some.injEq, Prod.mk.injEq] at h
    obtain ⟨rfl, rfl, rfl, rfl, rfl⟩ := h
    rfl
  | cons r rs ih =>
    intro pc lv st hp g pc' lv' st' hp' hin h
    rw [zsq] at h
    by_cases hpc : r.1 = pc
    · subst hpc
      simp only [BEq.rfl, cond_true] at h
      split at h
      · rename_i g1 pc1 lv1 st1 hp1 hz
        split at h
        · rename_i g2 q h2
          simp only [Option.some.injEq, Prod.mk.injEq] at h
          obtain ⟨rfl, rfl⟩ := h
          have hf : zfetch y r.1 = some r := zinc_find hinc r (hin r List.mem_cons_self)
          rw [zR_step hf hz, ih _ _ _ _ _ _ _ _ _ (fun q hq => hin q (List.mem_cons_of_mem _ hq)) h2]
          cases g1 <;> rfl
        · cases h
      · cases h
    · rw [show (r.1 == pc) = false by simpa using hpc] at h
      cases h
theorem zseg {K : List zRow} {i n : Nat} : ∀ r ∈ (K.drop i).take n, r ∈ K := fun _ h => List.mem_of_mem_drop (List.mem_of_mem_take h)
section ZE
variable {d y pc pc' : Nat} {lv st lv' st' : List Value} {hp hp' : zHp} {g g2 : Bool} {row : zRow}
theorem zE_go (K : List zRow) (hK : zK y = K) (hinc : zinc K = true) (i n : Nat) (h : zsq y pc ((K.drop i).take n) lv st hp = some (g, pc', lv', st', hp')) : zR d y pc lv st hp = bif g then zR d y pc' lv' st' hp' else none := by
  subst hK
  exact zR_sq hinc _ _ _ _ _ _ _ _ _ _ zseg h
theorem zE_br {p : Prop} {_ : Decidable p} {t f : Nat} (K : List zRow) (hK : zK y = K) (hinc : zinc K = true) (i n : Nat) (h : zsq y pc ((K.drop i).take n) lv st hp = some (g, (bif decide p then t else f), lv', st', hp')) : zR d y pc lv st hp = bif g then (if p then zR d y t lv' st' hp' else zR d y f lv' st' hp') else none := by
  rw [zE_go K hK hinc i n h]
  by_cases hp : p
  · rw [if_pos hp, decide_eq_true hp]; rfl
  · rw [if_neg hp, decide_eq_false hp]; rfl
theorem zE_ret {v : Option Value} (K : List zRow) (hK : zK y = K) (hinc : zinc K = true) (i n : Nat) (h : zsq y pc ((K.drop i).take n) lv st hp = some (g, pc', lv', st', hp')) (hr : K[i + n]? = some row) (hpc : row.1 = pc') (hz : zstp y row lv' st' hp' = some (g2, .inr (.inl v))) : zR d y pc lv st hp = bif g && g2 then some (v, hp') else none := by
  rw [zE_go K hK hinc i n h]
  subst hK
  subst hpc
  rw [zR_ret (zinc_find hinc row (List.mem_of_getElem? hr)) hz]
  cases g <;> rfl
theorem zE_call {z : Nat} {As rest lz : List Value} (K : List zRow) (hK : zK y = K) (hinc : zinc K = true) (i n : Nat) (h : zsq y pc ((K.drop i).take n) lv st hp = some (g, pc', lv', st', hp')) (hr : K[i + n]? = some row) (hpc : row.1 = pc') (hz : zstp y row lv' st' hp' = some (g2, .inr (.inr (z, As, rest)))) (hl : zini z As = lz) : zR (d + 1) y pc lv st hp = bif g && g2 then (zR d z 0 lz [] hp').bind (fun q => zR (d + 1) y (pc' + 3) lv' (q.1.toList ++ rest) q.2) else none := by
  rw [zE_go K hK hinc i n h]
  subst hK
  subst hpc
  subst hl
  rw [zR_call (zinc_find hinc row (List.mem_of_getElem? hr)) hz]
  cases g <;> rfl
end ZE
