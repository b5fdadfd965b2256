/-! THE LAW: the script is never written, printed by wip/gen/pub91.py -/
def zS0 (hp hp' : zHp) : Prop := hp'.2.1 0 = hp.2.1 0 ∧ zshp hp'.1 0 = zshp hp.1 0 ∧ hp'.2.2 0 = hp.2.2 0
theorem zup_0 {α : Type} {I : Nat → Nat → α} {o k : Nat} {x : α} (h : o ≠ 0) : zup I o k x 0 = I 0 := by
  funext j
  unfold zup
  rw [if_neg (fun q => h q.1.symm)]
theorem zO_0 {Z : List (Nat × Nat)} {o b : Nat} (h1 : (zshp Z 0).1 = 1) (h : zisO Z o b = true) : o ≠ 0 := by
  rintro rfl
  have e : zshp Z 0 = (0, b) := of_decide_eq_true h
  rw [e] at h1
  exact absurd h1 (by show (0 : Nat) ≠ 1; decide)
theorem zcall_l {z : Nat} {st : List Value} {hp : zHp} {q : Nat × List Value × List Value × zHp} (h : zcall z st hp = some (true, .inl q)) : False := (zcall_inr h)
set_option maxHeartbeats 4000000 in
theorem zstp_0 {y : Nat} {r : zRow} {lv st : List Value} {hp : zHp} {pc' : Nat} {lv' st' : List Value} {hp' : zHp} (h1 : (zshp hp.1 0).1 = 1) (h : zstp y r lv st hp = some (true, .inl (pc', lv', st', hp'))) : zS0 hp hp' := by
  obtain ⟨pc, len, ins, v, b, c0⟩ := r
  obtain ⟨Z, I, P⟩ := hp
  cases Z with
  | nil => exact absurd h1 (by show (99 : Nat) ≠ 1; decide)
  | cons a Z =>
  cases ins
  case getfield n =>
    simp only [zstp] at h
    split at h
    · rename_i o t
      cases hc : (zfk b c0 == 0) with
      | true => rw [hc] at h; simp only [cond_true] at h; exact (by (simp only [zgo, Option.some.injEq, Prod.mk.injEq, Sum.inl.injEq] at h; obtain ⟨g1, _, _, _, rfl⟩ := h; exact ⟨rfl, rfl, rfl⟩))
      | false => rw [hc] at h; simp only [cond_false] at h; exact (by (simp only [zgo, Option.some.injEq, Prod.mk.injEq, Sum.inl.injEq] at h; obtain ⟨g1, _, _, _, rfl⟩ := h; exact ⟨rfl, rfl, rfl⟩))
    · cases h
  case putfield n =>
    simp only [zstp] at h
    split at h
    · simp only [zgo, Option.some.injEq, Prod.mk.injEq, Sum.inl.injEq, Bool.and_eq_true] at h
      obtain ⟨⟨⟨g1, g2⟩, g3⟩, _, _, _, rfl⟩ := h
      exact ⟨rfl, rfl, zup_0 (zO_0 h1 g1)⟩
    · simp only [zgo, Option.some.injEq, Prod.mk.injEq, Sum.inl.injEq, Bool.and_eq_true] at h
      obtain ⟨⟨g1, g2⟩, _, _, _, rfl⟩ := h
      exact ⟨zup_0 (zO_0 h1 g1), rfl, rfl⟩
    · cases h
  case iastore =>
    simp only [zstp] at h
    split at h
    · simp only [zgo, Option.some.injEq, Prod.mk.injEq, Sum.inl.injEq, Bool.and_eq_true, decide_eq_true_eq] at h
      obtain ⟨⟨⟨g0, g1⟩, g2⟩, _, _, _, rfl⟩ := h
      exact ⟨zup_0 g0, rfl, rfl⟩
    · cases h
  case sastore =>
    simp only [zstp] at h
    split at h
    · simp only [zgo, Option.some.injEq, Prod.mk.injEq, Sum.inl.injEq, Bool.and_eq_true, decide_eq_true_eq] at h
      obtain ⟨⟨⟨g0, g1⟩, g2⟩, _, _, _, rfl⟩ := h
      exact ⟨zup_0 g0, rfl, rfl⟩
    · cases h
  case aastore =>
    simp only [zstp] at h
    split at h
    · rename_i x i o t
      simp only [zgo, Option.some.injEq, Prod.mk.injEq, Sum.inl.injEq, Bool.and_eq_true, decide_eq_true_eq] at h
      obtain ⟨⟨⟨g0, g1⟩, g2⟩, _, _, _, rfl⟩ := h
      have h1' : (zshp (a :: Z) 0).1 = 1 := h1
      exact ⟨rfl, rfl, zup_0 (fun q => by rw [q] at g0; omega)⟩
    · cases h
  case new n =>
    simp only [zstp, zgo, Option.some.injEq, Prod.mk.injEq, Sum.inl.injEq] at h
    obtain ⟨g1, _, _, _, rfl⟩ := h
    exact ⟨by funext j; simp [zcell], rfl, by funext j; simp [zcell]⟩
  case newarray n =>
    simp only [zstp] at h
    split at h
    · simp only [zgo, Option.some.injEq, Prod.mk.injEq, Sum.inl.injEq] at h
      obtain ⟨g1, _, _, _, rfl⟩ := h
      exact ⟨by funext j; simp [zcell], rfl, by funext j; simp [zcell]⟩
    · cases h
  case anewarray n =>
    simp only [zstp] at h
    split at h
    · simp only [zgo, Option.some.injEq, Prod.mk.injEq, Sum.inl.injEq] at h
      obtain ⟨g1, _, _, _, rfl⟩ := h
      exact ⟨by funext j; simp [zcell], rfl, by funext j; simp [zcell]⟩
    · cases h
  case multianewarray n d =>
    simp only [zstp] at h
    split at h
    · simp only [zgo, Option.some.injEq, Prod.mk.injEq, Sum.inl.injEq] at h
      obtain ⟨g1, _, _, _, rfl⟩ := h
      exact ⟨by funext j; simp, rfl, by funext j; simp⟩
    · cases h
  case invokestatic n =>
    by_cases hb : b = 0
    · subst hb
      exact absurd h (fun h' => zcall_l (show zcall c0 st _ = _ from h'))
    · simp only [zstp, show (b == 0) = false by simpa using hb, cond_false] at h
      cases h1' : (b == 1) with
      | true =>
        rw [h1'] at h
        simp only [cond_true] at h
        split at h
        · simp only [zgo, Option.some.injEq, Prod.mk.injEq, Sum.inl.injEq, Bool.and_eq_true, Bool.or_eq_true, decide_eq_true_eq] at h
          obtain ⟨⟨⟨⟨⟨⟨⟨⟨⟨a1, a2⟩, a3⟩, a4⟩, a5⟩, a6⟩, a7⟩, a8⟩, a9⟩, _, _, _, rfl⟩ := h
          refine ⟨?_, rfl, rfl⟩
          funext j
          show zcop I _ _ _ _ _ 0 j = I 0 j
          unfold zcop
          rw [if_neg (fun q => a5 q.1.symm)]
        · cases h
      | false =>
        rw [h1'] at h
        simp only [cond_false] at h
        cases h5 : (b == 5) with
        | true => rw [h5] at h; simp only [cond_true] at h; split at h <;> first | (cases h; done) | (simp only [zgo, Option.some.injEq, Prod.mk.injEq, Sum.inl.injEq] at h; obtain ⟨g1, _, _, _, rfl⟩ := h; exact ⟨rfl, rfl, rfl⟩)
        | false =>
          rw [h5] at h
          simp only [cond_false] at h
          cases h6 : (b == 6) with
          | true => rw [h6] at h; simp only [cond_true] at h; split at h <;> first | (cases h; done) | (simp only [zgo, Option.some.injEq, Prod.mk.injEq, Sum.inl.injEq] at h; obtain ⟨g1, _, _, _, rfl⟩ := h; exact ⟨rfl, rfl, rfl⟩)
          | false =>
            rw [h6] at h
            simp only [cond_false] at h
            cases h7 : (b == 7) with
            | true => rw [h7] at h; simp only [cond_true] at h; split at h <;> first | (cases h; done) | (simp only [zgo, Option.some.injEq, Prod.mk.injEq, Sum.inl.injEq] at h; obtain ⟨g1, _, _, _, rfl⟩ := h; exact ⟨rfl, rfl, rfl⟩)
            | false => rw [h7] at h; cases h
  case invokespecial n =>
    by_cases hb : b = 0
    · subst hb
      exact absurd h (fun h' => zcall_l (show zcall c0 st _ = _ from h'))
    · simp only [zstp, show (b == 0) = false by simpa using hb, cond_false] at h
      cases h2 : (b == 2) with
      | true => rw [h2] at h; simp only [cond_true] at h; split at h <;> first | (cases h; done) | (simp only [zgo, Option.some.injEq, Prod.mk.injEq, Sum.inl.injEq] at h; obtain ⟨g1, _, _, _, rfl⟩ := h; exact ⟨rfl, rfl, rfl⟩)
      | false => rw [h2] at h; cases h
  case invokevirtual n =>
    by_cases hb : b = 0
    · subst hb
      exact absurd h (fun h' => zcall_l (show zcall c0 st _ = _ from h'))
    · simp only [zstp, show (b == 0) = false by simpa using hb, cond_false] at h
      cases h3 : (b == 3) with
      | true => rw [h3] at h; simp only [cond_true] at h; split at h <;> first | (cases h; done) | (simp only [zgo, Option.some.injEq, Prod.mk.injEq, Sum.inl.injEq] at h; obtain ⟨g1, _, _, _, rfl⟩ := h; exact ⟨rfl, rfl, rfl⟩)
      | false =>
        rw [h3] at h
        simp only [cond_false] at h
        cases h4 : (b == 4) with
        | true => rw [h4] at h; simp only [cond_true] at h; split at h <;> first | (cases h; done) | (simp only [zgo, Option.some.injEq, Prod.mk.injEq, Sum.inl.injEq] at h; obtain ⟨g1, _, _, _, rfl⟩ := h; exact ⟨rfl, rfl, rfl⟩)
        | false => rw [h4] at h; cases h
  case ireturn => simp only [zstp] at h; split at h <;> first | (cases h; done) | (simp at h; done)
  case lreturn => simp only [zstp] at h; split at h <;> first | (cases h; done) | (simp at h; done)
  case areturn => simp only [zstp] at h; split at h <;> first | (cases h; done) | (simp at h; done)
  case return_ => simp only [zstp] at h; split at h <;> first | (cases h; done) | (simp at h; done)
  all_goals (first
    | (simp only [zstp, zgo, Option.some.injEq, Prod.mk.injEq, Sum.inl.injEq] at h; obtain ⟨g1, _, _, _, rfl⟩ := h; exact ⟨rfl, rfl, rfl⟩)
    | (simp only [zstp, zint2, zlong2] at h; split at h <;> first | (cases h; done) | (simp only [zgo, Option.some.injEq, Prod.mk.injEq, Sum.inl.injEq] at h; obtain ⟨g1, _, _, _, rfl⟩ := h; exact ⟨rfl, rfl, rfl⟩))
    | exact absurd h (by simp [zstp]))
theorem zrun_0 : ∀ (n d y pc : Nat) (lv st : List Value) (hp : zHp) (v : Option Value) (hp' : zHp), (zshp hp.1 0).1 = 1 → zrun n d y pc lv st hp = some (v, hp') → zS0 hp hp' := by
  intro n
  induction n with
  | zero => intro d y pc lv st hp v hp' _ h; simp [zrun] at h
  | succ n ih =>
    intro d y pc lv st hp v hp' h1 h
    rw [zrun] at h
    split at h
    · cases h
    rename_i row hr
    split at h
    · cases h
    · rename_i g pc1 lv1 st1 hp1 hz
      cases g with
      | false => simp at h
      | true =>
        have q := zstp_0 h1 hz
        have q2 := ih _ _ _ _ _ _ _ _ (by rw [q.2.1]; exact h1) h
        exact ⟨q2.1.trans q.1, q2.2.1.trans q.2.1, q2.2.2.trans q.2.2⟩
    · rename_i g v1 hz
      cases g with
      | false => simp at h
      | true =>
        simp only [cond_true, Option.some.injEq, Prod.mk.injEq] at h
        obtain ⟨_, rfl⟩ := h
        exact ⟨rfl, rfl, rfl⟩
    · rename_i g z As rest hz
      cases g with
      | false => simp at h
      | true =>
        simp only [cond_true] at h
        cases d with
        | zero => simp at h
        | succ d =>
          dsimp only at h
          split at h
          · cases h
          · rename_i v1 hp2 h2
            have q := ih _ _ _ _ _ _ _ _ h1 h2
            have q2 := ih _ _ _ _ _ _ _ _ (by rw [q.2.1]; exact h1) h
            exact ⟨q2.1.trans q.1, q2.2.1.trans q.2.1, q2.2.2.trans q.2.2⟩

