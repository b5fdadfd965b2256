/-! HEAPS THAT AGREE WHERE IT COUNTS -/
def zwd (sh : Nat × Nat) : Nat := if sh.1 = 0 then znf sh.2 else sh.2
def zAg (hp hp2 : zHp) : Prop := hp.1.length = hp2.1.length ∧ ∀ a, zshp hp.1 a = (99, 0) ∨ (zshp hp2.1 a = zshp hp.1 a ∧ ∀ k, k < zwd (zshp hp.1 a) → hp2.2.1 a k = hp.2.1 a k ∧ hp2.2.2 a k = hp.2.2 a k)
theorem zAg.sh {hp hp2 : zHp} (h : zAg hp hp2) {a : Nat} (ha : (zshp hp.1 a).1 ≠ 99) : zshp hp2.1 a = zshp hp.1 a ∧ ∀ k, k < zwd (zshp hp.1 a) → hp2.2.1 a k = hp.2.1 a k ∧ hp2.2.2 a k = hp.2.2 a k := by
  rcases h.2 a with q | q
  · rw [q] at ha; exact absurd rfl ha
  · exact q
theorem zAg.O {hp hp2 : zHp} (h : zAg hp hp2) {a ci : Nat} (ha : zisO hp.1 a ci = true) : zisO hp2.1 a ci = true ∧ ∀ k, k < znf ci → hp2.2.1 a k = hp.2.1 a k ∧ hp2.2.2 a k = hp.2.2 a k := by
  have e : zshp hp.1 a = (0, ci) := of_decide_eq_true ha
  obtain ⟨q1, q2⟩ := h.sh (a := a) (by rw [e]; exact (by decide : (0 : Nat) ≠ 99))
  rw [e] at q1 q2
  exact ⟨decide_eq_true q1, q2⟩
theorem zAg.W {hp hp2 : zHp} (h : zAg hp hp2) {I' I2' : Nat → Nat → Int32} {P' P2' : Nat → Nat → Nat} (hw : ∀ a k, hp2.2.1 a k = hp.2.1 a k ∧ hp2.2.2 a k = hp.2.2 a k → I2' a k = I' a k ∧ P2' a k = P' a k) : zAg (hp.1, I', P') (hp2.1, I2', P2') := by
  refine ⟨h.1, fun a => ?_⟩
  rcases h.2 a with q | ⟨q1, q2⟩
  · exact Or.inl q
  · exact Or.inr ⟨q1, fun k hk => hw a k (q2 k hk)⟩
theorem zAg.I {hp hp2 : zHp} (h : zAg hp hp2) (o k : Nat) (x : Int32) : zAg (hp.1, zup hp.2.1 o k x, hp.2.2) (hp2.1, zup hp2.2.1 o k x, hp2.2.2) := by
  refine h.W (fun a j q => ⟨?_, q.2⟩)
  unfold zup
  rw [q.1]
theorem zAg.P {hp hp2 : zHp} (h : zAg hp hp2) (o k x : Nat) : zAg (hp.1, hp.2.1, zup hp.2.2 o k x) (hp2.1, hp2.2.1, zup hp2.2.2 o k x) := by
  refine h.W (fun a j q => ⟨q.1, ?_⟩)
  unfold zup
  rw [q.2]
theorem zAg.push {hp hp2 : zHp} (h : zAg hp hp2) (Y : List (Nat × Nat)) {I' I2' : Nat → Nat → Int32} {P' P2' : Nat → Nat → Nat} (hlo : ∀ a k, a < hp.1.length → (hp2.2.1 a k = hp.2.1 a k → I2' a k = I' a k) ∧ (hp2.2.2 a k = hp.2.2 a k → P2' a k = P' a k)) (hhi : ∀ a k, hp.1.length ≤ a → a < hp.1.length + Y.length → I2' a k = I' a k ∧ P2' a k = P' a k) : zAg (hp.1 ++ Y, I', P') (hp2.1 ++ Y, I2', P2') := by
  refine ⟨by simp [h.1], fun a => ?_⟩
  by_cases hl : a < hp.1.length
  · show zshp (hp.1 ++ Y) a = _ ∨ (zshp (hp2.1 ++ Y) a = zshp (hp.1 ++ Y) a ∧ ∀ k, k < zwd (zshp (hp.1 ++ Y) a) → _)
    rw [zshp_app_lt hl, zshp_app_lt (by rw [← h.1]; exact hl)]
    rcases h.2 a with q | ⟨q1, q2⟩
    · exact Or.inl q
    · exact Or.inr ⟨q1, fun k hk => ⟨(hlo a k hl).1 (q2 k hk).1, (hlo a k hl).2 (q2 k hk).2⟩⟩
  · by_cases hl2 : hp.1.length + Y.length ≤ a
    · refine Or.inl ?_
      show zshp (hp.1 ++ Y) a = _
      rw [zshp, List.getD_eq_getElem?_getD, List.getElem?_eq_none (by rw [List.length_append]; exact hl2)]
      rfl
    refine Or.inr ⟨?_, fun k _ => hhi a k (by omega) (by omega)⟩
    show zshp (hp2.1 ++ Y) a = zshp (hp.1 ++ Y) a
    simp only [zshp, List.getD_eq_getElem?_getD]
    have hl3 := h.1
    rw [List.getElem?_append_right (by omega), List.getElem?_append_right (by omega), h.1]
theorem zcall_ag {z : Nat} {st : List Value} {hp hp2 : zHp} {x : zRes} (hag : zAg hp hp2) (h : zcall z st hp = some (true, x)) : zcall z st hp2 = some (true, x) := by
  unfold zcall at h ⊢
  dsimp only at h ⊢
  cases hc : ((zM z).2.2.2.2.2.1 == 0) with
  | true => rw [hc] at h; exact h
  | false =>
    rw [hc] at h
    simp only [cond_false] at h ⊢
    split at h
    · simp only [Option.some.injEq, Prod.mk.injEq, Bool.and_eq_true] at h
      obtain ⟨⟨h1, h2⟩, h3⟩ := h
      rw [h1.1, h1.2, (hag.O h2).1, h3]
      rfl
    · cases h
theorem zstp_ag {y : Nat} {r : zRow} {lv st : List Value} {hp hp2 : zHp} {x : zRes} (hk : zchk y r = true) (hag : zAg hp hp2) (h : zstp y r lv st hp = some (true, x)) :
    ∃ x2, zstp y r lv st hp2 = some (true, x2) ∧ ((∃ pc' lv' st' hp' hp2', x = .inl (pc', lv', st', hp') ∧ x2 = .inl (pc', lv', st', hp2') ∧ zAg hp' hp2') ∨ ((∀ q, x ≠ .inl q) ∧ x2 = x)) := by
  obtain ⟨pc, len, ins, v, b, c0⟩ := r
  obtain ⟨-, hi⟩ := zchk_dec hk
  dsimp only at hi
  have hA1 : ∀ {o : Nat}, zisA hp.1 o 1 = true → zisA hp2.1 o 1 = true ∧ zlen hp2.1 o = zlen hp.1 o ∧ ∀ k, k < zlen hp.1 o → hp2.2.1 o k = hp.2.1 o k := by
    intro o ho
    have e : (zshp hp.1 o).1 = 1 := of_decide_eq_true ho
    obtain ⟨q1, q2⟩ := hag.sh (a := o) (by rw [e]; decide)
    refine ⟨decide_eq_true (by rw [q1, e]), by rw [zlen, zlen, q1], fun k hk => (q2 k ?_).1⟩
    rw [zwd, e, if_neg (by decide)]; exact hk
  have hA2 : ∀ {o : Nat}, zisA hp.1 o 2 = true → zisA hp2.1 o 2 = true ∧ zlen hp2.1 o = zlen hp.1 o ∧ ∀ k, k < zlen hp.1 o → hp2.2.1 o k = hp.2.1 o k := by
    intro o ho
    have e : (zshp hp.1 o).1 = 2 := of_decide_eq_true ho
    obtain ⟨q1, q2⟩ := hag.sh (a := o) (by rw [e]; decide)
    refine ⟨decide_eq_true (by rw [q1, e]), by rw [zlen, zlen, q1], fun k hk => (q2 k ?_).1⟩
    rw [zwd, e, if_neg (by decide)]; exact hk
  have hinb : ∀ {i : Int32} {n : Nat}, zinb i n = true → zix i < n := by
    intro i n h
    unfold zinb at h
    rw [Bool.and_eq_true, decide_eq_true_eq, decide_eq_true_eq] at h
    exact h.2
  cases ins
  case getfield n =>
    simp only [zchkI, Bool.and_eq_true, decide_eq_true_eq] at hi
    simp only [zstp] at h ⊢
    split at h
    · rename_i o t
      cases hc : (zfk b c0 == 0) with
      | true =>
        rw [hc] at h
        simp only [cond_true, zgo, Option.some.injEq, Prod.mk.injEq, Bool.and_eq_true, decide_eq_true_eq] at h ⊢
        obtain ⟨⟨h1, h2⟩, rfl⟩ := h
        obtain ⟨q1, q2⟩ := hag.O h1
        rw [(q2 c0 hi.1.2).2]
        exact ⟨_, ⟨⟨q1, h2⟩, rfl⟩, Or.inl ⟨_, _, _, _, _, rfl, rfl, hag⟩⟩
      | false =>
        rw [hc] at h
        simp only [cond_false, zgo, Option.some.injEq, Prod.mk.injEq] at h ⊢
        obtain ⟨h1, rfl⟩ := h
        obtain ⟨q1, q2⟩ := hag.O h1
        rw [(q2 c0 hi.1.2).1]
        exact ⟨_, ⟨q1, rfl⟩, Or.inl ⟨_, _, _, _, _, rfl, rfl, hag⟩⟩
    · cases h
  case putfield n =>
    simp only [zstp] at h ⊢
    split at h
    · simp only [zgo, Option.some.injEq, Prod.mk.injEq, Bool.and_eq_true] at h ⊢
      obtain ⟨⟨⟨h1, h2⟩, h3⟩, rfl⟩ := h
      exact ⟨_, ⟨⟨⟨(hag.O h1).1, h2⟩, h3⟩, rfl⟩, Or.inl ⟨_, _, _, _, _, rfl, rfl, hag.P _ _ _⟩⟩
    · simp only [zgo, Option.some.injEq, Prod.mk.injEq, Bool.and_eq_true] at h ⊢
      obtain ⟨⟨h1, h2⟩, rfl⟩ := h
      exact ⟨_, ⟨⟨(hag.O h1).1, h2⟩, rfl⟩, Or.inl ⟨_, _, _, _, _, rfl, rfl, hag.I _ _ _⟩⟩
    · cases h
  case iaload =>
    simp only [zstp] at h ⊢
    split at h
    · simp only [zgo, Option.some.injEq, Prod.mk.injEq, Bool.and_eq_true] at h ⊢
      obtain ⟨⟨h1, h2⟩, rfl⟩ := h
      obtain ⟨q1, q2, q3⟩ := hA1 h1
      rw [q2, q3 _ (hinb h2)]
      exact ⟨_, ⟨⟨q1, h2⟩, rfl⟩, Or.inl ⟨_, _, _, _, _, rfl, rfl, hag⟩⟩
    · cases h
  case saload =>
    simp only [zstp] at h ⊢
    split at h
    · simp only [zgo, Option.some.injEq, Prod.mk.injEq, Bool.and_eq_true] at h ⊢
      obtain ⟨⟨h1, h2⟩, rfl⟩ := h
      obtain ⟨q1, q2, q3⟩ := hA2 h1
      rw [q2, q3 _ (hinb h2)]
      exact ⟨_, ⟨⟨q1, h2⟩, rfl⟩, Or.inl ⟨_, _, _, _, _, rfl, rfl, hag⟩⟩
    · cases h
  case aaload =>
    simp only [zstp] at h ⊢
    split at h
    · rename_i i o t
      simp only [zgo, Option.some.injEq, Prod.mk.injEq, Bool.and_eq_true, decide_eq_true_eq] at h ⊢
      obtain ⟨⟨⟨h1, h2⟩, h3⟩, rfl⟩ := h
      obtain ⟨q1, q2⟩ := hag.sh (a := o) (by omega)
      have hlt : zix i < zwd (zshp hp.1 o) := by
        have := hinb h2
        rw [zwd, if_neg (by omega)]; exact this
      rw [zlen, q1, (q2 _ hlt).2]
      exact ⟨_, ⟨⟨⟨h1, h2⟩, h3⟩, rfl⟩, Or.inl ⟨_, _, _, _, _, rfl, rfl, hag⟩⟩
    · cases h
  case arraylength =>
    simp only [zstp] at h ⊢
    split at h
    · rename_i o t
      simp only [zgo, Option.some.injEq, Prod.mk.injEq, decide_eq_true_eq] at h ⊢
      obtain ⟨h1, rfl⟩ := h
      obtain ⟨q1, q2⟩ := hag.sh (a := o) (by omega)
      rw [zlen, q1]
      exact ⟨_, ⟨h1, rfl⟩, Or.inl ⟨_, _, _, _, _, rfl, rfl, hag⟩⟩
    · cases h
  case iastore =>
    simp only [zstp] at h ⊢
    split at h
    · simp only [zgo, Option.some.injEq, Prod.mk.injEq, Bool.and_eq_true] at h ⊢
      obtain ⟨⟨⟨h0, h1⟩, h2⟩, rfl⟩ := h
      obtain ⟨q1, q2, q3⟩ := hA1 h1
      rw [q2]
      exact ⟨_, ⟨⟨⟨h0, q1⟩, h2⟩, rfl⟩, Or.inl ⟨_, _, _, _, _, rfl, rfl, hag.I _ _ _⟩⟩
    · cases h
  case sastore =>
    simp only [zstp] at h ⊢
    split at h
    · simp only [zgo, Option.some.injEq, Prod.mk.injEq, Bool.and_eq_true] at h ⊢
      obtain ⟨⟨⟨h0, h1⟩, h2⟩, rfl⟩ := h
      obtain ⟨q1, q2, q3⟩ := hA2 h1
      rw [q2]
      exact ⟨_, ⟨⟨⟨h0, q1⟩, h2⟩, rfl⟩, Or.inl ⟨_, _, _, _, _, rfl, rfl, hag.I _ _ _⟩⟩
    · cases h
  case aastore =>
    simp only [zstp] at h ⊢
    split at h
    · rename_i x i o t
      simp only [zgo, Option.some.injEq, Prod.mk.injEq, Bool.and_eq_true, decide_eq_true_eq] at h ⊢
      obtain ⟨⟨⟨h1, h2⟩, h3⟩, rfl⟩ := h
      obtain ⟨q1, q2⟩ := hag.sh (a := o) (by omega)
      rw [zlen, q1]
      exact ⟨_, ⟨⟨⟨h1, h2⟩, (hag.O h3).1⟩, rfl⟩, Or.inl ⟨_, _, _, _, _, rfl, rfl, hag.P _ _ _⟩⟩
    · cases h
  case new n =>
    simp only [zstp, zgo, Option.some.injEq, Prod.mk.injEq] at h ⊢
    obtain ⟨h1, rfl⟩ := h
    rw [← hag.1]
    refine ⟨_, ⟨h1, rfl⟩, Or.inl ⟨_, _, _, _, _, rfl, rfl, hag.push _ (fun a k hl => ?_) (fun a k hl hl2 => ?_)⟩⟩
    · simp [zcell, Nat.ne_of_lt hl]
    · have e : a = hp.1.length := by simp at hl2; omega
      simp [zcell, e]
  case newarray n =>
    simp only [zstp] at h ⊢
    split at h
    · simp only [zgo, Option.some.injEq, Prod.mk.injEq] at h ⊢
      obtain ⟨h1, rfl⟩ := h
      rw [← hag.1]
      refine ⟨_, ⟨h1, rfl⟩, Or.inl ⟨_, _, _, _, _, rfl, rfl, hag.push _ (fun a k hl => ?_) (fun a k hl hl2 => ?_)⟩⟩
      · simp [zcell, Nat.ne_of_lt hl]
      · have e : a = hp.1.length := by simp at hl2; omega
        simp [zcell, e]
    · cases h
  case anewarray n =>
    simp only [zstp] at h ⊢
    split at h
    · simp only [zgo, Option.some.injEq, Prod.mk.injEq] at h ⊢
      obtain ⟨h1, rfl⟩ := h
      rw [← hag.1]
      refine ⟨_, ⟨h1, rfl⟩, Or.inl ⟨_, _, _, _, _, rfl, rfl, hag.push _ (fun a k hl => ?_) (fun a k hl hl2 => ?_)⟩⟩
      · simp [zcell, Nat.ne_of_lt hl]
      · have e : a = hp.1.length := by simp at hl2; omega
        simp [zcell, e]
    · cases h
  case multianewarray n d =>
    simp only [zstp] at h ⊢
    split at h
    · simp only [zgo, Option.some.injEq, Prod.mk.injEq] at h ⊢
      obtain ⟨h1, rfl⟩ := h
      rw [← hag.1]
      refine ⟨_, ⟨h1, rfl⟩, Or.inl ⟨_, _, _, _, _, rfl, rfl, hag.push _ (fun a k hl => ?_) (fun a k hl _ => ?_)⟩⟩
      · simp [Nat.ne_of_lt hl, Nat.not_le.mpr hl]
      · simp [hl]
    · cases h
  case invokestatic n =>
    by_cases hb : b = 0
    · subst hb
      have h' : zcall c0 st hp = some (true, x) := h
      exact ⟨x, zcall_ag hag h', Or.inr ⟨fun q e => by subst e; exact zcall_inr h', rfl⟩⟩
    · simp only [zstp, show (b == 0) = false by simpa using hb, cond_false] at h ⊢
      cases h1 : (b == 1) with
      | true =>
        rw [h1] at h
        simp only [cond_true] at h ⊢
        split at h
        · rename_i k dp dst sp src t
          simp only [zgo, Option.some.injEq, Prod.mk.injEq, Bool.and_eq_true, Bool.or_eq_true] at h ⊢
          obtain ⟨⟨⟨⟨⟨⟨⟨⟨⟨a1, a2⟩, a3⟩, a4⟩, a5⟩, a6⟩, a7⟩, a8⟩, a9⟩, rfl⟩ := h
          have hl : zix sp + zix k ≤ zlen hp.1 src := of_decide_eq_true a6
          have done : zlen hp2.1 src = zlen hp.1 src → zlen hp2.1 dst = zlen hp.1 dst → (∀ j, j < zlen hp.1 src → hp2.2.1 src j = hp.2.1 src j) → zAg (hp.1, zcop hp.2.1 src (zix sp) dst (zix dp) (zix k), hp.2.2) (hp2.1, zcop hp2.2.1 src (zix sp) dst (zix dp) (zix k), hp2.2.2) := by
            intro _ _ q
            refine hag.W (fun a j z => ⟨?_, z.2⟩)
            unfold zcop
            by_cases hc : a = dst ∧ zix dp ≤ j ∧ j < zix dp + zix k
            · rw [if_pos hc, if_pos hc, q _ (by omega)]
            · rw [if_neg hc, if_neg hc, z.1]
          rcases a9 with ⟨b1, b2⟩ | ⟨⟨b1, b2⟩, b3⟩
          · obtain ⟨q1, q2, q3⟩ := hA1 b1
            obtain ⟨r1, r2, r3⟩ := hA1 b2
            rw [q2, r2]
            exact ⟨_, ⟨⟨⟨⟨⟨⟨⟨⟨⟨a1, a2⟩, a3⟩, a4⟩, a5⟩, a6⟩, a7⟩, a8⟩, Or.inl ⟨q1, r1⟩⟩, rfl⟩, Or.inl ⟨_, _, _, _, _, rfl, rfl, done q2 r2 q3⟩⟩
          · obtain ⟨q1, q2, q3⟩ := hA2 b1
            obtain ⟨r1, r2, r3⟩ := hA2 b2
            rw [q2, r2]
            refine ⟨_, ⟨⟨⟨⟨⟨⟨⟨⟨⟨a1, a2⟩, a3⟩, a4⟩, a5⟩, a6⟩, a7⟩, a8⟩, Or.inr ⟨⟨q1, r1⟩, ?_⟩⟩, rfl⟩, Or.inl ⟨_, _, _, _, _, rfl, rfl, done q2 r2 q3⟩⟩
            rw [List.all_eq_true] at b3 ⊢
            intro i hi'
            have hi'' := List.mem_range.mp hi'
            rw [q3 _ (by omega)]
            exact b3 i hi'
        · cases h
      | false =>
        rw [h1] at h
        simp only [cond_false] at h ⊢
        cases h5 : (b == 5) with
        | true => rw [h5] at h; simp only [cond_true] at h ⊢; split at h <;> first | (cases h; done) | (simp only [zgo, Option.some.injEq, Prod.mk.injEq] at h ⊢; obtain ⟨g1, rfl⟩ := h; exact ⟨_, ⟨g1, rfl⟩, Or.inl ⟨_, _, _, _, _, rfl, rfl, hag⟩⟩)
        | false =>
          rw [h5] at h
          simp only [cond_false] at h ⊢
          cases h6 : (b == 6) with
          | true => rw [h6] at h; simp only [cond_true] at h ⊢; split at h <;> first | (cases h; done) | (simp only [zgo, Option.some.injEq, Prod.mk.injEq] at h ⊢; obtain ⟨g1, rfl⟩ := h; exact ⟨_, ⟨g1, rfl⟩, Or.inl ⟨_, _, _, _, _, rfl, rfl, hag⟩⟩)
          | false =>
            rw [h6] at h
            simp only [cond_false] at h ⊢
            cases h7 : (b == 7) with
            | true => rw [h7] at h; simp only [cond_true] at h ⊢; split at h <;> first | (cases h; done) | (simp only [zgo, Option.some.injEq, Prod.mk.injEq] at h ⊢; obtain ⟨g1, rfl⟩ := h; exact ⟨_, ⟨g1, rfl⟩, Or.inl ⟨_, _, _, _, _, rfl, rfl, hag⟩⟩)
            | false => rw [h7] at h; cases h
  case invokespecial n =>
    by_cases hb : b = 0
    · subst hb
      have h' : zcall c0 st hp = some (true, x) := h
      exact ⟨x, zcall_ag hag h', Or.inr ⟨fun q e => by subst e; exact zcall_inr h', rfl⟩⟩
    · simp only [zstp, show (b == 0) = false by simpa using hb, cond_false] at h ⊢
      cases h2 : (b == 2) with
      | true => rw [h2] at h; simp only [cond_true] at h ⊢; split at h <;> first | (cases h; done) | (simp only [zgo, Option.some.injEq, Prod.mk.injEq] at h ⊢; obtain ⟨g1, rfl⟩ := h; exact ⟨_, ⟨g1, rfl⟩, Or.inl ⟨_, _, _, _, _, rfl, rfl, hag⟩⟩)
      | false => rw [h2] at h; cases h
  case invokevirtual n =>
    by_cases hb : b = 0
    · subst hb
      have h' : zcall c0 st hp = some (true, x) := h
      exact ⟨x, zcall_ag hag h', Or.inr ⟨fun q e => by subst e; exact zcall_inr h', rfl⟩⟩
    · simp only [zstp, show (b == 0) = false by simpa using hb, cond_false] at h ⊢
      cases h3 : (b == 3) with
      | true => rw [h3] at h; simp only [cond_true] at h ⊢; split at h <;> first | (cases h; done) | (simp only [zgo, Option.some.injEq, Prod.mk.injEq] at h ⊢; obtain ⟨g1, rfl⟩ := h; exact ⟨_, ⟨g1, rfl⟩, Or.inl ⟨_, _, _, _, _, rfl, rfl, hag⟩⟩)
      | false =>
        rw [h3] at h
        simp only [cond_false] at h ⊢
        cases h4 : (b == 4) with
        | true => rw [h4] at h; simp only [cond_true] at h ⊢; split at h <;> first | (cases h; done) | (simp only [zgo, Option.some.injEq, Prod.mk.injEq] at h ⊢; obtain ⟨g1, rfl⟩ := h; exact ⟨_, ⟨g1, rfl⟩, Or.inl ⟨_, _, _, _, _, rfl, rfl, hag⟩⟩)
        | false => rw [h4] at h; cases h
  case ireturn => simp only [zstp] at h ⊢; split at h <;> first | (cases h; done) | exact ⟨_, h, Or.inr ⟨fun q e => by rw [e] at h; simp at h, rfl⟩⟩
  case lreturn => simp only [zstp] at h ⊢; split at h <;> first | (cases h; done) | exact ⟨_, h, Or.inr ⟨fun q e => by rw [e] at h; simp at h, rfl⟩⟩
  case areturn => simp only [zstp] at h ⊢; split at h <;> first | (cases h; done) | exact ⟨_, h, Or.inr ⟨fun q e => by rw [e] at h; simp at h, rfl⟩⟩
  case return_ => simp only [zstp] at h ⊢; split at h <;> first | (cases h; done) | exact ⟨_, h, Or.inr ⟨fun q e => by rw [e] at h; simp at h, rfl⟩⟩
  all_goals (first
    | (simp only [zstp, zgo, Option.some.injEq, Prod.mk.injEq] at h ⊢; obtain ⟨g1, rfl⟩ := h; exact ⟨_, ⟨g1, rfl⟩, Or.inl ⟨_, _, _, _, _, rfl, rfl, hag⟩⟩)
    | (simp only [zstp, zint2, zlong2] at h ⊢; split at h <;> first | (cases h; done) | (simp only [zgo, Option.some.injEq, Prod.mk.injEq] at h ⊢; obtain ⟨g1, rfl⟩ := h; exact ⟨_, ⟨g1, rfl⟩, Or.inl ⟨_, _, _, _, _, rfl, rfl, hag⟩⟩))
    | exact absurd h (by simp [zstp]))
theorem zrun_ag (hcd : zCodes) : ∀ (n d y pc : Nat) (lv st : List Value) (hp hp2 : zHp) (v : Option Value) (hp' : zHp), y < 256 → zAg hp hp2 → zrun n d y pc lv st hp = some (v, hp') → ∃ hp2', zrun n d y pc lv st hp2 = some (v, hp2') ∧ zAg hp' hp2' := by
  intro n
  induction n with
  | zero => intro d y pc lv st hp hp2 v hp' _ _ h; simp [zrun] at h
  | succ n ih =>
    intro d y pc lv st hp hp2 v hp' hy hag h
    rw [zrun] at h
    split at h
    · cases h
    rename_i r hr
    obtain ⟨hrin, rfl⟩ := zfetch_in hr
    obtain ⟨hck, -⟩ := zrow_ok hcd hy hrin
    split at h
    · cases h
    · rename_i g pc1 lv1 st1 hp1 hz
      cases g with
      | false => simp at h
      | true =>
        simp only [cond_true] at h
        obtain ⟨x2, hz2, hx⟩ := zstp_ag hck hag hz
        rcases hx with ⟨_, _, _, _, hp12, e1, rfl, hag1⟩ | ⟨q, -⟩
        · cases e1
          obtain ⟨hp2', h2, h3⟩ := ih _ _ _ _ _ _ _ _ _ hy hag1 h
          refine ⟨hp2', ?_, h3⟩
          rw [zrun, hr]
          simp only [hz2, cond_true]
          exact h2
        · exact absurd rfl (q _)
    · rename_i g v1 hz
      cases g with
      | false => simp at h
      | true =>
        simp only [cond_true, Option.some.injEq, Prod.mk.injEq] at h
        obtain ⟨rfl, rfl⟩ := h
        obtain ⟨x2, hz2, hx⟩ := zstp_ag hck hag hz
        rcases hx with ⟨_, _, _, _, hp12, e1, -⟩ | ⟨q, rfl⟩
        · cases e1
        · refine ⟨hp2, ?_, hag⟩
          rw [zrun, hr]
          simp only [hz2, cond_true]
    · rename_i g z As rest hz
      cases g with
      | false => simp at h
      | true =>
        simp only [cond_true] at h
        obtain ⟨x2, hz2, hx⟩ := zstp_ag hck hag hz
        have hz256 : z < 256 := by
          obtain ⟨s1, s2, s3, s4⟩ := zcall_shape hz
          obtain ⟨-, hi⟩ := zchk_dec hck
          obtain ⟨pc, len, ins, v0, b, c0⟩ := r
          dsimp only at s1 s2 s4 hi
          subst s1
          subst s2
          rcases s4 with ⟨i, rfl⟩ | ⟨i, rfl⟩ | ⟨i, rfl⟩
          · simp only [zchkI, Bool.and_eq_true, Bool.or_eq_true, decide_eq_true_eq] at hi
            rcases hi.2 with ((((hi | hi) | hi) | hi) | hi)
            · have := hi.1.1.2; omega
            all_goals exact absurd hi.1 (by decide)
          · simp only [zchkI, Bool.and_eq_true, Bool.or_eq_true, decide_eq_true_eq] at hi
            rcases hi.2 with hi | hi
            · have := hi.1.1.2; omega
            · exact absurd hi.1 (by decide)
          · simp only [zchkI, Bool.and_eq_true, Bool.or_eq_true, decide_eq_true_eq] at hi
            rcases hi.2 with ((hi | hi) | hi)
            · have := hi.1.1.2; omega
            all_goals exact absurd hi.1 (by decide)
        rcases hx with ⟨_, _, _, _, hp12, e1, -⟩ | ⟨q, rfl⟩
        · cases e1
        cases d with
        | zero => simp at h
        | succ d =>
          dsimp only at h
          split at h
          · cases h
          rename_i v1 hp3 h1
          obtain ⟨hp32, h2, h3⟩ := ih _ _ _ _ _ _ _ _ _ hz256 hag h1
          obtain ⟨hp2', h4, h5⟩ := ih _ _ _ _ _ _ _ _ _ hy h3 h
          refine ⟨hp2', ?_, h5⟩
          rw [zrun, hr]
          simp only [hz2, cond_true, h2]
          exact h4
