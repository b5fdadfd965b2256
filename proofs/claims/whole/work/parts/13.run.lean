/-! A RUN OF THE SMALL MACHINE IS THE MACHINE'S -/
def zGrow (hp hp' : zHp) : Prop := hp.1.length ≤ hp'.1.length ∧ zns hp.1 ≤ zns hp'.1
theorem zGrow.rf {hp : zHp} : zGrow hp hp := ⟨Nat.le_refl _, Nat.le_refl _⟩
theorem zGrow.eq {hp hp' : zHp} (h : hp'.1 = hp.1) : zGrow hp hp' := ⟨by rw [h]; exact Nat.le_refl _, by rw [h]; exact Nat.le_refl _⟩
theorem zGrow.tr {a b c : zHp} (h : zGrow a b) (h' : zGrow b c) : zGrow a c := ⟨Nat.le_trans h.1 h'.1, Nat.le_trans h.2 h'.2⟩
theorem zstp_grow {y : Nat} {r : zRow} {lv st : List Value} {hp : zHp} {g : Bool} {res : Nat × List Value × List Value × zHp} (h : zstp y r lv st hp = some (g, .inl res)) : zGrow hp res.2.2.2 ∧ res.2.1.length = lv.length := by
  obtain ⟨pc, len, ins, v, b, c0⟩ := r
  have pe : ∀ {x : Nat × Nat} {I : Nat → Nat → Int32} {P : Nat → Nat → Nat}, zGrow hp (hp.1 ++ [x], I, P) := by
    intro x I P
    refine ⟨?_, ?_⟩
    · show hp.1.length ≤ (hp.1 ++ [x]).length
      simp
    · show zns hp.1 ≤ zns (hp.1 ++ [x])
      rw [zns_app]; omega
  have pm : ∀ {N K : Nat} {I : Nat → Nat → Int32} {P : Nat → Nat → Nat}, zGrow hp (hp.1 ++ ((9, N) :: List.replicate N (2, K)), I, P) := by
    intro N K I P
    refine ⟨?_, ?_⟩
    · show hp.1.length ≤ (hp.1 ++ ((9, N) :: List.replicate N (2, K))).length
      simp
    · show zns hp.1 ≤ zns (hp.1 ++ ((9, N) :: List.replicate N (2, K)))
      rw [zns_mul]; omega
  cases ins
  case invokestatic n =>
    by_cases hb : b = 0
    · subst hb
      exact (zcall_inr (z := c0) (st := st) (hp := hp) (g := g) (res := res) h).elim
    · simp only [zstp, show (b == 0) = false by simpa using hb, cond_false] at h
      cases h1 : (b == 1) with
      | true => rw [h1] at h; simp only [cond_true] at h; split at h <;> first | (cases h; done) | (simp only [zgo, Option.some.injEq, Prod.mk.injEq, Sum.inl.injEq] at h; obtain ⟨-, rfl⟩ := h; exact ⟨zGrow.eq rfl, rfl⟩)
      | false =>
        rw [h1] at h; simp only [cond_false] at h
        cases h5 : (b == 5) with
        | true => rw [h5] at h; simp only [cond_true] at h; split at h <;> first | (cases h; done) | (simp only [zgo, Option.some.injEq, Prod.mk.injEq, Sum.inl.injEq] at h; obtain ⟨-, rfl⟩ := h; exact ⟨zGrow.eq rfl, rfl⟩)
        | false =>
          rw [h5] at h; simp only [cond_false] at h
          cases h6 : (b == 6) with
          | true => rw [h6] at h; simp only [cond_true] at h; split at h <;> first | (cases h; done) | (simp only [zgo, Option.some.injEq, Prod.mk.injEq, Sum.inl.injEq] at h; obtain ⟨-, rfl⟩ := h; exact ⟨zGrow.eq rfl, rfl⟩)
          | false =>
            rw [h6] at h; simp only [cond_false] at h
            cases h7 : (b == 7) with
            | true => rw [h7] at h; simp only [cond_true] at h; split at h <;> first | (cases h; done) | (simp only [zgo, Option.some.injEq, Prod.mk.injEq, Sum.inl.injEq] at h; obtain ⟨-, rfl⟩ := h; exact ⟨zGrow.eq rfl, rfl⟩)
            | false =>
              rw [h7] at h; simp only [cond_false] at h
              simp at h
  case invokespecial n =>
    by_cases hb : b = 0
    · subst hb
      exact (zcall_inr (z := c0) (st := st) (hp := hp) (g := g) (res := res) h).elim
    · simp only [zstp, show (b == 0) = false by simpa using hb, cond_false] at h
      cases h2 : (b == 2) with
      | true => rw [h2] at h; simp only [cond_true] at h; split at h <;> first | (cases h; done) | (simp only [zgo, Option.some.injEq, Prod.mk.injEq, Sum.inl.injEq] at h; obtain ⟨-, rfl⟩ := h; exact ⟨zGrow.eq rfl, rfl⟩)
      | false =>
        rw [h2] at h; simp only [cond_false] at h
        simp at h
  case invokevirtual n =>
    by_cases hb : b = 0
    · subst hb
      exact (zcall_inr (z := c0) (st := st) (hp := hp) (g := g) (res := res) h).elim
    · simp only [zstp, show (b == 0) = false by simpa using hb, cond_false] at h
      cases h3 : (b == 3) with
      | true => rw [h3] at h; simp only [cond_true] at h; split at h <;> first | (cases h; done) | (simp only [zgo, Option.some.injEq, Prod.mk.injEq, Sum.inl.injEq] at h; obtain ⟨-, rfl⟩ := h; exact ⟨zGrow.eq rfl, rfl⟩)
      | false =>
        rw [h3] at h; simp only [cond_false] at h
        cases h4 : (b == 4) with
        | true => rw [h4] at h; simp only [cond_true] at h; split at h <;> first | (cases h; done) | (simp only [zgo, Option.some.injEq, Prod.mk.injEq, Sum.inl.injEq] at h; obtain ⟨-, rfl⟩ := h; exact ⟨zGrow.eq rfl, rfl⟩)
        | false =>
          rw [h4] at h; simp only [cond_false] at h
          simp at h
  case new n =>
    simp only [zstp, zgo, Option.some.injEq, Prod.mk.injEq, Sum.inl.injEq] at h
    obtain ⟨-, rfl⟩ := h
    exact ⟨pe, rfl⟩
  case getfield n =>
    simp only [zstp] at h
    split at h
    · cases hc : (zfk b c0 == 0) with
      | true => rw [hc] at h; simp only [cond_true, zgo, Option.some.injEq, Prod.mk.injEq, Sum.inl.injEq] at h; obtain ⟨-, rfl⟩ := h; exact ⟨zGrow.eq rfl, rfl⟩
      | false => rw [hc] at h; simp only [cond_false, zgo, Option.some.injEq, Prod.mk.injEq, Sum.inl.injEq] at h; obtain ⟨-, rfl⟩ := h; exact ⟨zGrow.eq rfl, rfl⟩
    · cases h
  all_goals (first
    | (simp only [zstp, zgo, Option.some.injEq, Prod.mk.injEq, Sum.inl.injEq] at h; obtain ⟨-, rfl⟩ := h; exact ⟨zGrow.eq rfl, rfl⟩)
    | (simp only [zstp, zint2, zlong2] at h; split at h <;> (first | (cases h; done) | (simp only [zgo, Option.some.injEq, Prod.mk.injEq, Sum.inl.injEq] at h; obtain ⟨-, rfl⟩ := h; first | exact ⟨zGrow.eq rfl, rfl⟩ | exact ⟨zGrow.eq rfl, zsto_len _ _ _⟩ | exact ⟨zGrow.eq rfl, by simp [zsto_len]⟩ | exact ⟨pe, rfl⟩ | exact ⟨pm, rfl⟩)))
    | exact absurd h (by simp [zstp]))
/-- the rows of the methods are what the bytes say -/
def zCodes : Prop := ∀ y, y < 256 → (zK y).all (fun r => zchk y r && zchkF y r) = true
theorem zfetch_in {y pc : Nat} {r : zRow} (h : zfetch y pc = some r) : r ∈ zK y ∧ r.1 = pc := by
  refine ⟨List.mem_of_find?_eq_some h, ?_⟩
  have := List.find?_some h
  simpa using this
theorem zrun_grow : ∀ (n d y pc : Nat) (lv st : List Value) (hp : zHp) (v : Option Value) (hp' : zHp), zrun n d y pc lv st hp = some (v, hp') → zGrow hp hp' := by
  intro n
  induction n with
  | zero => intro d y pc lv st hp v hp' h; simp [zrun] at h
  | succ n ih =>
    intro d y pc lv st hp v hp' h
    rw [zrun] at h
    split at h
    · cases h
    rename_i r hr
    split at h
    · cases h
    · rename_i g pc1 lv1 st1 hp1 hz
      cases g with
      | false => simp at h
      | true => exact (zstp_grow hz).1.tr (ih _ _ _ _ _ _ _ _ h)
    · rename_i g v1 hz
      cases g with
      | false => simp at h
      | true =>
        simp only [cond_true, Option.some.injEq, Prod.mk.injEq] at h
        rw [← h.2]
        exact zGrow.rf
    · rename_i g z As rest hz
      cases g with
      | false => simp at h
      | true =>
        simp only [cond_true] at h
        cases d with
        | zero => simp at h
        | succ d =>
          dsimp only at h
          split at h
          · cases h
          · rename_i v1 hp2 h1
            exact (ih _ _ _ _ _ _ _ _ h1).tr (ih _ _ _ _ _ _ _ _ h)
def zWS (z : Nat) : List Cond := Cond.code (zM z).1 (zM z).2.1 (zmL z) (zM z).2.2.2.1 :: zTB
def zrm (d mc ms : Nat) : Room := { frames := d + 8, cells := mc, slots := ms, locals := 64 * (d + 8) }
def zPc (G : zG) (As : List Value) (hp : zHp) : Array Value → State → Prop := fun a U => a = (As.map (zvr (zro G))).toArray ∧ zKS G U ∧ zRel G hp U.heap
def zQc (G : zG) (v : Option Value) (hp : zHp) : Array Value → State → Outcome → State → Prop := fun _ _ o t => o = .returned (v.map (zvr (zro G))) ∧ zRel G hp t.heap
theorem zPc_blind {G : zG} {As : List Value} {hp : zHp} : FrameBlind (zPc G As hp) := fun a U g mk h => ⟨h.1, zKS.same (s := U) (U := U.calling g mk a) rfl h.2.1, h.2.2⟩
theorem zcall_no {z : Nat} {st : List Value} {hp : zHp} {g : Bool} {v : Option Value} (h : zcall z st hp = some (g, .inr (.inl v))) : False := by
  unfold zcall at h
  dsimp only at h
  cases hc : ((zM z).2.2.2.2.2.1 == 0) with
  | true => rw [hc] at h; simp at h
  | false =>
    rw [hc] at h
    simp only [cond_false] at h
    split at h
    · simp at h
    · cases h
/-- behind a return: the contract's end -/
theorem zret_sound {G : zG} {y : Nat} {r : zRow} {lv st : List Value} {hp : zHp} {v : Option Value} (hk : zchk y r = true) (h : zstp y r lv st hp = some (true, .inr (.inl v)))
    {p : Program} {l : Launch} {e : Env} {R : Room} {s : State} {m : MethodId} {args : Array Value} {below : List Frame} {meth : Method} {c : Code} {H : Heap} {locs : List Loc} {ls : Array Slot} {cells slots : Nat} (hx : p.tables.exec = Jvm.exec) (hb : c.code = (zM y).2.1) (hr : meth.sig.returnType = (zM y).2.2.2.1) (hlocks : meth.locks = false) (hrel : zRel G hp H) (hlo : ∀ q ∈ locs, zgA G q.base) :
    W p l e R s m args below meth c H locs cells slots (MQ below (zQc G v hp) args s cells slots (zgA G)) (F0 m r.1 ls (st.map (zvr (zro G)))) := by
  obtain ⟨pc, len, ins, v0, b, c0⟩ := r
  obtain ⟨hdg, hi⟩ := zchk_dec hk
  dsimp only at hdg hi
  cases ins
  case ireturn =>
    have hl : len = 1 := by simpa [zchkI] using hi
    subst hl
    simp only [zstp] at h
    split at h
    · rename_i x
      simp only [Option.some.injEq, Prod.mk.injEq, Sum.inr.injEq, Sum.inl.injEq] at h
      obtain ⟨h0, rfl⟩ := h
      have hq : ∀ t : State, t.heap = H → s.WarmedH t.vm → zQc G (some (.int x)) hp args s (.returned (some (.int x))) t := fun t ht _ => ⟨rfl, by rw [ht]; exact hrel⟩
      unfold zret at h0
      split at h0
      · rename_i q
        exact W.iret hx hb (hr.trans q) hq hlo hdg hlocks
      · rename_i q
        simp only [zbool, Bool.or_eq_true, decide_eq_true_eq] at h0
        exact W.zret hx hb (hr.trans q) (by rcases h0 with rfl | rfl <;> decide) hq hlo hdg hlocks
      · cases h0
    · cases h
  case lreturn =>
    have hl : len = 1 := by simpa [zchkI] using hi
    subst hl
    simp only [zstp] at h
    split at h
    · rename_i x
      simp only [Option.some.injEq, Prod.mk.injEq, Sum.inr.injEq, Sum.inl.injEq, decide_eq_true_eq] at h
      obtain ⟨h0, rfl⟩ := h
      exact W.lret hx hb (hr.trans h0) (fun t ht _ => ⟨rfl, by rw [ht]; exact hrel⟩) hlo hdg hlocks
    · cases h
  case areturn =>
    have hl : len = 1 := by simpa [zchkI] using hi
    subst hl
    simp only [zstp] at h
    split at h
    · rename_i x
      simp only [Option.some.injEq, Prod.mk.injEq, Sum.inr.injEq, Sum.inl.injEq] at h
      obtain ⟨h0, rfl⟩ := h
      unfold zretA at h0
      split at h0
      · rename_i n q
        exact W.aret hx hb (hr.trans q) (Or.inl ⟨_, rfl⟩) (Or.inr ⟨_, rfl⟩) (fun t ht _ => ⟨rfl, by rw [ht]; exact hrel⟩) hlo hdg hlocks
      · rename_i n q
        exact W.aret hx hb (hr.trans q) (Or.inr ⟨_, rfl⟩) (Or.inr ⟨_, rfl⟩) (fun t ht _ => ⟨rfl, by rw [ht]; exact hrel⟩) hlo hdg hlocks
      · cases h0
    · cases h
  case return_ =>
    have hl : len = 1 := by simpa [zchkI] using hi
    subst hl
    simp only [zstp] at h
    split at h
    · simp only [Option.some.injEq, Prod.mk.injEq, Sum.inr.injEq, Sum.inl.injEq, decide_eq_true_eq] at h
      obtain ⟨h0, rfl⟩ := h
      exact W.vret hx hb (hr.trans h0) (fun t ht _ => ⟨rfl, by rw [ht]; exact hrel⟩) hlo hdg hlocks
    · cases h
  case invokestatic n =>
    exfalso
    by_cases hb : b = 0
    · subst hb
      exact zcall_no (z := c0) (st := st) (hp := hp) (g := true) (v := v) h
    · simp only [zstp, show (b == 0) = false by simpa using hb, cond_false] at h
      cases h1 : (b == 1) with
      | true => rw [h1] at h; simp only [cond_true] at h; split at h <;> (simp [zgo] at h)
      | false =>
        rw [h1] at h; simp only [cond_false] at h
        cases h5 : (b == 5) with
        | true => rw [h5] at h; simp only [cond_true] at h; split at h <;> (simp [zgo] at h)
        | false =>
          rw [h5] at h; simp only [cond_false] at h
          cases h6 : (b == 6) with
          | true => rw [h6] at h; simp only [cond_true] at h; split at h <;> (simp [zgo] at h)
          | false =>
            rw [h6] at h; simp only [cond_false] at h
            cases h7 : (b == 7) with
            | true => rw [h7] at h; simp only [cond_true] at h; split at h <;> (simp [zgo] at h)
            | false =>
              rw [h7] at h; simp only [cond_false] at h
              simp at h
  case invokespecial n =>
    exfalso
    by_cases hb : b = 0
    · subst hb
      exact zcall_no (z := c0) (st := st) (hp := hp) (g := true) (v := v) h
    · simp only [zstp, show (b == 0) = false by simpa using hb, cond_false] at h
      cases h2 : (b == 2) with
      | true => rw [h2] at h; simp only [cond_true] at h; split at h <;> (simp [zgo] at h)
      | false =>
        rw [h2] at h; simp only [cond_false] at h
        simp at h
  case invokevirtual n =>
    exfalso
    by_cases hb : b = 0
    · subst hb
      exact zcall_no (z := c0) (st := st) (hp := hp) (g := true) (v := v) h
    · simp only [zstp, show (b == 0) = false by simpa using hb, cond_false] at h
      cases h3 : (b == 3) with
      | true => rw [h3] at h; simp only [cond_true] at h; split at h <;> (simp [zgo] at h)
      | false =>
        rw [h3] at h; simp only [cond_false] at h
        cases h4 : (b == 4) with
        | true => rw [h4] at h; simp only [cond_true] at h; split at h <;> (simp [zgo] at h)
        | false =>
          rw [h4] at h; simp only [cond_false] at h
          simp at h
  case getfield n =>
    exfalso
    simp only [zstp] at h
    split at h
    · cases hc : (zfk b c0 == 0) with
      | true => rw [hc] at h; simp [zgo] at h
      | false => rw [hc] at h; simp [zgo] at h
    · cases h
  all_goals (exfalso; first
    | (simp [zstp, zgo] at h; done)
    | (simp only [zstp, zint2, zlong2] at h; split at h <;> (first | (cases h; done) | (simp [zgo] at h; done)))
    | exact absurd h (by simp [zstp]))
/-- the end of a call -/
theorem zafter {G : zG} {v1 : Option Value} {hp2 : zHp} {a : Array Value} {p : Program} {l : Launch} {e : Env} {R : Room} {s : State} {m : MethodId} {args : Array Value} {below : List Frame} {meth : Method} {c : Code} {H : Heap} {locs : List Loc} {cells slots mc ms pc : Nat} {ls : Array Slot} {st0 rest : List Value} {Q : State → Prop}
    (hr : va_Run p l e R s m args below meth c H locs cells slots mc ms (F0 m pc ls st0) rest (zQc G v1 hp2 a) (zgA G)) (hlo : ∀ q ∈ locs, zgA G q.base)
    (kk : ∀ (H1 : Heap) (locs1 : List Loc), zRel G hp2 H1 → (∀ q ∈ locs1, zgA G q.base) → W p l e R s m args below meth c H1 locs1 (cells + mc) (slots + ms) Q (F0 m (pc + 3) ls ((v1.map (zvr (zro G))).toList ++ rest))) : W p l e R s m args below meth c H locs cells slots Q (F0 m pc ls st0) := by
  intro T hT X
  obtain ⟨v, st₀, t, T', L, h0, X', hL, e1, e2, ⟨hv, hrel⟩, st⟩ := hr T hT X
  cases hv
  obtain ⟨t2, a1, b1⟩ := kk T'.heap (locs ++ L) (by rw [e1]; exact hrel) (fun q hq => by
    rcases List.mem_append.mp hq with h | h
    · exact hlo q h
    · exact hL q h) T' rfl X'
  exact ⟨t2, st t2 a1, b1⟩
theorem zcats_vr {G : zG} (t : List Value) (ht : zcats t ≤ 8) : ((t.map (zvr (zro G))).map fun v => v.category).sum ≤ 8 := by
  rw [List.map_map, show ((fun v : Value => v.category) ∘ zvr (zro G)) = fun v => v.category from funext fun q => zvr_cat _ q]
  exact ht
/-- what a row says that calls -/
theorem zcall_shape {y : Nat} {r : zRow} {lv st : List Value} {hp : zHp} {z : Nat} {As rest : List Value} (h : zstp y r lv st hp = some (true, .inr (.inr (z, As, rest)))) : r.2.2.2.2.1 = 0 ∧ r.2.2.2.2.2 = z ∧ zcall z st hp = some (true, .inr (.inr (z, As, rest))) ∧ ((∃ n, r.2.2.1 = .invokestatic n) ∨ (∃ n, r.2.2.1 = .invokespecial n) ∨ (∃ n, r.2.2.1 = .invokevirtual n)) := by
  obtain ⟨pc, len, ins, v0, b, c0⟩ := r
  have zz : ∀ {z' : Nat}, zcall z' st hp = some (true, .inr (.inr (z, As, rest))) → z' = z := by
    intro z' h
    unfold zcall at h
    dsimp only at h
    cases hc : ((zM z').2.2.2.2.2.1 == 0) with
    | true => rw [hc] at h; simp at h; exact h.2.1
    | false =>
      rw [hc] at h
      simp only [cond_false] at h
      split at h
      · simp at h; exact h.2.1
      · cases h
  cases ins
  case invokestatic n =>
    by_cases hb : b = 0
    · subst hb
      have h' : zcall c0 st hp = some (true, .inr (.inr (z, As, rest))) := h
      have e := zz h'
      subst e
      exact ⟨rfl, rfl, h', Or.inl ⟨_, rfl⟩⟩
    · exfalso
      simp only [zstp, show (b == 0) = false by simpa using hb, cond_false] at h
      cases h1 : (b == 1) with
      | true => rw [h1] at h; simp only [cond_true] at h; split at h <;> (simp [zgo] at h)
      | false =>
        rw [h1] at h; simp only [cond_false] at h
        cases h5 : (b == 5) with
        | true => rw [h5] at h; simp only [cond_true] at h; split at h <;> (simp [zgo] at h)
        | false =>
          rw [h5] at h; simp only [cond_false] at h
          cases h6 : (b == 6) with
          | true => rw [h6] at h; simp only [cond_true] at h; split at h <;> (simp [zgo] at h)
          | false =>
            rw [h6] at h; simp only [cond_false] at h
            cases h7 : (b == 7) with
            | true => rw [h7] at h; simp only [cond_true] at h; split at h <;> (simp [zgo] at h)
            | false =>
              rw [h7] at h; simp only [cond_false] at h
              simp at h
  case invokespecial n =>
    by_cases hb : b = 0
    · subst hb
      have h' : zcall c0 st hp = some (true, .inr (.inr (z, As, rest))) := h
      have e := zz h'
      subst e
      exact ⟨rfl, rfl, h', Or.inr (Or.inl ⟨_, rfl⟩)⟩
    · exfalso
      simp only [zstp, show (b == 0) = false by simpa using hb, cond_false] at h
      cases h2 : (b == 2) with
      | true => rw [h2] at h; simp only [cond_true] at h; split at h <;> (simp [zgo] at h)
      | false =>
        rw [h2] at h; simp only [cond_false] at h
        simp at h
  case invokevirtual n =>
    by_cases hb : b = 0
    · subst hb
      have h' : zcall c0 st hp = some (true, .inr (.inr (z, As, rest))) := h
      have e := zz h'
      subst e
      exact ⟨rfl, rfl, h', Or.inr (Or.inr ⟨_, rfl⟩)⟩
    · exfalso
      simp only [zstp, show (b == 0) = false by simpa using hb, cond_false] at h
      cases h3 : (b == 3) with
      | true => rw [h3] at h; simp only [cond_true] at h; split at h <;> (simp [zgo] at h)
      | false =>
        rw [h3] at h; simp only [cond_false] at h
        cases h4 : (b == 4) with
        | true => rw [h4] at h; simp only [cond_true] at h; split at h <;> (simp [zgo] at h)
        | false =>
          rw [h4] at h; simp only [cond_false] at h
          simp at h
  case getfield n =>
    exfalso
    simp only [zstp] at h
    split at h
    · cases hc : (zfk b c0 == 0) with
      | true => rw [hc] at h; simp [zgo] at h
      | false => rw [hc] at h; simp [zgo] at h
    · cases h
  all_goals (exfalso; first
    | (simp [zstp, zgo] at h; done)
    | (simp only [zstp, zint2, zlong2] at h; split at h <;> (first | (cases h; done) | (simp [zgo] at h; done) | (simp at h; done)))
    | exact absurd h (by simp [zstp]))
