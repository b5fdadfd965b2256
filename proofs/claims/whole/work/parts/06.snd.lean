/-! EACH STEP OF THE SMALL MACHINE IS THE MACHINE'S -/
def zns (Z : List (Nat × Nat)) : Nat := (Z.map fun q => if q.1 = 0 then znf q.2 else q.2).sum
def zC (G : zG) (y : Nat) (p : Program) (s : State) (m : MethodId) (args : Array Value) (meth : Method) (c : Code) : Prop :=
  p.tables.exec = Jvm.exec ∧ c.code = (zM y).2.1 ∧ c.maxLocals = zmL y ∧ s.vm.findClass (zRn (zown y)) = some m.cls ∧ (∀ w ∈ zTB, w.before args s = true) ∧ zKS G s ∧ (zkd y = 2 → meth.name = "<init>")
def zRm (R : Room) : Prop := 8 ≤ R.frames ∧ 512 ≤ R.locals
def zKont (G : zG) (p : Program) (l : Launch) (e : Env) (R : Room) (s : State) (m : MethodId) (args : Array Value) (below : List Frame) (meth : Method) (c : Code) (Q : State → Prop) (cells slots : Nat) (hp : zHp) (res : Nat × List Value × List Value × zHp) : Prop :=
  ∀ (H' : Heap) (locs' : List Loc) (ls' : Array Slot), zRel G res.2.2.2 H' → zLV (zro G) ls' res.2.1 → (∀ q ∈ locs', zgA G q.base) → W p l e R s m args below meth c H' locs' (cells + (res.2.2.2.1.length - hp.1.length)) (slots + (zns res.2.2.2.1 - zns hp.1)) Q (F0 m res.1 ls' (res.2.2.1.map (zvr (zro G))))
def zSnd (G : zG) (y pc : Nat) (lv st : List Value) (hp : zHp) (res : Nat × List Value × List Value × zHp) : Prop :=
  ∀ (p : Program) (l : Launch) (e : Env) (R : Room) (s : State) (m : MethodId) (args : Array Value) (below : List Frame) (meth : Method) (c : Code) (H : Heap) (locs : List Loc) (ls : Array Slot) (cells slots : Nat) (Q : State → Prop),
    zC G y p s m args meth c → lv.length = zmL y → zRm R → zRel G hp H → zLV (zro G) ls lv → (∀ q ∈ locs, zgA G q.base) → cells + (res.2.2.2.1.length - hp.1.length) ≤ R.cells → slots + (zns res.2.2.2.1 - zns hp.1) ≤ R.slots →
    zKont G p l e R s m args below meth c Q cells slots hp res → W p l e R s m args below meth c H locs cells slots Q (F0 m pc ls (st.map (zvr (zro G))))
theorem zk0 {G : zG} {p : Program} {l : Launch} {e : Env} {R : Room} {s : State} {m : MethodId} {args : Array Value} {below : List Frame} {meth : Method} {c : Code} {Q : State → Prop} {cells slots : Nat} {hp hp' : zHp} {pc : Nat} {lv st : List Value} (he : hp'.1 = hp.1)
    (kk : zKont G p l e R s m args below meth c Q cells slots hp (pc, lv, st, hp')) {H : Heap} {locs : List Loc} {ls : Array Slot} (h1 : zRel G hp' H) (h2 : zLV (zro G) ls lv) (h3 : ∀ q ∈ locs, zgA G q.base) : W p l e R s m args below meth c H locs cells slots Q (F0 m pc ls (st.map (zvr (zro G)))) := by
  have h := kk H locs ls h1 h2 h3
  dsimp only at h
  rw [he, Nat.sub_self, Nat.sub_self, Nat.add_zero, Nat.add_zero] at h
  exact h
theorem zchk_dec {y : Nat} {r : zRow} (h : zchk y r = true) : decode (zM y).2.1 r.1 = .ok (r.2.2.1, r.2.1) ∧ zchkI (zown y) r.1 r.2.1 r.2.2.1 r.2.2.2.1 r.2.2.2.2.1 r.2.2.2.2.2 = true := by
  unfold zchk at h
  rw [Bool.and_eq_true, decide_eq_true_eq] at h
  exact h
section ZS
variable {G : zG} {y pc len b c0 : Nat} {v : Value} {lv st : List Value} {hp : zHp} {res : Nat × List Value × List Value × zHp}
theorem zs_iconst {n : Int} (hk : zchk y (pc, len, (.iconst n), v, b, c0) = true) (h : zstp y (pc, len, (.iconst n), v, b, c0) lv st hp = some (true, .inl res)) : zSnd G y pc lv st hp res := by
  intro p l e R s m args below meth c H locs ls cells slots Q C hn hR hrel hlv hlo hcap1 hcap2 kk
  obtain ⟨hx, hb, hml, hown, hts, hKS, hin⟩ := C
  obtain ⟨hdg, hi⟩ := zchk_dec hk
  dsimp only at hdg hi
  simp only [zchkI, Bool.and_eq_true, decide_eq_true_eq] at hi
  obtain ⟨rfl, rfl⟩ := hi
  simp only [zstp] at h
  simp only [zgo, Option.some.injEq, Prod.mk.injEq, Sum.inl.injEq] at h
  obtain ⟨-, rfl⟩ := h
  exact lv_iconst hx hb hdg rfl (zk0 rfl kk hrel hlv hlo)
theorem zs_bipush {n : Int} (hk : zchk y (pc, len, (.bipush n), v, b, c0) = true) (h : zstp y (pc, len, (.bipush n), v, b, c0) lv st hp = some (true, .inl res)) : zSnd G y pc lv st hp res := by
  intro p l e R s m args below meth c H locs ls cells slots Q C hn hR hrel hlv hlo hcap1 hcap2 kk
  obtain ⟨hx, hb, hml, hown, hts, hKS, hin⟩ := C
  obtain ⟨hdg, hi⟩ := zchk_dec hk
  dsimp only at hdg hi
  simp only [zchkI, Bool.and_eq_true, decide_eq_true_eq] at hi
  obtain ⟨rfl, rfl⟩ := hi
  simp only [zstp] at h
  simp only [zgo, Option.some.injEq, Prod.mk.injEq, Sum.inl.injEq] at h
  obtain ⟨-, rfl⟩ := h
  exact lv_bipush hx hb hdg rfl (zk0 rfl kk hrel hlv hlo)
theorem zs_sipush {n : Int} (hk : zchk y (pc, len, (.sipush n), v, b, c0) = true) (h : zstp y (pc, len, (.sipush n), v, b, c0) lv st hp = some (true, .inl res)) : zSnd G y pc lv st hp res := by
  intro p l e R s m args below meth c H locs ls cells slots Q C hn hR hrel hlv hlo hcap1 hcap2 kk
  obtain ⟨hx, hb, hml, hown, hts, hKS, hin⟩ := C
  obtain ⟨hdg, hi⟩ := zchk_dec hk
  dsimp only at hdg hi
  simp only [zchkI, Bool.and_eq_true, decide_eq_true_eq] at hi
  obtain ⟨rfl, rfl⟩ := hi
  simp only [zstp] at h
  simp only [zgo, Option.some.injEq, Prod.mk.injEq, Sum.inl.injEq] at h
  obtain ⟨-, rfl⟩ := h
  exact lv_sipush hx hb hdg rfl (zk0 rfl kk hrel hlv hlo)
theorem zs_lconst {n : Fin 2} (hk : zchk y (pc, len, (.lconst n), v, b, c0) = true) (h : zstp y (pc, len, (.lconst n), v, b, c0) lv st hp = some (true, .inl res)) : zSnd G y pc lv st hp res := by
  intro p l e R s m args below meth c H locs ls cells slots Q C hn hR hrel hlv hlo hcap1 hcap2 kk
  obtain ⟨hx, hb, hml, hown, hts, hKS, hin⟩ := C
  obtain ⟨hdg, hi⟩ := zchk_dec hk
  dsimp only at hdg hi
  simp only [zchkI, Bool.and_eq_true, decide_eq_true_eq] at hi
  obtain ⟨rfl, rfl⟩ := hi
  simp only [zstp] at h
  simp only [zgo, Option.some.injEq, Prod.mk.injEq, Sum.inl.injEq] at h
  obtain ⟨-, rfl⟩ := h
  exact lv_lconst hx hb hdg rfl (zk0 rfl kk hrel hlv hlo)
theorem zs_ldc {n : Nat} (hk : zchk y (pc, len, (.ldc n), v, b, c0) = true) (h : zstp y (pc, len, (.ldc n), v, b, c0) lv st hp = some (true, .inl res)) : zSnd G y pc lv st hp res := by
  intro p l e R s m args below meth c H locs ls cells slots Q C hn hR hrel hlv hlo hcap1 hcap2 kk
  obtain ⟨hx, hb, hml, hown, hts, hKS, hin⟩ := C
  obtain ⟨hdg, hi⟩ := zchk_dec hk
  dsimp only at hdg hi
  simp only [zchkI, Bool.and_eq_true, decide_eq_true_eq] at hi
  obtain ⟨rfl, hi⟩ := hi
  simp only [zstp] at h
  simp only [zgo, Option.some.injEq, Prod.mk.injEq, Sum.inl.injEq] at h
  obtain ⟨-, rfl⟩ := h
  split at hi
  · rename_i x
    have hm : Cond.constant (zRn (zown y)) n x ∈ lw_tbl := zLI_ok _ (of_decide_eq_true hi)
    exact lv_ldc hx hb hown (hts _ (zgd hm rfl)) hdg (zk0 rfl kk hrel hlv hlo)
  · rename_i k
    rw [Bool.and_eq_true, decide_eq_true_eq, decide_eq_true_eq] at hi
    have hZ := hKS.2.2.2.2.2.2.1 _ hi.2
    refine va_ldcS hx hb hown hZ hdg ?_
    have e1 : (.ref (G.2.2.2.1.1 (k - 1000000)) : Value) = zvr (zro G) (.ref k) := by
      simp only [zvr, zro]
      rw [if_neg (Nat.ne_of_gt (Nat.lt_of_lt_of_le (by decide) hi.1)), if_pos hi.1]
    have := zk0 rfl kk hrel hlv hlo
    rw [List.map_cons, ← e1] at this
    exact this
  · cases hi
theorem zs_ldc_w {n : Nat} (hk : zchk y (pc, len, (.ldc_w n), v, b, c0) = true) (h : zstp y (pc, len, (.ldc_w n), v, b, c0) lv st hp = some (true, .inl res)) : zSnd G y pc lv st hp res := by
  intro p l e R s m args below meth c H locs ls cells slots Q C hn hR hrel hlv hlo hcap1 hcap2 kk
  obtain ⟨hx, hb, hml, hown, hts, hKS, hin⟩ := C
  obtain ⟨hdg, hi⟩ := zchk_dec hk
  dsimp only at hdg hi
  simp only [zchkI, Bool.and_eq_true, decide_eq_true_eq] at hi
  obtain ⟨rfl, hi⟩ := hi
  simp only [zstp] at h
  simp only [zgo, Option.some.injEq, Prod.mk.injEq, Sum.inl.injEq] at h
  obtain ⟨-, rfl⟩ := h
  split at hi
  · rename_i x
    have hm : Cond.constant (zRn (zown y)) n x ∈ lw_tbl := zLI_ok _ (of_decide_eq_true hi)
    exact lv_ldcw hx hb hown (hts _ (zgd hm rfl)) hdg (zk0 rfl kk hrel hlv hlo)
  · cases hi
theorem zs_ldc2_w {n : Nat} (hk : zchk y (pc, len, (.ldc2_w n), v, b, c0) = true) (h : zstp y (pc, len, (.ldc2_w n), v, b, c0) lv st hp = some (true, .inl res)) : zSnd G y pc lv st hp res := by
  intro p l e R s m args below meth c H locs ls cells slots Q C hn hR hrel hlv hlo hcap1 hcap2 kk
  obtain ⟨hx, hb, hml, hown, hts, hKS, hin⟩ := C
  obtain ⟨hdg, hi⟩ := zchk_dec hk
  dsimp only at hdg hi
  simp only [zchkI, Bool.and_eq_true, decide_eq_true_eq] at hi
  obtain ⟨rfl, hi⟩ := hi
  simp only [zstp] at h
  simp only [zgo, Option.some.injEq, Prod.mk.injEq, Sum.inl.injEq] at h
  obtain ⟨-, rfl⟩ := h
  split at hi
  · rename_i x
    have hm : Cond.constantLong (zRn (zown y)) n x ∈ lw_tbl := zLJ_ok _ (of_decide_eq_true hi)
    exact lv_ldc2 hx hb hown (hts _ (zgd hm rfl)) hdg (zk0 rfl kk hrel hlv hlo)
  · cases hi
theorem zs_iload {n : Nat} (hk : zchk y (pc, len, (.iload n), v, b, c0) = true) (h : zstp y (pc, len, (.iload n), v, b, c0) lv st hp = some (true, .inl res)) : zSnd G y pc lv st hp res := by
  intro p l e R s m args below meth c H locs ls cells slots Q C hn hR hrel hlv hlo hcap1 hcap2 kk
  obtain ⟨hx, hb, hml, hown, hts, hKS, hin⟩ := C
  obtain ⟨hdg, hi⟩ := zchk_dec hk
  dsimp only at hdg hi
  simp only [zchkI, Bool.and_eq_true, decide_eq_true_eq] at hi
  obtain ⟨rfl, rfl⟩ := hi
  simp only [zstp] at h
  split at h
  · rename_i x e1
    simp only [zgo, Option.some.injEq, Prod.mk.injEq, Sum.inl.injEq] at h
    obtain ⟨-, rfl⟩ := h
    exact lv_iload hx hb hdg (hlv.get e1 rfl) (zk0 rfl kk hrel hlv hlo)
  · cases h
theorem zs_iload_n {n : Fin 4} (hk : zchk y (pc, len, (.iload_n n), v, b, c0) = true) (h : zstp y (pc, len, (.iload_n n), v, b, c0) lv st hp = some (true, .inl res)) : zSnd G y pc lv st hp res := by
  intro p l e R s m args below meth c H locs ls cells slots Q C hn hR hrel hlv hlo hcap1 hcap2 kk
  obtain ⟨hx, hb, hml, hown, hts, hKS, hin⟩ := C
  obtain ⟨hdg, hi⟩ := zchk_dec hk
  dsimp only at hdg hi
  simp only [zchkI, Bool.and_eq_true, decide_eq_true_eq] at hi
  obtain ⟨rfl, rfl⟩ := hi
  simp only [zstp] at h
  split at h
  · rename_i x e1
    simp only [zgo, Option.some.injEq, Prod.mk.injEq, Sum.inl.injEq] at h
    obtain ⟨-, rfl⟩ := h
    exact lv_iload_n hx hb hdg rfl (hlv.get e1 rfl) (zk0 rfl kk hrel hlv hlo)
  · cases h
theorem zs_lload {n : Nat} (hk : zchk y (pc, len, (.lload n), v, b, c0) = true) (h : zstp y (pc, len, (.lload n), v, b, c0) lv st hp = some (true, .inl res)) : zSnd G y pc lv st hp res := by
  intro p l e R s m args below meth c H locs ls cells slots Q C hn hR hrel hlv hlo hcap1 hcap2 kk
  obtain ⟨hx, hb, hml, hown, hts, hKS, hin⟩ := C
  obtain ⟨hdg, hi⟩ := zchk_dec hk
  dsimp only at hdg hi
  simp only [zchkI, Bool.and_eq_true, decide_eq_true_eq] at hi
  obtain ⟨rfl, rfl⟩ := hi
  simp only [zstp] at h
  split at h
  · rename_i x e1
    simp only [zgo, Option.some.injEq, Prod.mk.injEq, Sum.inl.injEq] at h
    obtain ⟨-, rfl⟩ := h
    exact lv_lload hx hb hdg (hlv.get e1 rfl) (zk0 rfl kk hrel hlv hlo)
  · cases h
theorem zs_lload_n {n : Fin 4} (hk : zchk y (pc, len, (.lload_n n), v, b, c0) = true) (h : zstp y (pc, len, (.lload_n n), v, b, c0) lv st hp = some (true, .inl res)) : zSnd G y pc lv st hp res := by
  intro p l e R s m args below meth c H locs ls cells slots Q C hn hR hrel hlv hlo hcap1 hcap2 kk
  obtain ⟨hx, hb, hml, hown, hts, hKS, hin⟩ := C
  obtain ⟨hdg, hi⟩ := zchk_dec hk
  dsimp only at hdg hi
  simp only [zchkI, Bool.and_eq_true, decide_eq_true_eq] at hi
  obtain ⟨rfl, rfl⟩ := hi
  simp only [zstp] at h
  split at h
  · rename_i x e1
    simp only [zgo, Option.some.injEq, Prod.mk.injEq, Sum.inl.injEq] at h
    obtain ⟨-, rfl⟩ := h
    exact lv_lload_n hx hb hdg rfl (hlv.get e1 rfl) (zk0 rfl kk hrel hlv hlo)
  · cases h
theorem zs_aload {n : Nat} (hk : zchk y (pc, len, (.aload n), v, b, c0) = true) (h : zstp y (pc, len, (.aload n), v, b, c0) lv st hp = some (true, .inl res)) : zSnd G y pc lv st hp res := by
  intro p l e R s m args below meth c H locs ls cells slots Q C hn hR hrel hlv hlo hcap1 hcap2 kk
  obtain ⟨hx, hb, hml, hown, hts, hKS, hin⟩ := C
  obtain ⟨hdg, hi⟩ := zchk_dec hk
  dsimp only at hdg hi
  simp only [zchkI, Bool.and_eq_true, decide_eq_true_eq] at hi
  obtain ⟨rfl, rfl⟩ := hi
  simp only [zstp] at h
  split at h
  · rename_i x e1
    simp only [zgo, Option.some.injEq, Prod.mk.injEq, Sum.inl.injEq] at h
    obtain ⟨-, rfl⟩ := h
    exact lv_aload hx hb hdg (hlv.get e1 rfl) (zk0 rfl kk hrel hlv hlo)
  · cases h
theorem zs_aload_n {n : Fin 4} (hk : zchk y (pc, len, (.aload_n n), v, b, c0) = true) (h : zstp y (pc, len, (.aload_n n), v, b, c0) lv st hp = some (true, .inl res)) : zSnd G y pc lv st hp res := by
  intro p l e R s m args below meth c H locs ls cells slots Q C hn hR hrel hlv hlo hcap1 hcap2 kk
  obtain ⟨hx, hb, hml, hown, hts, hKS, hin⟩ := C
  obtain ⟨hdg, hi⟩ := zchk_dec hk
  dsimp only at hdg hi
  simp only [zchkI, Bool.and_eq_true, decide_eq_true_eq] at hi
  obtain ⟨rfl, rfl⟩ := hi
  simp only [zstp] at h
  split at h
  · rename_i x e1
    simp only [zgo, Option.some.injEq, Prod.mk.injEq, Sum.inl.injEq] at h
    obtain ⟨-, rfl⟩ := h
    exact lv_aload_n hx hb hdg rfl (hlv.get e1 rfl) (zk0 rfl kk hrel hlv hlo)
  · cases h
theorem zs_istore {n : Nat} (hk : zchk y (pc, len, (.istore n), v, b, c0) = true) (h : zstp y (pc, len, (.istore n), v, b, c0) lv st hp = some (true, .inl res)) : zSnd G y pc lv st hp res := by
  intro p l e R s m args below meth c H locs ls cells slots Q C hn hR hrel hlv hlo hcap1 hcap2 kk
  obtain ⟨hx, hb, hml, hown, hts, hKS, hin⟩ := C
  obtain ⟨hdg, hi⟩ := zchk_dec hk
  dsimp only at hdg hi
  simp only [zchkI, Bool.and_eq_true, decide_eq_true_eq] at hi
  obtain ⟨rfl, rfl⟩ := hi
  simp only [zstp] at h
  split at h
  · rename_i x t
    simp only [zgo, Option.some.injEq, Prod.mk.injEq, Sum.inl.injEq, decide_eq_true_eq] at h
    obtain ⟨h0, rfl⟩ := h
    exact lv_istore hx hb hdg hlv.has h0 rfl (fun ls' h' => zk0 rfl kk hrel (zLV.sto1 (v := .int x) rfl h') hlo)
  · cases h
theorem zs_istore_n {n : Fin 4} (hk : zchk y (pc, len, (.istore_n n), v, b, c0) = true) (h : zstp y (pc, len, (.istore_n n), v, b, c0) lv st hp = some (true, .inl res)) : zSnd G y pc lv st hp res := by
  intro p l e R s m args below meth c H locs ls cells slots Q C hn hR hrel hlv hlo hcap1 hcap2 kk
  obtain ⟨hx, hb, hml, hown, hts, hKS, hin⟩ := C
  obtain ⟨hdg, hi⟩ := zchk_dec hk
  dsimp only at hdg hi
  simp only [zchkI, Bool.and_eq_true, decide_eq_true_eq] at hi
  obtain ⟨rfl, rfl⟩ := hi
  simp only [zstp] at h
  split at h
  · rename_i x t
    simp only [zgo, Option.some.injEq, Prod.mk.injEq, Sum.inl.injEq, decide_eq_true_eq] at h
    obtain ⟨h0, rfl⟩ := h
    exact lv_istore_n hx hb hdg rfl hlv.has h0 rfl (fun ls' h' => zk0 rfl kk hrel (zLV.sto1 (v := .int x) rfl h') hlo)
  · cases h
theorem zs_lstore {n : Nat} (hk : zchk y (pc, len, (.lstore n), v, b, c0) = true) (h : zstp y (pc, len, (.lstore n), v, b, c0) lv st hp = some (true, .inl res)) : zSnd G y pc lv st hp res := by
  intro p l e R s m args below meth c H locs ls cells slots Q C hn hR hrel hlv hlo hcap1 hcap2 kk
  obtain ⟨hx, hb, hml, hown, hts, hKS, hin⟩ := C
  obtain ⟨hdg, hi⟩ := zchk_dec hk
  dsimp only at hdg hi
  simp only [zchkI, Bool.and_eq_true, decide_eq_true_eq] at hi
  obtain ⟨rfl, rfl⟩ := hi
  simp only [zstp] at h
  split at h
  · rename_i x t
    simp only [zgo, Option.some.injEq, Prod.mk.injEq, Sum.inl.injEq, decide_eq_true_eq] at h
    obtain ⟨h0, rfl⟩ := h
    exact lv_lstore hx hb hdg hlv.has h0 rfl (fun ls' h' => zk0 rfl kk hrel (zLV.sto2 (v := .long x) rfl h') hlo)
  · cases h
theorem zs_lstore_n {n : Fin 4} (hk : zchk y (pc, len, (.lstore_n n), v, b, c0) = true) (h : zstp y (pc, len, (.lstore_n n), v, b, c0) lv st hp = some (true, .inl res)) : zSnd G y pc lv st hp res := by
  intro p l e R s m args below meth c H locs ls cells slots Q C hn hR hrel hlv hlo hcap1 hcap2 kk
  obtain ⟨hx, hb, hml, hown, hts, hKS, hin⟩ := C
  obtain ⟨hdg, hi⟩ := zchk_dec hk
  dsimp only at hdg hi
  simp only [zchkI, Bool.and_eq_true, decide_eq_true_eq] at hi
  obtain ⟨rfl, rfl⟩ := hi
  simp only [zstp] at h
  split at h
  · rename_i x t
    simp only [zgo, Option.some.injEq, Prod.mk.injEq, Sum.inl.injEq, decide_eq_true_eq] at h
    obtain ⟨h0, rfl⟩ := h
    exact lv_lstore_n hx hb hdg rfl hlv.has h0 rfl (fun ls' h' => zk0 rfl kk hrel (zLV.sto2 (v := .long x) rfl h') hlo)
  · cases h
theorem zs_astore {n : Nat} (hk : zchk y (pc, len, (.astore n), v, b, c0) = true) (h : zstp y (pc, len, (.astore n), v, b, c0) lv st hp = some (true, .inl res)) : zSnd G y pc lv st hp res := by
  intro p l e R s m args below meth c H locs ls cells slots Q C hn hR hrel hlv hlo hcap1 hcap2 kk
  obtain ⟨hx, hb, hml, hown, hts, hKS, hin⟩ := C
  obtain ⟨hdg, hi⟩ := zchk_dec hk
  dsimp only at hdg hi
  simp only [zchkI, Bool.and_eq_true, decide_eq_true_eq] at hi
  obtain ⟨rfl, rfl⟩ := hi
  simp only [zstp] at h
  split at h
  · rename_i x t
    simp only [zgo, Option.some.injEq, Prod.mk.injEq, Sum.inl.injEq, decide_eq_true_eq] at h
    obtain ⟨h0, rfl⟩ := h
    exact lv_astore hx hb hdg hlv.has h0 rfl (fun ls' h' => zk0 rfl kk hrel (zLV.sto1 (v := .ref x) rfl h') hlo)
  · cases h
theorem zs_astore_n {n : Fin 4} (hk : zchk y (pc, len, (.astore_n n), v, b, c0) = true) (h : zstp y (pc, len, (.astore_n n), v, b, c0) lv st hp = some (true, .inl res)) : zSnd G y pc lv st hp res := by
  intro p l e R s m args below meth c H locs ls cells slots Q C hn hR hrel hlv hlo hcap1 hcap2 kk
  obtain ⟨hx, hb, hml, hown, hts, hKS, hin⟩ := C
  obtain ⟨hdg, hi⟩ := zchk_dec hk
  dsimp only at hdg hi
  simp only [zchkI, Bool.and_eq_true, decide_eq_true_eq] at hi
  obtain ⟨rfl, rfl⟩ := hi
  simp only [zstp] at h
  split at h
  · rename_i x t
    simp only [zgo, Option.some.injEq, Prod.mk.injEq, Sum.inl.injEq, decide_eq_true_eq] at h
    obtain ⟨h0, rfl⟩ := h
    exact lv_astore_n hx hb hdg rfl hlv.has h0 rfl (fun ls' h' => zk0 rfl kk hrel (zLV.sto1 (v := .ref x) rfl h') hlo)
  · cases h
theorem zs_iinc {i : Nat} {n : Int} (hk : zchk y (pc, len, (.iinc i n), v, b, c0) = true) (h : zstp y (pc, len, (.iinc i n), v, b, c0) lv st hp = some (true, .inl res)) : zSnd G y pc lv st hp res := by
  intro p l e R s m args below meth c H locs ls cells slots Q C hn hR hrel hlv hlo hcap1 hcap2 kk
  obtain ⟨hx, hb, hml, hown, hts, hKS, hin⟩ := C
  obtain ⟨hdg, hi⟩ := zchk_dec hk
  dsimp only at hdg hi
  simp only [zchkI, Bool.and_eq_true, decide_eq_true_eq] at hi
  obtain ⟨⟨rfl, rfl⟩, rfl⟩ := hi
  simp only [zstp] at h
  split at h
  · rename_i x k e1 e2
    simp only [zgo, Option.some.injEq, Prod.mk.injEq, Sum.inl.injEq, decide_eq_true_eq] at h
    obtain ⟨h0, rfl⟩ := h
    cases e2
    obtain ⟨j, hj⟩ := List.getElem?_of_mem ((zlst_in lv 0 (b, zvr (zro G) (.int x))).mpr ⟨.int x, Nat.zero_le _, by simpa using e1, rfl, rfl⟩)
    exact lv_iinc hx hb hdg hlv.has hj rfl h0 rfl (fun ls' h' => zk0 rfl kk hrel (zLV.sto1 (v := .int (x + Int32.ofInt n)) rfl h') hlo)
  · cases h
theorem zs_iadd (hk : zchk y (pc, len, .iadd, v, b, c0) = true) (h : zstp y (pc, len, .iadd, v, b, c0) lv st hp = some (true, .inl res)) : zSnd G y pc lv st hp res := by
  intro p l e R s m args below meth c H locs ls cells slots Q C hn hR hrel hlv hlo hcap1 hcap2 kk
  obtain ⟨hx, hb, hml, hown, hts, hKS, hin⟩ := C
  obtain ⟨hdg, hi⟩ := zchk_dec hk
  dsimp only at hdg hi
  have hl : len = 1 := by simpa [zchkI] using hi
  subst hl
  simp only [zstp, zint2] at h
  split at h
  · simp only [zgo, Option.some.injEq, Prod.mk.injEq, Sum.inl.injEq] at h
    obtain ⟨-, rfl⟩ := h
    exact lv_iadd hx hb hdg (zk0 rfl kk hrel hlv hlo)
  · cases h
theorem zs_isub (hk : zchk y (pc, len, .isub, v, b, c0) = true) (h : zstp y (pc, len, .isub, v, b, c0) lv st hp = some (true, .inl res)) : zSnd G y pc lv st hp res := by
  intro p l e R s m args below meth c H locs ls cells slots Q C hn hR hrel hlv hlo hcap1 hcap2 kk
  obtain ⟨hx, hb, hml, hown, hts, hKS, hin⟩ := C
  obtain ⟨hdg, hi⟩ := zchk_dec hk
  dsimp only at hdg hi
  have hl : len = 1 := by simpa [zchkI] using hi
  subst hl
  simp only [zstp, zint2] at h
  split at h
  · simp only [zgo, Option.some.injEq, Prod.mk.injEq, Sum.inl.injEq] at h
    obtain ⟨-, rfl⟩ := h
    exact lv_isub hx hb hdg (zk0 rfl kk hrel hlv hlo)
  · cases h
theorem zs_imul (hk : zchk y (pc, len, .imul, v, b, c0) = true) (h : zstp y (pc, len, .imul, v, b, c0) lv st hp = some (true, .inl res)) : zSnd G y pc lv st hp res := by
  intro p l e R s m args below meth c H locs ls cells slots Q C hn hR hrel hlv hlo hcap1 hcap2 kk
  obtain ⟨hx, hb, hml, hown, hts, hKS, hin⟩ := C
  obtain ⟨hdg, hi⟩ := zchk_dec hk
  dsimp only at hdg hi
  have hl : len = 1 := by simpa [zchkI] using hi
  subst hl
  simp only [zstp, zint2] at h
  split at h
  · simp only [zgo, Option.some.injEq, Prod.mk.injEq, Sum.inl.injEq] at h
    obtain ⟨-, rfl⟩ := h
    exact lv_imul hx hb hdg (zk0 rfl kk hrel hlv hlo)
  · cases h
theorem zs_iand (hk : zchk y (pc, len, .iand, v, b, c0) = true) (h : zstp y (pc, len, .iand, v, b, c0) lv st hp = some (true, .inl res)) : zSnd G y pc lv st hp res := by
  intro p l e R s m args below meth c H locs ls cells slots Q C hn hR hrel hlv hlo hcap1 hcap2 kk
  obtain ⟨hx, hb, hml, hown, hts, hKS, hin⟩ := C
  obtain ⟨hdg, hi⟩ := zchk_dec hk
  dsimp only at hdg hi
  have hl : len = 1 := by simpa [zchkI] using hi
  subst hl
  simp only [zstp, zint2] at h
  split at h
  · simp only [zgo, Option.some.injEq, Prod.mk.injEq, Sum.inl.injEq] at h
    obtain ⟨-, rfl⟩ := h
    exact lv_iand hx hb hdg (zk0 rfl kk hrel hlv hlo)
  · cases h
theorem zs_ior (hk : zchk y (pc, len, .ior, v, b, c0) = true) (h : zstp y (pc, len, .ior, v, b, c0) lv st hp = some (true, .inl res)) : zSnd G y pc lv st hp res := by
  intro p l e R s m args below meth c H locs ls cells slots Q C hn hR hrel hlv hlo hcap1 hcap2 kk
  obtain ⟨hx, hb, hml, hown, hts, hKS, hin⟩ := C
  obtain ⟨hdg, hi⟩ := zchk_dec hk
  dsimp only at hdg hi
  have hl : len = 1 := by simpa [zchkI] using hi
  subst hl
  simp only [zstp, zint2] at h
  split at h
  · simp only [zgo, Option.some.injEq, Prod.mk.injEq, Sum.inl.injEq] at h
    obtain ⟨-, rfl⟩ := h
    exact lv_ior hx hb hdg (zk0 rfl kk hrel hlv hlo)
  · cases h
theorem zs_ixor (hk : zchk y (pc, len, .ixor, v, b, c0) = true) (h : zstp y (pc, len, .ixor, v, b, c0) lv st hp = some (true, .inl res)) : zSnd G y pc lv st hp res := by
  intro p l e R s m args below meth c H locs ls cells slots Q C hn hR hrel hlv hlo hcap1 hcap2 kk
  obtain ⟨hx, hb, hml, hown, hts, hKS, hin⟩ := C
  obtain ⟨hdg, hi⟩ := zchk_dec hk
  dsimp only at hdg hi
  have hl : len = 1 := by simpa [zchkI] using hi
  subst hl
  simp only [zstp, zint2] at h
  split at h
  · simp only [zgo, Option.some.injEq, Prod.mk.injEq, Sum.inl.injEq] at h
    obtain ⟨-, rfl⟩ := h
    exact lv_ixor hx hb hdg (zk0 rfl kk hrel hlv hlo)
  · cases h
theorem zs_ishl (hk : zchk y (pc, len, .ishl, v, b, c0) = true) (h : zstp y (pc, len, .ishl, v, b, c0) lv st hp = some (true, .inl res)) : zSnd G y pc lv st hp res := by
  intro p l e R s m args below meth c H locs ls cells slots Q C hn hR hrel hlv hlo hcap1 hcap2 kk
  obtain ⟨hx, hb, hml, hown, hts, hKS, hin⟩ := C
  obtain ⟨hdg, hi⟩ := zchk_dec hk
  dsimp only at hdg hi
  have hl : len = 1 := by simpa [zchkI] using hi
  subst hl
  simp only [zstp, zint2] at h
  split at h
  · simp only [zgo, Option.some.injEq, Prod.mk.injEq, Sum.inl.injEq] at h
    obtain ⟨-, rfl⟩ := h
    exact lv_ishl hx hb hdg (zk0 rfl kk hrel hlv hlo)
  · cases h
theorem zs_ishr (hk : zchk y (pc, len, .ishr, v, b, c0) = true) (h : zstp y (pc, len, .ishr, v, b, c0) lv st hp = some (true, .inl res)) : zSnd G y pc lv st hp res := by
  intro p l e R s m args below meth c H locs ls cells slots Q C hn hR hrel hlv hlo hcap1 hcap2 kk
  obtain ⟨hx, hb, hml, hown, hts, hKS, hin⟩ := C
  obtain ⟨hdg, hi⟩ := zchk_dec hk
  dsimp only at hdg hi
  have hl : len = 1 := by simpa [zchkI] using hi
  subst hl
  simp only [zstp, zint2] at h
  split at h
  · simp only [zgo, Option.some.injEq, Prod.mk.injEq, Sum.inl.injEq] at h
    obtain ⟨-, rfl⟩ := h
    exact lv_ishr hx hb hdg (zk0 rfl kk hrel hlv hlo)
  · cases h
theorem zs_iushr (hk : zchk y (pc, len, .iushr, v, b, c0) = true) (h : zstp y (pc, len, .iushr, v, b, c0) lv st hp = some (true, .inl res)) : zSnd G y pc lv st hp res := by
  intro p l e R s m args below meth c H locs ls cells slots Q C hn hR hrel hlv hlo hcap1 hcap2 kk
  obtain ⟨hx, hb, hml, hown, hts, hKS, hin⟩ := C
  obtain ⟨hdg, hi⟩ := zchk_dec hk
  dsimp only at hdg hi
  have hl : len = 1 := by simpa [zchkI] using hi
  subst hl
  simp only [zstp, zint2] at h
  split at h
  · simp only [zgo, Option.some.injEq, Prod.mk.injEq, Sum.inl.injEq] at h
    obtain ⟨-, rfl⟩ := h
    exact lv_iushr hx hb hdg rfl (zk0 rfl kk hrel hlv hlo)
  · cases h
theorem zs_ladd (hk : zchk y (pc, len, .ladd, v, b, c0) = true) (h : zstp y (pc, len, .ladd, v, b, c0) lv st hp = some (true, .inl res)) : zSnd G y pc lv st hp res := by
  intro p l e R s m args below meth c H locs ls cells slots Q C hn hR hrel hlv hlo hcap1 hcap2 kk
  obtain ⟨hx, hb, hml, hown, hts, hKS, hin⟩ := C
  obtain ⟨hdg, hi⟩ := zchk_dec hk
  dsimp only at hdg hi
  have hl : len = 1 := by simpa [zchkI] using hi
  subst hl
  simp only [zstp, zlong2] at h
  split at h
  · simp only [zgo, Option.some.injEq, Prod.mk.injEq, Sum.inl.injEq] at h
    obtain ⟨-, rfl⟩ := h
    exact lv_ladd hx hb hdg (zk0 rfl kk hrel hlv hlo)
  · cases h
theorem zs_lsub (hk : zchk y (pc, len, .lsub, v, b, c0) = true) (h : zstp y (pc, len, .lsub, v, b, c0) lv st hp = some (true, .inl res)) : zSnd G y pc lv st hp res := by
  intro p l e R s m args below meth c H locs ls cells slots Q C hn hR hrel hlv hlo hcap1 hcap2 kk
  obtain ⟨hx, hb, hml, hown, hts, hKS, hin⟩ := C
  obtain ⟨hdg, hi⟩ := zchk_dec hk
  dsimp only at hdg hi
  have hl : len = 1 := by simpa [zchkI] using hi
  subst hl
  simp only [zstp, zlong2] at h
  split at h
  · simp only [zgo, Option.some.injEq, Prod.mk.injEq, Sum.inl.injEq] at h
    obtain ⟨-, rfl⟩ := h
    exact lv_lsub hx hb hdg (zk0 rfl kk hrel hlv hlo)
  · cases h
theorem zs_lmul (hk : zchk y (pc, len, .lmul, v, b, c0) = true) (h : zstp y (pc, len, .lmul, v, b, c0) lv st hp = some (true, .inl res)) : zSnd G y pc lv st hp res := by
  intro p l e R s m args below meth c H locs ls cells slots Q C hn hR hrel hlv hlo hcap1 hcap2 kk
  obtain ⟨hx, hb, hml, hown, hts, hKS, hin⟩ := C
  obtain ⟨hdg, hi⟩ := zchk_dec hk
  dsimp only at hdg hi
  have hl : len = 1 := by simpa [zchkI] using hi
  subst hl
  simp only [zstp, zlong2] at h
  split at h
  · simp only [zgo, Option.some.injEq, Prod.mk.injEq, Sum.inl.injEq] at h
    obtain ⟨-, rfl⟩ := h
    exact lv_lmul hx hb hdg (zk0 rfl kk hrel hlv hlo)
  · cases h
theorem zs_idiv (hk : zchk y (pc, len, .idiv, v, b, c0) = true) (h : zstp y (pc, len, .idiv, v, b, c0) lv st hp = some (true, .inl res)) : zSnd G y pc lv st hp res := by
  intro p l e R s m args below meth c H locs ls cells slots Q C hn hR hrel hlv hlo hcap1 hcap2 kk
  obtain ⟨hx, hb, hml, hown, hts, hKS, hin⟩ := C
  obtain ⟨hdg, hi⟩ := zchk_dec hk
  dsimp only at hdg hi
  have hl : len = 1 := by simpa [zchkI] using hi
  subst hl
  simp only [zstp] at h
  split at h
  · simp only [zgo, Option.some.injEq, Prod.mk.injEq, Sum.inl.injEq, decide_eq_true_eq] at h
    obtain ⟨h0, rfl⟩ := h
    exact lv_idiv hx hb hdg h0 (zk0 rfl kk hrel hlv hlo)
  · cases h
theorem zs_irem (hk : zchk y (pc, len, .irem, v, b, c0) = true) (h : zstp y (pc, len, .irem, v, b, c0) lv st hp = some (true, .inl res)) : zSnd G y pc lv st hp res := by
  intro p l e R s m args below meth c H locs ls cells slots Q C hn hR hrel hlv hlo hcap1 hcap2 kk
  obtain ⟨hx, hb, hml, hown, hts, hKS, hin⟩ := C
  obtain ⟨hdg, hi⟩ := zchk_dec hk
  dsimp only at hdg hi
  have hl : len = 1 := by simpa [zchkI] using hi
  subst hl
  simp only [zstp] at h
  split at h
  · simp only [zgo, Option.some.injEq, Prod.mk.injEq, Sum.inl.injEq, decide_eq_true_eq] at h
    obtain ⟨h0, rfl⟩ := h
    exact lv_irem hx hb hdg h0 (zk0 rfl kk hrel hlv hlo)
  · cases h
theorem zs_ldiv (hk : zchk y (pc, len, .ldiv, v, b, c0) = true) (h : zstp y (pc, len, .ldiv, v, b, c0) lv st hp = some (true, .inl res)) : zSnd G y pc lv st hp res := by
  intro p l e R s m args below meth c H locs ls cells slots Q C hn hR hrel hlv hlo hcap1 hcap2 kk
  obtain ⟨hx, hb, hml, hown, hts, hKS, hin⟩ := C
  obtain ⟨hdg, hi⟩ := zchk_dec hk
  dsimp only at hdg hi
  have hl : len = 1 := by simpa [zchkI] using hi
  subst hl
  simp only [zstp] at h
  split at h
  · simp only [zgo, Option.some.injEq, Prod.mk.injEq, Sum.inl.injEq, decide_eq_true_eq] at h
    obtain ⟨h0, rfl⟩ := h
    exact lv_ldiv hx hb hdg h0 (zk0 rfl kk hrel hlv hlo)
  · cases h
theorem zs_ineg (hk : zchk y (pc, len, .ineg, v, b, c0) = true) (h : zstp y (pc, len, .ineg, v, b, c0) lv st hp = some (true, .inl res)) : zSnd G y pc lv st hp res := by
  intro p l e R s m args below meth c H locs ls cells slots Q C hn hR hrel hlv hlo hcap1 hcap2 kk
  obtain ⟨hx, hb, hml, hown, hts, hKS, hin⟩ := C
  obtain ⟨hdg, hi⟩ := zchk_dec hk
  dsimp only at hdg hi
  have hl : len = 1 := by simpa [zchkI] using hi
  subst hl
  simp only [zstp] at h
  split at h
  · simp only [zgo, Option.some.injEq, Prod.mk.injEq, Sum.inl.injEq] at h
    obtain ⟨-, rfl⟩ := h
    exact lv_ineg hx hb hdg (zk0 rfl kk hrel hlv hlo)
  · cases h
theorem zs_lcmp (hk : zchk y (pc, len, .lcmp, v, b, c0) = true) (h : zstp y (pc, len, .lcmp, v, b, c0) lv st hp = some (true, .inl res)) : zSnd G y pc lv st hp res := by
  intro p l e R s m args below meth c H locs ls cells slots Q C hn hR hrel hlv hlo hcap1 hcap2 kk
  obtain ⟨hx, hb, hml, hown, hts, hKS, hin⟩ := C
  obtain ⟨hdg, hi⟩ := zchk_dec hk
  dsimp only at hdg hi
  have hl : len = 1 := by simpa [zchkI] using hi
  subst hl
  simp only [zstp] at h
  split at h
  · simp only [zgo, Option.some.injEq, Prod.mk.injEq, Sum.inl.injEq] at h
    obtain ⟨-, rfl⟩ := h
    exact W.lcmp hx hb hdg (zk0 rfl kk hrel hlv hlo)
  · cases h
theorem zs_i2l (hk : zchk y (pc, len, .i2l, v, b, c0) = true) (h : zstp y (pc, len, .i2l, v, b, c0) lv st hp = some (true, .inl res)) : zSnd G y pc lv st hp res := by
  intro p l e R s m args below meth c H locs ls cells slots Q C hn hR hrel hlv hlo hcap1 hcap2 kk
  obtain ⟨hx, hb, hml, hown, hts, hKS, hin⟩ := C
  obtain ⟨hdg, hi⟩ := zchk_dec hk
  dsimp only at hdg hi
  have hl : len = 1 := by simpa [zchkI] using hi
  subst hl
  simp only [zstp] at h
  split at h
  · simp only [zgo, Option.some.injEq, Prod.mk.injEq, Sum.inl.injEq] at h
    obtain ⟨-, rfl⟩ := h
    exact lv_i2l hx hb hdg rfl (zk0 rfl kk hrel hlv hlo)
  · cases h
theorem zs_l2i (hk : zchk y (pc, len, .l2i, v, b, c0) = true) (h : zstp y (pc, len, .l2i, v, b, c0) lv st hp = some (true, .inl res)) : zSnd G y pc lv st hp res := by
  intro p l e R s m args below meth c H locs ls cells slots Q C hn hR hrel hlv hlo hcap1 hcap2 kk
  obtain ⟨hx, hb, hml, hown, hts, hKS, hin⟩ := C
  obtain ⟨hdg, hi⟩ := zchk_dec hk
  dsimp only at hdg hi
  have hl : len = 1 := by simpa [zchkI] using hi
  subst hl
  simp only [zstp] at h
  split at h
  · simp only [zgo, Option.some.injEq, Prod.mk.injEq, Sum.inl.injEq] at h
    obtain ⟨-, rfl⟩ := h
    exact lv_l2i hx hb hdg rfl (zk0 rfl kk hrel hlv hlo)
  · cases h
theorem zs_i2s (hk : zchk y (pc, len, .i2s, v, b, c0) = true) (h : zstp y (pc, len, .i2s, v, b, c0) lv st hp = some (true, .inl res)) : zSnd G y pc lv st hp res := by
  intro p l e R s m args below meth c H locs ls cells slots Q C hn hR hrel hlv hlo hcap1 hcap2 kk
  obtain ⟨hx, hb, hml, hown, hts, hKS, hin⟩ := C
  obtain ⟨hdg, hi⟩ := zchk_dec hk
  dsimp only at hdg hi
  have hl : len = 1 := by simpa [zchkI] using hi
  subst hl
  simp only [zstp] at h
  split at h
  · simp only [zgo, Option.some.injEq, Prod.mk.injEq, Sum.inl.injEq] at h
    obtain ⟨-, rfl⟩ := h
    exact lv_i2s hx hb hdg rfl (zk0 rfl kk hrel hlv hlo)
  · cases h
theorem zs_i2c (hk : zchk y (pc, len, .i2c, v, b, c0) = true) (h : zstp y (pc, len, .i2c, v, b, c0) lv st hp = some (true, .inl res)) : zSnd G y pc lv st hp res := by
  intro p l e R s m args below meth c H locs ls cells slots Q C hn hR hrel hlv hlo hcap1 hcap2 kk
  obtain ⟨hx, hb, hml, hown, hts, hKS, hin⟩ := C
  obtain ⟨hdg, hi⟩ := zchk_dec hk
  dsimp only at hdg hi
  have hl : len = 1 := by simpa [zchkI] using hi
  subst hl
  simp only [zstp] at h
  split at h
  · simp only [zgo, Option.some.injEq, Prod.mk.injEq, Sum.inl.injEq] at h
    obtain ⟨-, rfl⟩ := h
    exact lv_i2c hx hb hdg rfl (zk0 rfl kk hrel hlv hlo)
  · cases h
theorem zs_pop (hk : zchk y (pc, len, .pop, v, b, c0) = true) (h : zstp y (pc, len, .pop, v, b, c0) lv st hp = some (true, .inl res)) : zSnd G y pc lv st hp res := by
  intro p l e R s m args below meth c H locs ls cells slots Q C hn hR hrel hlv hlo hcap1 hcap2 kk
  obtain ⟨hx, hb, hml, hown, hts, hKS, hin⟩ := C
  obtain ⟨hdg, hi⟩ := zchk_dec hk
  dsimp only at hdg hi
  have hl : len = 1 := by simpa [zchkI] using hi
  subst hl
  simp only [zstp] at h
  split at h
  · simp only [zgo, Option.some.injEq, Prod.mk.injEq, Sum.inl.injEq] at h
    obtain ⟨-, rfl⟩ := h
    exact lv_pop hx hb hdg rfl (zk0 rfl kk hrel hlv hlo)
  · simp only [zgo, Option.some.injEq, Prod.mk.injEq, Sum.inl.injEq] at h
    obtain ⟨-, rfl⟩ := h
    exact lv_pop hx hb hdg rfl (zk0 rfl kk hrel hlv hlo)
  · cases h
theorem zs_dup (hk : zchk y (pc, len, .dup, v, b, c0) = true) (h : zstp y (pc, len, .dup, v, b, c0) lv st hp = some (true, .inl res)) : zSnd G y pc lv st hp res := by
  intro p l e R s m args below meth c H locs ls cells slots Q C hn hR hrel hlv hlo hcap1 hcap2 kk
  obtain ⟨hx, hb, hml, hown, hts, hKS, hin⟩ := C
  obtain ⟨hdg, hi⟩ := zchk_dec hk
  dsimp only at hdg hi
  have hl : len = 1 := by simpa [zchkI] using hi
  subst hl
  simp only [zstp] at h
  split at h
  · simp only [zgo, Option.some.injEq, Prod.mk.injEq, Sum.inl.injEq] at h
    obtain ⟨-, rfl⟩ := h
    exact lv_dup hx hb hdg rfl (zk0 rfl kk hrel hlv hlo)
  · simp only [zgo, Option.some.injEq, Prod.mk.injEq, Sum.inl.injEq] at h
    obtain ⟨-, rfl⟩ := h
    exact lv_dup hx hb hdg rfl (zk0 rfl kk hrel hlv hlo)
  · cases h
theorem zs_dup_x1 (hk : zchk y (pc, len, .dup_x1, v, b, c0) = true) (h : zstp y (pc, len, .dup_x1, v, b, c0) lv st hp = some (true, .inl res)) : zSnd G y pc lv st hp res := by
  intro p l e R s m args below meth c H locs ls cells slots Q C hn hR hrel hlv hlo hcap1 hcap2 kk
  obtain ⟨hx, hb, hml, hown, hts, hKS, hin⟩ := C
  obtain ⟨hdg, hi⟩ := zchk_dec hk
  dsimp only at hdg hi
  have hl : len = 1 := by simpa [zchkI] using hi
  subst hl
  simp only [zstp] at h
  split at h
  · simp only [zgo, Option.some.injEq, Prod.mk.injEq, Sum.inl.injEq] at h
    obtain ⟨-, rfl⟩ := h
    exact lv_dup_x1 hx hb hdg rfl rfl (zk0 rfl kk hrel hlv hlo)
  · cases h
theorem zs_dup2 (hk : zchk y (pc, len, .dup2, v, b, c0) = true) (h : zstp y (pc, len, .dup2, v, b, c0) lv st hp = some (true, .inl res)) : zSnd G y pc lv st hp res := by
  intro p l e R s m args below meth c H locs ls cells slots Q C hn hR hrel hlv hlo hcap1 hcap2 kk
  obtain ⟨hx, hb, hml, hown, hts, hKS, hin⟩ := C
  obtain ⟨hdg, hi⟩ := zchk_dec hk
  dsimp only at hdg hi
  have hl : len = 1 := by simpa [zchkI] using hi
  subst hl
  simp only [zstp] at h
  split at h
  · simp only [zgo, Option.some.injEq, Prod.mk.injEq, Sum.inl.injEq] at h
    obtain ⟨-, rfl⟩ := h
    exact lv_dup2_11 hx hb hdg rfl rfl (zk0 rfl kk hrel hlv hlo)
  · cases h
theorem zs_goto {n : Int} (hk : zchk y (pc, len, (.goto n), v, b, c0) = true) (h : zstp y (pc, len, (.goto n), v, b, c0) lv st hp = some (true, .inl res)) : zSnd G y pc lv st hp res := by
  intro p l e R s m args below meth c H locs ls cells slots Q C hn hR hrel hlv hlo hcap1 hcap2 kk
  obtain ⟨hx, hb, hml, hown, hts, hKS, hin⟩ := C
  obtain ⟨hdg, hi⟩ := zchk_dec hk
  dsimp only at hdg hi
  simp only [zchkI, Bool.and_eq_true, decide_eq_true_eq] at hi
  obtain ⟨ht, rfl⟩ := hi
  simp only [zstp] at h
  simp only [zgo, Option.some.injEq, Prod.mk.injEq, Sum.inl.injEq] at h
  obtain ⟨-, rfl⟩ := h
  exact lv_goto hx hb hdg ht (zk0 rfl kk hrel hlv hlo)
theorem zs_ifCond {cd : ClassFile.Cond} {n : Int} (hk : zchk y (pc, len, (.ifCond cd n), v, b, c0) = true) (h : zstp y (pc, len, (.ifCond cd n), v, b, c0) lv st hp = some (true, .inl res)) : zSnd G y pc lv st hp res := by
  intro p l e R s m args below meth c H locs ls cells slots Q C hn hR hrel hlv hlo hcap1 hcap2 kk
  obtain ⟨hx, hb, hml, hown, hts, hKS, hin⟩ := C
  obtain ⟨hdg, hi⟩ := zchk_dec hk
  dsimp only at hdg hi
  simp only [zchkI, Bool.and_eq_true, decide_eq_true_eq] at hi
  obtain ⟨ht, rfl⟩ := hi
  simp only [zstp] at h
  split at h
  · simp only [zgo, Option.some.injEq, Prod.mk.injEq, Sum.inl.injEq] at h
    obtain ⟨-, rfl⟩ := h
    cases cd
    · refine lv_if_eq hx hb hdg ht (fun hc => ?_) (fun hc => ?_)
      · have := zk0 rfl kk hrel hlv hlo
        simp only [zcond, decide_eq_true hc, cond_true] at this
        exact this
      · have := zk0 rfl kk hrel hlv hlo
        simp only [zcond, decide_eq_false hc, cond_false] at this
        exact this
    · refine lv_if_ne hx hb hdg ht (fun hc => ?_) (fun hc => ?_)
      · have := zk0 rfl kk hrel hlv hlo
        simp only [zcond, decide_eq_true hc, cond_true] at this
        exact this
      · have := zk0 rfl kk hrel hlv hlo
        simp only [zcond, show decide (¬ _) = false from decide_eq_false (fun q => q hc), cond_false] at this
        exact this
    · refine lv_if_lt hx hb hdg ht (fun hc => ?_) (fun hc => ?_)
      · have := zk0 rfl kk hrel hlv hlo
        simp only [zcond, decide_eq_true hc, cond_true] at this
        exact this
      · have := zk0 rfl kk hrel hlv hlo
        simp only [zcond, decide_eq_false hc, cond_false] at this
        exact this
    · refine lv_if_ge hx hb hdg ht (fun hc => ?_) (fun hc => ?_)
      · have := zk0 rfl kk hrel hlv hlo
        simp only [zcond, decide_eq_true hc, cond_true] at this
        exact this
      · have := zk0 rfl kk hrel hlv hlo
        simp only [zcond, decide_eq_false hc, cond_false] at this
        exact this
    · refine lv_if_gt hx hb hdg ht (fun hc => ?_) (fun hc => ?_)
      · have := zk0 rfl kk hrel hlv hlo
        simp only [zcond, decide_eq_true hc, cond_true] at this
        exact this
      · have := zk0 rfl kk hrel hlv hlo
        simp only [zcond, decide_eq_false hc, cond_false] at this
        exact this
    · refine lv_if_le hx hb hdg ht (fun hc => ?_) (fun hc => ?_)
      · have := zk0 rfl kk hrel hlv hlo
        simp only [zcond, decide_eq_true hc, cond_true] at this
        exact this
      · have := zk0 rfl kk hrel hlv hlo
        simp only [zcond, decide_eq_false hc, cond_false] at this
        exact this
  · cases h
theorem zs_if_icmp {cd : ClassFile.Cond} {n : Int} (hk : zchk y (pc, len, (.if_icmp cd n), v, b, c0) = true) (h : zstp y (pc, len, (.if_icmp cd n), v, b, c0) lv st hp = some (true, .inl res)) : zSnd G y pc lv st hp res := by
  intro p l e R s m args below meth c H locs ls cells slots Q C hn hR hrel hlv hlo hcap1 hcap2 kk
  obtain ⟨hx, hb, hml, hown, hts, hKS, hin⟩ := C
  obtain ⟨hdg, hi⟩ := zchk_dec hk
  dsimp only at hdg hi
  simp only [zchkI, Bool.and_eq_true, decide_eq_true_eq] at hi
  obtain ⟨ht, rfl⟩ := hi
  simp only [zstp] at h
  split at h
  · simp only [zgo, Option.some.injEq, Prod.mk.injEq, Sum.inl.injEq] at h
    obtain ⟨-, rfl⟩ := h
    cases cd
    · refine lv_icmp_eq hx hb hdg ht (fun hc => ?_) (fun hc => ?_)
      · have := zk0 rfl kk hrel hlv hlo
        simp only [zcond, decide_eq_true hc, cond_true] at this
        exact this
      · have := zk0 rfl kk hrel hlv hlo
        simp only [zcond, decide_eq_false hc, cond_false] at this
        exact this
    · refine lv_icmp_ne hx hb hdg ht (fun hc => ?_) (fun hc => ?_)
      · have := zk0 rfl kk hrel hlv hlo
        simp only [zcond, decide_eq_true hc, cond_true] at this
        exact this
      · have := zk0 rfl kk hrel hlv hlo
        simp only [zcond, show decide (¬ _) = false from decide_eq_false (fun q => q hc), cond_false] at this
        exact this
    · refine lv_icmp_lt hx hb hdg ht (fun hc => ?_) (fun hc => ?_)
      · have := zk0 rfl kk hrel hlv hlo
        simp only [zcond, decide_eq_true hc, cond_true] at this
        exact this
      · have := zk0 rfl kk hrel hlv hlo
        simp only [zcond, decide_eq_false hc, cond_false] at this
        exact this
    · refine lv_icmp_ge hx hb hdg ht (fun hc => ?_) (fun hc => ?_)
      · have := zk0 rfl kk hrel hlv hlo
        simp only [zcond, decide_eq_true hc, cond_true] at this
        exact this
      · have := zk0 rfl kk hrel hlv hlo
        simp only [zcond, decide_eq_false hc, cond_false] at this
        exact this
    · refine lv_icmp_gt hx hb hdg ht (fun hc => ?_) (fun hc => ?_)
      · have := zk0 rfl kk hrel hlv hlo
        simp only [zcond, decide_eq_true hc, cond_true] at this
        exact this
      · have := zk0 rfl kk hrel hlv hlo
        simp only [zcond, decide_eq_false hc, cond_false] at this
        exact this
    · refine lv_icmp_le hx hb hdg ht (fun hc => ?_) (fun hc => ?_)
      · have := zk0 rfl kk hrel hlv hlo
        simp only [zcond, decide_eq_true hc, cond_true] at this
        exact this
      · have := zk0 rfl kk hrel hlv hlo
        simp only [zcond, decide_eq_false hc, cond_false] at this
        exact this
  · cases h
theorem zs_tableswitch {dflt lo hi' : Int} {offs : Array Int} (hk : zchk y (pc, len, (.tableswitch dflt lo hi' offs), v, b, c0) = true) (h : zstp y (pc, len, (.tableswitch dflt lo hi' offs), v, b, c0) lv st hp = some (true, .inl res)) : zSnd G y pc lv st hp res := by
  intro p l e R s m args below meth c H locs ls cells slots Q C hn hR hrel hlv hlo hcap1 hcap2 kk
  obtain ⟨hx, hb, hml, hown, hts, hKS, hin⟩ := C
  obtain ⟨hdg, hi⟩ := zchk_dec hk
  dsimp only at hdg hi
  simp only [zchkI, Bool.and_eq_true, decide_eq_true_eq] at hi
  obtain ⟨⟨⟨h1, h2⟩, h3⟩, h4⟩ := hi
  simp only [zstp] at h
  split at h
  · rename_i x t
    simp only [zgo, Option.some.injEq, Prod.mk.injEq, Sum.inl.injEq] at h
    obtain ⟨-, rfl⟩ := h
    have K := zk0 rfl kk hrel hlv hlo
    by_cases hc : x.toInt < lo ∨ hi' < x.toInt
    · refine lv_tableOut hx hb hdg hc (tgt := ((pc : Int) + dflt).toNat) (by omega) ?_
      rw [zswT, if_pos hc] at K
      exact K
    · have hc1 : ¬ x.toInt < lo := fun q => hc (Or.inl q)
      have hc2 : ¬ hi' < x.toInt := fun q => hc (Or.inr q)
      have hlt : (x.toInt - lo).toNat < offs.size := by omega
      have hg : offs[(x.toInt - lo).toNat]? = some offs[(x.toInt - lo).toNat] := Array.getElem?_eq_getElem hlt
      have h0 : 0 ≤ (pc : Int) + offs[(x.toInt - lo).toNat] := by
        have := (Array.all_eq_true.mp h2) _ hlt
        simpa using this
      refine lv_tableIn hx hb hdg hc1 hc2 hg (tgt := ((pc : Int) + offs[(x.toInt - lo).toNat]).toNat) (by omega) ?_
      rw [zswT, if_neg hc, show offs.getD (x.toInt - lo).toNat 0 = offs[(x.toInt - lo).toNat] by rw [Array.getD_eq_getD_getElem?, hg]; rfl] at K
      exact K
  · cases h
theorem zs_lookupswitch {dflt : Int} {ps : Array (Int × Int)} (hk : zchk y (pc, len, (.lookupswitch dflt ps), v, b, c0) = true) (h : zstp y (pc, len, (.lookupswitch dflt ps), v, b, c0) lv st hp = some (true, .inl res)) : zSnd G y pc lv st hp res := by
  intro p l e R s m args below meth c H locs ls cells slots Q C hn hR hrel hlv hlo hcap1 hcap2 kk
  obtain ⟨hx, hb, hml, hown, hts, hKS, hin⟩ := C
  obtain ⟨hdg, hi⟩ := zchk_dec hk
  dsimp only at hdg hi
  simp only [zchkI, Bool.and_eq_true, decide_eq_true_eq] at hi
  obtain ⟨⟨h1, h2⟩, h3⟩ := hi
  simp only [zstp] at h
  split at h
  · rename_i x t
    simp only [zgo, Option.some.injEq, Prod.mk.injEq, Sum.inl.injEq] at h
    obtain ⟨-, rfl⟩ := h
    have K := zk0 rfl kk hrel hlv hlo
    have hoff : ∀ (l : List (Int × Int)), (∀ q ∈ l, 0 ≤ (pc : Int) + q.2) → 0 ≤ (pc : Int) + Op.lookupswitch.offset l dflt x.toInt := by
      intro l
      induction l with
      | nil => intro _; exact h1
      | cons q r ih =>
        intro hq
        unfold Op.lookupswitch.offset
        split
        · exact hq q List.mem_cons_self
        · exact ih (fun z hz => hq z (List.mem_cons_of_mem _ hz))
    have h4 := hoff ps.toList (fun q hq => by
      have h5 := Array.all_eq_true.mp h2
      obtain ⟨j, hj, rfl⟩ := List.mem_iff_getElem.mp hq
      have := h5 j (by simpa using hj)
      simpa using this)
    refine lv_lookup hx hb hdg h3 rfl (tgt := zswL pc dflt ps x) (by unfold zswL; omega) ?_
    exact K
  · cases h
end ZS
