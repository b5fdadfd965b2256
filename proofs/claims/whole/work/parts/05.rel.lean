/-! THE SMALL HEAP AND THE MACHINE'S: what it means that a heap holds a small heap -/
/-- what is fixed in a run: classes and slots, array classes, the script's address and the last old one, the addresses of the String constants and of their bytes, the heap at the start, the script -/
abbrev zG : Type := va_G × (Nat → ClassId) × (Nat × Nat) × ((Nat → Nat) × (Nat → Nat)) × Heap × Nat × (Nat → Int32)
abbrev zgB (G : zG) : Nat := G.2.2.1.2
abbrev zgH (G : zG) : Heap := G.2.2.2.2.1
abbrev zgA (G : zG) : Nat → Prop := fun q => G.2.2.1.2 < q
def zro (G : zG) (k : Nat) : Nat := if k = 0 then G.2.2.1.1 else if 1000000 ≤ k then G.2.2.2.1.1 (k - 1000000) else G.2.2.1.2 + k
def zvr (ro : Nat → Nat) : Value → Value
  | .ref k => .ref (ro k)
  | v => v
def zop (ro : Nat → Nat) (p : Nat) : Option Nat := if p = 0 then none else some (ro p)
def zfv (ro : Nat → Nat) (ci : Nat) (I : Nat → Int32) (P : Nat → Nat) (k : Nat) : Value := if zfk ci k = 0 then va_rf (zop ro (P k)) else .int (I k)
def zfs (ro : Nat → Nat) (ci : Nat) (I : Nat → Int32) (P : Nat → Nat) : List Value := (List.range (znf ci)).map (zfv ro ci I P)
def zE (ro : Nat → Nat) (cy : Nat → ClassId) (sh : Nat × Nat) (I : Nat → Int32) (P : Nat → Nat) : va_E := match sh.1 with
  | 0 => .inr (sh.2, zfs ro sh.2 I P)
  | 1 => .inl (cy 1, sh.2, .inl I)
  | 2 => .inl (cy 2, sh.2, .inl I)
  | k + 3 => .inl (cy (k + 3), sh.2, .inr (.inr (.inr (.inr fun i => zop ro (P i)))))
def zat (G : zG) (hp : zHp) (k : Nat) (H : Heap) : Prop := va_at G.1 zcl (zgB G + k, zE (zro G) G.2.1 (zshp hp.1 k) (hp.2.1 k) (hp.2.2 k)) H
def zRel (G : zG) (hp : zHp) (H : Heap) : Prop :=
  H.size = zgB G + hp.1.length ∧ (∀ k, 1 ≤ k → k < hp.1.length → zat G hp k H) ∧ (∀ q, q ≤ zgB G → H[q]? = (zgH G)[q]?) ∧ zshp hp.1 0 = (1, G.2.2.2.2.2.1) ∧ (∀ j, j < G.2.2.2.2.2.1 → hp.2.1 0 j = G.2.2.2.2.2.2 j) ∧ 1 ≤ hp.1.length ∧ hp.1.length ≤ 950000
/-- the types of the array kinds 1 .. 9 -/
def zat9 : List FieldType := [.int, .short, .object "RockTugs$Sun", .object "RockTugs$Rock", .object "RockTugs$Tug", .object "RockTugs$Contract", .object "RockTugs$Window", .object "RockTugs$Rows", .array .short]
def ztys (cy : Nat → ClassId) : List (ClassId × FieldType) := (List.range 9).map fun i => (cy (i + 1), zat9.getD i .int)
/-- the bytes of the String constants -/
def zsb (j : Nat) : List Int32 := (zstr j).map nI
def zKT (G : zG) (s : State) : Prop := (∀ e ∈ zLT, vk_R (zRn e.1) e.2.1 (zst e.2.2) (G.2.2.2.1.1 e.2.2) s) ∧ vk_S 2 [(zstr 0).length, (zstr 1).length] [zsb 0, zsb 1] G.2.2.2.1.1 G.2.2.2.1.2 (zgA G) s (zgH G) ∧ va_Z "java/lang/String" "COMPACT_STRINGS" "Z" (.int 1) (zgA G) s (zgH G) ∧ ∃ v, (v = .null ∨ ∃ a, v = .ref a) ∧ va_Z "jdk/internal/util/Preconditions" "SIOOBE_FORMATTER" "Ljava/util/function/BiFunction;" v (zgA G) s (zgH G)
/-- what the tables of a state say -/
def zKS (G : zG) (s : State) : Prop :=
  va_K G.1 zcl (ztys G.2.1) s ∧ va_X G.2.2.1.1 G.2.2.2.2.2.1 G.2.2.2.2.2.2 s (zgH G) ∧ (G.2.2.1.1 ≤ zgB G ∧ (zgH G).size = zgB G + 1) ∧ (∀ e ∈ zLH, va_Nw (.methodLinkNest (zRn e.1) e.2.1 (zM e.2.2).1 "RockTugs") s) ∧ (∀ j, j < 6 → va_AO (zRn (([7, 3, 8, 1, 9, 4] : List Nat).getD j 99)) s) ∧ (Cond.arrayOver (.array .short)).before #[] s = true ∧ zKT G s
theorem zAOA {u U : State} {A : Array Value} (hvm : u.vm.Alike U.vm) (h : (Cond.arrayOver (.array .short)).before A u = true) : (Cond.arrayOver (.array .short)).before #[] U = true := by
  obtain ⟨comp, c, k, h1, h2, h3, h4, h5⟩ := arrayOverA_spec h
  obtain ⟨k', hk', he⟩ := hvm.2.2 _ _ h3
  have hi : (U.vm.classes.findIdx? fun (x : Class) => match x.kind with | .array component _ => component == comp | _ => false) = some c := by
    rw [hvm.findIdx?_eq _ (fun _ => rfl)]
    exact h2
  have hkind : k'.kind = .array comp (.array .short) := by rw [he]; exact h4
  have f1 : U.vm.findClass (FieldType.array .short).toString = some comp := by rw [hvm.findClass]; exact h1
  have f2 : U.vm.findClass ("[" ++ (FieldType.array .short).toString) = some c := by rw [hvm.findClass]; exact h5
  unfold Cond.before Cond.holds
  simp only [Cond.value]
  rw [f1, Option.bind_some]
  refine (congrArg (fun o : Option Nat => (o.bind (fun c => (U.vm.classes[c]?).map fun (k : Class) => match k.kind with | .array _ ty => decide (ty = FieldType.array .short) && decide (U.vm.findClass ("[" ++ (FieldType.array .short).toString) = some c) | _ => false) == some true)) hi).trans ?_
  simp [hk', hkind, f2]
theorem zKS.warm {G : zG} {s U : State} (hW : s.WarmedH U.vm) (h : zKS G s) : zKS G U := by
  obtain ⟨h1, h2, h3, h4, h5, h6, h7, h8, h9, v, hv, h10⟩ := h
  exact ⟨va_K.moved hW.alike h1, va_X.moved hW.alike h2, h3, fun e he => va_Nw.warmM hW (h4 e he), fun j hj => va_AO.moved hW.alike (h5 j hj), zAOA hW.alike h6, fun e he => vk_R.warm hW (h7 e he), h8.moved hW.alike, h9.moved hW.alike, v, hv, h10.moved hW.alike⟩
theorem zKS.same {G : zG} {s U : State} (hv : s.vm = U.vm) (h : zKS G s) : zKS G U := by
  refine zKS.warm ?_ h
  rw [← hv]
  exact State.WarmedH.refl s
/-- the locals -/
def zLV (ro : Nat → Nat) (ls : Array Slot) (lv : List Value) : Prop := ls.size = lv.length ∧ lv_wf ls ∧ ∀ (i : Nat) (v : Value), lv[i]? = some v → (∀ k, v ≠ .retAddr k) → ls[i]? = some (.val (zvr ro v))
def zisR : Value → Bool
  | .retAddr _ => true
  | _ => false
theorem zisR_ne {v : Value} : zisR v = false ↔ ∀ k, v ≠ .retAddr k := by
  cases v <;> simp [zisR]
def zlst (ro : Nat → Nat) : Nat → List Value → List (Nat × Value)
  | _, [] => []
  | i, v :: vs => if zisR v = true then zlst ro (i + 1) vs else (i, zvr ro v) :: zlst ro (i + 1) vs
theorem zlst_in {ro : Nat → Nat} : ∀ (lv : List Value) (i : Nat) (q : Nat × Value), q ∈ zlst ro i lv ↔ ∃ v, i ≤ q.1 ∧ lv[q.1 - i]? = some v ∧ zisR v = false ∧ q.2 = zvr ro v := by
  intro lv
  induction lv with
  | nil => intro i q; simp [zlst]
  | cons u vs ih =>
    intro i q
    have step : (q ∈ zlst ro (i + 1) vs) ↔ ∃ v, i + 1 ≤ q.1 ∧ (u :: vs)[q.1 - i]? = some v ∧ zisR v = false ∧ q.2 = zvr ro v := by
      rw [ih (i + 1) q]
      constructor
      · rintro ⟨v, h1, h2, h3, h4⟩
        refine ⟨v, h1, ?_, h3, h4⟩
        rw [show q.1 - i = (q.1 - (i + 1)) + 1 by omega, List.getElem?_cons_succ]; exact h2
      · rintro ⟨v, h1, h2, h3, h4⟩
        refine ⟨v, h1, ?_, h3, h4⟩
        rw [show q.1 - i = (q.1 - (i + 1)) + 1 by omega, List.getElem?_cons_succ] at h2; exact h2
    by_cases hu : zisR u = true
    · rw [zlst, if_pos hu, step]
      constructor
      · rintro ⟨v, h1, h⟩
        exact ⟨v, by omega, h⟩
      · rintro ⟨v, h1, h2, h3, h4⟩
        by_cases e : q.1 = i
        · rw [e, Nat.sub_self, List.getElem?_cons_zero] at h2
          cases h2
          rw [hu] at h3
          cases h3
        · exact ⟨v, by omega, h2, h3, h4⟩
    · rw [zlst, if_neg hu, List.mem_cons, step]
      have hu' : zisR u = false := by simpa using hu
      constructor
      · rintro (h | ⟨v, h1, h⟩)
        · subst h
          exact ⟨u, Nat.le_refl _, by simp, hu', rfl⟩
        · exact ⟨v, by omega, h⟩
      · rintro ⟨v, h1, h2, h3, h4⟩
        by_cases e : q.1 = i
        · left
          rw [e, Nat.sub_self, List.getElem?_cons_zero] at h2
          cases h2
          exact Prod.ext e h4
        · exact Or.inr ⟨v, by omega, h2, h3, h4⟩
theorem zLV.has {ro : Nat → Nat} {ls : Array Slot} {lv : List Value} (h : zLV ro ls lv) : lv_has ls lv.length (zlst ro 0 lv) := by
  refine ⟨h.1, h.2.1, fun q hq => ?_⟩
  obtain ⟨v, -, h2, h3, h4⟩ := (zlst_in lv 0 q).mp hq
  rw [h4]
  exact h.2.2 q.1 v (by simpa using h2) (zisR_ne.mp h3)
theorem zLV.get {ro : Nat → Nat} {ls : Array Slot} {lv : List Value} (h : zLV ro ls lv) {i : Nat} {v : Value} (hi : lv[i]? = some v) (hv : zisR v = false) : ls[i]? = some (.val (zvr ro v)) := h.2.2 i v hi (zisR_ne.mp hv)
theorem zsto_len : ∀ (lv : List Value) (i : Nat) (v : Value), (zsto lv i v).length = lv.length
  | [], _, _ => rfl
  | _ :: _, 0, _ => rfl
  | _ :: vs, n + 1, v => by simp [zsto, zsto_len vs n v]
theorem zsto_get : ∀ (lv : List Value) (i : Nat) (v : Value) (j : Nat) (w : Value), (zsto lv i v)[j]? = some w → (j = i ∧ w = v) ∨ (j + 1 = i ∧ ∃ u, lv[j]? = some u ∧ w = zkl u) ∨ (j ≠ i ∧ j + 1 ≠ i ∧ lv[j]? = some w)
  | [], i, v, j, w => by intro h; simp [zsto] at h
  | u :: vs, 0, v, j, w => by
    intro h
    cases j with
    | zero => simp [zsto] at h; exact Or.inl ⟨rfl, h.symm⟩
    | succ j => simp [zsto] at h; exact Or.inr (Or.inr ⟨by omega, by omega, by simpa using h⟩)
  | u :: vs, n + 1, v, j, w => by
    intro h
    cases j with
    | zero =>
      simp only [zsto, List.getElem?_cons_zero, Option.some.injEq] at h
      cases n with
      | zero => exact Or.inr (Or.inl ⟨rfl, u, rfl, by simpa using h.symm⟩)
      | succ n => exact Or.inr (Or.inr ⟨by omega, by omega, by simpa using h⟩)
    | succ j =>
      simp only [zsto, List.getElem?_cons_succ] at h
      rcases zsto_get vs n v j w h with ⟨h1, h2⟩ | ⟨h1, u', h2, h3⟩ | ⟨h1, h2, h3⟩
      · exact Or.inl ⟨by omega, h2⟩
      · exact Or.inr (Or.inl ⟨by omega, u', by simpa using h2, h3⟩)
      · exact Or.inr (Or.inr ⟨by omega, by omega, by simpa using h3⟩)
theorem zvr_cat (ro : Nat → Nat) (v : Value) : (zvr ro v).category = v.category := by cases v <;> rfl
/-- behind a store of one slot -/
theorem zLV.sto1 {ro : Nat → Nat} {ls' : Array Slot} {lv : List Value} {i : Nat} {v : Value} (hv : zisR v = false) (h : lv_has ls' lv.length ((i, zvr ro v) :: (zlst ro 0 lv).filter (fun q => !(q.1 == i) && !(q.1 + 1 == i && q.2.category == 2)))) : zLV ro ls' (zsto lv i v) := by
  refine ⟨by rw [zsto_len]; exact h.1, h.2.1, fun j w hj hw => ?_⟩
  rcases zsto_get lv i v j w hj with ⟨h1, h2⟩ | ⟨h1, u, h2, h3⟩ | ⟨h1, h2, h3⟩
  · subst h1; subst h2
    exact h.2.2 _ List.mem_cons_self
  · have hu : u.category ≠ 2 := by
      intro hc
      cases u <;> simp [Value.category] at hc <;> (rw [h3] at hw; exact hw 0 rfl)
    have hwu : w = u := by rw [h3]; cases u <;> simp [Value.category] at hu <;> rfl
    subst hwu
    refine h.2.2 (j, zvr ro w) (List.mem_cons_of_mem _ (List.mem_filter.mpr ⟨(zlst_in lv 0 _).mpr ⟨w, Nat.zero_le _, by simpa using h2, zisR_ne.mpr hw, rfl⟩, ?_⟩))
    have e1 : ¬ j = i := by omega
    simp [e1, zvr_cat, hu]
  · refine h.2.2 (j, zvr ro w) (List.mem_cons_of_mem _ (List.mem_filter.mpr ⟨(zlst_in lv 0 _).mpr ⟨w, Nat.zero_le _, by simpa using h3, zisR_ne.mpr hw, rfl⟩, ?_⟩))
    simp [h1, h2]
/-- behind a store of two -/
theorem zLV.sto2 {ro : Nat → Nat} {ls' : Array Slot} {lv : List Value} {i : Nat} {v : Value} (hv : zisR v = false) (h : lv_has ls' lv.length ((i, zvr ro v) :: (zlst ro 0 lv).filter (fun q => !(q.1 == i) && (!(q.1 == i + 1) && !(q.1 + 1 == i && q.2.category == 2))))) : zLV ro ls' ((zsto lv i v).set (i + 1) zmk) := by
  refine ⟨by rw [List.length_set, zsto_len]; exact h.1, h.2.1, fun j w hj hw => ?_⟩
  by_cases e : j = i + 1
  · subst e
    rw [List.getElem?_set] at hj
    simp at hj
    exact absurd hj.2.symm (hw 0)
  rw [List.getElem?_set_ne (Ne.symm e)] at hj
  rcases zsto_get lv i v j w hj with ⟨h1, h2⟩ | ⟨h1, u, h2, h3⟩ | ⟨h1, h2, h3⟩
  · subst h1; subst h2
    exact h.2.2 _ List.mem_cons_self
  · have hu : u.category ≠ 2 := by
      intro hc
      cases u <;> simp [Value.category] at hc <;> (rw [h3] at hw; exact hw 0 rfl)
    have hwu : w = u := by rw [h3]; cases u <;> simp [Value.category] at hu <;> rfl
    subst hwu
    refine h.2.2 (j, zvr ro w) (List.mem_cons_of_mem _ (List.mem_filter.mpr ⟨(zlst_in lv 0 _).mpr ⟨w, Nat.zero_le _, by simpa using h2, zisR_ne.mpr hw, rfl⟩, ?_⟩))
    have e1 : ¬ j = i := by omega
    simp [e, e1, zvr_cat, hu]
  · refine h.2.2 (j, zvr ro w) (List.mem_cons_of_mem _ (List.mem_filter.mpr ⟨(zlst_in lv 0 _).mpr ⟨w, Nat.zero_le _, by simpa using h3, zisR_ne.mpr hw, rfl⟩, ?_⟩))
    simp [e, h1, h2]
/-- at a method's entry -/
theorem zspr_args (ro : Nat → Nat) : ∀ (As : List Value) (i : Nat) (j : Nat) (v : Value), (zspr As)[j]? = some v → zisR v = false → (i + j, zvr ro v) ∈ lv_args i (As.map (zvr ro)) := by
  intro As
  induction As with
  | nil => intro i j v h _; simp [zspr] at h
  | cons a As ih =>
    intro i j v h hv
    have one : ∀ (a : Value), a.category ≠ 2 → ((a :: zspr As)[j]? = some v) → (i + j, zvr ro v) ∈ lv_args i ((a :: As).map (zvr ro)) := by
      intro a ha h
      rw [List.map_cons, lv_args, zvr_cat, if_neg ha]
      cases j with
      | zero => simp at h; subst h; exact List.mem_cons_self
      | succ j =>
        simp at h
        have := ih (i + 1) j v h hv
        rw [show i + 1 + j = i + (j + 1) by omega] at this
        exact List.mem_cons_of_mem _ this
    have two : ∀ (a : Value), a.category = 2 → ((a :: zmk :: zspr As)[j]? = some v) → (i + j, zvr ro v) ∈ lv_args i ((a :: As).map (zvr ro)) := by
      intro a ha h
      rw [List.map_cons, lv_args, zvr_cat, if_pos ha]
      cases j with
      | zero => simp at h; subst h; exact List.mem_cons_self
      | succ j =>
        cases j with
        | zero => simp at h; subst h; simp [zmk, zisR] at hv
        | succ j =>
          simp at h
          have := ih (i + 2) j v h hv
          rw [show i + 2 + j = i + (j + 1 + 1) by omega] at this
          exact List.mem_cons_of_mem _ this
    cases a with
    | long x => exact two (.long x) rfl h
    | double x => exact two (.double x) rfl h
    | int x => exact one (.int x) (by simp [Value.category]) h
    | float x => exact one (.float x) (by simp [Value.category]) h
    | null => exact one .null (by simp [Value.category]) h
    | ref x => exact one (.ref x) (by simp [Value.category]) h
    | retAddr x => exact one (.retAddr x) (by simp [Value.category]) h
theorem zspr_len (ro : Nat → Nat) : ∀ (As : List Value), (lg_sl (As.map (zvr ro))).length = (zspr As).length := by
  intro As
  induction As with
  | nil => rfl
  | cons a As ih => cases a <;> simp_all [zspr, lg_sl, zvr, Value.category]
theorem zLV.entry {ro : Nat → Nat} {z : Nat} {As : List Value} (hn : (zspr As).length ≤ zmL z) : zLV ro ((lg_sl (As.map (zvr ro)) ++ List.replicate (zmL z - (lg_sl (As.map (zvr ro))).length) Slot.unset).toArray) (zini z As) := by
  have h := lv_entry (As.map (zvr ro)) (n := zmL z) (by rw [zspr_len]; exact hn)
  refine ⟨?_, h.2.1, fun j v hj hv => ?_⟩
  · rw [h.1]; simp [zini]; omega
  · rw [zini] at hj
    by_cases hl : j < (zspr As).length
    · rw [List.getElem?_append_left hl] at hj
      have := zspr_args ro As 0 j v hj (zisR_ne.mpr hv)
      rw [Nat.zero_add] at this
      exact h.2.2 _ this
    · rw [List.getElem?_append_right (by omega)] at hj
      have := List.eq_of_mem_replicate (List.mem_of_getElem? hj)
      exact absurd this (hv 0)
