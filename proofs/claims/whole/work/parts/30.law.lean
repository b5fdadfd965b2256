def R_law : String := "RockTugsLaw"
def lw_P (b : Addr) (xs : List Int32) (args : Array Value) (s : State) : Prop := args = #[.ref b] ∧ s.IntsAt b xs ∧ xs.length ≤ 3584 ∧ (Jvm.Cond.and given_1 narrow_1).before args s = true
def lw_Q (_ : Array Value) (s : State) (o : Outcome) (t : State) : Prop := o = .returned (some (.int 1)) ∧ Framed s o t [] 600000 7302250
def lw_Z (below : List Frame) (a : Array Value) (s : State) : State → Prop := fun t => ∃ o, t.status = .running ∧ Ended t below o ∧ lw_Q a s o t
/-- the law's own end, with 1 on the stack, nothing written that was there before, its room as the claim has it -/
theorem lw_ret {p : Program} {l : Launch} {e : Env} {s : State} {m : MethodId} {below : List Frame} {meth : Method} {c : Code} {b : Nat} (hx : p.tables.exec = Jvm.exec) (hb : c.code = code) (hr : meth.sig.returnType = ret) (hlocks : meth.locks = false) {pc : Nat} {H : Heap} {ls : Array Slot} (hdg : decode code pc = .ok (.ireturn, 1)) : W p l e room_1 s m #[Value.ref b] below meth c H [] 600000 7302250 (lw_Z below #[Value.ref b] s) (F0 m pc ls [.int 1]) := by
  intro T hT X
  obtain ⟨fs, hret, hrun, hended, hW, hframe⟩ := X.leave (v := some (.int 1)) (hlocks := hlocks) (fun h => by rw [hr] at h; cases h)
  have hmeth' : T.vm.method? m = some meth := X.method'
  refine ⟨T.setFrames fs, ?_, .returned (some (.int 1)), hrun, hended, rfl, ⟨_, rfl⟩, hW, hframe⟩
  jvm_step X.here [X.here.top, hx, hb, hdg, hmeth', hr, ret, narrow_b1]
  (try refine ⟨rfl, ?_⟩); (try refine ⟨rfl, ?_⟩)
  first | (intro acts; rw [hret _ acts rfl rfl rfl]) | rw [hret _ _ rfl rfl rfl]
  exact Steps.refl _
/-- what holds at the law's entry: the machine, the code, the tables' words (any of lw_tbl by 'hts w (by decide +kernel)'), the script of L ints xs at the cell b, what the Statement gives of the start (any of its parts by flat_of_before) -/
def lw_At (p : Program) (s : State) (m : MethodId) (meth : Method) (c : Code) (b L : Nat) (xs : Nat → Int32) : Prop :=
  p.tables.exec = Jvm.exec ∧ c.code = code ∧ meth.sig.returnType = ret ∧ c.maxLocals = 4 ∧ s.vm.findClass R_law = some m.cls ∧ (∀ w ∈ lw_tbl, w.before #[Value.ref b] s = true) ∧ va_X b L xs s s.heap ∧ b < s.heap.size ∧ meth.locks = false ∧ (Jvm.Cond.and given_1 narrow_1).before #[Value.ref b] s = true

/-! FROM THE LAW'S ENTRY TO THE SMALL MACHINE -/
set_option maxRecDepth 100000 in
theorem zw_lsCS : Cond.laysStatic "java/lang/String" "COMPACT_STRINGS" "Z" ∈ lw_tbl := List.mem_of_getElem? (i := 836) rfl
set_option maxRecDepth 100000 in
theorem zw_strini : Cond.initialized "java/lang/String" ∈ lw_tbl := List.mem_of_getElem? (i := 114) rfl
set_option maxRecDepth 100000 in
theorem zw_lsF : Cond.laysStatic "jdk/internal/util/Preconditions" "SIOOBE_FORMATTER" "Ljava/util/function/BiFunction;" ∈ lw_tbl := List.mem_of_getElem? (i := 844) rfl
set_option maxRecDepth 100000 in
theorem zw_pcini : Cond.initialized "jdk/internal/util/Preconditions" ∈ lw_tbl := List.mem_of_getElem? (i := 116) rfl
def zflat : List Cond := flatC (Jvm.Cond.and given_1 narrow_1)
def zsx (i : Nat) : Nat := if i = 0 then 76 else 141
def ztm (i : Nat) : Term := Term.string "RockTugs$Parser" (zsx i)
theorem zfl_ex : ∀ i, i < 2 → Cond.exactly (ztm i) "java/lang/String" ∈ zflat := by
  intro i hi
  rcases (show i = 0 ∨ i = 1 by omega) with rfl | rfl
  · exact List.mem_of_getElem? (i := 87) rfl
  · exact List.mem_of_getElem? (i := 181) rfl
theorem zfl_co : ∀ i, i < 2 → Cond.eq (.field (ztm i) "java/lang/String" "coder" "B") (.int 0) ∈ zflat := by
  intro i hi
  rcases (show i = 0 ∨ i = 1 by omega) with rfl | rfl
  · exact List.mem_of_getElem? (i := 88) rfl
  · exact List.mem_of_getElem? (i := 182) rfl
theorem zfl_ar : ∀ i, i < 2 → Cond.arrayOf (.field (ztm i) "java/lang/String" "value" "[B") .byte ∈ zflat := by
  intro i hi
  rcases (show i = 0 ∨ i = 1 by omega) with rfl | rfl
  · exact List.mem_of_getElem? (i := 89) rfl
  · exact List.mem_of_getElem? (i := 183) rfl
theorem zfl_le : ∀ i, i < 2 → Cond.eq (.length (.field (ztm i) "java/lang/String" "value" "[B")) (.int (Int32.ofNat (([(zstr 0).length, (zstr 1).length] : List Nat).getD i 0))) ∈ zflat := by
  intro i hi
  rcases (show i = 0 ∨ i = 1 by omega) with rfl | rfl
  · exact List.mem_of_getElem? (i := 90) rfl
  · exact List.mem_of_getElem? (i := 184) rfl
set_option maxRecDepth 100000 in
theorem zfl_e0 : ∀ j, j < 90 → zflat[91 + j]? = some (Cond.eq (.elem (.field (ztm 0) "java/lang/String" "value" "[B") (.int (Int32.ofNat j))) (.int (([zsb 0, zsb 1] : List (List Int32)).getD 0 [] |>.getD j 0))) := by decide +kernel
set_option maxRecDepth 100000 in
theorem zfl_e1 : ∀ j, j < 10 → zflat[185 + j]? = some (Cond.eq (.elem (.field (ztm 1) "java/lang/String" "value" "[B") (.int (Int32.ofNat j))) (.int (([zsb 0, zsb 1] : List (List Int32)).getD 1 [] |>.getD j 0))) := by decide +kernel
theorem zfl_el : ∀ i, i < 2 → ∀ j, j < ([(zstr 0).length, (zstr 1).length] : List Nat).getD i 0 → Cond.eq (.elem (.field (ztm i) "java/lang/String" "value" "[B") (.int (Int32.ofNat j))) (.int (([zsb 0, zsb 1] : List (List Int32)).getD i [] |>.getD j 0)) ∈ zflat := by
  intro i hi j hj
  rcases (show i = 0 ∨ i = 1 by omega) with rfl | rfl
  · exact List.mem_of_getElem? (zfl_e0 j hj)
  · exact List.mem_of_getElem? (zfl_e1 j hj)
theorem zfl_ne : Cond.not (Cond.eq (ztm 0) (ztm 1)) ∈ zflat := List.mem_of_getElem? (i := 195) rfl
theorem zfl_cs : Cond.eq (.static "java/lang/String" "COMPACT_STRINGS" "Z") (.int 1) ∈ zflat := List.mem_of_getElem? (i := 4) rfl
theorem zfl_fm : Cond.isRef (.static "jdk/internal/util/Preconditions" "SIOOBE_FORMATTER" "Ljava/util/function/BiFunction;") ∈ zflat := List.mem_of_getElem? (i := 5) rfl
theorem zisRef {args : Array Value} {s : State} {t : Term} (h : (Cond.isRef t).before args s = true) : ∃ v, t.eval args s none [] s = some v ∧ (v = .null ∨ ∃ a, v = .ref a) := by
  cases hv : t.eval args s none [] s with
  | none => simp [Cond.before, Cond.holds, Cond.value, hv] at h
  | some w => cases w <;> simp_all [Cond.before, Cond.holds, Cond.value, Value.isRef]
theorem zLT_ix : ∀ e ∈ zLT, zRn e.1 = "RockTugs$Parser" ∧ e.2.2 < 2 ∧ e.2.1 = zsx e.2.2 := by
  decide +kernel
theorem zKS_start {s : State} {b L : Nat} {xs : Nat → Int32} (hts : ∀ w ∈ lw_tbl, w.before #[Value.ref b] s = true) (hX : va_X b L xs s s.heap) (hbl : b < s.heap.size) (hgv : (Jvm.Cond.and given_1 narrow_1).before #[Value.ref b] s = true) :
    ∃ G : zG, zKS G s ∧ G.2.2.1.1 = b ∧ zgB G + 1 = s.heap.size ∧ zgH G = s.heap ∧ G.2.2.2.2.2.1 = L ∧ G.2.2.2.2.2.2 = xs := by
  have hfl := flat_of_before _ hgv
  have hc : ∀ ci, ∃ q : ClassId × (Nat → Nat), ci < 13 → u_Kn s (zRn ci) (zTf ci) (znf ci) q.1 q.2 := by
    intro ci
    by_cases h : ci < 13
    · obtain ⟨k1, k2, k3, k4, k5, k6, k7, k8⟩ := zOkC_all ci h
      obtain ⟨c0, iS0, hKn0⟩ := u_known (C := zRn ci) (T := zTf ci) (N := znf ci) (n := znf ci) hts k1 (hts _ k4)
      exact ⟨(c0, iS0), fun _ => hKn0⟩
    · exact ⟨(0, fun _ => 0), fun q => absurd q h⟩
  obtain ⟨fc, hfc⟩ := Classical.axiomOfChoice hc
  have ha : ∀ k, ∃ cA : ClassId, k < 9 → ArrOfT s cA (zat9.getD k .int) ∧ va_RA s cA (zat9.getD k .int) := by
    have prim : ∀ (ty : FieldType), (Cond.arrayClass ty).before #[Value.ref b] s = true → ∃ cA : ClassId, ArrOfT s cA ty ∧ s.vm.findClass ("[" ++ ty.toString) = some cA := by
      intro ty h
      obtain ⟨c, k, comp, h1, h2, h3⟩ := Cond.arrayClass_spec h
      exact ⟨c, fun n z => ⟨fun k h => (by cases h), k, h2, comp, h3⟩, h1⟩
    have obj : ∀ (C : String), (Cond.arrayOver (.object C)).before #[Value.ref b] s = true → ∃ cA : ClassId, ArrOfT s cA (.object C) ∧ va_RA s cA (.object C) := by
      intro C h
      obtain ⟨comp, c, k, h1, h2, h3, h4, h5⟩ := Cond.arrayOver_spec h
      exact ⟨c, fun n z => ⟨fun k h => (by cases h), k, h3, comp, h4⟩, k, comp, h3, h4, h1, h5⟩
    intro k
    by_cases h : k < 9
    · rcases (show k = 0 ∨ k = 1 ∨ k = 2 ∨ k = 3 ∨ k = 4 ∨ k = 5 ∨ k = 6 ∨ k = 7 ∨ k = 8 by omega) with rfl | rfl | rfl | rfl | rfl | rfl | rfl | rfl | rfl
      · obtain ⟨c, h1, h2⟩ := prim .int (hts _ zw_aI); exact ⟨c, fun _ => ⟨h1, h2⟩⟩
      · obtain ⟨c, h1, h2⟩ := prim .short (hts _ zw_aS); exact ⟨c, fun _ => ⟨h1, h2⟩⟩
      · obtain ⟨c, h1⟩ := obj _ (hts _ zw_ao0); exact ⟨c, fun _ => h1⟩
      · obtain ⟨c, h1⟩ := obj _ (hts _ zw_ao1); exact ⟨c, fun _ => h1⟩
      · obtain ⟨c, h1⟩ := obj _ (hts _ zw_ao2); exact ⟨c, fun _ => h1⟩
      · obtain ⟨c, h1⟩ := obj _ (hts _ zw_ao3); exact ⟨c, fun _ => h1⟩
      · obtain ⟨c, h1⟩ := obj _ (hts _ zw_ao4); exact ⟨c, fun _ => h1⟩
      · obtain ⟨c, h1⟩ := obj _ (hts _ zw_ao5); exact ⟨c, fun _ => h1⟩
      · obtain ⟨comp, c, k, h1, h2, h3, h4, h5⟩ := arrayOverA_spec (hts _ zw_aoS)
        exact ⟨c, fun _ => ⟨fun n z => ⟨fun k h => (by cases h), k, h3, comp, h4⟩, h5⟩⟩
    · exact ⟨0, fun q => absurd q h⟩
  obtain ⟨fa, hfa⟩ := Classical.axiomOfChoice ha
  have hA : ∀ a : Nat, a < s.heap.size → ¬ (s.heap.size - 1 < a) := fun a h => by omega
  obtain ⟨adK, adV, hS, hev⟩ := vk_Sof (args := #[Value.ref b]) (s := s) (N := 2) (tm := ztm) (len := [(zstr 0).length, (zstr 1).length]) (byt := [zsb 0, zsb 1]) (A := fun q => s.heap.size - 1 < q)
    (by intro i hi; rcases (show i = 0 ∨ i = 1 by omega) with rfl | rfl <;> decide) (fun i hi => hfl _ (zfl_ex i hi)) (fun i hi => hfl _ (zfl_co i hi)) (fun i hi => hfl _ (zfl_ar i hi)) (fun i hi => hfl _ (zfl_le i hi)) (fun i hi j hj => hfl _ (zfl_el i hi j hj))
    (by
      intro i j hi hj hij
      rcases (show (i = 0 ∧ j = 1) ∨ (i = 1 ∧ j = 0) by omega) with ⟨rfl, rfl⟩ | ⟨rfl, rfl⟩
      · exact Or.inl (hfl _ zfl_ne)
      · exact Or.inr (hfl _ zfl_ne)) hA
  have hZ : va_Z "java/lang/String" "COMPACT_STRINGS" "Z" (.int 1) (fun q => s.heap.size - 1 < q) s s.heap := va_Zof (hts _ zw_lsCS) (hts _ zw_strini) (va_eqi (hfl _ zfl_cs)) hA
  obtain ⟨vF, hvF, hvF2⟩ := zisRef (hfl _ zfl_fm)
  have hZF := va_Zof (A := fun q => s.heap.size - 1 < q) (hts _ zw_lsF) (hts _ zw_pcini) hvF hA
  refine ⟨((fun ci => (fc ci).1, fun ci => (fc ci).2), (fun k => fa (k - 1)), (b, s.heap.size - 1), (adK, adV), s.heap, L, xs), ⟨⟨?_, ?_⟩, hX, ⟨?_, ?_⟩, ?_, ?_, ?_, ?_, hS, hZ, vF, hvF2, hZF⟩, rfl, ?_, rfl, rfl, rfl⟩
  · intro c q hq
    have hlt : c < 13 := (List.getElem?_eq_some_iff.mp hq).1
    have k6 := (zOkC_all c hlt).2.2.2.2.2.1
    rw [k6] at hq
    cases hq
    exact hfc c hlt
  · intro k q hq
    have hlt : k < 9 := by
      have := (List.getElem?_eq_some_iff.mp hq).1
      simpa [ztys] using this
    rw [ztys, List.getElem?_map, List.getElem?_range hlt] at hq
    simp only [Option.map_some, Option.some.injEq] at hq
    subst hq
    exact hfa k hlt
  · show b ≤ s.heap.size - 1; omega
  · show s.heap.size = s.heap.size - 1 + 1; omega
  · intro e he
    exact va_Nw.of rfl (hts _ (zLH_ok e he))
  · intro j hj
    rcases (show j = 0 ∨ j = 1 ∨ j = 2 ∨ j = 3 ∨ j = 4 ∨ j = 5 by omega) with rfl | rfl | rfl | rfl | rfl | rfl
    · exact hts _ zw_ao0
    · exact hts _ zw_ao1
    · exact hts _ zw_ao2
    · exact hts _ zw_ao3
    · exact hts _ zw_ao4
    · exact hts _ zw_ao5
  · exact hts _ zw_aoS
  · intro e he
    obtain ⟨q1, q2, q3⟩ := zLT_ix e he
    have h1 := hts _ (zLT_ok e he)
    refine vk_R.of (A := #[Value.ref b]) h1 ?_
    have := hev e.2.2 q2
    rw [ztm, ← q3, ← q1] at this
    exact this
  · show s.heap.size - 1 + 1 = s.heap.size; omega
theorem zret_int {y : Nat} {r : zRow} {lv st : List Value} {hp : zHp} {x : Int32} (h : zstp y r lv st hp = some (true, .inr (.inl (some (.int x))))) : r.2.2.1 = .ireturn ∧ st = [.int x] := by
  obtain ⟨pc, len, ins, v0, b, c0⟩ := r
  cases ins
  case ireturn =>
    simp only [zstp] at h
    split at h
    · simp only [Option.some.injEq, Prod.mk.injEq, Sum.inr.injEq, Sum.inl.injEq, Value.int.injEq] at h
      rw [h.2]
      exact ⟨rfl, rfl⟩
    · cases h
  case lreturn => exfalso; simp only [zstp] at h; split at h <;> simp at h
  case areturn => exfalso; simp only [zstp] at h; split at h <;> simp at h
  case return_ => exfalso; simp only [zstp] at h; split at h <;> simp at h
  case invokestatic n =>
    exfalso
    by_cases hb : b = 0
    · subst hb
      exact zcall_no (z := c0) (st := st) (hp := hp) (g := true) (v := some (.int x)) h
    · simp only [zstp, show (b == 0) = false by simpa using hb, cond_false] at h
      cases h1 : (b == 1) with
      | true => rw [h1] at h; simp only [cond_true] at h; split at h <;> (simp [zgo] at h)
      | false =>
        rw [h1] at h; simp only [cond_false] at h
        cases h5 : (b == 5) with
        | true => rw [h5] at h; simp only [cond_true] at h; split at h <;> (simp [zgo] at h)
        | false =>
          rw [h5] at h; simp only [cond_false] at h
          cases h6 : (b == 6) with
          | true => rw [h6] at h; simp only [cond_true] at h; split at h <;> (simp [zgo] at h)
          | false =>
            rw [h6] at h; simp only [cond_false] at h
            cases h7 : (b == 7) with
            | true => rw [h7] at h; simp only [cond_true] at h; split at h <;> (simp [zgo] at h)
            | false =>
              rw [h7] at h; simp only [cond_false] at h
              simp at h
  case invokespecial n =>
    exfalso
    by_cases hb : b = 0
    · subst hb
      exact zcall_no (z := c0) (st := st) (hp := hp) (g := true) (v := some (.int x)) h
    · simp only [zstp, show (b == 0) = false by simpa using hb, cond_false] at h
      cases h2 : (b == 2) with
      | true => rw [h2] at h; simp only [cond_true] at h; split at h <;> (simp [zgo] at h)
      | false =>
        rw [h2] at h; simp only [cond_false] at h
        simp at h
  case invokevirtual n =>
    exfalso
    by_cases hb : b = 0
    · subst hb
      exact zcall_no (z := c0) (st := st) (hp := hp) (g := true) (v := some (.int x)) h
    · simp only [zstp, show (b == 0) = false by simpa using hb, cond_false] at h
      cases h3 : (b == 3) with
      | true => rw [h3] at h; simp only [cond_true] at h; split at h <;> (simp [zgo] at h)
      | false =>
        rw [h3] at h; simp only [cond_false] at h
        cases h4 : (b == 4) with
        | true => rw [h4] at h; simp only [cond_true] at h; split at h <;> (simp [zgo] at h)
        | false =>
          rw [h4] at h; simp only [cond_false] at h
          simp at h
  case getfield n =>
    exfalso
    simp only [zstp] at h
    split at h
    · cases hc : (zfk b c0 == 0) with
      | true => rw [hc] at h; simp [zgo] at h
      | false => rw [hc] at h; simp [zgo] at h
    · cases h
  all_goals (exfalso; first
    | (simp [zstp, zgo] at h; done)
    | (simp only [zstp, zint2, zlong2] at h; split at h <;> (first | (cases h; done) | (simp [zgo] at h; done)))
    | exact absurd h (by simp [zstp]))
/-- the small heap at the start: the script alone -/
def zh0 (L : Nat) (xs : Nat → Int32) : zHp := ([(1, L)], (fun a j => if a = 0 then xs j else 0), fun _ _ => 0)
set_option maxHeartbeats 4000000 in
/-- THE LAW, from its entry: out of a run of the small machine -/
theorem zwhole {p : Program} {e : Env} {s : State} {m : MethodId} {below : List Frame} {meth : Method} {c : Code} (hcd : zCodes) (l : Launch) {b L : Nat} {xs : Nat → Int32} (C0 : lw_At p s m meth c b L xs)
    (hrun : ∃ (n d : Nat) (hp' : zHp), d ≤ 1000 ∧ zrun n d 255 0 (zini 255 [.ref 0]) [] (zh0 L xs) = some (some (.int 1), hp') ∧ hp'.1.length ≤ 600000 ∧ zns hp'.1 ≤ 7302250) :
    W p l e room_1 s m #[Value.ref b] below meth c s.heap [] 0 0 (lw_Z below #[Value.ref b] s) (entryFrame m ([Value.ref b] : List Value).toArray 4) := by
  obtain ⟨hx, hb, hr, hml, hown, hts, hX, hbl, hlocks, hgv⟩ := id C0
  obtain ⟨n, d, hp', hd, hrun, hc1, hc2⟩ := hrun
  obtain ⟨G, hKS, g1, g2, g3, g4, g5⟩ := zKS_start hts hX hbl hgv
  rw [lg_entry_eq]
  have hro : zro G 0 = b := g1
  have hargs : ([Value.ref b] : List Value) = ([.ref 0] : List Value).map (zvr (zro G)) := by
    show _ = [Value.ref (zro G 0)]
    rw [hro]
  have hlv : zLV (zro G) ((lg_sl ([Value.ref b] : List Value) ++ List.replicate (4 - (lg_sl ([Value.ref b] : List Value)).length) Slot.unset).toArray) (zini 255 [.ref 0]) := by
    rw [hargs]
    exact zLV.entry (z := 255) (As := [.ref 0]) (by decide)
  have hrel : zRel G (zh0 L xs) s.heap := by
    refine ⟨?_, fun k k1 k2 => ?_, fun q _ => by rw [g3], ?_, fun j _ => ?_, Nat.le_refl _, (Nat.le_of_ble_eq_true rfl : 1 ≤ 950000)⟩
    · show s.heap.size = zgB G + 1; omega
    · have k2 : k < 1 := k2
      omega
    · show (1, L) = _; rw [g4]
    · show (if (0 : Nat) = 0 then xs j else 0) = _; rw [g5]; rfl
  have h0 : zns (zh0 L xs).1 = L := by simp [zns, zh0]
  refine zrun_sound hcd n d 255 0 (zini 255 [.ref 0]) [] (zh0 L xs) (some (.int 1)) hp' (by decide) hrun p l e room_1 s m #[Value.ref b] below meth c s.heap [] _ 0 0 _ ⟨hx, hb, hml, hown, fun w hw => hts w (List.mem_filter.mp hw).1, hKS, fun q => by cases q⟩ rfl ⟨?_, ?_⟩ hrel hlv (fun q h => by cases h) ?_ ?_ ?_
  · show d + 8 ≤ 2048; omega
  · show 64 * (d + 8) ≤ 84000; omega
  · show 0 + (hp'.1.length - 1) ≤ 600000; omega
  · rw [h0]; show 0 + (zns hp'.1 - L) ≤ 7302250; omega
  · intro H' locs' ls' r lv'' st'' hrin hz hrel' hlo'
    obtain ⟨hck, -⟩ := zrow_ok hcd (by decide) hrin
    obtain ⟨pc, len, ins, v0, b0, c0⟩ := r
    obtain ⟨hdg, hi⟩ := zchk_dec hck
    dsimp only at hdg hi ⊢
    refine va_forget (fun q hq => by have h9 : zgB G < q.base := hlo' q hq; omega) ?_
    refine W.widen (k := 600000) (n := 7302250) ?_ ?_ ?_
    · show 0 + (hp'.1.length - 1) ≤ 600000; omega
    · rw [h0]; show 0 + (zns hp'.1 - L) ≤ 7302250; omega
    have hins := zret_int hz
    dsimp only at hins
    obtain ⟨rfl, rfl⟩ := hins
    have hl : len = 1 := by simpa [zchkI] using hi
    subst hl
    exact lw_ret hx hb hr hlocks hdg
