/-! new cells, copies, Math, Object's constructor -/
theorem zns_app (Z : List (Nat × Nat)) (x : Nat × Nat) : zns (Z ++ [x]) = zns Z + (if x.1 = 0 then znf x.2 else x.2) := by
  simp [zns]
theorem zkpush {G : zG} {p : Program} {l : Launch} {e : Env} {R : Room} {s : State} {m : MethodId} {args : Array Value} {below : List Frame} {meth : Method} {c : Code} {Q : State → Prop} {cells slots : Nat} {hp : zHp} {pc k : Nat} {lv st : List Value} {sh : Nat × Nat} {I' : Nat → Nat → Int32} {P' : Nat → Nat → Nat} (hk : (if sh.1 = 0 then znf sh.2 else sh.2) = k)
    (kk : zKont G p l e R s m args below meth c Q cells slots hp (pc, lv, st, (hp.1 ++ [sh], I', P'))) {H : Heap} {locs : List Loc} {ls : Array Slot} (h1 : zRel G (hp.1 ++ [sh], I', P') H) (h2 : zLV (zro G) ls lv) (h3 : ∀ q ∈ locs, zgA G q.base) : W p l e R s m args below meth c H locs (cells + 1) (slots + k) Q (F0 m pc ls (st.map (zvr (zro G)))) := by
  have h := kk H locs ls h1 h2 h3
  dsimp only at h
  rw [zns_app, hk, show (hp.1 ++ [sh]).length - hp.1.length = 1 by simp, show zns hp.1 + k - zns hp.1 = k by omega] at h
  exact h
section ZN
variable {G : zG} {y pc len b c0 : Nat} {v : Value} {lv st : List Value} {hp : zHp} {res : Nat × List Value × List Value × zHp}
theorem zro_new {H : Heap} (hrel : zRel G hp H) (hlen : hp.1.length < 900000) : zro G hp.1.length = H.size := by
  obtain ⟨a1, a2, a3, a4, a5, a6, a7⟩ := hrel
  rw [zro, if_neg (by omega), if_neg (by omega), a1]
theorem zs_new {n : Nat} (hk : zchk y (pc, len, (.new n), v, b, c0) = true) (h : zstp y (pc, len, (.new n), v, b, c0) lv st hp = some (true, .inl res)) : zSnd G y pc lv st hp res := by
  intro p l e R s m args below meth c H locs ls cells slots Q C hn hR hrel hlv hlo hcap1 hcap2 kk
  obtain ⟨hx, hb, hml, hown, hts, hKS, hin⟩ := C
  obtain ⟨hdg, hi⟩ := zchk_dec hk
  dsimp only at hdg hi
  simp only [zchkI, Bool.and_eq_true, decide_eq_true_eq] at hi
  obtain ⟨⟨rfl, h1⟩, h3⟩ := hi
  have hm := zLK_ok _ h3
  unfold zpK at hm
  dsimp only at hm
  obtain ⟨k1, k2, k3, k4, k5, k6, k7, k8⟩ := zOkC_all b h1
  simp only [zstp, zgo, Option.some.injEq, Prod.mk.injEq, Sum.inl.injEq, decide_eq_true_eq] at h
  obtain ⟨hlen, rfl⟩ := h
  dsimp only at hcap1 hcap2
  rw [zns_app, if_pos rfl] at hcap2
  dsimp only at hcap2
  have hKn := hKS.1.1 b _ k6
  refine W.newcK hx hb hown (hts _ (zgd hm rfl)) (hts _ (zgd k4 rfl)) (hts _ (zgd k5 rfl)) rfl hdg (by simp at hcap1; omega) (by omega) hKn.2.1 rfl fun H1 kC hkC e1 z1 o1 => ?_
  have K := zkpush (k := znf b) (if_pos rfl) kk (locs := locs) (hrel.push hlen z1 o1 ?_) hlv hlo
  · rw [List.map_cons, show zvr (zro G) (.ref hp.1.length) = .ref (zro G hp.1.length) from rfl, zro_new hrel hlen] at K
    exact K
  · refine ⟨_, k6, (u_born (zty b) hts (zuws k1) hKn hkC e1 k2).to (fun j hj => ?_)⟩
    have hj : j < znf b := hj
    rw [zfs_V hj]
    rcases k7 j hj with ⟨q1, q2⟩ | ⟨q1, q2⟩ | ⟨q1, q2⟩
    · rcases q2 with ⟨nn, q2⟩ | ⟨nn, q2⟩ <;> rw [q2] <;> simp [zfv, q1, zop, va_rf, defaultValue]
    · rw [q2]; simp [zfv, q1, defaultValue]
    · rw [q2]; simp [zfv, q1, defaultValue]
theorem zs_newarray {n : ArrayType} (hk : zchk y (pc, len, (.newarray n), v, b, c0) = true) (h : zstp y (pc, len, (.newarray n), v, b, c0) lv st hp = some (true, .inl res)) : zSnd G y pc lv st hp res := by
  intro p l e R s m args below meth c H locs ls cells slots Q C hn hR hrel hlv hlo hcap1 hcap2 kk
  obtain ⟨hx, hb, hml, hown, hts, hKS, hin⟩ := C
  obtain ⟨hdg, hi⟩ := zchk_dec hk
  dsimp only at hdg hi
  simp only [zchkI, Bool.and_eq_true, Bool.or_eq_true, decide_eq_true_eq] at hi
  obtain ⟨rfl, h3⟩ := hi
  simp only [zstp] at h
  split at h
  · rename_i k t
    simp only [zgo, Option.some.injEq, Prod.mk.injEq, Sum.inl.injEq, Bool.and_eq_true, decide_eq_true_eq] at h
    obtain ⟨⟨⟨hk0, hk1⟩, hlen⟩, rfl⟩ := h
    dsimp only at hcap1 hcap2
    have hk1 : k.toNatClampNeg ≤ 100000 := hk1
    rcases h3 with ⟨rfl, rfl⟩ | ⟨rfl, rfl⟩
    · rw [zns_app, if_neg (Nat.succ_ne_zero _)] at hcap2
      have hcap2 : slots + (zns hp.1 + k.toNatClampNeg - zns hp.1) ≤ R.slots := hcap2
      refine va_newaK (atype := .int) hx hb (hts _ (zgd zw_aI rfl)) rfl hdg rfl hk0 rfl (by show k.toNatClampNeg * 4 ≤ 536870912; omega) (by simp at hcap1; omega) (by omega) rfl fun H1 cA e1 z1 o1 hAr hNm => ?_
      have hcA : cA = G.2.1 1 := Option.some.inj (hNm.symm.trans (hKS.1.2 _ _ (zty9 G.2.1 (k := 1) (by omega) (by omega))).2)
      subst hcA
      have K := zkpush (k := k.toNatClampNeg) (if_neg (Nat.succ_ne_zero _)) kk (locs := locs) (hrel.push hlen z1 o1 e1) hlv hlo
      rw [List.map_cons, show zvr (zro G) (.ref hp.1.length) = .ref (zro G hp.1.length) from rfl, zro_new hrel hlen] at K
      exact K
    · rw [zns_app, if_neg (Nat.succ_ne_zero _)] at hcap2
      have hcap2 : slots + (zns hp.1 + k.toNatClampNeg - zns hp.1) ≤ R.slots := hcap2
      refine va_newaK (atype := .short) hx hb (hts _ (zgd zw_aS rfl)) rfl hdg rfl hk0 rfl (by show k.toNatClampNeg * 2 ≤ 536870912; omega) (by simp at hcap1; omega) (by omega) rfl fun H1 cA e1 z1 o1 hAr hNm => ?_
      have hcA : cA = G.2.1 2 := Option.some.inj (hNm.symm.trans (hKS.1.2 _ _ (zty9 G.2.1 (k := 2) (by omega) (by omega))).2)
      subst hcA
      have K := zkpush (k := k.toNatClampNeg) (if_neg (Nat.succ_ne_zero _)) kk (locs := locs) (hrel.push hlen z1 o1 e1) hlv hlo
      rw [List.map_cons, show zvr (zro G) (.ref hp.1.length) = .ref (zro G hp.1.length) from rfl, zro_new hrel hlen] at K
      exact K
  · cases h
theorem zs_anewarray {n : Nat} (hk : zchk y (pc, len, (.anewarray n), v, b, c0) = true) (h : zstp y (pc, len, (.anewarray n), v, b, c0) lv st hp = some (true, .inl res)) : zSnd G y pc lv st hp res := by
  intro p l e R s m args below meth c H locs ls cells slots Q C hn hR hrel hlv hlo hcap1 hcap2 kk
  obtain ⟨hx, hb, hml, hown, hts, hKS, hin⟩ := C
  obtain ⟨hdg, hi⟩ := zchk_dec hk
  dsimp only at hdg hi
  simp only [zchkI, Bool.and_eq_true, decide_eq_true_eq] at hi
  obtain ⟨⟨⟨rfl, hb3⟩, hb9⟩, h3⟩ := hi
  have hm := zLK_ok _ h3
  unfold zpK at hm
  dsimp only at hm
  simp only [zstp] at h
  split at h
  · rename_i k t
    simp only [zgo, Option.some.injEq, Prod.mk.injEq, Sum.inl.injEq, Bool.and_eq_true, decide_eq_true_eq] at h
    obtain ⟨⟨⟨hk0, hk1⟩, hlen⟩, rfl⟩ := h
    dsimp only at hcap1 hcap2
    have hk1 : k.toNatClampNeg ≤ 100000 := hk1
    have hb0 : ¬ b = 0 := by omega
    rw [zns_app, if_neg hb0] at hcap2
    have hcap2 : slots + (zns hp.1 + k.toNatClampNeg - zns hp.1) ≤ R.slots := hcap2
    obtain ⟨j, rfl⟩ : ∃ j, b = j + 3 := ⟨b - 3, by omega⟩
    have htn : zat9.getD (j + 3 - 1) .int = .object (zRn (([7, 3, 8, 1, 9, 4] : List Nat).getD (j + 3 - 3) 99)) := by
      rcases (show j = 0 ∨ j = 1 ∨ j = 2 ∨ j = 3 ∨ j = 4 ∨ j = 5 by omega) with rfl | rfl | rfl | rfl | rfl | rfl <;> rfl
    have htt := zty9 G.2.1 (k := j + 3) (by omega) (by omega)
    rw [htn] at htt
    have hov := hKS.2.2.2.2.1 (j + 3 - 3) (by omega)
    refine W.anew hx hb hown (hts _ (zgd hm rfl)) (va_AO.use hov) rfl hdg rfl hk0 (by omega) (by simp at hcap1; omega) (by omega) fun cA kA comp f1 f2 f3 f4 => ?_
    obtain ⟨kA', comp', c1, c2, c3, c4⟩ := (hKS.1.2 _ _ htt).2
    have hcA : cA = G.2.1 (j + 3) := Option.some.inj (f1.symm.trans c4)
    subst hcA
    have K := zkpush (k := k.toNatClampNeg) (if_neg hb0) kk (locs := locs) (H := H.push ({ cls := G.2.1 (j + 3), slots := Array.replicate k.toNatClampNeg .null, vm := .none } : Cell)) (hrel.push hlen (Array.size_push ..) (fun q hq => by rw [Array.getElem?_push, if_neg (Nat.ne_of_lt hq)]) ?_) hlv hlo
    · rw [List.map_cons, show zvr (zro G) (.ref hp.1.length) = .ref (zro G hp.1.length) from rfl, zro_new hrel hlen] at K
      exact K
    · show (H.push _)[H.size]? = some (vp_cell (G.2.1 (j + 3)) (k.toNatClampNeg, .inr (.inr (.inr (.inr fun i => zop (zro G) 0)))))
      rw [Array.getElem?_push_size, vp_cell_q, ← arrV_new]
      rfl
  · cases h
theorem zs_min {n : Nat} (hk : zchk y (pc, len, (.invokestatic n), v, b, c0) = true) (hb0 : ¬ b = 0) (h : zstp y (pc, len, (.invokestatic n), v, b, c0) lv st hp = some (true, .inl res)) : zSnd G y pc lv st hp res := by
  intro p l e R s m args below meth c H locs ls cells slots Q C hn hR hrel hlv hlo hcap1 hcap2 kk
  obtain ⟨hx, hb, hml, hown, hts, hKS, hin⟩ := C
  obtain ⟨hdg, hi⟩ := zchk_dec hk
  dsimp only at hdg hi
  simp only [zchkI, Bool.and_eq_true, Bool.or_eq_true, decide_eq_true_eq] at hi
  obtain ⟨rfl, hi⟩ := hi
  have hsz : c.maxLocals = ls.size := by rw [hml, hlv.1, hn]
  have hcats : ∀ (t : List Value), zcats t ≤ 8 → ((t.map (zvr (zro G))).map fun v => v.category).sum ≤ 8 := by
    intro t ht
    rw [List.map_map, show ((fun v : Value => v.category) ∘ zvr (zro G)) = fun v => v.category from funext fun q => zvr_cat _ q]
    exact ht
  rcases hi with ((((hi | hi) | hi) | hi) | hi)
  · exact absurd hi.1.1.1 hb0
  · obtain ⟨rfl, hm⟩ := hi
    have hm := zLA_ok _ hm
    unfold zpA at hm
    dsimp only at hm
    simp only [zstp, show ((1 : Nat) == 0) = false from rfl, show ((1 : Nat) == 1) = true from rfl, cond_false, cond_true] at h
    split at h
    · rename_i k dp dst sp src t
      simp only [zgo, Option.some.injEq, Prod.mk.injEq, Sum.inl.injEq, Bool.and_eq_true, Bool.or_eq_true, decide_eq_true_eq] at h
      obtain ⟨⟨⟨⟨⟨⟨⟨⟨⟨h1, h2⟩, h3⟩, hs0⟩, hd0⟩, h4⟩, h5⟩, h8⟩, hty⟩, rfl⟩ := h
      show W p l e R s m args below meth c H locs cells slots Q (F0 m pc ls (.int k :: .int dp :: .ref (zro G dst) :: .int sp :: .ref (zro G src) :: t.map (zvr (zro G))))
      have h4 : sp.toNatClampNeg + k.toNatClampNeg ≤ zlen hp.1 src := h4
      have h5 : dp.toNatClampNeg + k.toNatClampNeg ≤ zlen hp.1 dst := h5
      have go : ∀ (kd : Nat) (ty : FieldType), (zshp hp.1 src).1 = kd → (zshp hp.1 dst).1 = kd → (kd = 1 ∨ kd = 2) → zat9.getD (kd - 1) .int = ty → refKind ty = false → (∀ i, i < k.toNatClampNeg → fits ty (.int (hp.2.1 src (sp.toNatClampNeg + i))) = true) →
          W p l e R s m args below meth c H locs cells slots Q (F0 m pc ls (.int k :: .int dp :: .ref (zro G dst) :: .int sp :: .ref (zro G src) :: t.map (zvr (zro G)))) := by
        intro kd ty es ed hkd hty' hprim hfit
        obtain ⟨a1, a2, a3, a4⟩ := zarr hrel (show (zshp hp.1 src).1 ≠ 99 by omega) hs0
        obtain ⟨d1, d2, d3, d4⟩ := zarr hrel (show (zshp hp.1 dst).1 ≠ 99 by omega) hd0
        have hc0 : H[zgB G + src]? = some (vp_cell (G.2.1 kd) (zlen hp.1 src, .inl (hp.2.1 src))) := by
          rcases hkd with q | q <;> subst q
          · exact zat_int a4 es
          · exact zat_short a4 es
        have hc1 : H[zgB G + dst]? = some (vp_cell (G.2.1 kd) (zlen hp.1 dst, .inl (hp.2.1 dst))) := by
          rcases hkd with q | q <;> subst q
          · exact zat_int d4 ed
          · exact zat_short d4 ed
        have htt := zty9 G.2.1 (k := kd) (by omega) (by omega)
        rw [hty'] at htt
        rw [a3, d3]
        have nn : ∀ z : Int32, ¬ z < 0 → z.toInt = (z.toNatClampNeg : Int) := by
          intro z hz
          have hz0 : (0 : Int) ≤ z.toInt := by
            have := Int32.not_lt.mp hz
            simpa using Int32.le_iff_toInt_le.mp this
          show z.toInt = ((z.toInt.toNat : Nat) : Int)
          omega
        have hroom : 2 * 0 + ((t.map (zvr (zro G))).map fun v => v.category).sum + (nativeFrameWords "java/lang/System" "arraycopy" 5 + 11) ≤ R.locals := by
          have h9 := hR.2
          have h10 := hcats t h8
          have h11 : nativeFrameWords "java/lang/System" "arraycopy" 5 ≤ 100 := by decide +kernel
          omega
        intro T hT X
        obtain ⟨-, k0, hk0, cm0, hkk0⟩ := (hKS.1.2 _ _ htt).1 (zlen hp.1 src) (fun j => .int (hp.2.1 src j))
        obtain ⟨-, k1, hk1, cm1, hkk1⟩ := (hKS.1.2 _ _ htt).1 (zlen hp.1 dst) (fun j => .int (hp.2.1 dst j))
        obtain ⟨vm', X', step⟩ := X.arraycopy hx hown (hts _ (zgd hm rfl)) (hts _ (zgd zw_acn rfl)) (hts _ (zgd zw_acs rfl)) (hts _ (zgd zw_sini rfl)) (src := zgB G + src) (dst := zgB G + dst) (cs := vp_cell (G.2.1 kd) (zlen hp.1 src, .inl (hp.2.1 src))) (cd := vp_cell (G.2.1 kd) (zlen hp.1 dst, .inl (hp.2.1 dst))) (srcPos := sp) (destPos := dp) (n := k) (by rw [hT]; exact hc0) (by rw [hT]; exact hc1)
          (fun _ h => by cases h) (fun _ h => by cases h) (fun h => by cases h) (fun h => by cases h) hk0 hk1 hkk0 hkk1 (by simp [hprim]) h1 h2 h3
          (by rw [nn sp h1, nn k h3]; show ¬ _ > ((arrV (G.2.1 kd) (zlen hp.1 src) (fun j => .int (hp.2.1 src j))).slots.size : Int); rw [arrV_size]; omega)
          (by rw [nn dp h2, nn k h3]; show ¬ _ > ((arrV (G.2.1 kd) (zlen hp.1 dst) (fun j => .int (hp.2.1 dst j))).slots.size : Int); rw [arrV_size]; omega)
          (fun vm₁ _ i hi => by
            have e : (vp_cell (G.2.1 kd) (zlen hp.1 src, .inl (hp.2.1 src))).slots.getD (sp.toNatClampNeg + i) .null = .int (hp.2.1 src (sp.toNatClampNeg + i)) := by
              show (arrV (G.2.1 kd) (zlen hp.1 src) (fun j => .int (hp.2.1 src j))).slots.getD _ _ = _
              rw [Array.getD_eq_getD_getElem?, arrV_read _ _ (by omega)]
              rfl
            refine ⟨?_, ?_⟩
            · rw [e]
              exact hfit i hi
            · rw [e]
              exact trivial)
          (g := F0 m pc ls (.int k :: .int dp :: .ref (zgB G + dst) :: .int sp :: .ref (zgB G + src) :: t.map (zvr (zro G)))) rfl (by rw [hsz]) (rest := t.map (zvr (zro G))) rfl (by rw [hb]; exact hdg) (by have := hR.1; omega) hroom
        have e1 : copied (vp_cell (G.2.1 kd) (zlen hp.1 src, .inl (hp.2.1 src))) (vp_cell (G.2.1 kd) (zlen hp.1 dst, .inl (hp.2.1 dst))) sp dp k = vp_cell (G.2.1 kd) (zlen hp.1 dst, .inl (va_cpy (hp.2.1 src) (hp.2.1 dst) sp.toNatClampNeg dp.toNatClampNeg k.toNatClampNeg)) := va_copied (fun z => .int z) (G.2.1 kd) (G.2.1 kd) (hp.2.1 src) (hp.2.1 dst) h4
        rw [e1] at X' step
        have hl : zgB G + dst < H.size := (Array.getElem?_eq_some_iff.mp hc1).1
        have hheap : ((T.setVm vm').setCell (zgB G + dst) (vp_cell (G.2.1 kd) (zlen hp.1 dst, .inl (va_cpy (hp.2.1 src) (hp.2.1 dst) sp.toNatClampNeg dp.toNatClampNeg k.toNatClampNeg)))).heap = H.setIfInBounds (zgB G + dst) (vp_cell (G.2.1 kd) (zlen hp.1 dst, .inl (va_cpy (hp.2.1 src) (hp.2.1 dst) sp.toNatClampNeg dp.toNatClampNeg k.toNatClampNeg))) := by rw [← hT]; rfl
        have hloc : ∀ {α : Type} (f : α → Loc) (xs : List α), (∀ a, (f a).base = zgB G + dst) → ∀ q ∈ locs ++ xs.map f, zgA G q.base := by
          intro α f xs hf q hq
          rcases List.mem_append.mp hq with hq | hq
          · exact hlo q hq
          · obtain ⟨z, -, hz⟩ := List.mem_map.mp hq
            rw [← hz, hf z]
            show zgB G < zgB G + dst
            omega
        have hatD : zat G (hp.1, zcop hp.2.1 src (zix sp) dst (zix dp) (zix k), hp.2.2) dst (H.setIfInBounds (zgB G + dst) (vp_cell (G.2.1 kd) (zlen hp.1 dst, .inl (va_cpy (hp.2.1 src) (hp.2.1 dst) sp.toNatClampNeg dp.toNatClampNeg k.toNatClampNeg)))) := by
          unfold zat
          show va_at _ _ (_, zE _ _ (zshp hp.1 dst) _ _) _
          have hcell : (H.setIfInBounds (zgB G + dst) (vp_cell (G.2.1 kd) (zlen hp.1 dst, .inl (va_cpy (hp.2.1 src) (hp.2.1 dst) sp.toNatClampNeg dp.toNatClampNeg k.toNatClampNeg))))[zgB G + dst]? = some (vp_cell (G.2.1 kd) (zlen hp.1 dst, .inl (zcop hp.2.1 src (zix sp) dst (zix dp) (zix k) dst))) := by
            simp only [Array.getElem?_setIfInBounds, hl, if_true]
            congr 3
            congr 1
            funext j
            simp [va_cpy, zcop, zix]
          rcases hkd with q | q <;> subst q
          · rw [show zshp hp.1 dst = (1, zlen hp.1 dst) from Prod.ext ed rfl]; exact hcell
          · rw [show zshp hp.1 dst = (2, zlen hp.1 dst) from Prod.ext ed rfl]; exact hcell
        have K := fun (locs' : List Loc) (hl' : ∀ q ∈ locs', zgA G q.base) => zk0 rfl kk (H := H.setIfInBounds (zgB G + dst) (vp_cell (G.2.1 kd) (zlen hp.1 dst, .inl (va_cpy (hp.2.1 src) (hp.2.1 dst) sp.toNatClampNeg dp.toNatClampNeg k.toNatClampNeg)))) (hrel.upd (I' := zcop hp.2.1 src (zix sp) dst (zix dp) (zix k)) (P' := hp.2.2) d1 d2 (fun x' hx' => by funext j; simp [zcop, hx']) (fun _ _ => rfl) (by simp) (fun q hq => by simp [Array.getElem?_setIfInBounds, Ne.symm hq]) hatD) hlv hl'
        obtain ⟨t2, a1, b1⟩ := K _ (hloc _ _ (fun _ => rfl)) _ hheap X'
        exact ⟨t2, step t2 a1, b1⟩
      rcases hty with ⟨q1, q2⟩ | ⟨⟨q1, q2⟩, q3⟩
      · exact go 1 .int (of_decide_eq_true q1) (of_decide_eq_true q2) (Or.inl rfl) rfl rfl (fun _ _ => rfl)
      · refine go 2 .short (of_decide_eq_true q1) (of_decide_eq_true q2) (Or.inr rfl) rfl rfl (fun i hi => ?_)
        have := List.all_eq_true.mp q3 i (List.mem_range.mpr hi)
        rw [decide_eq_true_eq] at this
        rw [show sp.toNatClampNeg + i = zix sp + i from rfl, ← this]
        exact pk_fs _
    · cases h
  · obtain ⟨rfl, hm⟩ := hi
    have hm := zLmin_ok _ hm
    unfold zpmin at hm
    dsimp only at hm
    simp only [zstp, show ((5 : Nat) == 0) = false from rfl, show ((5 : Nat) == 1) = false from rfl, show ((5 : Nat) == 5) = true from rfl, cond_false, cond_true] at h
    split at h
    · rename_i a1 a2 t
      simp only [zgo, Option.some.injEq, Prod.mk.injEq, Sum.inl.injEq, decide_eq_true_eq] at h
      obtain ⟨h8, rfl⟩ := h
      exact va_mmin hx hb hsz hown (hts _ (zgd hm rfl)) (hts _ (zgd zw_min_s rfl)) (hts _ (zgd zw_mini rfl)) (hts _ (zgd zw_min_c rfl)) (by have := hR.1; omega) (by have := hR.2; have := hcats t h8; omega) (by omega) (by omega) hdg (zk0 rfl kk hrel hlv hlo)
    · cases h
  · obtain ⟨rfl, hm⟩ := hi
    have hm := zLmax_ok _ hm
    unfold zpmax at hm
    dsimp only at hm
    simp only [zstp, show ((6 : Nat) == 0) = false from rfl, show ((6 : Nat) == 1) = false from rfl, show ((6 : Nat) == 5) = false from rfl, show ((6 : Nat) == 6) = true from rfl, cond_false, cond_true] at h
    split at h
    · rename_i a1 a2 t
      simp only [zgo, Option.some.injEq, Prod.mk.injEq, Sum.inl.injEq, decide_eq_true_eq] at h
      obtain ⟨h8, rfl⟩ := h
      exact va_mmax hx hb hsz hown (hts _ (zgd hm rfl)) (hts _ (zgd zw_max_s rfl)) (hts _ (zgd zw_mini rfl)) (hts _ (zgd zw_max_c rfl)) (by have := hR.1; omega) (by have := hR.2; have := hcats t h8; omega) (by omega) (by omega) hdg (zk0 rfl kk hrel hlv hlo)
    · cases h
  · obtain ⟨rfl, hm⟩ := hi
    have hm := zLabs_ok _ hm
    unfold zpabs at hm
    dsimp only at hm
    simp only [zstp, show ((7 : Nat) == 0) = false from rfl, show ((7 : Nat) == 1) = false from rfl, show ((7 : Nat) == 5) = false from rfl, show ((7 : Nat) == 6) = false from rfl, show ((7 : Nat) == 7) = true from rfl, cond_false, cond_true] at h
    split at h
    · rename_i a1 t
      simp only [zgo, Option.some.injEq, Prod.mk.injEq, Sum.inl.injEq, decide_eq_true_eq] at h
      obtain ⟨h8, rfl⟩ := h
      exact va_mabs hx hb hsz hown (hts _ (zgd hm rfl)) (hts _ (zgd zw_abs_s rfl)) (hts _ (zgd zw_mini rfl)) (hts _ (zgd zw_abs_c rfl)) (by have := hR.1; omega) (by have := hR.2; have := hcats t h8; omega) (by omega) (by omega) hdg (zk0 rfl kk hrel hlv hlo)
    · cases h
theorem zs_objInit {n : Nat} (hk : zchk y (pc, len, (.invokespecial n), v, b, c0) = true) (hb0 : ¬ b = 0) (h : zstp y (pc, len, (.invokespecial n), v, b, c0) lv st hp = some (true, .inl res)) : zSnd G y pc lv st hp res := by
  intro p l e R s m args below meth c H locs ls cells slots Q C hn hR hrel hlv hlo hcap1 hcap2 kk
  obtain ⟨hx, hb, hml, hown, hts, hKS, hin⟩ := C
  obtain ⟨hdg, hi⟩ := zchk_dec hk
  dsimp only at hdg hi
  simp only [zchkI, Bool.and_eq_true, Bool.or_eq_true, decide_eq_true_eq] at hi
  obtain ⟨rfl, hi⟩ := hi
  have hsz : ls.size = c.maxLocals := by rw [hml, hlv.1, hn]
  have hcats : ∀ (t : List Value), zcats t ≤ 8 → ((t.map (zvr (zro G))).map fun v => v.category).sum ≤ 8 := by
    intro t ht
    rw [List.map_map, show ((fun v : Value => v.category) ∘ zvr (zro G)) = fun v => v.category from funext fun q => zvr_cat _ q]
    exact ht
  rcases hi with hi | hi
  · exact absurd hi.1.1.1 hb0
  · obtain ⟨rfl, hm⟩ := hi
    have hm := zLO_ok _ hm
    unfold zpO at hm
    dsimp only at hm
    simp only [zstp, show ((2 : Nat) == 0) = false from rfl, show ((2 : Nat) == 2) = true from rfl, cond_false, cond_true] at h
    split at h
    · rename_i o t
      simp only [zgo, Option.some.injEq, Prod.mk.injEq, Sum.inl.injEq, decide_eq_true_eq] at h
      obtain ⟨h8, rfl⟩ := h
      exact W.objInit hx hb hown (hts _ (zgd hm rfl)) (hts _ (zgd zw_oin rfl)) (hts _ (zgd zw_oco rfl)) rfl hsz rfl hdg (by have := hR.1; omega) (by have := hR.2; have := hcats t h8; show 2 * 0 + _ + 12 ≤ _; omega) (zk0 rfl kk hrel hlv hlo)
    · cases h
end ZN
