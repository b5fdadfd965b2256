/-! arrays and new cells -/
theorem zty9 (cy : Nat → ClassId) {k : Nat} (h1 : 1 ≤ k) (h2 : k ≤ 9) : (ztys cy)[k - 1]? = some (cy k, zat9.getD (k - 1) .int) := by
  rw [ztys, List.getElem?_map, List.getElem?_range (by omega)]
  simp [show k - 1 + 1 = k by omega]
theorem zat_int {G : zG} {hp : zHp} {o : Nat} {H : Heap} (h : zat G hp o H) (hs : (zshp hp.1 o).1 = 1) : H[zgB G + o]? = some (vp_cell (G.2.1 1) (zlen hp.1 o, .inl (hp.2.1 o))) := by
  unfold zat at h
  rw [show zshp hp.1 o = (1, zlen hp.1 o) from Prod.ext hs rfl] at h
  exact h
theorem zat_short {G : zG} {hp : zHp} {o : Nat} {H : Heap} (h : zat G hp o H) (hs : (zshp hp.1 o).1 = 2) : H[zgB G + o]? = some (vp_cell (G.2.1 2) (zlen hp.1 o, .inl (hp.2.1 o))) := by
  unfold zat at h
  rw [show zshp hp.1 o = (2, zlen hp.1 o) from Prod.ext hs rfl] at h
  exact h
theorem zat_ref {G : zG} {hp : zHp} {o k : Nat} {H : Heap} (h : zat G hp o H) (hs : (zshp hp.1 o).1 = k + 3) : H[zgB G + o]? = some (vp_cell (G.2.1 (k + 3)) (zlen hp.1 o, .inr (.inr (.inr (.inr fun i => zop (zro G) (hp.2.2 o i)))))) := by
  unfold zat at h
  rw [show zshp hp.1 o = (k + 3, zlen hp.1 o) from Prod.ext hs rfl] at h
  exact h
section ZA
variable {G : zG} {y pc len b c0 : Nat} {v : Value} {lv st : List Value} {hp : zHp} {res : Nat × List Value × List Value × zHp}
theorem zs_iaload (hk : zchk y (pc, len, .iaload, v, b, c0) = true) (h : zstp y (pc, len, .iaload, v, b, c0) lv st hp = some (true, .inl res)) : zSnd G y pc lv st hp res := by
  intro p l e R s m args below meth c H locs ls cells slots Q C hn hR hrel hlv hlo hcap1 hcap2 kk
  obtain ⟨hx, hb, hml, hown, hts, hKS, hin⟩ := C
  obtain ⟨hdg, hi⟩ := zchk_dec hk
  dsimp only at hdg hi
  have hl : len = 1 := by simpa [zchkI] using hi
  subst hl
  simp only [zstp] at h
  split at h
  · rename_i i o t
    simp only [zgo, Option.some.injEq, Prod.mk.injEq, Sum.inl.injEq, Bool.and_eq_true] at h
    obtain ⟨⟨ha, hin'⟩, rfl⟩ := h
    have hs : (zshp hp.1 o).1 = 1 := of_decide_eq_true ha
    have hi' := zin_of hin'
    have K := zk0 rfl kk hrel hlv hlo
    by_cases h0 : o = 0
    · subst h0
      have e0 : zlen hp.1 0 = G.2.2.2.2.2.1 := by rw [zlen, hrel.2.2.2.1]
      rw [e0] at hi'
      have hlt : zix i < G.2.2.2.2.2.1 := Nat.not_le.mp fun q => hi' (Or.inr q)
      rw [hrel.2.2.2.2.1 _ hlt] at K
      refine va_sld hx hb hKS.2.1 (A := zgA G) ?_ ?_ (hrel.S hKS hlo) hi' hdg K
      · have := hKS.2.2.1; omega
      · have := hKS.2.2.1.1; show ¬ zgB G < _; omega
    · obtain ⟨g1, g2, g3, g4⟩ := zarr hrel (by rw [hs]; decide) h0
      have hc := zat_int g4 hs
      have K : W p l e R s m args below meth c H locs cells slots Q (F0 m (pc + 1) ls (.int (hp.2.1 o i.toNatClampNeg) :: t.map (zvr (zro G)))) := K
      show W p l e R s m args below meth c H locs cells slots Q (F0 m pc ls (.int i :: .ref (zro G o) :: t.map (zvr (zro G))))
      rw [g3]
      exact va_iald (D := G.1) (cl := zcl) (ws := [(zgB G + o, .inl (G.2.1 1, zlen hp.1 o, .inl (hp.2.1 o)))]) (f := hp.2.1 o) hx hb hKS.1 (zP1 hc) 0 0 rfl (zty9 G.2.1 (k := 1) (by omega) (by omega)) hi' hdg K
  · cases h
theorem zs_saload (hk : zchk y (pc, len, .saload, v, b, c0) = true) (h : zstp y (pc, len, .saload, v, b, c0) lv st hp = some (true, .inl res)) : zSnd G y pc lv st hp res := by
  intro p l e R s m args below meth c H locs ls cells slots Q C hn hR hrel hlv hlo hcap1 hcap2 kk
  obtain ⟨hx, hb, hml, hown, hts, hKS, hin⟩ := C
  obtain ⟨hdg, hi⟩ := zchk_dec hk
  dsimp only at hdg hi
  have hl : len = 1 := by simpa [zchkI] using hi
  subst hl
  simp only [zstp] at h
  split at h
  · rename_i i o t
    simp only [zgo, Option.some.injEq, Prod.mk.injEq, Sum.inl.injEq, Bool.and_eq_true] at h
    obtain ⟨⟨ha, hin'⟩, rfl⟩ := h
    have hs : (zshp hp.1 o).1 = 2 := of_decide_eq_true ha
    have hi' := zin_of hin'
    have h0 : ¬ o = 0 := by
      intro q; subst q; rw [hrel.2.2.2.1] at hs; cases hs
    obtain ⟨g1, g2, g3, g4⟩ := zarr hrel (by rw [hs]; decide) h0
    have hc := zat_short g4 hs
    have K : W p l e R s m args below meth c H locs cells slots Q (F0 m (pc + 1) ls (.int (hp.2.1 o i.toNatClampNeg) :: t.map (zvr (zro G)))) := zk0 rfl kk hrel hlv hlo
    show W p l e R s m args below meth c H locs cells slots Q (F0 m pc ls (.int i :: .ref (zro G o) :: t.map (zvr (zro G))))
    rw [g3]
    exact va_sald (D := G.1) (cl := zcl) (ws := [(zgB G + o, .inl (G.2.1 2, zlen hp.1 o, .inl (hp.2.1 o)))]) (f := hp.2.1 o) hx hb hKS.1 (zP1 hc) 0 1 rfl (zty9 G.2.1 (k := 2) (by omega) (by omega)) hi' hdg K
  · cases h
theorem zs_aaload (hk : zchk y (pc, len, .aaload, v, b, c0) = true) (h : zstp y (pc, len, .aaload, v, b, c0) lv st hp = some (true, .inl res)) : zSnd G y pc lv st hp res := by
  intro p l e R s m args below meth c H locs ls cells slots Q C hn hR hrel hlv hlo hcap1 hcap2 kk
  obtain ⟨hx, hb, hml, hown, hts, hKS, hin⟩ := C
  obtain ⟨hdg, hi⟩ := zchk_dec hk
  dsimp only at hdg hi
  have hl : len = 1 := by simpa [zchkI] using hi
  subst hl
  simp only [zstp] at h
  split at h
  · rename_i i o t
    simp only [zgo, Option.some.injEq, Prod.mk.injEq, Sum.inl.injEq, Bool.and_eq_true, decide_eq_true_eq] at h
    obtain ⟨⟨⟨ha, hin'⟩, hne⟩, rfl⟩ := h
    have hi' := zin_of hin'
    obtain ⟨k, hs⟩ : ∃ k, (zshp hp.1 o).1 = k + 3 := ⟨(zshp hp.1 o).1 - 3, by omega⟩
    have h0 : ¬ o = 0 := by
      intro q; subst q; rw [hrel.2.2.2.1] at hs; simp at hs
    obtain ⟨g1, g2, g3, g4⟩ := zarr hrel (by omega) h0
    have hc := zat_ref g4 hs
    have K : W p l e R s m args below meth c H locs cells slots Q (F0 m (pc + 1) ls (.ref (zro G (hp.2.2 o i.toNatClampNeg)) :: t.map (zvr (zro G)))) := zk0 rfl kk hrel hlv hlo
    show W p l e R s m args below meth c H locs cells slots Q (F0 m pc ls (.int i :: .ref (zro G o) :: t.map (zvr (zro G))))
    rw [g3]
    have hlt : i.toNatClampNeg < zlen hp.1 o := Nat.not_le.mp fun q => hi' (Or.inr q)
    have htt := zty9 G.2.1 (k := k + 3) (by omega) (by omega)
    have hrf : (zat9.getD (k + 3 - 1) .int).isReference = true := by
      rcases (show k = 0 ∨ k = 1 ∨ k = 2 ∨ k = 3 ∨ k = 4 ∨ k = 5 ∨ k = 6 by omega) with rfl | rfl | rfl | rfl | rfl | rfl | rfl <;> rfl
    refine W.aald (v := .ref (zro G (hp.2.2 o i.toNatClampNeg))) (ty := zat9.getD (k + 3 - 1) .int) hx hb hc ((hKS.1.2 _ _ htt).1 (zlen hp.1 o) (fun j => va_rf (zop (zro G) (hp.2.2 o j)))) hrf (fun q => by cases q) ?_ ?_ rfl rfl hdg K
    · show ¬ (i < 0 ∨ (arrV _ _ _).slots.size ≤ _); rw [arrV_size]; exact hi'
    · rw [vp_cell_q]
      show (arrV _ _ _).slots[_]? = _
      rw [arrV_read _ _ hlt]
      have : ¬ hp.2.2 o i.toNatClampNeg = 0 := hne
      simp [zop, this, va_rf]
  · cases h
theorem zs_arraylength (hk : zchk y (pc, len, .arraylength, v, b, c0) = true) (h : zstp y (pc, len, .arraylength, v, b, c0) lv st hp = some (true, .inl res)) : zSnd G y pc lv st hp res := by
  intro p l e R s m args below meth c H locs ls cells slots Q C hn hR hrel hlv hlo hcap1 hcap2 kk
  obtain ⟨hx, hb, hml, hown, hts, hKS, hin⟩ := C
  obtain ⟨hdg, hi⟩ := zchk_dec hk
  dsimp only at hdg hi
  have hl : len = 1 := by simpa [zchkI] using hi
  subst hl
  simp only [zstp] at h
  split at h
  · rename_i o t
    simp only [zgo, Option.some.injEq, Prod.mk.injEq, Sum.inl.injEq, decide_eq_true_eq] at h
    obtain ⟨ha, rfl⟩ := h
    have K : W p l e R s m args below meth c H locs cells slots Q (F0 m (pc + 1) ls (.int (Int32.ofNat (zlen hp.1 o)) :: t.map (zvr (zro G)))) := zk0 rfl kk hrel hlv hlo
    show W p l e R s m args below meth c H locs cells slots Q (F0 m pc ls (.ref (zro G o) :: t.map (zvr (zro G))))
    by_cases h0 : o = 0
    · subst h0
      have e0 : zlen hp.1 0 = G.2.2.2.2.2.1 := by rw [zlen, hrel.2.2.2.1]
      rw [e0] at K
      rw [show zro G 0 = G.2.2.1.1 from rfl]
      refine va_slen hx hb hKS.2.1 (A := zgA G) ?_ ?_ (hrel.S hKS hlo) hdg K
      · have := hKS.2.2.1; omega
      · have := hKS.2.2.1.1; show ¬ zgB G < _; omega
    · obtain ⟨g1, g2, g3, g4⟩ := zarr hrel (by omega) h0
      rw [g3]
      have htt := zty9 G.2.1 (k := (zshp hp.1 o).1) ha.1 ha.2
      have fin : ∀ (a : vp_A), a.1 = zlen hp.1 o → H[zgB G + o]? = some (vp_cell (G.2.1 (zshp hp.1 o).1) a) → W p l e R s m args below meth c H locs cells slots Q (F0 m pc ls (.ref (zgB G + o) :: t.map (zvr (zro G)))) := by
        intro a e1 hc
        exact va_alen (D := G.1) (cl := zcl) (ws := [(zgB G + o, .inl (G.2.1 (zshp hp.1 o).1, a))]) hx hb hKS.1 (zP1 hc) 0 _ rfl htt rfl hdg (by rw [e1]; exact K)
      rcases (show (zshp hp.1 o).1 = 1 ∨ (zshp hp.1 o).1 = 2 ∨ 3 ≤ (zshp hp.1 o).1 by omega) with q | q | q
      · exact fin _ rfl (by rw [q]; exact zat_int g4 q)
      · exact fin _ rfl (by rw [q]; exact zat_short g4 q)
      · obtain ⟨k, hs⟩ : ∃ k, (zshp hp.1 o).1 = k + 3 := ⟨(zshp hp.1 o).1 - 3, by omega⟩
        exact fin _ rfl (by rw [hs]; exact zat_ref g4 hs)
  · cases h
theorem zlo_app {G : zG} {locs : List Loc} {o k : Nat} (hlo : ∀ q ∈ locs, zgA G q.base) (h1 : 1 ≤ o) : ∀ q ∈ locs ++ [⟨zgB G + o, k⟩], zgA G q.base := by
  intro q hq
  rcases List.mem_append.mp hq with hq | hq
  · exact hlo q hq
  · rw [List.mem_singleton.mp hq]; show zgB G < zgB G + o; omega
theorem zs_iastore (hk : zchk y (pc, len, .iastore, v, b, c0) = true) (h : zstp y (pc, len, .iastore, v, b, c0) lv st hp = some (true, .inl res)) : zSnd G y pc lv st hp res := by
  intro p l e R s m args below meth c H locs ls cells slots Q C hn hR hrel hlv hlo hcap1 hcap2 kk
  obtain ⟨hx, hb, hml, hown, hts, hKS, hin⟩ := C
  obtain ⟨hdg, hi⟩ := zchk_dec hk
  dsimp only at hdg hi
  have hl : len = 1 := by simpa [zchkI] using hi
  subst hl
  simp only [zstp] at h
  split at h
  · rename_i x i o t
    simp only [zgo, Option.some.injEq, Prod.mk.injEq, Sum.inl.injEq, Bool.and_eq_true, decide_eq_true_eq] at h
    obtain ⟨⟨⟨h0, ha⟩, hin'⟩, rfl⟩ := h
    have hs : (zshp hp.1 o).1 = 1 := of_decide_eq_true ha
    have hi' := zin_of hin'
    obtain ⟨g1, g2, g3, g4⟩ := zarr hrel (by rw [hs]; decide) h0
    have hc := zat_int g4 hs
    show W p l e R s m args below meth c H locs cells slots Q (F0 m pc ls (.int x :: .int i :: .ref (zro G o) :: t.map (zvr (zro G))))
    rw [g3]
    refine W.iast hx hb hc ((hKS.1.2 _ _ (zty9 G.2.1 (k := 1) (by omega) (by omega))).1 (zlen hp.1 o) (fun j => .int (hp.2.1 o j))) (fun q => by cases q) (by show ¬ (i < 0 ∨ (arrV _ _ _).slots.size ≤ _); rw [arrV_size]; exact hi') rfl rfl hdg fun H' e1 e2 e3 => ?_
    refine zk0 rfl kk (hrel.upd g1 g2 (fun x' hx' => zup_ne _ _ _ _ hx') (fun _ _ => rfl) e2 e3 ?_) hlv (zlo_app hlo g1)
    unfold zat
    show va_at _ _ (_, zE _ _ (zshp hp.1 o) _ _) H'
    rw [show zshp hp.1 o = (1, zlen hp.1 o) from Prod.ext hs rfl]
    show H'[zgB G + o]? = some (arrV (G.2.1 1) (zlen hp.1 o) (fun j => .int (zup hp.2.1 o (zix i) x o j)))
    rw [e1]
    show some ((arrV (G.2.1 1) (zlen hp.1 o) (fun j => .int (hp.2.1 o j))).setSlot i.toNatClampNeg (.int x)) = _
    rw [arrV_store]
    congr 2
    funext j
    by_cases q : j = i.toNatClampNeg
    · subst q; simp [updV, zup, zix]
    · simp [updV, zup, zix, q]
  · cases h
theorem zs_sastore (hk : zchk y (pc, len, .sastore, v, b, c0) = true) (h : zstp y (pc, len, .sastore, v, b, c0) lv st hp = some (true, .inl res)) : zSnd G y pc lv st hp res := by
  intro p l e R s m args below meth c H locs ls cells slots Q C hn hR hrel hlv hlo hcap1 hcap2 kk
  obtain ⟨hx, hb, hml, hown, hts, hKS, hin⟩ := C
  obtain ⟨hdg, hi⟩ := zchk_dec hk
  dsimp only at hdg hi
  have hl : len = 1 := by simpa [zchkI] using hi
  subst hl
  simp only [zstp] at h
  split at h
  · rename_i x i o t
    simp only [zgo, Option.some.injEq, Prod.mk.injEq, Sum.inl.injEq, Bool.and_eq_true, decide_eq_true_eq] at h
    obtain ⟨⟨⟨h0, ha⟩, hin'⟩, rfl⟩ := h
    have hs : (zshp hp.1 o).1 = 2 := of_decide_eq_true ha
    have hi' := zin_of hin'
    obtain ⟨g1, g2, g3, g4⟩ := zarr hrel (by rw [hs]; decide) h0
    have hc := zat_short g4 hs
    show W p l e R s m args below meth c H locs cells slots Q (F0 m pc ls (.int x :: .int i :: .ref (zro G o) :: t.map (zvr (zro G))))
    rw [g3]
    refine W.sast hx hb hc ((hKS.1.2 _ _ (zty9 G.2.1 (k := 2) (by omega) (by omega))).1 (zlen hp.1 o) (fun j => .int (hp.2.1 o j))) (fun q => by cases q) (by show ¬ (i < 0 ∨ (arrV _ _ _).slots.size ≤ _); rw [arrV_size]; exact hi') rfl rfl hdg fun H' e1 e2 e3 => ?_
    refine zk0 rfl kk (hrel.upd g1 g2 (fun x' hx' => zup_ne _ _ _ _ hx') (fun _ _ => rfl) e2 e3 ?_) hlv (zlo_app hlo g1)
    unfold zat
    show va_at _ _ (_, zE _ _ (zshp hp.1 o) _ _) H'
    rw [show zshp hp.1 o = (2, zlen hp.1 o) from Prod.ext hs rfl]
    show H'[zgB G + o]? = some (arrV (G.2.1 2) (zlen hp.1 o) (fun j => .int (zup hp.2.1 o (zix i) x.toInt16.toInt32 o j)))
    rw [e1]
    show some ((arrV (G.2.1 2) (zlen hp.1 o) (fun j => .int (hp.2.1 o j))).setSlot i.toNatClampNeg (narrow .short (.int x))) = _
    rw [arrV_store]
    congr 2
    funext j
    by_cases q : j = i.toNatClampNeg
    · subst q; simp [updV, zup, zix, narrow]
    · simp [updV, zup, zix, q]
  · cases h
theorem zs_aastore (hk : zchk y (pc, len, .aastore, v, b, c0) = true) (h : zstp y (pc, len, .aastore, v, b, c0) lv st hp = some (true, .inl res)) : zSnd G y pc lv st hp res := by
  intro p l e R s m args below meth c H locs ls cells slots Q C hn hR hrel hlv hlo hcap1 hcap2 kk
  obtain ⟨hx, hb, hml, hown, hts, hKS, hin⟩ := C
  obtain ⟨hdg, hi⟩ := zchk_dec hk
  dsimp only at hdg hi
  have hl : len = 1 := by simpa [zchkI] using hi
  subst hl
  simp only [zstp] at h
  split at h
  · rename_i x i o t
    simp only [zgo, Option.some.injEq, Prod.mk.injEq, Sum.inl.injEq, Bool.and_eq_true, decide_eq_true_eq] at h
    obtain ⟨⟨⟨ha, hin'⟩, hxo⟩, rfl⟩ := h
    have hi' := zin_of hin'
    obtain ⟨k, hs⟩ : ∃ k, (zshp hp.1 o).1 = k + 3 := ⟨(zshp hp.1 o).1 - 3, by omega⟩
    have h0 : ¬ o = 0 := by
      intro q; subst q; rw [hrel.2.2.2.1] at hs; simp at hs
    obtain ⟨g1, g2, g3, g4⟩ := zarr hrel (by omega) h0
    have hc := zat_ref g4 hs
    rw [hs] at hxo
    obtain ⟨w1, w2, w3, w4, w5⟩ := zobj hrel hxo
    show W p l e R s m args below meth c H locs cells slots Q (F0 m pc ls (.ref (zro G x) :: .int i :: .ref (zro G o) :: t.map (zvr (zro G))))
    have wro := w3
    rw [g3, w3]
    have hk5 : k < 6 := by omega
    have hci : zelem (k + 3) < 13 := by
      rcases (show k = 0 ∨ k = 1 ∨ k = 2 ∨ k = 3 ∨ k = 4 ∨ k = 5 by omega) with rfl | rfl | rfl | rfl | rfl | rfl <;> decide
    have htn : zat9.getD (k + 3 - 1) .int = .object (zRn (zelem (k + 3))) := by
      rcases (show k = 0 ∨ k = 1 ∨ k = 2 ∨ k = 3 ∨ k = 4 ∨ k = 5 by omega) with rfl | rfl | rfl | rfl | rfl | rfl <;> rfl
    have htt := zty9 G.2.1 (k := k + 3) (by omega) (by omega)
    rw [htn] at htt
    have k6 := (zOkC_all _ hci).2.2.2.2.2.1
    obtain ⟨r', hr', cellV, q1, q2, q3, -⟩ := w5
    have hcls := (hKS.1.1 _ _ k6).2
    dsimp only at hcls
    obtain ⟨kA, comp, c1, c2, c3, -⟩ := (hKS.1.2 _ _ htt).2
    have hcomp : comp = G.1.1 (zelem (k + 3)) := Option.some.inj (c3.symm.trans hcls.1)
    subst hcomp
    obtain ⟨kC, hkC, -⟩ := hcls.2
    have hlt : i.toNatClampNeg < zlen hp.1 o := Nat.not_le.mp fun q => hi' (Or.inr q)
    refine W.aast hx hb hc (fun q h => by cases h) (fun h => by cases h) c1 c2 rfl hkC ⟨fun q => hi' (Or.inl q), by show _ < (arrV _ _ _).slots.size; rw [arrV_size]; exact hlt⟩ q1 (fun q h => by rw [q3] at h; cases h) (by rw [q2]; exact hkC) (by rw [q2]; exact va_assign hcls) rfl rfl hdg fun H' e1 e2 e3 => ?_
    refine zk0 rfl kk (hrel.upd g1 g2 (fun _ _ => rfl) (fun x' hx' => zup_ne _ _ _ _ hx') e2 e3 ?_) hlv (zlo_app hlo g1)
    unfold zat
    show va_at _ _ (_, zE _ _ (zshp hp.1 o) _ _) H'
    rw [show zshp hp.1 o = (k + 3, zlen hp.1 o) from Prod.ext hs rfl]
    show H'[zgB G + o]? = some (arrV (G.2.1 (k + 3)) (zlen hp.1 o) (fun j => va_rf (zop (zro G) (zup hp.2.2 o (zix i) x o j))))
    rw [e1, vp_cell_q, arrV_store]
    congr 2
    funext j
    by_cases q : j = i.toNatClampNeg
    · subst q
      have hx0 : ¬ x = 0 := Nat.ne_of_gt w1
      simp [updV, zup, zix, zop, hx0, va_rf, wro]
    · simp [updV, zup, zix, q]
  · cases h
end ZA
