/-! THE SMALL MACHINE'S HEAP AND THE MACHINE'S: reads, writes, new cells -/
theorem zlt {Z : List (Nat × Nat)} {a : Nat} {x : Nat × Nat} (h : zshp Z a = x) (hx : x.1 ≠ 99) : a < Z.length := by
  apply Nat.lt_of_not_le
  intro q
  apply hx
  rw [← h, zshp, List.getD_eq_getElem?_getD, List.getElem?_eq_none q]
  rfl
theorem zP1 {D : va_G} {cl : List vw_C} {q : Nat × va_E} {H : Heap} (h : va_at D cl q H) : va_P D cl [q] H := by
  intro k x hx
  cases k with
  | zero => cases hx; exact h
  | succ k => simp at hx
theorem zuws {C : String} {T : u_T} {N : Nat} (h : ∀ w ∈ u_ws C T N, w ∈ lw_tbl) : ∀ w ∈ u_ws C T N, w ∈ zTB := by
  intro w hw
  refine zgd (h w hw) ?_
  obtain ⟨k, -, rfl⟩ := List.mem_map.mp hw
  unfold u_lay
  split <;> rfl
theorem zro_in {G : zG} {hp : zHp} {H : Heap} (hrel : zRel G hp H) {o : Nat} (h1 : 1 ≤ o) (h2 : o < hp.1.length) : zro G o = zgB G + o := by
  have := hrel.2.2.2.2.2.2
  rw [zro, if_neg (by omega), if_neg (by omega)]
theorem zobj {G : zG} {hp : zHp} {H : Heap} {o ci : Nat} (hrel : zRel G hp H) (ho : zisO hp.1 o ci = true) : 1 ≤ o ∧ o < hp.1.length ∧ zro G o = zgB G + o ∧ zshp hp.1 o = (0, ci) ∧ va_at G.1 zcl (zgB G + o, .inr (ci, zfs (zro G) ci (hp.2.1 o) (hp.2.2 o))) H := by
  have h : zshp hp.1 o = (0, ci) := of_decide_eq_true ho
  have h2 : o < hp.1.length := zlt h (by simp)
  have h1 : 1 ≤ o := by
    rcases Nat.eq_zero_or_pos o with q | q
    · subst q
      rw [hrel.2.2.2.1] at h
      cases h
    · exact q
  refine ⟨h1, h2, zro_in hrel h1 h2, h, ?_⟩
  have := hrel.2.1 o h1 h2
  rw [zat, h] at this
  exact this
theorem zarr {G : zG} {hp : zHp} {H : Heap} {o : Nat} (hrel : zRel G hp H) (h9 : (zshp hp.1 o).1 ≠ 99) (h0 : ¬ o = 0) : 1 ≤ o ∧ o < hp.1.length ∧ zro G o = zgB G + o ∧ zat G hp o H := by
  have h2 : o < hp.1.length := zlt rfl h9
  exact ⟨by omega, h2, zro_in hrel (by omega) h2, hrel.2.1 o (by omega) h2⟩
theorem zRel.S {G : zG} {hp : zHp} {H : Heap} {s : State} {locs : List Loc} (hrel : zRel G hp H) (hKS : zKS G s) (hlo : ∀ q ∈ locs, zgA G q.base) : va_S (zgA G) (zgH G) H locs := by
  have h1 := hrel.1
  have h2 := hKS.2.2.1.2
  have h3 := hrel.2.2.2.2.2.1
  refine ⟨by omega, fun q hq hA => hrel.2.2.1 q ?_, hlo⟩
  have : ¬ zgB G < q := hA
  omega
theorem zin_of {i : Int32} {n : Nat} (h : zinb i n = true) : vp_in i n := by
  unfold zinb at h
  rw [Bool.and_eq_true, decide_eq_true_eq, decide_eq_true_eq] at h
  intro q
  rcases q with q | q
  · exact h.1 q
  · have := h.2
    unfold zix at this
    omega
theorem zup_ne {α : Type} (f : Nat → Nat → α) (a k : Nat) (v : α) {x : Nat} (h : x ≠ a) : zup f a k v x = f x := by
  funext j
  simp [zup, h]
theorem zcell_ne {α : Type} (f : Nat → Nat → α) (a : Nat) (g : Nat → α) {x : Nat} (h : x ≠ a) : zcell f a g x = f x := by
  funext j
  simp [zcell, h]
theorem zcell_self {α : Type} (f : Nat → Nat → α) (a : Nat) (g : Nat → α) : zcell f a g a = g := by
  funext j
  simp [zcell]
theorem zat.kept {G : zG} {hp hp' : zHp} {k : Nat} {H H' : Heap} (h : zat G hp k H) (hq : H'[zgB G + k]? = H[zgB G + k]?) (h1 : zshp hp'.1 k = zshp hp.1 k) (h2 : hp'.2.1 k = hp.2.1 k) (h3 : hp'.2.2 k = hp.2.2 k) : zat G hp' k H' := by
  unfold zat
  rw [h1, h2, h3]
  exact va_at.kept h hq
/-- one old cell has changed -/
theorem zRel.upd {G : zG} {hp : zHp} {H H' : Heap} (h : zRel G hp H) {o : Nat} (h1 : 1 ≤ o) (h2 : o < hp.1.length) {I' : Nat → Nat → Int32} {P' : Nat → Nat → Nat} (hI : ∀ x, x ≠ o → I' x = hp.2.1 x) (hP : ∀ x, x ≠ o → P' x = hp.2.2 x) (hz : H'.size = H.size) (hq : ∀ q, q ≠ zgB G + o → H'[q]? = H[q]?) (hc : zat G (hp.1, I', P') o H') : zRel G (hp.1, I', P') H' := by
  obtain ⟨a1, a2, a3, a4, a5, a6, a7⟩ := h
  refine ⟨hz.trans a1, fun k k1 k2 => ?_, fun q k1 => ?_, a4, fun j hj => ?_, a6, a7⟩
  · by_cases e : k = o
    · subst e; exact hc
    · exact (a2 k k1 k2).kept (hq _ (by omega)) rfl (hI k e) (hP k e)
  · rw [hq q (by omega)]; exact a3 q k1
  · show I' 0 j = _
    rw [hI 0 (by omega)]; exact a5 j hj
theorem zshp_app_lt {Z : List (Nat × Nat)} {Y : List (Nat × Nat)} {k : Nat} (h : k < Z.length) : zshp (Z ++ Y) k = zshp Z k := by
  simp only [zshp, List.getD_eq_getElem?_getD]
  rw [List.getElem?_append_left h]
theorem zshp_app {Z : List (Nat × Nat)} {x : Nat × Nat} : zshp (Z ++ [x]) Z.length = x := by
  simp [zshp, List.getD_eq_getElem?_getD]
/-- one cell more -/
theorem zRel.push {G : zG} {hp : zHp} {H H' : Heap} {sh : Nat × Nat} (h : zRel G hp H) (hlen : hp.1.length < 900000) (hz : H'.size = H.size + 1) (hq : ∀ q, q < H.size → H'[q]? = H[q]?) (hc : va_at G.1 zcl (H.size, zE (zro G) G.2.1 sh (fun _ => 0) (fun _ => 0)) H') : zRel G (hp.1 ++ [sh], zcell hp.2.1 hp.1.length (fun _ => 0), zcell hp.2.2 hp.1.length (fun _ => 0)) H' := by
  obtain ⟨a1, a2, a3, a4, a5, a6, a7⟩ := h
  have hL : (hp.1 ++ [sh]).length = hp.1.length + 1 := by simp
  refine ⟨?_, fun k k1 k2 => ?_, fun q k1 => ?_, ?_, fun j hj => ?_, ?_, ?_⟩
  · show H'.size = _ + (hp.1 ++ [sh]).length
    rw [hL, hz, a1]; omega
  · have k2 : k < (hp.1 ++ [sh]).length := k2
    rw [hL] at k2
    by_cases e : k = hp.1.length
    · subst e
      unfold zat
      show va_at _ _ (_, zE _ _ (zshp (hp.1 ++ [sh]) hp.1.length) (zcell hp.2.1 hp.1.length (fun _ => 0) hp.1.length) (zcell hp.2.2 hp.1.length (fun _ => 0) hp.1.length)) H'
      rw [zshp_app, zcell_self, zcell_self]
      rw [a1] at hc
      exact hc
    · exact (a2 k k1 (by omega)).kept (hq _ (by omega)) (zshp_app_lt (by omega)) (zcell_ne _ _ _ e) (zcell_ne _ _ _ e)
  · rw [hq q (by omega)]; exact a3 q k1
  · show zshp (hp.1 ++ [sh]) 0 = _
    rw [zshp_app_lt (by omega)]; exact a4
  · show zcell hp.2.1 hp.1.length (fun _ => 0) 0 j = _
    rw [zcell_ne _ _ _ (by omega)]; exact a5 j hj
  · show 1 ≤ (hp.1 ++ [sh]).length
    omega
  · show (hp.1 ++ [sh]).length ≤ 950000
    omega
theorem zfs_get {ro : Nat → Nat} {ci k : Nat} {I : Nat → Int32} {P : Nat → Nat} (h : k < znf ci) : (zfs ro ci I P)[k]? = some (zfv ro ci I P k) := by
  simp [zfs, h]
theorem zfs_V {ro : Nat → Nat} {ci k : Nat} {I : Nat → Int32} {P : Nat → Nat} (h : k < znf ci) : vp_V (zfs ro ci I P) k = zfv ro ci I P k := by
  simp [vp_V, List.getD_eq_getElem?_getD, zfs_get h]
section ZH
variable {G : zG} {y pc len b c0 : Nat} {v : Value} {lv st : List Value} {hp : zHp} {res : Nat × List Value × List Value × zHp}
theorem zs_getfield {n : Nat} (hk : zchk y (pc, len, (.getfield n), v, b, c0) = true) (h : zstp y (pc, len, (.getfield n), v, b, c0) lv st hp = some (true, .inl res)) : zSnd G y pc lv st hp res := by
  intro p l e R s m args below meth c H locs ls cells slots Q C hn hR hrel hlv hlo hcap1 hcap2 kk
  obtain ⟨hx, hb, hml, hown, hts, hKS, hin⟩ := C
  obtain ⟨hdg, hi⟩ := zchk_dec hk
  dsimp only at hdg hi
  simp only [zchkI, Bool.and_eq_true, decide_eq_true_eq] at hi
  obtain ⟨⟨⟨rfl, h1⟩, h2⟩, h3⟩ := hi
  have hm := zLF_ok _ h3
  unfold zpF at hm
  dsimp only at hm
  obtain ⟨k1, k2, k3, k4, k5, k6, k7, k8⟩ := zOkC_all b h1
  simp only [zstp] at h
  split at h
  · rename_i o t
    have key : ∀ (w : Value), zisO hp.1 o b = true → zfv (zro G) b (hp.2.1 o) (hp.2.2 o) c0 = w → W p l e R s m args below meth c H locs cells slots Q (F0 m (pc + 3) ls (w :: t.map (zvr (zro G)))) → W p l e R s m args below meth c H locs cells slots Q (F0 m pc ls (.ref (zro G o) :: t.map (zvr (zro G)))) := by
      intro w ho hw K
      obtain ⟨g1, g2, g3, g4, g5⟩ := zobj hrel ho
      rw [g3]
      exact va_get (D := G.1) (ci := b) (C := zRn b) (T := zTf b) (N := znf b) (v := w) (Ts := zTB) hx hb hts (zuws k1) hown hKS.1 (zP1 g5) 0 rfl k6 c0 h2 (hts _ (zgd hm rfl)) (fun _ h => h) (by rw [zfs_get h2, hw]) hdg K
    by_cases hf : zfk b c0 = 0
    · rw [show (zfk b c0 == 0) = true by simp [hf]] at h
      simp only [cond_true, zgo, Option.some.injEq, Prod.mk.injEq, Sum.inl.injEq, Bool.and_eq_true, decide_eq_true_eq] at h
      obtain ⟨⟨ho, hne⟩, rfl⟩ := h
      refine key (.ref (zro G (hp.2.2 o c0))) ho ?_ (zk0 rfl kk hrel hlv hlo)
      simp [zfv, hf, zop, hne, va_rf]
    · rw [show (zfk b c0 == 0) = false by simp [hf]] at h
      simp only [cond_false, zgo, Option.some.injEq, Prod.mk.injEq, Sum.inl.injEq] at h
      obtain ⟨ho, rfl⟩ := h
      refine key (.int (hp.2.1 o c0)) ho ?_ (zk0 rfl kk hrel hlv hlo)
      simp [zfv, hf]
  · cases h
theorem zs_putfield {n : Nat} (hk : zchk y (pc, len, (.putfield n), v, b, c0) = true) (hkF : zchkF y (pc, len, (.putfield n), v, b, c0) = true) (h : zstp y (pc, len, (.putfield n), v, b, c0) lv st hp = some (true, .inl res)) : zSnd G y pc lv st hp res := by
  intro p l e R s m args below meth c H locs ls cells slots Q C hn hR hrel hlv hlo hcap1 hcap2 kk
  obtain ⟨hx, hb, hml, hown, hts, hKS, hin⟩ := C
  obtain ⟨hdg, hi⟩ := zchk_dec hk
  dsimp only at hdg hi
  simp only [zchkI, Bool.and_eq_true, decide_eq_true_eq] at hi
  obtain ⟨⟨⟨rfl, h1⟩, h2⟩, h3⟩ := hi
  have hm := zLF_ok _ h3
  unfold zpF at hm
  dsimp only at hm
  obtain ⟨k1, k2, k3, k4, k5, k6, k7, k8⟩ := zOkC_all b h1
  have key : ∀ (o : Nat) (t : List Value) (w : Value) (I' : Nat → Nat → Int32) (P' : Nat → Nat → Nat), zisO hp.1 o b = true → narrow (zty b c0) w = w → fits (zty b c0) w = true → (∀ x, x ≠ o → I' x = hp.2.1 x) → (∀ x, x ≠ o → P' x = hp.2.2 x) →
      (∀ j, j < znf b → zfv (zro G) b (I' o) (P' o) j = if j = c0 then w else zfv (zro G) b (hp.2.1 o) (hp.2.2 o) j) → zKont G p l e R s m args below meth c Q cells slots hp (pc + 3, lv, t, (hp.1, I', P')) →
      W p l e R s m args below meth c H locs cells slots Q (F0 m pc ls (w :: .ref (zro G o) :: t.map (zvr (zro G)))) := by
    intro o t w I' P' ho hnw hfw hI hP hV kk
    obtain ⟨g1, g2, g3, g4, g5⟩ := zobj hrel ho
    rw [g3]
    have hap := va_apart (own := zRn (zown y)) hts (zuws k1) (zty b) k2 k3 hKS.1 k6
    obtain ⟨r, hr1, cell, q1, q2, q3, q4⟩ := g5
    have hr : r = (zRn b, zTf b, znf b) := Option.some.inj (hr1.symm.trans k6)
    subst hr
    dsimp only at q1 q2 q3 q4
    obtain ⟨hS, hfc, kC, hkC, hkind⟩ := hKS.1.1 b _ k6
    obtain ⟨cf, kf, fi, f, hi', hsl⟩ := hS c0 h2
    dsimp only at hi' hsl hfc
    have hst := (u_facts hfc hkC (u_lays hts (zuws k1) h2) hi').1
    have fin : ∀ (H' : Heap), H'[zgB G + o]? = some (cell.setSlot f.slot w) → H'.size = H.size → (∀ q, q ≠ zgB G + o → H'[q]? = H[q]?) → W p l e R s m args below meth c H' (locs ++ [⟨zgB G + o, f.slot⟩]) cells slots Q (F0 m (pc + 3) ls (t.map (zvr (zro G)))) := by
      intro H' e1 e2 e3
      rw [hsl] at e1
      have hat : zat G (hp.1, I', P') o H' := by
        unfold zat
        show va_at _ _ (_, zE _ _ (zshp hp.1 o) (I' o) (P' o)) H'
        rw [g4]
        refine ⟨_, k6, ?_⟩
        refine t_OB.to (V := updV (vp_V (zfs (zro G) b (hp.2.1 o) (hp.2.2 o))) c0 w) ⟨_, e1, q2, q3, t_set q4 hap h2 w⟩ (fun j hj => ?_)
        rw [zfs_V hj, hV j hj]
        unfold updV
        rw [zfs_V hj]
      exact zk0 rfl kk (hrel.upd g1 g2 hI hP e2 e3 hat) hlv (fun q hq => by
        rcases List.mem_append.mp hq with hq | hq
        · exact hlo q hq
        · rw [List.mem_singleton.mp hq]; show zgB G < zgB G + o; omega)
    by_cases hfin : (zTf b c0).2.2.2 = true
    · have hlay := hts _ (zuws k1 _ (u_in_lay h2))
      unfold u_lay at hlay
      rw [if_pos hfin] at hlay
      simp only [zchkF, hfin, Bool.not_true, Bool.false_or, Bool.and_eq_true, decide_eq_true_eq] at hkF
      have hcf : m.cls = cf := by
        obtain ⟨_, _, c', _, _, _, -, -, hf', -, -, -, hown2, -⟩ := Cond.laysFinal_spec hlay
        have e1 : c' = cf := by have := hi'.symm.trans hf'; simp at this; exact this.1.symm
        rw [k8 c0 h2, ← hkF.2] at hown2
        rw [← e1]; exact Option.some.inj (hown.symm.trans hown2)
      have h6 := u_fits hfc hkC hkind (Or.inr hlay) hi' (k2 c0 h2) hnw hfw
      exact W.putFinK hx hb hown (hts _ (zgd hm rfl)) hi' hst hcf (hin hkF.1) (by rw [q2]; exact h6) q1 q3 (by rw [hsl]; exact k2_hasslot (q4 c0 h2)) rfl rfl hdg fin
    · have hlay := hts _ (zuws k1 _ (u_in_lay h2))
      unfold u_lay at hlay
      rw [if_neg hfin] at hlay
      have h6 := u_store hfc hkC hkind hlay hi' (k2 c0 h2) hnw hfw
      exact W.putK hx hb (f := f) ⟨hown, hts _ (zgd hm rfl), ⟨_, _, _, hi'⟩, hst⟩ (by rw [q2]; exact h6) q1 q3 (by rw [hsl]; exact k2_hasslot (q4 c0 h2)) rfl rfl hdg fin
  simp only [zstp] at h
  split at h
  · rename_i x o t
    simp only [zgo, Option.some.injEq, Prod.mk.injEq, Sum.inl.injEq, Bool.and_eq_true, decide_eq_true_eq] at h
    obtain ⟨⟨⟨ho, hf⟩, hx0⟩, rfl⟩ := h
    have hty : (∃ nn, zty b c0 = .object nn) ∨ ∃ tt, zty b c0 = .array tt := by
      rcases k7 c0 h2 with q | q | q
      · exact q.2
      · rw [hf] at q; cases q.1
      · rw [hf] at q; cases q.1
    refine key o t (.ref (zro G x)) hp.2.1 (zup hp.2.2 o c0 x) ho ?_ ?_ (fun _ _ => rfl) (fun x' hx' => zup_ne _ _ _ _ hx') (fun j hj => ?_) kk
    · rcases hty with ⟨nn, q⟩ | ⟨nn, q⟩ <;> rw [q] <;> rfl
    · rcases hty with ⟨nn, q⟩ | ⟨nn, q⟩ <;> rw [q] <;> rfl
    · by_cases e : j = c0
      · subst e; simp [zfv, hf, zup, zop, hx0, va_rf]
      · simp [zfv, e, zup]
  · rename_i x o t
    simp only [zgo, Option.some.injEq, Prod.mk.injEq, Sum.inl.injEq, Bool.and_eq_true, Bool.or_eq_true, decide_eq_true_eq] at h
    obtain ⟨⟨ho, hf⟩, rfl⟩ := h
    have hf0 : ¬ zfk b c0 = 0 := by rcases hf with q | q <;> omega
    have hty : narrow (zty b c0) (.int x) = .int x ∧ fits (zty b c0) (.int x) = true := by
      rcases k7 c0 h2 with q | q | q
      · exact absurd q.1 hf0
      · rw [q.2]; exact ⟨rfl, rfl⟩
      · rcases hf with q' | q'
        · rw [q'] at q; cases q.1
        · rw [q.2]
          have := q'.2
          simp only [zbool, Bool.or_eq_true, decide_eq_true_eq] at this
          rcases this with rfl | rfl <;> exact ⟨by decide, by decide⟩
    refine key o t (.int x) (zup hp.2.1 o c0 x) hp.2.2 ho hty.1 hty.2 (fun x' hx' => zup_ne _ _ _ _ hx') (fun _ _ => rfl) (fun j hj => ?_) kk
    by_cases e : j = c0
    · subst e; simp [zfv, hf0, zup]
    · simp [zfv, e, zup]
  · cases h
end ZH
