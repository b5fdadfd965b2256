/-! new short[n][k] -/
theorem zns_mul (Z : List (Nat × Nat)) (N K : Nat) : zns (Z ++ ((9, N) :: List.replicate N (2, K))) = zns Z + (N + N * K) := by
  simp [zns, List.map_replicate, List.sum_replicate_nat]
theorem zshp_mul {Z : List (Nat × Nat)} {N K : Nat} : zshp (Z ++ ((9, N) :: List.replicate N (2, K))) Z.length = (9, N) := by
  simp [zshp, List.getD_eq_getElem?_getD]
theorem zshp_mul2 {Z : List (Nat × Nat)} {N K j : Nat} (h : j < N) : zshp (Z ++ ((9, N) :: List.replicate N (2, K))) (Z.length + 1 + j) = (2, K) := by
  rw [zshp, List.getD_eq_getElem?_getD, List.getElem?_append_right (by omega), show Z.length + 1 + j - Z.length = j + 1 by omega, List.getElem?_cons_succ, List.getElem?_replicate, if_pos h]
  rfl
theorem zRel.pushM {G : zG} {hp : zHp} {H F : Heap} {N K : Nat} (h : zRel G hp H) (hlen : hp.1.length < 900000) (hN : N ≤ 1000) (hz : F.size = H.size + 1 + N) (hq : ∀ q, q < H.size → F[q]? = H[q]?)
    (h1 : F[H.size]? = some (vp_cell (G.2.1 9) (N, .inr (.inr (.inr (.inr (fun i => if i < N then some (H.size + 1 + i) else none))))))) (h2 : ∀ j, j < N → F[H.size + 1 + j]? = some (vp_cell (G.2.1 2) (K, .inl (fun _ => 0)))) :
    zRel G (hp.1 ++ ((9, N) :: List.replicate N (2, K)), (fun x j => if hp.1.length ≤ x then 0 else hp.2.1 x j), (fun x j => if x = hp.1.length ∧ j < N then hp.1.length + 1 + j else if hp.1.length ≤ x then 0 else hp.2.2 x j)) F := by
  obtain ⟨a1, a2, a3, a4, a5, a6, a7⟩ := h
  have hL : (hp.1 ++ ((9, N) :: List.replicate N (2, K))).length = hp.1.length + 1 + N := by simp; omega
  refine ⟨?_, fun k k1 k2 => ?_, fun q k1 => ?_, ?_, fun j hj => ?_, ?_, ?_⟩
  · show F.size = _ + (hp.1 ++ ((9, N) :: List.replicate N (2, K))).length
    rw [hL, hz, a1]; omega
  · have k2 : k < (hp.1 ++ ((9, N) :: List.replicate N (2, K))).length := k2
    rw [hL] at k2
    by_cases e : k < hp.1.length
    · refine (a2 k k1 e).kept (hq _ (by omega)) (zshp_app_lt e) ?_ ?_
      · funext j
        show (if hp.1.length ≤ k then 0 else hp.2.1 k j) = _
        rw [if_neg (by omega)]
      · funext j
        show (if k = hp.1.length ∧ j < N then hp.1.length + 1 + j else if hp.1.length ≤ k then 0 else hp.2.2 k j) = _
        rw [if_neg (by omega), if_neg (by omega)]
    · by_cases e2 : k = hp.1.length
      · subst e2
        unfold zat
        show va_at _ _ (_, zE _ _ (zshp (hp.1 ++ ((9, N) :: List.replicate N (2, K))) hp.1.length) _ _) F
        rw [zshp_mul]
        show F[_]? = some (vp_cell (G.2.1 9) (N, .inr (.inr (.inr (.inr fun i => zop (zro G) (if hp.1.length = hp.1.length ∧ i < N then hp.1.length + 1 + i else if hp.1.length ≤ hp.1.length then 0 else hp.2.2 hp.1.length i))))))
        rw [← a1, h1]
        congr 7
        funext i
        by_cases hi : i < N
        · rw [if_pos hi, if_pos ⟨rfl, hi⟩, zop, if_neg (by omega), zro, if_neg (by omega), if_neg (by omega), a1]
          congr 1
          show zgB G + hp.1.length + 1 + i = zgB G + (hp.1.length + 1 + i)
          omega
        · rw [if_neg hi, if_neg (fun q => hi q.2), if_pos (Nat.le_refl _)]
          rfl
      · obtain ⟨j, rfl⟩ : ∃ j, k = hp.1.length + 1 + j := ⟨k - hp.1.length - 1, by omega⟩
        unfold zat
        show va_at _ _ (_, zE _ _ (zshp (hp.1 ++ ((9, N) :: List.replicate N (2, K))) (hp.1.length + 1 + j)) _ _) F
        rw [zshp_mul2 (by omega)]
        show F[_]? = some (vp_cell (G.2.1 2) (K, .inl (fun i => if hp.1.length ≤ hp.1.length + 1 + j then 0 else hp.2.1 (hp.1.length + 1 + j) i)))
        rw [show zgB G + (hp.1.length + 1 + j) = H.size + 1 + j by omega, h2 j (by omega)]
        congr 4
        funext i
        rw [if_pos (by omega)]
  · rw [hq q (by omega)]; exact a3 q k1
  · show zshp (hp.1 ++ ((9, N) :: List.replicate N (2, K))) 0 = _
    rw [zshp_app_lt (by omega)]; exact a4
  · show (if hp.1.length ≤ 0 then 0 else hp.2.1 0 j) = _
    rw [if_neg (by omega)]; exact a5 j hj
  · show 1 ≤ (hp.1 ++ ((9, N) :: List.replicate N (2, K))).length
    omega
  · show (hp.1 ++ ((9, N) :: List.replicate N (2, K))).length ≤ 950000
    omega
section ZMU
variable {G : zG} {y pc len b c0 : Nat} {v : Value} {lv st : List Value} {hp : zHp} {res : Nat × List Value × List Value × zHp}
theorem zouter (c : ClassId) (N h0 : Nat) : ∀ i : Nat, Jvm.Free.Multi.outerC c N h0 i = arrV c N (fun j => va_rf (if j < i then some (h0 + 1 + j) else none))
  | 0 => by
    show ({ cls := c, slots := Array.replicate N .null, vm := .none } : Cell) = _
    rw [arrV_new]
    refine congrArg (arrV c N) (funext fun j => ?_)
    simp [va_rf]
  | i + 1 => by
    show (Jvm.Free.Multi.outerC c N h0 i).setSlot i (.ref (h0 + 1 + i)) = _
    rw [zouter c N h0 i, arrV_store]
    refine congrArg (arrV c N) (funext fun j => ?_)
    by_cases e : j = i
    · subst e
      simp [updV, va_rf]
    · by_cases h : j < i
      · simp [updV, e, h, Nat.lt_succ_of_lt h]
      · simp [updV, e, h, show ¬ j < i + 1 by omega]
theorem zs_multianewarray {i d : Nat} (hk : zchk y (pc, len, (.multianewarray i d), v, b, c0) = true) (h : zstp y (pc, len, (.multianewarray i d), v, b, c0) lv st hp = some (true, .inl res)) : zSnd G y pc lv st hp res := by
  intro p l e R s m args below meth c H locs ls cells slots Q C hn hR hrel hlv hlo hcap1 hcap2 kk
  obtain ⟨hx, hb, hml, hown, hts, hKS, hin⟩ := C
  obtain ⟨hdg, hi⟩ := zchk_dec hk
  dsimp only at hdg hi
  simp only [zchkI, Bool.and_eq_true, decide_eq_true_eq] at hi
  obtain ⟨⟨⟨rfl, rfl⟩, rfl⟩, h3⟩ := hi
  have hm := zLK2_ok _ h3
  unfold zpK2 at hm
  dsimp only at hm
  simp only [zstp] at h
  split at h
  · rename_i k n t
    simp only [zgo, Option.some.injEq, Prod.mk.injEq, Sum.inl.injEq, Bool.and_eq_true, decide_eq_true_eq] at h
    obtain ⟨⟨⟨⟨⟨hn0, hk0⟩, hn1⟩, hk1⟩, hlen⟩, rfl⟩ := h
    dsimp only at hcap1 hcap2
    rw [zns_mul] at hcap2
    have hn1 : n.toNatClampNeg ≤ 1000 := hn1
    have hk1 : k.toNatClampNeg ≤ 1000 := hk1
    have hcap2 : slots + (zns hp.1 + (n.toNatClampNeg + n.toNatClampNeg * k.toNatClampNeg) - zns hp.1) ≤ R.slots := hcap2
    have hL : (hp.1 ++ ((9, zix n) :: List.replicate (zix n) (2, zix k))).length - hp.1.length = 1 + n.toNatClampNeg := by
      simp only [List.length_append, List.length_cons, List.length_replicate, zix]; omega
    rw [hL] at hcap1
    intro T hT X
    obtain ⟨vm₁, cA, comp, -, fA, fC, hO, -, X', step⟩ := X.multianewarray2F hx hown (hts _ (zgd hm rfl)) hKS.2.2.2.2.2.1 (hts _ (zgd zw_aS rfl)) (g := F0 m pc ls (.int k :: .int n :: t.map (zvr (zro G)))) rfl (by rw [hb]; exact hdg) rfl hn0 hk0 (by omega) (by show k.toNatClampNeg * 2 ≤ 536870912; omega) (by omega) rfl rfl (by omega) (by omega)
    have hcA : cA = G.2.1 9 := Option.some.inj (fA.symm.trans (hKS.1.2 _ _ (zty9 G.2.1 (k := 9) (by omega) (by omega))).2)
    have hcm : comp = G.2.1 2 := Option.some.inj (fC.symm.trans (hKS.1.2 _ _ (zty9 G.2.1 (k := 2) (by omega) (by omega))).2)
    subst hcA
    subst hcm
    generalize hF : Jvm.Free.Multi.fill (T.setVm vm₁) (G.2.1 9) (G.2.1 2) n.toNatClampNeg k.toNatClampNeg (defaultValue .short) n.toNatClampNeg = F at X' step
    have hTh : (T.setVm vm₁).heap = H := hT
    obtain ⟨f1, f2, -, -⟩ := Jvm.Free.Multi.fill_facts (T.setVm vm₁) (G.2.1 9) (G.2.1 2) n.toNatClampNeg k.toNatClampNeg (defaultValue .short) n.toNatClampNeg
    rw [hF, hTh] at f1 f2
    have hold : ∀ x : Nat, x < H.size → F.heap[x]? = H[x]? := fun x hx => by
      have := Jvm.Free.Multi.fill_old (T.setVm vm₁) (G.2.1 9) (G.2.1 2) n.toNatClampNeg k.toNatClampNeg (defaultValue .short) (a := x) (by rw [hTh]; exact hx) n.toNatClampNeg
      rw [hF, hTh] at this
      exact this
    have hrow : ∀ j : Nat, j < n.toNatClampNeg → F.heap[H.size + 1 + j]? = some (vp_cell (G.2.1 2) (k.toNatClampNeg, .inl (fun _ => 0))) := fun j hj => by
      have := Jvm.Free.Multi.fill_inner (T.setVm vm₁) (G.2.1 9) (G.2.1 2) n.toNatClampNeg k.toNatClampNeg (defaultValue .short) n.toNatClampNeg j hj
      rw [hF, hTh] at this
      rw [this]
      show some ({ cls := G.2.1 2, slots := Array.replicate k.toNatClampNeg (defaultValue .short), vm := .none } : Cell) = some (arrV (G.2.1 2) k.toNatClampNeg (fun _ => .int 0))
      rw [arrV_new]
      rfl
    rw [zouter, ← vp_cell_q] at f2
    have K := kk F.heap locs ls (hrel.pushM hlen hn1 f1 hold f2 hrow) hlv hlo
    dsimp only at K
    rw [zns_mul, hL, List.map_cons, show zvr (zro G) (.ref hp.1.length) = .ref (zro G hp.1.length) from rfl, zro_new hrel hlen, show zns hp.1 + (zix n + zix n * zix k) - zns hp.1 = n.toNatClampNeg + n.toNatClampNeg * k.toNatClampNeg by simp only [zix]; omega, ← Nat.add_assoc, ← Nat.add_assoc] at K
    obtain ⟨t2, a1, b1⟩ := K F rfl X'
    refine ⟨t2, step t2 ?_, b1⟩
    have e : T.heap.size = H.size := by rw [hT]
    rw [e]
    exact a1
  · cases h
end ZMU
