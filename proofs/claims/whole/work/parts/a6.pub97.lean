/-! THE LAW: from its entry to its end, printed by wip/gen/pub97.py -/
theorem zAg_new {hp hp2 : zHp} (hag : zAg hp hp2) (b : Nat) : zAg (zNew hp b) (zNew hp2 b) := by
  unfold zNew
  rw [← hag.1]
  refine hag.push _ (fun a k hl => ?_) (fun a k hl hl2 => ?_)
  · simp [zcell, Nat.ne_of_lt hl]
  · have e : a = hp.1.length := by simp at hl2; omega
    simp [zcell, e]
theorem zTa_ag (L : Nat) (xs : Nat → Int32) : zAg zTa (zNew (zh0 L xs) 11) := by
  refine ⟨rfl, fun a => ?_⟩
  match a with
  | 0 => exact Or.inl rfl
  | 1 => exact Or.inr ⟨rfl, fun k _ => ⟨rfl, rfl⟩⟩
  | a + 2 => exact Or.inl (by show ([] : List (Nat × Nat)).getD a (99, 0) = _; rfl)
theorem zend (hcd : zCodes) (L : Nat) (xs : Nat → Int32) (hL : L ≤ 3584) (hp1 hp2 : zHp) (hT : zrun 4000 120 104 0 (zini 104 [.ref 1]) [] zTa = some (none, hp1)) (hl : hp1.1.length = 201) (hM : zrun 4000 120 151 0 (zini 151 [.ref 201]) [] (zNew hp1 12) = some (none, hp2)) (hZ : hp2.1 = (99, 0) :: zZt) (hc : ∀ a k, 1 ≤ a → a < 223 → k < zwd (zshp hp2.1 a) → hp2.2.1 a k = zI (zCa0 xs) a k ∧ hp2.2.2 a k = zPd 191 0 0 0 0 a k) : ∃ (n d : Nat) (hp' : zHp), d ≤ 1000 ∧ zrun n d 255 0 (zini 255 [.ref 0]) [] (zh0 L xs) = some (some (.int 1), hp') ∧ hp'.1.length ≤ 600000 ∧ zns hp'.1 ≤ 7302250 := by
  have zl : zZt.length = 222 := by decide +kernel
  obtain ⟨r1, t1, g1⟩ := zrun_ag hcd _ _ _ _ _ _ _ _ _ _ (by decide) (zTa_ag L xs) hT
  have l1 : r1.1.length = 201 := by rw [← g1.1]; exact hl
  obtain ⟨r2, t2, g2⟩ := zrun_ag hcd _ _ _ _ _ _ _ _ _ _ (by decide) (zAg_new g1 12) hM
  have s1 := zrun_0 _ _ _ _ _ _ _ _ _ (by rfl) t1
  have sN : zshp (zNew r1 12).1 0 = (1, L) := by
    show (r1.1 ++ [(0, 12)]).getD 0 (99, 0) = _
    have : zshp r1.1 0 = (1, L) := s1.2.1
    rw [List.getD_eq_getElem?_getD, List.getElem?_append_left (by omega), ← List.getD_eq_getElem?_getD]
    exact this
  have s2 := zrun_0 _ _ _ _ _ _ _ _ _ (by rw [sN]) t2
  have i0 : ∀ k, r2.2.1 0 k = xs k := fun k => by
    rw [s2.1]
    show zcell r1.2.1 r1.1.length (fun _ => 0) 0 k = _
    unfold zcell
    rw [if_neg (by omega), s1.1]
    rfl
  have p0' : ∀ k, r2.2.2 0 k = 0 := fun k => by
    rw [s2.2.2]
    show zcell r1.2.2 r1.1.length (fun _ => 0) 0 k = _
    unfold zcell
    rw [if_neg (by omega), s1.2.2]
    rfl
  have hag : zAg (zZ L, zI (zCa0 xs), zPd 191 0 0 0 0) r2 := by
    refine ⟨?_, fun a => ?_⟩
    · rw [← g2.1, hZ]; rfl
    · match a with
      | 0 =>
        refine Or.inr ⟨by rw [s2.2.1, sN]; rfl, fun k _ => ⟨?_, ?_⟩⟩
        · rw [i0 k]
          show xs k = zI (zCa0 xs) 0 k
          have e9 : zI (zCa0 xs) 0 k = zCa0 xs 100 0 k := rfl
          rw [e9]
          unfold zCa0
          rw [if_pos rfl, if_pos rfl]
        · rw [p0' k]; rfl
      | a + 1 =>
        have e1 : zshp hp2.1 (a + 1) = zshp (zZ L) (a + 1) := by rw [hZ]; rfl
        show zshp (zZ L) (a + 1) = (99, 0) ∨ _
        rcases g2.2 (a + 1) with q | ⟨q1, q2⟩
        · exact Or.inl (by rw [← e1]; exact q)
        · by_cases hlt : a + 1 < 223
          · refine Or.inr ⟨by rw [q1, e1], fun k hk => ?_⟩
            have hk' : k < zwd (zshp hp2.1 (a + 1)) := by rw [e1]; exact hk
            have := hc (a + 1) k (by omega) hlt hk'
            exact ⟨(q2 k hk').1.trans this.1, (q2 k hk').2.trans this.2⟩
          · refine Or.inl ?_
            show zZt.getD a (99, 0) = (99, 0)
            rw [List.getD_eq_getElem?_getD, List.getElem?_eq_none (by omega)]
            rfl
  obtain ⟨C', q, e⟩ := LAWL 0 L (by omega) (L + 1) 0 (zCa0 xs) 191 0 0 0 0 (by omega) (by omega) (zRep_0 xs)
  obtain ⟨n, hn⟩ := zR_iff.mp e
  obtain ⟨r3, t3, g3⟩ := zrun_ag hcd _ _ _ _ _ _ _ _ _ _ (by decide) hag hn
  have hr1 : zR 120 104 0 (zini 104 [.ref 1]) [] (zNew (zh0 L xs) 11) = some (none, r1) := zR_iff.mpr ⟨_, t1⟩
  have hr2 : zR 120 151 0 (zini 151 [.ref 201]) [] (zNew r1 12) = some (none, r2) := zR_iff.mpr ⟨_, t2⟩
  have hr3 : zR 121 255 18 [.ref 0, .ref 1, .ref 201, .int (nI 0)] [] r2 = some (some (.int 1), r3) := zR_iff.mpr ⟨_, t3⟩
  have hall : zR 121 255 0 (zini 255 [.ref 0]) [] (zh0 L xs) = some (some (.int 1), r3) := by
    refine (zent_1 120 L xs).trans ?_
    rw [hr1]
    show zR 121 255 7 (zini 255 [.ref 0]) [.ref 1] r1 = _
    refine (zent_2 120 r1 l1).trans ?_
    rw [hr2]
    show zR 121 255 15 [.ref 0, .ref 1, zmk, zmk] [.ref 201] r2 = _
    rw [zent_3]
    exact hr3
  obtain ⟨m, hm⟩ := zR_iff.mp hall
  have zl3 : r3.1.length = 223 := by
    have := g3.1
    rw [← this]
    show ((1, L) :: zZt).length = 223
    rw [List.length_cons, zl]
  have nz : ∀ a, a < 223 → zshp (zZ L) a ≠ (99, 0) := by
    intro a ha
    match a with
    | 0 => intro w; exact absurd (congrArg Prod.fst w) (by show (1 : Nat) ≠ 99; decide)
    | a + 1 =>
      have : ∀ a, a < 222 → zZt.getD a (99, 0) ≠ (99, 0) := by decide +kernel
      exact this a (by omega)
  have z3 : r3.1 = zZ L := zgetD_e (by rw [zl3]; show 223 = ((1, L) :: zZt).length; rw [List.length_cons, zl]) (fun a ha => by
    rw [zl3] at ha
    rcases g3.2 a with w | w
    · exact absurd w (nz a ha)
    · exact w.1)
  refine ⟨m, 121, r3, by omega, hm, by omega, ?_⟩
  rw [z3]
  have : zns zZt ≤ 7000000 := by decide +kernel
  show (List.map (fun q : Nat × Nat => if q.1 = 0 then znf q.2 else q.2) ((1, L) :: zZt)).sum ≤ _
  rw [List.map_cons, List.sum_cons]
  show (if (1 : Nat) = 0 then znf L else L) + zns zZt ≤ _
  rw [if_neg (by decide)]
  omega

