/-! THE LAW: from its entry, printed by wip/gen/pub96.py -/
theorem zgetD_e {l l' : List (Nat × Nat)} (h : l.length = l'.length) (h2 : ∀ a, a < l.length → l.getD a (99, 0) = l'.getD a (99, 0)) : l = l' := by
  apply List.ext_getElem h
  intro i h1 h3
  have := h2 i h1
  rw [List.getD_eq_getElem?_getD, List.getD_eq_getElem?_getD, List.getElem?_eq_getElem h1, List.getElem?_eq_getElem h3] at this
  exact this
set_option maxRecDepth 100000 in
theorem zent_1 (d L : Nat) (xs : Nat → Int32) : zR (d + 1) 255 0 (zini 255 [.ref 0]) [] (zh0 L xs) = (zR d 104 0 (zini 104 [.ref 1]) [] (zNew (zh0 L xs) 11)).bind (fun q => zR (d + 1) 255 7 (zini 255 [.ref 0]) (q.1.toList ++ [.ref 1]) q.2) := by
  refine (zR_step (row := (zK 255).getD 0 (0, 0, .nop, zmk, 0, 0)) (g := true) (pc' := 3) (lv' := zini 255 [.ref 0]) (st' := [.ref 1]) (hp' := zNew (zh0 L xs) 11) rfl rfl).trans ?_
  rw [cond_true]
  refine (zR_step (row := (zK 255).getD 1 (0, 0, .nop, zmk, 0, 0)) (g := true) (pc' := 4) (lv' := zini 255 [.ref 0]) (st' := [.ref 1, .ref 1]) (hp' := zNew (zh0 L xs) 11) rfl rfl).trans ?_
  rw [cond_true]
  refine (zR_call (row := (zK 255).getD 2 (0, 0, .nop, zmk, 0, 0)) (g := true) (z := 104) (As := [.ref 1]) (rest := [.ref 1]) rfl rfl).trans ?_
  rfl
set_option maxRecDepth 100000 in
theorem zent_2 (d : Nat) (hp : zHp) (hl : hp.1.length = 201) : zR (d + 1) 255 7 (zini 255 [.ref 0]) [.ref 1] hp = (zR d 151 0 (zini 151 [.ref 201]) [] (zNew hp 12)).bind (fun q => zR (d + 1) 255 15 [.ref 0, .ref 1, zmk, zmk] (q.1.toList ++ [.ref 201]) q.2) := by
  refine (zR_step (row := (zK 255).getD 3 (0, 0, .nop, zmk, 0, 0)) (g := true) (pc' := 8) (lv' := [.ref 0, .ref 1, zmk, zmk]) (st' := []) (hp' := hp) rfl rfl).trans ?_
  rw [cond_true]
  refine (zR_step (row := (zK 255).getD 4 (0, 0, .nop, zmk, 0, 0)) (g := true) (pc' := 11) (lv' := [.ref 0, .ref 1, zmk, zmk]) (st' := [.ref 201]) (hp' := zNew hp 12) rfl ?_).trans ?_
  · unfold zNew
    show some (decide (hp.1.length < 900000), _) = _
    rw [hl]
    rfl
  rw [cond_true]
  refine (zR_step (row := (zK 255).getD 5 (0, 0, .nop, zmk, 0, 0)) (g := true) (pc' := 12) (lv' := [.ref 0, .ref 1, zmk, zmk]) (st' := [.ref 201, .ref 201]) (hp' := zNew hp 12) rfl rfl).trans ?_
  rw [cond_true]
  have hO : zisO (zNew hp 12).1 201 12 = true := by
    apply decide_eq_true
    show (hp.1 ++ [(0, 12)]).getD 201 (99, 0) = (0, 12)
    rw [List.getD_eq_getElem?_getD, List.getElem?_append_right (by omega), hl]
    rfl
  refine (zR_call (row := (zK 255).getD 6 (0, 0, .nop, zmk, 0, 0)) (g := true) (z := 151) (As := [.ref 201]) (rest := [.ref 201]) rfl ?_).trans ?_
  · show some (_ && zisO (zNew hp 12).1 201 12, _) = _
    rw [hO]
    rfl
  rfl
set_option maxRecDepth 100000 in
theorem zent_3 (d : Nat) (hp : zHp) : zR d 255 15 [.ref 0, .ref 1, zmk, zmk] [.ref 201] hp = zR d 255 18 [.ref 0, .ref 1, .ref 201, .int (nI 0)] [] hp := by
  refine (zR_step (row := (zK 255).getD 7 (0, 0, .nop, zmk, 0, 0)) (g := true) (pc' := 16) (lv' := [.ref 0, .ref 1, .ref 201, zmk]) (st' := []) (hp' := hp) rfl rfl).trans ?_
  rw [cond_true]
  refine (zR_step (row := (zK 255).getD 8 (0, 0, .nop, zmk, 0, 0)) (g := true) (pc' := 17) (lv' := [.ref 0, .ref 1, .ref 201, zmk]) (st' := [.int 0]) (hp' := hp) rfl rfl).trans ?_
  rw [cond_true]
  refine (zR_step (row := (zK 255).getD 9 (0, 0, .nop, zmk, 0, 0)) (g := true) (pc' := 18) (lv' := [.ref 0, .ref 1, .ref 201, .int 0]) (st' := []) (hp' := hp) rfl rfl).trans ?_
  rw [cond_true]
  rfl

