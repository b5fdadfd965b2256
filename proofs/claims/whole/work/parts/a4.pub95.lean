/-! THE LAW: the relation at the start, printed by wip/gen/pub95.py -/
theorem zCa_z {xs : Nat → Int32} {g i f : Nat} (h1 : g ≠ 100) (h2 : g ≠ 0) (h3 : g ≠ 20) (h4 : g ≠ 40) (h5 : g ≠ 389) (h6 : g ≠ 421) : zCa0 xs g i f = 0 := by
  unfold zCa0
  rw [if_neg h1, if_neg (by omega), if_neg (by omega)]
theorem zCa_w {xs : Nat → Int32} {f : Nat} (h : f = 0 ∨ 4 ≤ f) : zCa0 xs 0 0 f = 0 ∧ zCa0 xs 40 0 f = 0 := by
  unfold zCa0
  rw [if_neg (by decide), if_pos (by decide), if_pos rfl, if_neg (by omega), if_neg (by omega), if_neg (by omega), if_neg (by decide), if_pos (by decide)]
  exact ⟨rfl, rfl⟩
theorem zRep_0 (xs : Nat → Int32) : zRep (zCa0 xs) := by
  have z0 : zix 0 = 0 := by decide
  have no : ∀ {i : Nat} {Q : Prop}, i < zix 0 → Q := fun h => absurd h (by rw [z0]; exact Nat.not_lt_zero _)
  have c : ∀ f, f = 0 ∨ 4 ≤ f → zCa0 xs 40 0 f = 0 := fun f h => (zCa_w h).2
  have c0 : ∀ f, f = 0 ∨ 4 ≤ f → zCa0 xs 0 0 f = 0 := fun f h => (zCa_w h).1
  have zc : ∀ {K : Nat}, zcn K 0 := fun {K} => ⟨0, Nat.zero_le _, rfl⟩
  have k401 : ∀ f, zCa0 xs 401 0 f = 0 := fun f => zCa_z (by decide) (by decide) (by decide) (by decide) (by decide) (by decide)
  have k201 : ∀ f, zCa0 xs 201 0 f = 0 := fun f => zCa_z (by decide) (by decide) (by decide) (by decide) (by decide) (by decide)
  have sh : ∀ g k, g = 387 ∨ g = 388 → zCa0 xs g 0 k = 0 := fun g k h => zCa_z (by omega) (by omega) (by omega) (by omega) (by omega) (by omega)
  refine ⟨⟨fun _ _ => 0, ⟨fun f _ => rfl, ?_⟩, ?_, ?_, ?_, ?_, ?_, ?_, ?_, ?_, ?_, ?_⟩, ?_, ?_, ?_, ?_, ?_, ?_, ?_⟩
  · refine ⟨by rw [c 0 (by omega)]; exact zc, ⟨1000, by omega, by omega, rfl⟩, ⟨100, by omega, rfl⟩, ⟨10, by omega, rfl⟩, by rw [c 4 (by omega)]; exact zc, by rw [c 5 (by omega)]; exact zc, by rw [c 6 (by omega)]; exact zc, by rw [c 7 (by omega)]; exact zc, by rw [c 8 (by omega)]; exact zc, by rw [c 9 (by omega)]; exact zc, by rw [c 10 (by omega)]; exact zc, by rw [c 11 (by omega)]; exact zc, Or.inl (c 12 (by omega)), by rw [c 13 (by omega)]; exact zc⟩
  · rw [c 4 (by omega)]; intro i hi; exact no hi
  · rw [c 5 (by omega)]; intro i hi; exact no hi
  · rw [c 6 (by omega)]; intro i hi; exact no hi
  · rw [c 7 (by omega)]; intro i hi; exact no hi
  · rw [c 8 (by omega)]; intro i hi; exact no hi
  · rw [c 9 (by omega)]; intro i hi; exact no hi
  · rw [c 10 (by omega)]; intro i hi; exact no hi
  · rw [c 11 (by omega)]; intro i hi; exact no hi
  · rw [c 13 (by omega)]; intro i hi; exact no hi
  · intro p hp
    rw [c (14 + p) (by omega), c0 (14 + p) (by omega)]
    exact zLay_0 _ _ _
  · rw [k401]; intro q; exact absurd q (by decide)
  · rw [k401, k201]
  · exact Or.inl (k401 2)
  · rw [k401, k201]; exact ⟨zc, rfl, fun k hk => no hk⟩
  · rw [k401, k201]; exact ⟨zc, rfl, fun k hk => no hk⟩
  · exact ⟨rfl, Or.inl rfl, fun k _ => by rw [sh 387 k (by omega)]; decide⟩
  · exact ⟨rfl, Or.inl rfl, fun k _ => by rw [sh 388 k (by omega)]; decide⟩

