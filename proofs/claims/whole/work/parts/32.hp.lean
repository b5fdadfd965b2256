/-! THE HEAP IN NORMAL FORM, printed by wip/gen/hp.py: C g i f is the content of group g, row i, column f; groups: now 0.., image 20.., the model's row 40.., its kept row 60.., the script 100, other cells 200 + address -/
def zZt : List (Nat × Nat) := [(0, 11), (0, 10), (3, 3), (4, 8), (5, 4), (6, 8), (7, 16), (8, 4), (0, 4), (1, 90), (0, 4), (1, 480), (0, 4), (1, 60), (0, 4), (1, 24), (1, 3), (0, 7), (0, 7), (0, 7), (0, 3), (0, 0), (1, 2), (0, 3), (0, 0), (1, 2), (0, 3), (0, 0), (1, 2), (0, 3), (0, 0), (1, 2), (0, 3), (0, 0), (1, 2), (0, 3), (0, 0), (1, 2), (0, 3), (0, 0), (1, 2), (0, 3), (0, 0), (1, 2), (0, 8), (0, 0), (1, 2), (1, 6), (0, 8), (0, 0), (1, 2), (1, 6), (0, 8), (0, 0), (1, 2), (1, 6), (0, 8), (0, 0), (1, 2), (1, 6), (0, 1), (0, 1), (0, 1), (0, 1), (0, 1), (0, 1), (0, 1), (0, 1), (0, 9), (0, 9), (0, 9), (0, 9), (0, 9), (0, 9), (0, 9), (0, 9), (0, 9), (0, 9), (0, 9), (0, 9), (0, 9), (0, 9), (0, 9), (0, 9), (0, 4), (1, 240), (0, 4), (1, 240), (0, 4), (1, 240), (0, 4), (1, 240), (0, 10), (3, 3), (4, 8), (5, 4), (6, 8), (7, 16), (8, 4), (0, 4), (1, 90), (0, 4), (1, 480), (0, 4), (1, 60), (0, 4), (1, 24), (1, 3), (0, 7), (0, 7), (0, 7), (0, 3), (0, 0), (1, 2), (0, 3), (0, 0), (1, 2), (0, 3), (0, 0), (1, 2), (0, 3), (0, 0), (1, 2), (0, 3), (0, 0), (1, 2), (0, 3), (0, 0), (1, 2), (0, 3), (0, 0), (1, 2), (0, 3), (0, 0), (1, 2), (0, 8), (0, 0), (1, 2), (1, 6), (0, 8), (0, 0), (1, 2), (1, 6), (0, 8), (0, 0), (1, 2), (1, 6), (0, 8), (0, 0), (1, 2), (1, 6), (0, 1), (0, 1), (0, 1), (0, 1), (0, 1), (0, 1), (0, 1), (0, 1), (0, 9), (0, 9), (0, 9), (0, 9), (0, 9), (0, 9), (0, 9), (0, 9), (0, 9), (0, 9), (0, 9), (0, 9), (0, 9), (0, 9), (0, 9), (0, 9), (0, 4), (1, 240), (0, 4), (1, 240), (0, 4), (1, 240), (0, 4), (1, 240), (1, 120), (1, 30), (9, 2), (2, 40), (2, 40), (1, 2), (0, 2), (1, 0), (0, 5), (1, 120), (0, 6), (0, 4), (1, 24), (0, 4), (1, 24), (0, 0), (0, 0), (0, 12), (1, 4214), (1, 4214), (1, 120), (1, 520), (1, 260), (1, 4), (1, 4), (1, 130), (1, 130), (1, 48), (1, 7), (1, 7), (1, 7), (1, 7), (1, 7), (1, 7), (1, 24), (1, 30), (1, 80), (1, 2), (1, 40)]
def zZ (L : Nat) : List (Nat × Nat) := (1, L) :: zZt
def zPl : List (List Nat) := [[], [2, 93, 0, 184, 0, 185, 0, 186, 189, 190, 192, 194, 199, 200], [3, 4, 5, 6, 7, 0, 0, 0, 0, 0, 8, 9, 11, 13, 15, 0, 17], [18, 19, 20], [21, 24, 27, 30, 33, 36, 39, 42], [45, 49, 53, 57], [61, 62, 63, 64, 65, 66, 67, 68], [69, 70, 71, 72, 73, 74, 75, 76, 77, 78, 79, 80, 81, 82, 83, 84], [85, 87, 89, 91], [0, 0, 10], [], [0, 0, 12], [], [0, 0, 14], [], [0, 0, 16], [], [], [], [], [], [22, 23], [], [], [25, 26], [], [], [28, 29], [], [], [31, 32], [], [], [34, 35], [], [], [37, 38], [], [], [40, 41], [], [], [43, 44], [], [], [46, 47, 48], [], [], [], [50, 51, 52], [], [], [], [54, 55, 56], [], [], [], [58, 59, 60], [], [], [], [], [], [], [], [], [], [], [], [], [], [], [], [], [], [], [], [], [], [], [], [], [], [], [], [0, 0, 86], [], [0, 0, 88], [], [0, 0, 90], [], [0, 0, 92], [], [94, 95, 96, 97, 98, 0, 0, 0, 0, 0, 99, 100, 102, 104, 106, 0, 108], [109, 110, 111], [112, 115, 118, 121, 124, 127, 130, 133], [136, 140, 144, 148], [152, 153, 154, 155, 156, 157, 158, 159], [160, 161, 162, 163, 164, 165, 166, 167, 168, 169, 170, 171, 172, 173, 174, 175], [176, 178, 180, 182], [0, 0, 101], [], [0, 0, 103], [], [0, 0, 105], [], [0, 0, 107], [], [], [], [], [], [113, 114], [], [], [116, 117], [], [], [119, 120], [], [], [122, 123], [], [], [125, 126], [], [], [128, 129], [], [], [131, 132], [], [], [134, 135], [], [], [137, 138, 139], [], [], [], [141, 142, 143], [], [], [], [145, 146, 147], [], [], [], [149, 150, 151], [], [], [], [], [], [], [], [], [], [], [], [], [], [], [], [], [], [], [], [], [], [], [], [], [], [], [], [0, 0, 177], [], [0, 0, 179], [], [0, 0, 181], [], [0, 0, 183], [], [], [], [187, 188], [], [], [], [191], [], [193], [], [195, 197], [0, 0, 196], [], [0, 0, 198], [], [], [], [202, 203, 0, 204, 0, 0, 0, 0, 0, 0, 0, 205, 206, 0, 0, 0, 207, 208, 0, 0, 209, 0, 0, 0, 210, 211, 212, 213, 214, 215, 216, 217, 218, 0, 0, 0, 219, 0, 220, 221, 222], [], [], [], [], [], [], [], [], [], [], [], [], [], [], [], [], [], [], [], [], []]
def zPs (a k : Nat) : Nat := (zPl.getD a []).getD k 0
def zPd (p0 p2 r2 r3 s4 a k : Nat) : Nat := if a = 190 ∧ k = 0 then p0 else if a = 190 ∧ k = 2 then p2 else if a = 192 ∧ k = 2 then r2 else if a = 192 ∧ k = 3 then r3 else if a = 194 ∧ k = 4 then s4 else zPs a k
def zdW (b k : Nat) : Nat × Nat × Nat :=
  if b < 19 then
    (if b = 0 then (if k = 5 then (0, 0, 4) else if k = 6 then (0, 0, 5) else if k = 7 then (0, 0, 6) else if k = 8 then (0, 0, 10) else if k = 9 then (0, 0, 11) else if k = 15 then (0, 0, 12) else if k = 17 then (0, 0, 0) else (18, 0, k))
    else if b = 7 then (if k = 3 then (0, 0, 7) else (18, b, k))
    else if b = 8 then (4, k / 3, (k % 3 + 2) % 3)
    else if b = 9 then (if k = 3 then (0, 0, 8) else (18, b, k))
    else if b = 10 then (5, k / 8, (k % 8 + 7) % 8)
    else if b = 11 then (if k = 3 then (0, 0, 9) else (18, b, k))
    else if b = 12 then (6, k / 3, (k % 3 + 2) % 3)
    else if b = 13 then (if k = 3 then (0, 0, 13) else (18, b, k))
    else if b = 14 then (9, k / 4, k % 4)
    else if b = 15 then (if k < 3 then (0, 0, 1 + k) else (18, b, k))
    else if 16 ≤ b then (1, b - 16, k)
    else (18, b, k))
  else if b < 43 then
    (if (b - 19) % 3 = 0 then (if k = 2 then (2, (b - 19) / 3, 0) else if k = 3 then (2, (b - 19) / 3, 5) else if k = 4 then (2, (b - 19) / 3, 6) else if 5 ≤ k ∧ k < 11 then (2, (b - 19) / 3, k + 4) else (18, b, k))
    else if (b - 19) % 3 = 1 then (if k < 4 then (2, (b - 19) / 3, k + 1) else (18, b, k))
    else (if k < 2 then (2, (b - 19) / 3, k + 7) else (18, b, k)))
  else if b < 59 then
    (if (b - 43) % 4 = 0 then (if k = 3 then (3, (b - 43) / 4, 0) else if k = 4 then (3, (b - 43) / 4, 5) else if 5 ≤ k ∧ k < 8 then (3, (b - 43) / 4, k + 3) else if k = 8 then (3, (b - 43) / 4, 15) else if 9 ≤ k ∧ k < 13 then (3, (b - 43) / 4, k + 2) else (18, b, k))
    else if (b - 43) % 4 = 1 then (if k < 4 then (3, (b - 43) / 4, k + 1) else (18, b, k))
    else if (b - 43) % 4 = 2 then (if k < 2 then (3, (b - 43) / 4, k + 6) else (18, b, k))
    else (if k < 6 then (3, (b - 43) / 4, k + 17) else (18, b, k)))
  else if b < 67 then (7, b - 59, k)
  else if b < 83 then (8, b - 67, k)
  else if (b - 83) % 2 = 0 then (if k = 3 then (0, 0, 14 + (b - 83) / 2) else (18, b, k))
  else (10 + (b - 83) / 2, k / 2, k % 2)
def zdS (k : Nat) : Nat × Nat × Nat :=
  if k < 30 then (if k < 14 then (0, 0, k) else if k < 20 then (18, 0, k) else (1, (k - 20) / 3, (k - 20) % 3))
  else if k < 160 then (2, (k - 30) / 16, (k - 30) % 16)
  else if k < 272 then (3, (k - 160) / 28, (k - 160) % 28)
  else if k < 362 then (4, (k - 272) / 3, (k - 272) % 3)
  else if k < 842 then (5, (k - 362) / 8, (k - 362) % 8)
  else if k < 902 then (6, (k - 842) / 3, (k - 842) % 3)
  else if k < 966 then (7, (k - 902) / 8, (k - 902) % 8)
  else if k < 1062 then (8, (k - 966) / 6, (k - 966) % 6)
  else if k < 1086 then (9, (k - 1062) / 4, (k - 1062) % 4)
  else if k < 4214 then
    (if (k - 1086) % 782 = 0 then (0, 0, 14 + (k - 1086) / 782)
    else if (k - 1086) % 782 = 1 then (18, 1, (k - 1086) / 782)
    else if (k - 1086) % 782 < 522 then (10 + (k - 1086) / 782, ((k - 1086) % 782 - 2) / 4, ((k - 1086) % 782 - 2) % 4)
    else (14 + (k - 1086) / 782, ((k - 1086) % 782 - 522) / 2, ((k - 1086) % 782 - 522) % 2))
  else (18, 2, k)
def zuW (w m i f : Nat) : Nat × Nat :=
  if m = 0 then (if f = 4 then (w, 5) else if f = 5 then (w, 6) else if f = 6 then (w, 7) else if f = 10 then (w, 8) else if f = 11 then (w, 9) else if f = 12 then (w, 15) else if f = 0 then (w, 17) else if f = 7 then (w + 7, 3) else if f = 8 then (w + 9, 3) else if f = 9 then (w + 11, 3) else if f = 13 then (w + 13, 3) else if f < 4 then (w + 15, f - 1) else (w + 83 + 2 * (f - 14), 3))
  else if m = 1 then (w + 16 + i, f)
  else if m = 2 then (if f = 0 then (w + 19 + 3 * i, 2) else if f = 5 then (w + 19 + 3 * i, 3) else if f = 6 then (w + 19 + 3 * i, 4) else if 9 ≤ f then (w + 19 + 3 * i, f - 4) else if f < 5 then (w + 20 + 3 * i, f - 1) else (w + 21 + 3 * i, f - 7))
  else if m = 3 then (if f = 0 then (w + 43 + 4 * i, 3) else if f = 5 then (w + 43 + 4 * i, 4) else if f < 5 then (w + 44 + 4 * i, f - 1) else if f < 8 then (w + 45 + 4 * i, f - 6) else if f < 11 then (w + 43 + 4 * i, f - 3) else if f < 15 then (w + 43 + 4 * i, f - 2) else if f = 15 then (w + 43 + 4 * i, 8) else (w + 46 + 4 * i, f - 17))
  else if m = 4 then (w + 8, 3 * i + (f + 1) % 3)
  else if m = 5 then (w + 10, 8 * i + (f + 1) % 8)
  else if m = 6 then (w + 12, 3 * i + (f + 1) % 3)
  else if m = 7 then (w + 59 + i, f)
  else if m = 8 then (w + 67 + i, f)
  else if m = 9 then (w + 14, 4 * i + f)
  else if m < 14 then (w + 84 + 2 * (m - 10), 2 * i + f)
  else (w + i, f)
def zuS (m i f : Nat) : Nat :=
  if m = 0 then (if f < 14 then f else 1086 + 782 * (f - 14))
  else if m = 1 then 20 + 3 * i + f
  else if m = 2 then 30 + 16 * i + f
  else if m = 3 then 160 + 28 * i + f
  else if m = 4 then 272 + 3 * i + f
  else if m = 5 then 362 + 8 * i + f
  else if m = 6 then 842 + 3 * i + f
  else if m = 7 then 902 + 8 * i + f
  else if m = 8 then 966 + 6 * i + f
  else if m = 9 then 1062 + 4 * i + f
  else if m < 14 then 1086 + 782 * (m - 10) + 2 + 4 * i + f
  else if m < 18 then 1086 + 782 * (m - 14) + 522 + 2 * i + f
  else if i = 1 then 1087 + 782 * f else f
theorem zdW_u (w b k : Nat) (hb : b < 91) : zuW w (zdW b k).1 (zdW b k).2.1 (zdW b k).2.2 = (w + b, k) ∧ (zdW b k).1 < 19 := by
  rw [zdW]
  by_cases h1 : b < 19
  · rw [if_pos h1]
    by_cases h2 : b = 0
    · rw [if_pos h2]
      by_cases h3 : k = 5
      · rw [if_pos h3]
        refine ⟨?_, by show 0 < 19; omega⟩
        show zuW w (0) (0) (4) = _
        rw [zuW, if_pos (by omega), if_pos (by omega)] <;> exact Prod.ext (by show (_ : Nat) = _; omega) (by show (_ : Nat) = _; omega)
      · rw [if_neg h3]
        by_cases h4 : k = 6
        · rw [if_pos h4]
          refine ⟨?_, by show 0 < 19; omega⟩
          show zuW w (0) (0) (5) = _
          rw [zuW, if_pos (by omega), if_neg (by omega), if_pos (by omega)] <;> exact Prod.ext (by show (_ : Nat) = _; omega) (by show (_ : Nat) = _; omega)
        · rw [if_neg h4]
          by_cases h5 : k = 7
          · rw [if_pos h5]
            refine ⟨?_, by show 0 < 19; omega⟩
            show zuW w (0) (0) (6) = _
            rw [zuW, if_pos (by omega), if_neg (by omega), if_neg (by omega), if_pos (by omega)] <;> exact Prod.ext (by show (_ : Nat) = _; omega) (by show (_ : Nat) = _; omega)
          · rw [if_neg h5]
            by_cases h6 : k = 8
            · rw [if_pos h6]
              refine ⟨?_, by show 0 < 19; omega⟩
              show zuW w (0) (0) (10) = _
              rw [zuW, if_pos (by omega), if_neg (by omega), if_neg (by omega), if_neg (by omega), if_pos (by omega)] <;> exact Prod.ext (by show (_ : Nat) = _; omega) (by show (_ : Nat) = _; omega)
            · rw [if_neg h6]
              by_cases h7 : k = 9
              · rw [if_pos h7]
                refine ⟨?_, by show 0 < 19; omega⟩
                show zuW w (0) (0) (11) = _
                rw [zuW, if_pos (by omega), if_neg (by omega), if_neg (by omega), if_neg (by omega), if_neg (by omega), if_pos (by omega)] <;> exact Prod.ext (by show (_ : Nat) = _; omega) (by show (_ : Nat) = _; omega)
              · rw [if_neg h7]
                by_cases h8 : k = 15
                · rw [if_pos h8]
                  refine ⟨?_, by show 0 < 19; omega⟩
                  show zuW w (0) (0) (12) = _
                  rw [zuW, if_pos (by omega), if_neg (by omega), if_neg (by omega), if_neg (by omega), if_neg (by omega), if_neg (by omega), if_pos (by omega)] <;> exact Prod.ext (by show (_ : Nat) = _; omega) (by show (_ : Nat) = _; omega)
                · rw [if_neg h8]
                  by_cases h9 : k = 17
                  · rw [if_pos h9]
                    refine ⟨?_, by show 0 < 19; omega⟩
                    show zuW w (0) (0) (0) = _
                    rw [zuW, if_pos (by omega), if_neg (by omega), if_neg (by omega), if_neg (by omega), if_neg (by omega), if_neg (by omega), if_neg (by omega), if_pos (by omega)] <;> exact Prod.ext (by show (_ : Nat) = _; omega) (by show (_ : Nat) = _; omega)
                  · rw [if_neg h9]
                    refine ⟨?_, by show 18 < 19; omega⟩
                    show zuW w (18) (0) (k) = _
                    rw [zuW, if_neg (by omega), if_neg (by omega), if_neg (by omega), if_neg (by omega), if_neg (by omega), if_neg (by omega), if_neg (by omega), if_neg (by omega), if_neg (by omega), if_neg (by omega), if_neg (by omega)] <;> exact Prod.ext (by show (_ : Nat) = _; omega) (by show (_ : Nat) = _; omega)
    · rw [if_neg h2]
      by_cases h10 : b = 7
      · rw [if_pos h10]
        by_cases h11 : k = 3
        · rw [if_pos h11]
          refine ⟨?_, by show 0 < 19; omega⟩
          show zuW w (0) (0) (7) = _
          rw [zuW, if_pos (by omega), if_neg (by omega), if_neg (by omega), if_neg (by omega), if_neg (by omega), if_neg (by omega), if_neg (by omega), if_neg (by omega), if_pos (by omega)] <;> exact Prod.ext (by show (_ : Nat) = _; omega) (by show (_ : Nat) = _; omega)
        · rw [if_neg h11]
          refine ⟨?_, by show 18 < 19; omega⟩
          show zuW w (18) (b) (k) = _
          rw [zuW, if_neg (by omega), if_neg (by omega), if_neg (by omega), if_neg (by omega), if_neg (by omega), if_neg (by omega), if_neg (by omega), if_neg (by omega), if_neg (by omega), if_neg (by omega), if_neg (by omega)] <;> exact Prod.ext (by show (_ : Nat) = _; omega) (by show (_ : Nat) = _; omega)
      · rw [if_neg h10]
        by_cases h12 : b = 8
        · rw [if_pos h12]
          refine ⟨?_, by show 4 < 19; omega⟩
          show zuW w (4) (k / 3) ((k % 3 + 2) % 3) = _
          rw [zuW, if_neg (by omega), if_neg (by omega), if_neg (by omega), if_neg (by omega), if_pos (by omega)] <;> exact Prod.ext (by show (_ : Nat) = _; omega) (by show (_ : Nat) = _; omega)
        · rw [if_neg h12]
          by_cases h13 : b = 9
          · rw [if_pos h13]
            by_cases h14 : k = 3
            · rw [if_pos h14]
              refine ⟨?_, by show 0 < 19; omega⟩
              show zuW w (0) (0) (8) = _
              rw [zuW, if_pos (by omega), if_neg (by omega), if_neg (by omega), if_neg (by omega), if_neg (by omega), if_neg (by omega), if_neg (by omega), if_neg (by omega), if_neg (by omega), if_pos (by omega)] <;> exact Prod.ext (by show (_ : Nat) = _; omega) (by show (_ : Nat) = _; omega)
            · rw [if_neg h14]
              refine ⟨?_, by show 18 < 19; omega⟩
              show zuW w (18) (b) (k) = _
              rw [zuW, if_neg (by omega), if_neg (by omega), if_neg (by omega), if_neg (by omega), if_neg (by omega), if_neg (by omega), if_neg (by omega), if_neg (by omega), if_neg (by omega), if_neg (by omega), if_neg (by omega)] <;> exact Prod.ext (by show (_ : Nat) = _; omega) (by show (_ : Nat) = _; omega)
          · rw [if_neg h13]
            by_cases h15 : b = 10
            · rw [if_pos h15]
              refine ⟨?_, by show 5 < 19; omega⟩
              show zuW w (5) (k / 8) ((k % 8 + 7) % 8) = _
              rw [zuW, if_neg (by omega), if_neg (by omega), if_neg (by omega), if_neg (by omega), if_neg (by omega), if_pos (by omega)] <;> exact Prod.ext (by show (_ : Nat) = _; omega) (by show (_ : Nat) = _; omega)
            · rw [if_neg h15]
              by_cases h16 : b = 11
              · rw [if_pos h16]
                by_cases h17 : k = 3
                · rw [if_pos h17]
                  refine ⟨?_, by show 0 < 19; omega⟩
                  show zuW w (0) (0) (9) = _
                  rw [zuW, if_pos (by omega), if_neg (by omega), if_neg (by omega), if_neg (by omega), if_neg (by omega), if_neg (by omega), if_neg (by omega), if_neg (by omega), if_neg (by omega), if_neg (by omega), if_pos (by omega)] <;> exact Prod.ext (by show (_ : Nat) = _; omega) (by show (_ : Nat) = _; omega)
                · rw [if_neg h17]
                  refine ⟨?_, by show 18 < 19; omega⟩
                  show zuW w (18) (b) (k) = _
                  rw [zuW, if_neg (by omega), if_neg (by omega), if_neg (by omega), if_neg (by omega), if_neg (by omega), if_neg (by omega), if_neg (by omega), if_neg (by omega), if_neg (by omega), if_neg (by omega), if_neg (by omega)] <;> exact Prod.ext (by show (_ : Nat) = _; omega) (by show (_ : Nat) = _; omega)
              · rw [if_neg h16]
                by_cases h18 : b = 12
                · rw [if_pos h18]
                  refine ⟨?_, by show 6 < 19; omega⟩
                  show zuW w (6) (k / 3) ((k % 3 + 2) % 3) = _
                  rw [zuW, if_neg (by omega), if_neg (by omega), if_neg (by omega), if_neg (by omega), if_neg (by omega), if_neg (by omega), if_pos (by omega)] <;> exact Prod.ext (by show (_ : Nat) = _; omega) (by show (_ : Nat) = _; omega)
                · rw [if_neg h18]
                  by_cases h19 : b = 13
                  · rw [if_pos h19]
                    by_cases h20 : k = 3
                    · rw [if_pos h20]
                      refine ⟨?_, by show 0 < 19; omega⟩
                      show zuW w (0) (0) (13) = _
                      rw [zuW, if_pos (by omega), if_neg (by omega), if_neg (by omega), if_neg (by omega), if_neg (by omega), if_neg (by omega), if_neg (by omega), if_neg (by omega), if_neg (by omega), if_neg (by omega), if_neg (by omega), if_pos (by omega)] <;> exact Prod.ext (by show (_ : Nat) = _; omega) (by show (_ : Nat) = _; omega)
                    · rw [if_neg h20]
                      refine ⟨?_, by show 18 < 19; omega⟩
                      show zuW w (18) (b) (k) = _
                      rw [zuW, if_neg (by omega), if_neg (by omega), if_neg (by omega), if_neg (by omega), if_neg (by omega), if_neg (by omega), if_neg (by omega), if_neg (by omega), if_neg (by omega), if_neg (by omega), if_neg (by omega)] <;> exact Prod.ext (by show (_ : Nat) = _; omega) (by show (_ : Nat) = _; omega)
                  · rw [if_neg h19]
                    by_cases h21 : b = 14
                    · rw [if_pos h21]
                      refine ⟨?_, by show 9 < 19; omega⟩
                      show zuW w (9) (k / 4) (k % 4) = _
                      rw [zuW, if_neg (by omega), if_neg (by omega), if_neg (by omega), if_neg (by omega), if_neg (by omega), if_neg (by omega), if_neg (by omega), if_neg (by omega), if_neg (by omega), if_pos (by omega)] <;> exact Prod.ext (by show (_ : Nat) = _; omega) (by show (_ : Nat) = _; omega)
                    · rw [if_neg h21]
                      by_cases h22 : b = 15
                      · rw [if_pos h22]
                        by_cases h23 : k < 3
                        · rw [if_pos h23]
                          refine ⟨?_, by show 0 < 19; omega⟩
                          show zuW w (0) (0) (1 + k) = _
                          rw [zuW, if_pos (by omega), if_neg (by omega), if_neg (by omega), if_neg (by omega), if_neg (by omega), if_neg (by omega), if_neg (by omega), if_neg (by omega), if_neg (by omega), if_neg (by omega), if_neg (by omega), if_neg (by omega), if_pos (by omega)] <;> exact Prod.ext (by show (_ : Nat) = _; omega) (by show (_ : Nat) = _; omega)
                        · rw [if_neg h23]
                          refine ⟨?_, by show 18 < 19; omega⟩
                          show zuW w (18) (b) (k) = _
                          rw [zuW, if_neg (by omega), if_neg (by omega), if_neg (by omega), if_neg (by omega), if_neg (by omega), if_neg (by omega), if_neg (by omega), if_neg (by omega), if_neg (by omega), if_neg (by omega), if_neg (by omega)] <;> exact Prod.ext (by show (_ : Nat) = _; omega) (by show (_ : Nat) = _; omega)
                      · rw [if_neg h22]
                        by_cases h24 : 16 ≤ b
                        · rw [if_pos h24]
                          refine ⟨?_, by show 1 < 19; omega⟩
                          show zuW w (1) (b - 16) (k) = _
                          rw [zuW, if_neg (by omega), if_pos (by omega)] <;> exact Prod.ext (by show (_ : Nat) = _; omega) (by show (_ : Nat) = _; omega)
                        · rw [if_neg h24]
                          refine ⟨?_, by show 18 < 19; omega⟩
                          show zuW w (18) (b) (k) = _
                          rw [zuW, if_neg (by omega), if_neg (by omega), if_neg (by omega), if_neg (by omega), if_neg (by omega), if_neg (by omega), if_neg (by omega), if_neg (by omega), if_neg (by omega), if_neg (by omega), if_neg (by omega)] <;> exact Prod.ext (by show (_ : Nat) = _; omega) (by show (_ : Nat) = _; omega)
  · rw [if_neg h1]
    by_cases h25 : b < 43
    · rw [if_pos h25]
      by_cases h26 : (b - 19) % 3 = 0
      · rw [if_pos h26]
        by_cases h27 : k = 2
        · rw [if_pos h27]
          refine ⟨?_, by show 2 < 19; omega⟩
          show zuW w (2) ((b - 19) / 3) (0) = _
          rw [zuW, if_neg (by omega), if_neg (by omega), if_pos (by omega), if_pos (by omega)] <;> exact Prod.ext (by show (_ : Nat) = _; omega) (by show (_ : Nat) = _; omega)
        · rw [if_neg h27]
          by_cases h28 : k = 3
          · rw [if_pos h28]
            refine ⟨?_, by show 2 < 19; omega⟩
            show zuW w (2) ((b - 19) / 3) (5) = _
            rw [zuW, if_neg (by omega), if_neg (by omega), if_pos (by omega), if_neg (by omega), if_pos (by omega)] <;> exact Prod.ext (by show (_ : Nat) = _; omega) (by show (_ : Nat) = _; omega)
          · rw [if_neg h28]
            by_cases h29 : k = 4
            · rw [if_pos h29]
              refine ⟨?_, by show 2 < 19; omega⟩
              show zuW w (2) ((b - 19) / 3) (6) = _
              rw [zuW, if_neg (by omega), if_neg (by omega), if_pos (by omega), if_neg (by omega), if_neg (by omega), if_pos (by omega)] <;> exact Prod.ext (by show (_ : Nat) = _; omega) (by show (_ : Nat) = _; omega)
            · rw [if_neg h29]
              by_cases h30 : 5 ≤ k ∧ k < 11
              · rw [if_pos h30]
                refine ⟨?_, by show 2 < 19; omega⟩
                show zuW w (2) ((b - 19) / 3) (k + 4) = _
                rw [zuW, if_neg (by omega), if_neg (by omega), if_pos (by omega), if_neg (by omega), if_neg (by omega), if_neg (by omega), if_pos (by omega)] <;> exact Prod.ext (by show (_ : Nat) = _; omega) (by show (_ : Nat) = _; omega)
              · rw [if_neg h30]
                refine ⟨?_, by show 18 < 19; omega⟩
                show zuW w (18) (b) (k) = _
                rw [zuW, if_neg (by omega), if_neg (by omega), if_neg (by omega), if_neg (by omega), if_neg (by omega), if_neg (by omega), if_neg (by omega), if_neg (by omega), if_neg (by omega), if_neg (by omega), if_neg (by omega)] <;> exact Prod.ext (by show (_ : Nat) = _; omega) (by show (_ : Nat) = _; omega)
      · rw [if_neg h26]
        by_cases h31 : (b - 19) % 3 = 1
        · rw [if_pos h31]
          by_cases h32 : k < 4
          · rw [if_pos h32]
            refine ⟨?_, by show 2 < 19; omega⟩
            show zuW w (2) ((b - 19) / 3) (k + 1) = _
            rw [zuW, if_neg (by omega), if_neg (by omega), if_pos (by omega), if_neg (by omega), if_neg (by omega), if_neg (by omega), if_neg (by omega), if_pos (by omega)] <;> exact Prod.ext (by show (_ : Nat) = _; omega) (by show (_ : Nat) = _; omega)
          · rw [if_neg h32]
            refine ⟨?_, by show 18 < 19; omega⟩
            show zuW w (18) (b) (k) = _
            rw [zuW, if_neg (by omega), if_neg (by omega), if_neg (by omega), if_neg (by omega), if_neg (by omega), if_neg (by omega), if_neg (by omega), if_neg (by omega), if_neg (by omega), if_neg (by omega), if_neg (by omega)] <;> exact Prod.ext (by show (_ : Nat) = _; omega) (by show (_ : Nat) = _; omega)
        · rw [if_neg h31]
          by_cases h33 : k < 2
          · rw [if_pos h33]
            refine ⟨?_, by show 2 < 19; omega⟩
            show zuW w (2) ((b - 19) / 3) (k + 7) = _
            rw [zuW, if_neg (by omega), if_neg (by omega), if_pos (by omega), if_neg (by omega), if_neg (by omega), if_neg (by omega), if_neg (by omega), if_neg (by omega)] <;> exact Prod.ext (by show (_ : Nat) = _; omega) (by show (_ : Nat) = _; omega)
          · rw [if_neg h33]
            refine ⟨?_, by show 18 < 19; omega⟩
            show zuW w (18) (b) (k) = _
            rw [zuW, if_neg (by omega), if_neg (by omega), if_neg (by omega), if_neg (by omega), if_neg (by omega), if_neg (by omega), if_neg (by omega), if_neg (by omega), if_neg (by omega), if_neg (by omega), if_neg (by omega)] <;> exact Prod.ext (by show (_ : Nat) = _; omega) (by show (_ : Nat) = _; omega)
    · rw [if_neg h25]
      by_cases h34 : b < 59
      · rw [if_pos h34]
        by_cases h35 : (b - 43) % 4 = 0
        · rw [if_pos h35]
          by_cases h36 : k = 3
          · rw [if_pos h36]
            refine ⟨?_, by show 3 < 19; omega⟩
            show zuW w (3) ((b - 43) / 4) (0) = _
            rw [zuW, if_neg (by omega), if_neg (by omega), if_neg (by omega), if_pos (by omega), if_pos (by omega)] <;> exact Prod.ext (by show (_ : Nat) = _; omega) (by show (_ : Nat) = _; omega)
          · rw [if_neg h36]
            by_cases h37 : k = 4
            · rw [if_pos h37]
              refine ⟨?_, by show 3 < 19; omega⟩
              show zuW w (3) ((b - 43) / 4) (5) = _
              rw [zuW, if_neg (by omega), if_neg (by omega), if_neg (by omega), if_pos (by omega), if_neg (by omega), if_pos (by omega)] <;> exact Prod.ext (by show (_ : Nat) = _; omega) (by show (_ : Nat) = _; omega)
            · rw [if_neg h37]
              by_cases h38 : 5 ≤ k ∧ k < 8
              · rw [if_pos h38]
                refine ⟨?_, by show 3 < 19; omega⟩
                show zuW w (3) ((b - 43) / 4) (k + 3) = _
                rw [zuW, if_neg (by omega), if_neg (by omega), if_neg (by omega), if_pos (by omega), if_neg (by omega), if_neg (by omega), if_neg (by omega), if_neg (by omega), if_pos (by omega)] <;> exact Prod.ext (by show (_ : Nat) = _; omega) (by show (_ : Nat) = _; omega)
              · rw [if_neg h38]
                by_cases h39 : k = 8
                · rw [if_pos h39]
                  refine ⟨?_, by show 3 < 19; omega⟩
                  show zuW w (3) ((b - 43) / 4) (15) = _
                  rw [zuW, if_neg (by omega), if_neg (by omega), if_neg (by omega), if_pos (by omega), if_neg (by omega), if_neg (by omega), if_neg (by omega), if_neg (by omega), if_neg (by omega), if_neg (by omega), if_pos (by omega)] <;> exact Prod.ext (by show (_ : Nat) = _; omega) (by show (_ : Nat) = _; omega)
                · rw [if_neg h39]
                  by_cases h40 : 9 ≤ k ∧ k < 13
                  · rw [if_pos h40]
                    refine ⟨?_, by show 3 < 19; omega⟩
                    show zuW w (3) ((b - 43) / 4) (k + 2) = _
                    rw [zuW, if_neg (by omega), if_neg (by omega), if_neg (by omega), if_pos (by omega), if_neg (by omega), if_neg (by omega), if_neg (by omega), if_neg (by omega), if_neg (by omega), if_pos (by omega)] <;> exact Prod.ext (by show (_ : Nat) = _; omega) (by show (_ : Nat) = _; omega)
                  · rw [if_neg h40]
                    refine ⟨?_, by show 18 < 19; omega⟩
                    show zuW w (18) (b) (k) = _
                    rw [zuW, if_neg (by omega), if_neg (by omega), if_neg (by omega), if_neg (by omega), if_neg (by omega), if_neg (by omega), if_neg (by omega), if_neg (by omega), if_neg (by omega), if_neg (by omega), if_neg (by omega)] <;> exact Prod.ext (by show (_ : Nat) = _; omega) (by show (_ : Nat) = _; omega)
        · rw [if_neg h35]
          by_cases h41 : (b - 43) % 4 = 1
          · rw [if_pos h41]
            by_cases h42 : k < 4
            · rw [if_pos h42]
              refine ⟨?_, by show 3 < 19; omega⟩
              show zuW w (3) ((b - 43) / 4) (k + 1) = _
              rw [zuW, if_neg (by omega), if_neg (by omega), if_neg (by omega), if_pos (by omega), if_neg (by omega), if_neg (by omega), if_pos (by omega)] <;> exact Prod.ext (by show (_ : Nat) = _; omega) (by show (_ : Nat) = _; omega)
            · rw [if_neg h42]
              refine ⟨?_, by show 18 < 19; omega⟩
              show zuW w (18) (b) (k) = _
              rw [zuW, if_neg (by omega), if_neg (by omega), if_neg (by omega), if_neg (by omega), if_neg (by omega), if_neg (by omega), if_neg (by omega), if_neg (by omega), if_neg (by omega), if_neg (by omega), if_neg (by omega)] <;> exact Prod.ext (by show (_ : Nat) = _; omega) (by show (_ : Nat) = _; omega)
          · rw [if_neg h41]
            by_cases h43 : (b - 43) % 4 = 2
            · rw [if_pos h43]
              by_cases h44 : k < 2
              · rw [if_pos h44]
                refine ⟨?_, by show 3 < 19; omega⟩
                show zuW w (3) ((b - 43) / 4) (k + 6) = _
                rw [zuW, if_neg (by omega), if_neg (by omega), if_neg (by omega), if_pos (by omega), if_neg (by omega), if_neg (by omega), if_neg (by omega), if_pos (by omega)] <;> exact Prod.ext (by show (_ : Nat) = _; omega) (by show (_ : Nat) = _; omega)
              · rw [if_neg h44]
                refine ⟨?_, by show 18 < 19; omega⟩
                show zuW w (18) (b) (k) = _
                rw [zuW, if_neg (by omega), if_neg (by omega), if_neg (by omega), if_neg (by omega), if_neg (by omega), if_neg (by omega), if_neg (by omega), if_neg (by omega), if_neg (by omega), if_neg (by omega), if_neg (by omega)] <;> exact Prod.ext (by show (_ : Nat) = _; omega) (by show (_ : Nat) = _; omega)
            · rw [if_neg h43]
              by_cases h45 : k < 6
              · rw [if_pos h45]
                refine ⟨?_, by show 3 < 19; omega⟩
                show zuW w (3) ((b - 43) / 4) (k + 17) = _
                rw [zuW, if_neg (by omega), if_neg (by omega), if_neg (by omega), if_pos (by omega), if_neg (by omega), if_neg (by omega), if_neg (by omega), if_neg (by omega), if_neg (by omega), if_neg (by omega), if_neg (by omega)] <;> exact Prod.ext (by show (_ : Nat) = _; omega) (by show (_ : Nat) = _; omega)
              · rw [if_neg h45]
                refine ⟨?_, by show 18 < 19; omega⟩
                show zuW w (18) (b) (k) = _
                rw [zuW, if_neg (by omega), if_neg (by omega), if_neg (by omega), if_neg (by omega), if_neg (by omega), if_neg (by omega), if_neg (by omega), if_neg (by omega), if_neg (by omega), if_neg (by omega), if_neg (by omega)] <;> exact Prod.ext (by show (_ : Nat) = _; omega) (by show (_ : Nat) = _; omega)
      · rw [if_neg h34]
        by_cases h46 : b < 67
        · rw [if_pos h46]
          refine ⟨?_, by show 7 < 19; omega⟩
          show zuW w (7) (b - 59) (k) = _
          rw [zuW, if_neg (by omega), if_neg (by omega), if_neg (by omega), if_neg (by omega), if_neg (by omega), if_neg (by omega), if_neg (by omega), if_pos (by omega)] <;> exact Prod.ext (by show (_ : Nat) = _; omega) (by show (_ : Nat) = _; omega)
        · rw [if_neg h46]
          by_cases h47 : b < 83
          · rw [if_pos h47]
            refine ⟨?_, by show 8 < 19; omega⟩
            show zuW w (8) (b - 67) (k) = _
            rw [zuW, if_neg (by omega), if_neg (by omega), if_neg (by omega), if_neg (by omega), if_neg (by omega), if_neg (by omega), if_neg (by omega), if_neg (by omega), if_pos (by omega)] <;> exact Prod.ext (by show (_ : Nat) = _; omega) (by show (_ : Nat) = _; omega)
          · rw [if_neg h47]
            by_cases h48 : (b - 83) % 2 = 0
            · rw [if_pos h48]
              by_cases h49 : k = 3
              · rw [if_pos h49]
                refine ⟨?_, by show 0 < 19; omega⟩
                show zuW w (0) (0) (14 + (b - 83) / 2) = _
                rw [zuW, if_pos (by omega), if_neg (by omega), if_neg (by omega), if_neg (by omega), if_neg (by omega), if_neg (by omega), if_neg (by omega), if_neg (by omega), if_neg (by omega), if_neg (by omega), if_neg (by omega), if_neg (by omega), if_neg (by omega)] <;> exact Prod.ext (by show (_ : Nat) = _; omega) (by show (_ : Nat) = _; omega)
              · rw [if_neg h49]
                refine ⟨?_, by show 18 < 19; omega⟩
                show zuW w (18) (b) (k) = _
                rw [zuW, if_neg (by omega), if_neg (by omega), if_neg (by omega), if_neg (by omega), if_neg (by omega), if_neg (by omega), if_neg (by omega), if_neg (by omega), if_neg (by omega), if_neg (by omega), if_neg (by omega)] <;> exact Prod.ext (by show (_ : Nat) = _; omega) (by show (_ : Nat) = _; omega)
            · rw [if_neg h48]
              refine ⟨?_, by show 10 + (b - 83) / 2 < 19; omega⟩
              show zuW w (10 + (b - 83) / 2) (k / 2) (k % 2) = _
              rw [zuW, if_neg (by omega), if_neg (by omega), if_neg (by omega), if_neg (by omega), if_neg (by omega), if_neg (by omega), if_neg (by omega), if_neg (by omega), if_neg (by omega), if_neg (by omega), if_pos (by omega)] <;> exact Prod.ext (by show (_ : Nat) = _; omega) (by show (_ : Nat) = _; omega)
theorem zdS_u (k : Nat) : zuS (zdS k).1 (zdS k).2.1 (zdS k).2.2 = k ∧ (zdS k).1 < 19 := by
  rw [zdS]
  by_cases h1 : k < 30
  · rw [if_pos h1]
    by_cases h2 : k < 14
    · rw [if_pos h2]
      refine ⟨?_, by show 0 < 19; omega⟩
      show zuS (0) (0) (k) = _
      rw [zuS, if_pos (by omega), if_pos (by omega)] <;> omega
    · rw [if_neg h2]
      by_cases h3 : k < 20
      · rw [if_pos h3]
        refine ⟨?_, by show 18 < 19; omega⟩
        show zuS (18) (0) (k) = _
        rw [zuS, if_neg (by omega), if_neg (by omega), if_neg (by omega), if_neg (by omega), if_neg (by omega), if_neg (by omega), if_neg (by omega), if_neg (by omega), if_neg (by omega), if_neg (by omega), if_neg (by omega), if_neg (by omega), if_neg (by omega)] <;> omega
      · rw [if_neg h3]
        refine ⟨?_, by show 1 < 19; omega⟩
        show zuS (1) ((k - 20) / 3) ((k - 20) % 3) = _
        rw [zuS, if_neg (by omega), if_pos (by omega)] <;> omega
  · rw [if_neg h1]
    by_cases h4 : k < 160
    · rw [if_pos h4]
      refine ⟨?_, by show 2 < 19; omega⟩
      show zuS (2) ((k - 30) / 16) ((k - 30) % 16) = _
      rw [zuS, if_neg (by omega), if_neg (by omega), if_pos (by omega)] <;> omega
    · rw [if_neg h4]
      by_cases h5 : k < 272
      · rw [if_pos h5]
        refine ⟨?_, by show 3 < 19; omega⟩
        show zuS (3) ((k - 160) / 28) ((k - 160) % 28) = _
        rw [zuS, if_neg (by omega), if_neg (by omega), if_neg (by omega), if_pos (by omega)] <;> omega
      · rw [if_neg h5]
        by_cases h6 : k < 362
        · rw [if_pos h6]
          refine ⟨?_, by show 4 < 19; omega⟩
          show zuS (4) ((k - 272) / 3) ((k - 272) % 3) = _
          rw [zuS, if_neg (by omega), if_neg (by omega), if_neg (by omega), if_neg (by omega), if_pos (by omega)] <;> omega
        · rw [if_neg h6]
          by_cases h7 : k < 842
          · rw [if_pos h7]
            refine ⟨?_, by show 5 < 19; omega⟩
            show zuS (5) ((k - 362) / 8) ((k - 362) % 8) = _
            rw [zuS, if_neg (by omega), if_neg (by omega), if_neg (by omega), if_neg (by omega), if_neg (by omega), if_pos (by omega)] <;> omega
          · rw [if_neg h7]
            by_cases h8 : k < 902
            · rw [if_pos h8]
              refine ⟨?_, by show 6 < 19; omega⟩
              show zuS (6) ((k - 842) / 3) ((k - 842) % 3) = _
              rw [zuS, if_neg (by omega), if_neg (by omega), if_neg (by omega), if_neg (by omega), if_neg (by omega), if_neg (by omega), if_pos (by omega)] <;> omega
            · rw [if_neg h8]
              by_cases h9 : k < 966
              · rw [if_pos h9]
                refine ⟨?_, by show 7 < 19; omega⟩
                show zuS (7) ((k - 902) / 8) ((k - 902) % 8) = _
                rw [zuS, if_neg (by omega), if_neg (by omega), if_neg (by omega), if_neg (by omega), if_neg (by omega), if_neg (by omega), if_neg (by omega), if_pos (by omega)] <;> omega
              · rw [if_neg h9]
                by_cases h10 : k < 1062
                · rw [if_pos h10]
                  refine ⟨?_, by show 8 < 19; omega⟩
                  show zuS (8) ((k - 966) / 6) ((k - 966) % 6) = _
                  rw [zuS, if_neg (by omega), if_neg (by omega), if_neg (by omega), if_neg (by omega), if_neg (by omega), if_neg (by omega), if_neg (by omega), if_neg (by omega), if_pos (by omega)] <;> omega
                · rw [if_neg h10]
                  by_cases h11 : k < 1086
                  · rw [if_pos h11]
                    refine ⟨?_, by show 9 < 19; omega⟩
                    show zuS (9) ((k - 1062) / 4) ((k - 1062) % 4) = _
                    rw [zuS, if_neg (by omega), if_neg (by omega), if_neg (by omega), if_neg (by omega), if_neg (by omega), if_neg (by omega), if_neg (by omega), if_neg (by omega), if_neg (by omega), if_pos (by omega)] <;> omega
                  · rw [if_neg h11]
                    by_cases h12 : k < 4214
                    · rw [if_pos h12]
                      by_cases h13 : (k - 1086) % 782 = 0
                      · rw [if_pos h13]
                        refine ⟨?_, by show 0 < 19; omega⟩
                        show zuS (0) (0) (14 + (k - 1086) / 782) = _
                        rw [zuS, if_pos (by omega), if_neg (by omega)] <;> omega
                      · rw [if_neg h13]
                        by_cases h14 : (k - 1086) % 782 = 1
                        · rw [if_pos h14]
                          refine ⟨?_, by show 18 < 19; omega⟩
                          show zuS (18) (1) ((k - 1086) / 782) = _
                          rw [zuS, if_neg (by omega), if_neg (by omega), if_neg (by omega), if_neg (by omega), if_neg (by omega), if_neg (by omega), if_neg (by omega), if_neg (by omega), if_neg (by omega), if_neg (by omega), if_neg (by omega), if_neg (by omega), if_pos (by omega)] <;> omega
                        · rw [if_neg h14]
                          by_cases h15 : (k - 1086) % 782 < 522
                          · rw [if_pos h15]
                            refine ⟨?_, by show 10 + (k - 1086) / 782 < 19; omega⟩
                            show zuS (10 + (k - 1086) / 782) (((k - 1086) % 782 - 2) / 4) (((k - 1086) % 782 - 2) % 4) = _
                            rw [zuS, if_neg (by omega), if_neg (by omega), if_neg (by omega), if_neg (by omega), if_neg (by omega), if_neg (by omega), if_neg (by omega), if_neg (by omega), if_neg (by omega), if_neg (by omega), if_pos (by omega)] <;> omega
                          · rw [if_neg h15]
                            refine ⟨?_, by show 14 + (k - 1086) / 782 < 19; omega⟩
                            show zuS (14 + (k - 1086) / 782) (((k - 1086) % 782 - 522) / 2) (((k - 1086) % 782 - 522) % 2) = _
                            rw [zuS, if_neg (by omega), if_neg (by omega), if_neg (by omega), if_neg (by omega), if_neg (by omega), if_neg (by omega), if_neg (by omega), if_neg (by omega), if_neg (by omega), if_neg (by omega), if_neg (by omega), if_pos (by omega)] <;> omega
                    · rw [if_neg h12]
                      refine ⟨?_, by show 18 < 19; omega⟩
                      show zuS (18) (2) (k) = _
                      rw [zuS, if_neg (by omega), if_neg (by omega), if_neg (by omega), if_neg (by omega), if_neg (by omega), if_neg (by omega), if_neg (by omega), if_neg (by omega), if_neg (by omega), if_neg (by omega), if_neg (by omega), if_neg (by omega), if_neg (by omega)] <;> omega
def zdec (a k : Nat) : Nat × Nat × Nat :=
  if a = 0 then (100, 0, k)
  else if 2 ≤ a ∧ a < 93 then zdW (a - 2) k
  else if 93 ≤ a ∧ a < 184 then (20 + (zdW (a - 93) k).1, (zdW (a - 93) k).2)
  else if a = 202 then (40 + (zdS k).1, (zdS k).2)
  else if a = 203 then (60 + (zdS k).1, (zdS k).2)
  else (200 + a, 0, k)
def zunc (g i f : Nat) : Nat × Nat :=
  if 200 ≤ g then (g - 200, f) else if g = 100 then (0, f)
  else if g < 20 then zuW 2 g i f else if g < 40 then zuW 93 (g - 20) i f else if g < 60 then (202, zuS (g - 40) i f) else (203, zuS (g - 60) i f)
theorem zdec_u (a k : Nat) : zunc (zdec a k).1 (zdec a k).2.1 (zdec a k).2.2 = (a, k) := by
  unfold zdec
  split
  · next h => subst h; rfl
  split
  · next h0 h =>
    have := zdW_u 2 (a - 2) k (by omega)
    unfold zunc
    rw [if_neg (by omega), if_neg (by omega), if_pos (by omega), this.1]
    exact Prod.ext (by dsimp only; omega) rfl
  split
  · next h0 h1 h =>
    have := zdW_u 93 (a - 93) k (by omega)
    unfold zunc
    dsimp only
    rw [if_neg (by omega), if_neg (by omega), if_neg (by omega), if_pos (by omega), Nat.add_sub_cancel_left, this.1]
    exact Prod.ext (by dsimp only; omega) rfl
  split
  · next h0 h1 h2 h =>
    have := zdS_u k
    unfold zunc
    dsimp only
    rw [if_neg (by omega), if_neg (by omega), if_neg (by omega), if_neg (by omega), if_pos (by omega), Nat.add_sub_cancel_left, this.1, h]
  split
  · next h0 h1 h2 h3 h =>
    have := zdS_u k
    unfold zunc
    dsimp only
    rw [if_neg (by omega), if_neg (by omega), if_neg (by omega), if_neg (by omega), if_neg (by omega), Nat.add_sub_cancel_left, this.1, h]
  · unfold zunc
    dsimp only
    rw [if_pos (by omega), Nat.add_sub_cancel_left]
theorem zdec_inj {a k x j : Nat} (h : zdec x j = zdec a k) : x = a ∧ j = k := by
  have h1 := zdec_u a k
  have h2 := zdec_u x j
  rw [h] at h2
  rw [h1] at h2
  exact ⟨(congrArg Prod.fst h2).symm, (congrArg Prod.snd h2).symm⟩
def zroom (a : Nat) : Nat := ([0, 0, 0, 0, 0, 0, 0, 0, 0, 30, 0, 60, 0, 20, 0, 6, 0, 0, 0, 0, 0, 0, 0, 0, 0, 0, 0, 0, 0, 0, 0, 0, 0, 0, 0, 0, 0, 0, 0, 0, 0, 0, 0, 0, 0, 0, 0, 0, 0, 0, 0, 0, 0, 0, 0, 0, 0, 0, 0, 0, 0, 0, 0, 0, 0, 0, 0, 0, 0, 0, 0, 0, 0, 0, 0, 0, 0, 0, 0, 0, 0, 0, 0, 0, 0, 120, 0, 120, 0, 120, 0, 120, 0, 0, 0, 0, 0, 0, 0, 0, 30, 0, 60, 0, 20, 0, 6, 0, 0, 0, 0, 0, 0, 0, 0, 0, 0, 0, 0, 0, 0, 0, 0, 0, 0, 0, 0, 0, 0, 0, 0, 0, 0, 0, 0, 0, 0, 0, 0, 0, 0, 0, 0, 0, 0, 0, 0, 0, 0, 0, 0, 0, 0, 0, 0, 0, 0, 0, 0, 0, 0, 0, 0, 0, 0, 0, 0, 0, 0, 0, 0, 0, 0, 0, 0, 0, 120, 0, 120, 0, 120, 0, 120, 0, 0, 0, 0, 0, 0, 0, 0, 0, 0, 0, 0, 6, 0, 6, 0, 0] : List Nat).getD a 0
def zwid (a : Nat) : Nat := ([0, 0, 0, 0, 0, 0, 0, 0, 0, 3, 0, 8, 0, 3, 0, 4, 0, 0, 0, 0, 0, 0, 0, 0, 0, 0, 0, 0, 0, 0, 0, 0, 0, 0, 0, 0, 0, 0, 0, 0, 0, 0, 0, 0, 0, 0, 0, 0, 0, 0, 0, 0, 0, 0, 0, 0, 0, 0, 0, 0, 0, 0, 0, 0, 0, 0, 0, 0, 0, 0, 0, 0, 0, 0, 0, 0, 0, 0, 0, 0, 0, 0, 0, 0, 0, 2, 0, 2, 0, 2, 0, 2, 0, 0, 0, 0, 0, 0, 0, 0, 3, 0, 8, 0, 3, 0, 4, 0, 0, 0, 0, 0, 0, 0, 0, 0, 0, 0, 0, 0, 0, 0, 0, 0, 0, 0, 0, 0, 0, 0, 0, 0, 0, 0, 0, 0, 0, 0, 0, 0, 0, 0, 0, 0, 0, 0, 0, 0, 0, 0, 0, 0, 0, 0, 0, 0, 0, 0, 0, 0, 0, 0, 0, 0, 0, 0, 0, 0, 0, 0, 0, 0, 0, 0, 0, 0, 2, 0, 2, 0, 2, 0, 2, 0, 0, 0, 0, 0, 0, 0, 0, 0, 0, 0, 0, 4, 0, 4, 0, 0] : List Nat).getD a 0
/-- the place of a cell that can change -/
def zdk (a k : Nat) : Option (Nat × Nat × Nat) := if zroom a ≠ 0 ∧ k < 2 then none else some (zdec a k)
abbrev zCt : Type := Nat → Nat → Nat → Int32
def zI (C : zCt) (a k : Nat) : Int32 := match zdk a k with
  | some t => C t.1 t.2.1 t.2.2
  | none => if k = 0 then nI (zroom a) else nI (zwid a)
/-- group g is F -/
def zcs (C : zCt) (g : Nat) (F : Nat → Nat → Int32) : zCt := fun x => if x = g then F else C x
theorem zcs_eq (C : zCt) (g : Nat) (F : Nat → Nat → Int32) : zcs C g F g = F := if_pos rfl
theorem zcs_ne (C : zCt) {g x : Nat} (F : Nat → Nat → Int32) (h : (x == g) = false) : zcs C g F x = C x := if_neg (by simpa using h)
theorem zcs_cs (C : zCt) (g : Nat) (F F2 : Nat → Nat → Int32) : zcs (zcs C g F) g F2 = zcs C g F2 := by
  funext x
  unfold zcs
  by_cases h : x = g
  · rw [if_pos h, if_pos h]
  · rw [if_neg h, if_neg h, if_neg h]
theorem zcs_self (C : zCt) (g : Nat) : zcs C g (C g) = C := by
  funext x
  unfold zcs
  by_cases h : x = g
  · rw [if_pos h, h]
  · rw [if_neg h]
theorem zcs_comm (C : zCt) {g h : Nat} (F F2 : Nat → Nat → Int32) (e : (g == h) = false) : zcs (zcs C g F) h F2 = zcs (zcs C h F2) g F := by
  have e' : g ≠ h := by simpa using e
  funext x
  unfold zcs
  by_cases h1 : x = g
  · subst h1; rw [if_neg e', if_pos rfl, if_pos rfl]
  · rw [if_neg h1, if_neg h1]
theorem zI_get {C : zCt} {a k g i f : Nat} (h : zdk a k = some (g, i, f)) : zI C a k = C g i f := by
  unfold zI
  rw [h]
theorem zI_put {C : zCt} {a k g i f : Nat} {v : Int32} (h : zdk a k = some (g, i, f)) : zup (zI C) a k v = zI (zcs C g (zup (C g) i f v)) := by
  have hd : zdec a k = (g, i, f) := by
    unfold zdk at h
    split at h
    · cases h
    · exact Option.some.inj h
  funext x j
  unfold zup
  by_cases hx : x = a ∧ j = k
  · obtain ⟨rfl, rfl⟩ := hx
    rw [if_pos ⟨rfl, rfl⟩, zI_get h, zcs_eq, if_pos ⟨rfl, rfl⟩]
  · rw [if_neg hx]
    unfold zI
    cases hk : zdk x j with
    | none => rfl
    | some t =>
      have ht : zdec x j = t := by
        unfold zdk at hk
        split at hk
        · cases hk
        · exact Option.some.inj hk
      show C t.1 t.2.1 t.2.2 = zcs C g _ t.1 t.2.1 t.2.2
      unfold zcs
      by_cases hg : t.1 = g
      · rw [if_pos hg]
        rw [if_neg, hg]
        rintro ⟨h1, h2⟩
        refine hx (zdec_inj ?_)
        rw [ht, hd]
        exact Prod.ext hg (Prod.ext h1 h2)
      · rw [if_neg hg]
theorem zup_g (f : Nat → Nat → Int32) (a k : Nat) (v : Int32) : zup f a k v a k = v := if_pos ⟨rfl, rfl⟩
