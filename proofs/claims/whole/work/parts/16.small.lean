/-! small rows on counters -/
theorem kb_no1 {n : Int32} {N : Nat} (hN : N ≤ 1000) (h : n < 0) : ¬ ∃ i : Nat, i < N ∧ n = nI i := by
  rintro ⟨i, hi, rfl⟩
  exact nI_pos (by omega) h
theorem kb_no2 {n : Int32} {N M : Nat} (hN : N ≤ M) (hM : M < 2 ^ 31) (h : nI M ≤ n) : ¬ ∃ i : Nat, i < N ∧ n = nI i := by
  rintro ⟨i, hi, rfl⟩
  exact nI_ge (by omega) hM h
theorem kb_no3 {j N : Nat} (hN : N ≤ 1000) (hj : j < 2 ^ 31) (h : ¬ j < N) : ¬ ∃ i : Nat, i < N ∧ nI j = nI i := by
  rintro ⟨i, hi, e⟩
  have := (nI_eq hj (by omega)).mp e
  omega
theorem cl_eq {i N : Nat} (hN : N < 2 ^ 31) (hi : i ≤ N) (c : nI N ≤ nI i) : i = N := by
  rcases Nat.lt_or_ge i N with q | q
  · exact absurd c (nI_ge q hN)
  · omega
theorem cl_lt {i N : Nat} (hN : N < 2 ^ 31) (hi : i ≤ N) (c : ¬ nI N ≤ nI i) : i < N := by
  rcases Nat.lt_or_ge i N with q | q
  · exact q
  · exact absurd (nI_le q (by omega)) c
/-- the rows of shadow that the first i boxes throw on row y -/
def jc_row (nb : Nat) (bf : Nat → Nat → Int32) (X Y Z y w : Int32) : Nat → Int64
  | 0 => 0
  | i + 1 => if i < nb then jc_row nb bf X Y Z y w i ||| jc_shade (bf i 6) (bf i 0) (bf i 1) (bf i 2) (bf i 3) (bf i 4) (bf i 5) X Y Z y w else jc_row nb bf X Y Z y w i
theorem jc_row_in {nb : Nat} {bf : Nat → Nat → Int32} {X Y Z y w : Int32} {i : Nat} (h : i < nb) : jc_row nb bf X Y Z y w (i + 1) = jc_row nb bf X Y Z y w i ||| jc_shade (bf i 6) (bf i 0) (bf i 1) (bf i 2) (bf i 3) (bf i 4) (bf i 5) X Y Z y w := by rw [jc_row, if_pos h]
theorem jc_row_out {nb : Nat} {bf : Nat → Nat → Int32} {X Y Z y w : Int32} {i : Nat} (h : ¬ i < nb) : jc_row nb bf X Y Z y w (i + 1) = jc_row nb bf X Y Z y w i := by rw [jc_row, if_neg h]
def jc_sum (g : Nat → Int32) : Nat → Int32
  | 0 => 0
  | j + 1 => jc_sum g j + g j
def ld_no : Int32 → Int64 → Int64 := fun _ r => r
def ld_box (pr x0 y0 z0 x1 y1 z1 X Y Z w : Int32) : Int32 → Int64 → Int64 := fun y r => r ||| jc_shade pr x0 y0 z0 x1 y1 z1 X Y Z y w
def jc_dk (nb : Nat) (bf : Nat → Nat → Int32) (X Y Z w : Int32) (ld : Int32 → Int64 → Int64) (cols : Int64) (m1 j : Nat) : Int32 := jc_bits (ld (nI (m1 + j)) (jc_row nb bf X Y Z (nI (m1 + j)) w 10) &&& cols)
def jc_dark (nb : Nat) (bf : Nat → Nat → Int32) (X Y Z w : Int32) (ld : Int32 → Int64 → Int64) (m0 m1 m2 m3 : Nat) : Int32 := jc_sum (jc_dk nb bf X Y Z w ld (jc_cells (nI m0) (nI m2 - 1)) m1) (m3 - m1)
def jc_lightOf (nb : Nat) (bf : Nat → Nat → Int32) (X Y Z am w : Int32) (m0 m1 m2 m3 : Nat) : Int32 := if jc_hasSun Z = 0 then 0 else if am = 0 then 0 else am * ((nI m2 - nI m0) * (nI m3 - nI m1) - jc_dark nb bf X Y Z w ld_no m0 m1 m2 m3)
def jc_with (cs : Int64) : Nat → Nat → Int32 → Int32
  | 0, _, _ => (-1)
  | n + 1, x, l => if jc_hasCell cs (nI x) = 0 then jc_with cs n (x + 1) l else if l = 0 then nI x else jc_with cs n (x + 1) (l + (-1))
def jc_cell (row : Nat → Int64) : Nat → Nat → Int32 → Int32
  | 0, _, _ => (-1)
  | n + 1, y, b => if jc_bits (row y) ≤ b then jc_cell row n (y + 1) (b - jc_bits (row y)) else 100 * nI y + jc_with (row y) 60 0 b
def jc_best (g : Nat → Int32) : Nat → Int32 × Int32
  | 0 => ((-1), 0)
  | i + 1 => if g i ≤ (jc_best g i).2 then jc_best g i else (nI i, g i)
theorem jc_with_s (cs : Int64) (n x : Nat) (l : Int32) : jc_with cs (n + 1) x l = if jc_hasCell cs (nI x) = 0 then jc_with cs n (x + 1) l else if l = 0 then nI x else jc_with cs n (x + 1) (l + (-1)) := rfl
theorem jc_cell_s (row : Nat → Int64) (n y : Nat) (b : Int32) : jc_cell row (n + 1) y b = if jc_bits (row y) ≤ b then jc_cell row n (y + 1) (b - jc_bits (row y)) else 100 * nI y + jc_with (row y) 60 0 b := rfl
theorem jc_best_s (g : Nat → Int32) (i : Nat) : jc_best g (i + 1) = if g i ≤ (jc_best g i).2 then jc_best g i else (nI i, g i) := rfl
theorem jc_sum_s (g : Nat → Int32) (i : Nat) : jc_sum g (i + 1) = jc_sum g i + g i := rfl
