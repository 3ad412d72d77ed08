/-! small rows on counters -/
theorem kb_no1 {n : Int32} {N : Nat} (hN : N ≤ 1000) (h : n < 0) : ¬ ∃ i : Nat, i < N ∧ n = nI i := by
  rintro ⟨i, hi, rfl⟩
  exact nI_pos (by omega) h
theorem kb_no2 {n : Int32} {N M : Nat} (hN : N ≤ M) (hM : M < 2 ^ 31) (h : nI M ≤ n) : ¬ ∃ i : Nat, i < N ∧ n = nI i := by
  rintro ⟨i, hi, rfl⟩
  exact nI_ge (by omega) hM h
theorem kb_no3 {j N : Nat} (hN : N ≤ 1000) (hj : j < 2 ^ 31) (h : ¬ j < N) : ¬ ∃ i : Nat, i < N ∧ nI j = nI i := by
  rintro ⟨i, hi, e⟩
  have := (nI_eq hj (by omega)).mp e
  omega
theorem cl_eq {i N : Nat} (hN : N < 2 ^ 31) (hi : i ≤ N) (c : nI N ≤ nI i) : i = N := by
  rcases Nat.lt_or_ge i N with q | q
  · exact absurd c (nI_ge q hN)
  · omega
theorem cl_lt {i N : Nat} (hN : N < 2 ^ 31) (hi : i ≤ N) (c : ¬ nI N ≤ nI i) : i < N := by
  rcases Nat.lt_or_ge i N with q | q
  · exact q
  · exact absurd (nI_le q (by omega)) c
/-- the rows of shadow that the first i boxes throw on row y -/
def jc_row (nb : Nat) (bf : Nat → Nat → Int32) (X Y Z y w : Int32) : Nat → Int64
  | 0 => 0
  | i + 1 => if i < nb then jc_row nb bf X Y Z y w i ||| jc_shade (bf i 6) (bf i 0) (bf i 1) (bf i 2) (bf i 3) (bf i 4) (bf i 5) X Y Z y w else jc_row nb bf X Y Z y w i
theorem jc_row_in {nb : Nat} {bf : Nat → Nat → Int32} {X Y Z y w : Int32} {i : Nat} (h : i < nb) : jc_row nb bf X Y Z y w (i + 1) = jc_row nb bf X Y Z y w i ||| jc_shade (bf i 6) (bf i 0) (bf i 1) (bf i 2) (bf i 3) (bf i 4) (bf i 5) X Y Z y w := by rw [jc_row, if_pos h]
theorem jc_row_out {nb : Nat} {bf : Nat → Nat → Int32} {X Y Z y w : Int32} {i : Nat} (h : ¬ i < nb) : jc_row nb bf X Y Z y w (i + 1) = jc_row nb bf X Y Z y w i := by rw [jc_row, if_neg h]
