/-! rows for the constructors -/
def upn (a : Nat → Nat) (i q : Nat) : Nat → Nat := fun j => if j = i then q else a j
theorem upn_s (a : Nat → Nat) (i q : Nat) : upn a i q i = q := by simp [upn]
theorem upn_n {a : Nat → Nat} {i q j : Nat} (h : ¬ j = i) : upn a i q j = a j := by simp [upn, h]
theorem upTo_s (n : Nat) (a : Nat → Nat) (q : Nat) : va_up (upTo n a) n (some q) = upTo (n + 1) (upn a n q) := by
  funext j
  unfold va_up upTo upn
  by_cases h1 : j = n
  · subst h1; simp
  · by_cases h2 : j < n
    · simp [h1, h2, show j < n + 1 by omega]
    · simp [h1, h2, show ¬ j < n + 1 by omega]
def jm_cl (w : Int32) : Int32 := if 1 ≤ w then (if w ≤ 60 then w else 60) else 1
theorem cl_w {w : Int32} (h1 : 1 ≤ w) (h2 : w ≤ 60) : ∃ n : Nat, (1 ≤ n ∧ n ≤ 60) ∧ w = nI n := by
  have h0 : ¬ w < 0 := by rw [i_lt]; rw [i_le] at h1; have e : (1 : Int32).toInt = 1 := (by decide); have e0 : (0 : Int32).toInt = 0 := (by decide); omega
  obtain ⟨j, hj, e⟩ := nI_of2 (n := 60) (M := 60) rfl h0 h2
  subst e
  refine ⟨j, ⟨?_, hj⟩, rfl⟩
  rcases Nat.eq_zero_or_pos j with q | q
  · subst q; exact absurd h1 (by decide)
  · exact q
theorem cl_ex (w : Int32) : ∃ n : Nat, (1 ≤ n ∧ n ≤ 60) ∧ jm_cl w = nI n := by
  unfold jm_cl
  split
  · split
    · exact cl_w (by assumption) (by assumption)
    · exact ⟨60, by decide, rfl⟩
  · exact ⟨1, by decide, rfl⟩
theorem cl_jc (w : Int32) : jc_max 1 (jc_min w 60) = jm_cl w := by
  have e1 : (1 : Int32).toInt = 1 := by decide
  have e60 : (60 : Int32).toInt = 60 := by decide
  unfold jc_max jc_min jm_cl
  repeat' split
  all_goals first
    | rfl
    | (rw [i_eq]; simp only [i_le, i_lt] at *; omega)
theorem upTo_0 (a : Nat → Nat) : upTo 0 a = fun _ => none := by
  funext j
  exact upTo_out (Nat.not_lt_zero j)
