/-! what the reference's check answers; rows of its arrays -/
def jm_Ck (P : Prop) (t : Int32) (su : Nat → Int32) (c : Int32) (j : Nat) : Prop := (c = 1 ∧ (¬ P ∨ ¬ ∃ i : Nat, i < 24 ∧ t = nI i)) ∨ (c = 2 ∧ P ∧ j < 24 ∧ t = nI j ∧ su (3 * j + 2) = 0) ∨ (c = 0 ∧ P ∧ j < 24 ∧ t = nI j ∧ ¬ su (3 * j + 2) = 0)
theorem Ck_congr {P Q : Prop} {t : Int32} {su : Nat → Int32} {c : Int32} {j : Nat} (h : P ↔ Q) (hc : jm_Ck P t su c j) : jm_Ck Q t su c j := by
  have e : P = Q := propext h
  subst e
  exact hc
theorem Ck_0 {P : Prop} {t : Int32} {su : Nat → Int32} {c : Int32} {j : Nat} (hc : jm_Ck P t su c j) (h : c = 0) : P ∧ j < 24 ∧ t = nI j ∧ ¬ su (3 * j + 2) = 0 := by
  rcases hc with q | q | q
  · rw [q.1] at h; exact absurd h (by decide)
  · rw [q.1] at h; exact absurd h (by decide)
  · exact q.2
theorem Ck_le {P : Prop} {t : Int32} {su : Nat → Int32} {c : Int32} {j : Nat} (hc : jm_Ck P t su c j) (h : c ≤ 0) : c = 0 := by
  rcases hc with q | q | q
  · rw [q.1] at h; exact absurd h (by decide)
  · rw [q.1] at h; exact absurd h (by decide)
  · exact q.1
theorem Ck_gt {P : Prop} {t : Int32} {su : Nat → Int32} {c : Int32} {j : Nat} (hc : jm_Ck P t su c j) (h : ¬ c ≤ 0) : ¬ c = 0 := fun q => h (by rw [q]; decide)
theorem noH_1 {t : Int32} (h : jm_noH t = 0) : ∃ j : Nat, j < 24 ∧ t = nI j := by
  unfold jm_noH at h
  split at h
  · exact absurd h (by decide)
  · rename_i h0
    split at h
    · rename_i h1
      obtain ⟨j, hj, e⟩ := nI_of2 (n := 23) (M := 23) rfl h0 h1
      exact ⟨j, by omega, e⟩
    · exact absurd h (by decide)
theorem noH_0 {t : Int32} (h : ¬ jm_noH t = 0) : ¬ ∃ j : Nat, j < 24 ∧ t = nI j := by
  rintro ⟨j, hj, rfl⟩
  refine h ?_
  unfold jm_noH
  have h23 : nI j ≤ (23 : Int32) := nI_le (b := 23) (by omega) (by decide)
  rw [if_neg (nI_pos (by omega)), if_pos h23]
theorem noB_1 {b : Int32} {nb : Nat} (hn : nb < 2 ^ 31) (h : jm_noB b nb = 0) : ∃ j : Nat, j < nb ∧ b = nI j := by
  unfold jm_noB at h
  split at h
  · exact absurd h (by decide)
  · rename_i h0
    split at h
    · rename_i h1
      obtain ⟨j, hj, e⟩ := nI_of h0
      subst e
      exact ⟨j, lt_nI hj hn h1, rfl⟩
    · exact absurd h (by decide)
theorem noB_0 {b : Int32} {nb : Nat} (hn : nb < 2 ^ 31) (h : ¬ jm_noB b nb = 0) : ¬ ∃ j : Nat, j < nb ∧ b = nI j := by
  rintro ⟨j, hj, rfl⟩
  refine h ?_
  unfold jm_noB
  rw [if_neg (nI_pos (by omega)), if_pos (nI_lt hj hn)]
def jm_lay (bx : Nat → Int32) (b : Nat) (x0 y0 z0 x1 y1 z1 : Int32) : Nat → Int32 := upd (upd (upd (upd (upd (upd bx (6 * b) x0) (6 * b + 1) y0) (6 * b + 2) z0) (6 * b + 3) x1) (6 * b + 4) y1) (6 * b + 5) z1
