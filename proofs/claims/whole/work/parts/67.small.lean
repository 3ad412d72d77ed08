/-! numbers that the calls allow -/
theorem wi_1 {d : Int32} (h : ¬ jc_within d 1 100 = 0) : ∃ n : Nat, n ≤ 100 ∧ d = nI n := by
  have h1 : (1 : Int32).toInt ≤ d.toInt ∧ d.toInt ≤ (100 : Int32).toInt := Classical.byContradiction fun q => h (wi_in.mpr q)
  have e0 : (1 : Int32).toInt = 1 := rfl
  have e1 : (100 : Int32).toInt = 100 := rfl
  rw [e0, e1] at h1
  refine ⟨d.toInt.toNat, by omega, i_eq.mpr ?_⟩
  rw [nI_toInt (by omega)]
  omega
theorem wi_ok {n a b : Int32} (h : ¬ jc_within n a b = 0) : a.toInt ≤ n.toInt ∧ n.toInt ≤ b.toInt := Classical.byContradiction fun q => h (wi_in.mpr q)
theorem wok_n {u0 v0 u1 v1 : Int32} {wn hn : Nat} (hw : 1 ≤ wn ∧ wn ≤ 60) (hh : 1 ≤ hn ∧ hn ≤ 60) (h : 0 ≤ u0 ∧ u0 < u1 ∧ u1 ≤ nI wn ∧ 0 ≤ v0 ∧ v0 < v1 ∧ v1 ≤ nI hn) : ∃ n0 n1 n2 n3 : Nat, u0 = nI n0 ∧ v0 = nI n1 ∧ u1 = nI n2 ∧ v1 = nI n3 ∧ n0 < n2 ∧ n2 ≤ wn ∧ n1 < n3 ∧ n3 ≤ hn := by
  have e0 : (0 : Int32).toInt = 0 := rfl
  simp only [i_lt, i_le, e0, nI_toInt (show wn < 2 ^ 31 by omega), nI_toInt (show hn < 2 ^ 31 by omega)] at h
  refine ⟨u0.toInt.toNat, v0.toInt.toNat, u1.toInt.toNat, v1.toInt.toNat, i_eq.mpr ?_, i_eq.mpr ?_, i_eq.mpr ?_, i_eq.mpr ?_, by omega, by omega, by omega, by omega⟩ <;> rw [nI_toInt (by omega)] <;> omega
