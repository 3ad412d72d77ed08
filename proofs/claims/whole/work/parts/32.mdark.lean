/-! the reference's isDark, counts -/
theorem dk_no {bx tr su : Nat → Int32} {wo : Int32} {t : Nat} {x y : Int32} {b : Nat} {P0 : Prop} {dk : Int32} (h : dk = pI (P0 ∨ jm_any bx tr su wo t x y b)) (h0 : dk = 0) (hc : ¬ (¬ tr b = 0 ∧ ¬ nI b = wo ∧ ¬ jm_b bx su b t x y = 0)) : 0 = pI (P0 ∨ jm_any bx tr su wo t x y (b + 1)) := by
  have hn : ¬ (P0 ∨ jm_any bx tr su wo t x y b) := pI_0.mp (h ▸ h0)
  refine (pI_f ?_).symm
  rintro (q | ⟨c, hcb, q⟩)
  · exact hn (Or.inl q)
  · rcases Nat.lt_or_ge c b with z | z
    · exact hn (Or.inr ⟨c, z, q⟩)
    · have : c = b := by omega
      subst this
      exact hc q
theorem dk_yes {bx tr su : Nat → Int32} {wo : Int32} {t : Nat} {x y : Int32} {b : Nat} {P0 : Prop} (hc : ¬ tr b = 0 ∧ ¬ nI b = wo ∧ ¬ jm_b bx su b t x y = 0) : 1 = pI (P0 ∨ jm_any bx tr su wo t x y (b + 1)) := (pI_t (Or.inr ⟨b, Nat.lt_succ_self b, hc⟩)).symm
theorem dk_end {bx tr su : Nat → Int32} {wo : Int32} {t : Nat} {x y : Int32} {b nb : Nat} {P0 : Prop} {dk : Int32} (h : dk = pI (P0 ∨ jm_any bx tr su wo t x y b)) (hb : b ≤ nb) (h1 : ¬ dk = 0) : dk = pI (P0 ∨ jm_any bx tr su wo t x y nb) := by
  by_cases q : P0 ∨ jm_any bx tr su wo t x y b
  · rw [h, pI_t q]
    refine (pI_t ?_).symm
    rcases q with q | ⟨c, hc, q⟩
    · exact Or.inl q
    · exact Or.inr ⟨c, by omega, q⟩
  · exact absurd (h.trans (pI_f q)) h1
theorem dk_0 {bx tr su : Nat → Int32} {wo : Int32} {t : Nat} {x y : Int32} {P0 : Prop} (h : ¬ P0) : 0 = pI (P0 ∨ jm_any bx tr su wo t x y 0) := (pI_f (fun q => q.elim h (fun ⟨_, hc, _⟩ => absurd hc (Nat.not_lt_zero _)))).symm
theorem dk_1 {bx tr su : Nat → Int32} {wo : Int32} {t : Nat} {x y : Int32} {P0 : Prop} (h : P0) : 1 = pI (P0 ∨ jm_any bx tr su wo t x y 0) := (pI_t (Or.inl h)).symm
theorem cN_t {P : Nat → Prop} {i a : Nat} (h : ¬ pI (P i) = 0) : nI (a + cN P i) + 1 = nI (a + cN P (i + 1)) := by
  rw [cN, pN_t (Classical.byContradiction fun q => h (pI_0.mpr q)), nI_1]
  rfl
theorem cN_f {P : Nat → Prop} {i a : Nat} (h : pI (P i) = 0) : nI (a + cN P i) = nI (a + cN P (i + 1)) := by
  rw [cN, pN_f (pI_0.mp h)]
  rfl
/-- a window's light in an hour, by the reference -/
noncomputable def jm_dark (bx tr su : Nat → Int32) (nb : Nat) (wo le : Int32) (t u0 v0 u1 v1 : Nat) : Nat := cNN (fun j i => jm_D bx tr su nb wo le t (nI (u0 + i)) (nI (v0 + j))) (u1 - u0) (v1 - v0)
noncomputable def jm_lit (bx tr su li : Nat → Int32) (nb : Nat) (wo : Int32) (u0 v0 u1 v1 t : Nat) : Int32 := if su (3 * t + 2) = 0 then 0 else if li t = 0 then 0 else li t * ((nI u1 - nI u0) * (nI v1 - nI v0) - nI (jm_dark bx tr su nb wo 0 t u0 v0 u1 v1))
noncomputable def jm_day (bx tr su li : Nat → Int32) (nb : Nat) (wo : Int32) (u0 v0 u1 v1 : Nat) : Int32 := jc_sum (fun t => jm_lit bx tr su li nb wo u0 v0 u1 v1 t) 24
