/-! worst: what each box takes alone -/
theorem bt_one (f : Nat → Int64) (x n : Nat) : bt (jc_one f n) x = true ↔ ∃ i, i < n ∧ bt (f i) x = true := by
  induction n with
  | zero =>
    rw [jc_one, bt_0]
    exact ⟨fun q => absurd q (by decide), fun ⟨i, q, _⟩ => absurd q (Nat.not_lt_zero i)⟩
  | succ n ih =>
    rw [jc_one, bt_or, Bool.or_eq_true, ih]
    constructor
    · rintro (⟨i, q1, q2⟩ | q)
      · exact ⟨i, by omega, q2⟩
      · exact ⟨n, by omega, q⟩
    · rintro ⟨i, q1, q2⟩
      rcases Nat.lt_or_ge i n with z | z
      · exact Or.inl ⟨i, z, q2⟩
      · have : i = n := by omega
        subst this
        exact Or.inr q2
theorem bt_more (f : Nat → Int64) (x n : Nat) : bt (jc_more f n) x = true ↔ ∃ i j, i < j ∧ j < n ∧ bt (f i) x = true ∧ bt (f j) x = true := by
  induction n with
  | zero =>
    rw [jc_more, bt_0]
    exact ⟨fun q => absurd q (by decide), fun ⟨i, j, _, q, _⟩ => absurd q (Nat.not_lt_zero j)⟩
  | succ n ih =>
    rw [jc_more, bt_or, Bool.or_eq_true, ih, bt_and, Bool.and_eq_true, bt_one]
    constructor
    · rintro (⟨i, j, q1, q2, q3⟩ | ⟨⟨i, q1, q2⟩, q3⟩)
      · exact ⟨i, j, q1, by omega, q3⟩
      · exact ⟨i, n, q1, by omega, q2, q3⟩
    · rintro ⟨i, j, q1, q2, q3, q4⟩
      rcases Nat.lt_or_ge j n with z | z
      · exact Or.inl ⟨i, j, q1, z, q3, q4⟩
      · have : j = n := by omega
        subst this
        exact Or.inr ⟨⟨i, q1, q3⟩, q4⟩
theorem bt_alone (f : Nat → Int64) {x b : Nat} (hx : x < 64) (hb : b < 10) : bt (f b) x = true ∧ bt (jc_alone f) x = true ↔ bt (f b) x = true ∧ ∀ i, i < 10 → ¬ i = b → ¬ bt (f i) x = true := by
  unfold jc_alone
  rw [bt_and, bt_xor, bt_m1 hx, Bool.and_eq_true, bt_one]
  have hm := bt_more f x 10
  constructor
  · rintro ⟨h1, -, h3⟩
    refine ⟨h1, fun i hi hne h4 => ?_⟩
    have h5 : bt (jc_more f 10) x = true := hm.mpr (by
      rcases Nat.lt_or_ge i b with z | z
      · exact ⟨i, b, z, hb, h4, h1⟩
      · exact ⟨b, i, by omega, hi, h1, h4⟩)
    rw [h5] at h3
    exact absurd h3 (by decide)
  · rintro ⟨h1, h2⟩
    refine ⟨h1, ⟨b, hb, h1⟩, ?_⟩
    rcases h5 : bt (jc_more f 10) x with _ | _
    · rfl
    · obtain ⟨i, j, q1, q2, q3, q4⟩ := hm.mp h5
      by_cases hi : i = b
      · exact absurd q4 (h2 j q2 (by omega))
      · exact absurd q3 (h2 i (by omega) hi)
section WO
variable {nb wn : Nat} {bf : Nat → Nat → Int32} {bx tr su li : Nat → Int32} {j m0 m1 m2 m3 : Nat}
theorem shi_bt (hv : vR nb bf bx tr) (hS : vS (su (3 * j)) (su (3 * j + 1)) (su (3 * j + 2))) (hZ : 0 < (su (3 * j + 2)).toInt) (hw : 1 ≤ wn ∧ wn ≤ 60) {y : Nat} (hy : y ≤ 60) (i x : Nat) :
    bt (jc_shi nb bf (su (3 * j)) (su (3 * j + 1)) (su (3 * j + 2)) (nI y) (nI wn) i) x = true ↔ i < nb ∧ x < wn ∧ ¬ tr i = 0 ∧ ¬ jm_b bx su i j (nI x) (nI y) = 0 := by
  unfold jc_shi
  by_cases hi : i < nb
  · rw [if_pos hi, sh_bt hv hS hZ hw hy hi]
    exact ⟨fun q => ⟨hi, q⟩, fun q => q.2⟩
  · rw [if_neg hi, bt_0]
    exact ⟨fun q => absurd q (by decide), fun q => absurd q.1 hi⟩
/-- the cells that box b alone darkens -/
def jm_only (bx tr su : Nat → Int32) (nb j b : Nat) (x y : Int32) : Prop := (¬ tr b = 0 ∧ ¬ jm_b bx su b j x y = 0) ∧ ¬ jm_any bx tr su (nI b) j x y nb
theorem any_split {b : Nat} {x y : Int32} (hnb : nb ≤ 10) (hb : b < nb) : jm_any bx tr su (-1) j x y nb ↔ jm_any bx tr su (nI b) j x y nb ∨ jm_only bx tr su nb j b x y := by
  constructor
  · rintro ⟨i, h1, h2, h3, h4⟩
    by_cases hA : jm_any bx tr su (nI b) j x y nb
    · exact Or.inl hA
    · by_cases hi : i = b
      · subst hi
        exact Or.inr ⟨⟨h2, h4⟩, hA⟩
      · exact absurd ⟨i, h1, h2, fun q => hi (eq_nI (by omega) (by omega) q), h4⟩ hA
  · rintro (⟨i, h1, h2, h3, h4⟩ | ⟨⟨h1, h2⟩, -⟩)
    · exact ⟨i, h1, h2, nI_nm (by omega), h4⟩
    · exact ⟨b, hb, h1, nI_nm (by omega), h2⟩
theorem tks_ok {am : Int32} {b : Nat} (hv : vR nb bf bx tr) (hnb : nb ≤ 10) (hb : b < nb) (hS : vS (su (3 * j)) (su (3 * j + 1)) (su (3 * j + 2))) (hZ : 0 < (su (3 * j + 2)).toInt) (hw : 1 ≤ wn ∧ wn ≤ 60) (hm : m0 < m2) (hm2 : m2 ≤ wn) (hm3 : m3 ≤ 60) :
    jc_tks nb bf (su (3 * j)) (su (3 * j + 1)) (su (3 * j + 2)) am (nI wn) m0 m1 m2 (m3 - m1) b = am * nI (cNN (fun y x => jm_only bx tr su nb j b (nI (m0 + x)) (nI (m1 + y))) (m2 - m0) (m3 - m1)) := by
  have hrow : ∀ y, y < m3 - m1 → jc_bits (jc_shi nb bf (su (3 * j)) (su (3 * j + 1)) (su (3 * j + 2)) (nI (m1 + y)) (nI wn) b &&& (jc_cells (nI m0) (nI m2 - 1) &&& jc_alone (jc_shi nb bf (su (3 * j)) (su (3 * j + 1)) (su (3 * j + 2)) (nI (m1 + y)) (nI wn)))) = nI (cN (fun x => jm_only bx tr su nb j b (nI (m0 + x)) (nI (m1 + y))) (m2 - m0)) := by
    intro y hy
    have e : nI m2 - 1 = nI (m2 - 1) := by
      obtain ⟨z, hz⟩ : ∃ z, m2 = z + 1 := ⟨m2 - 1, by omega⟩
      rw [hz, nI_s1]
      rfl
    rw [e]
    refine bits_cN (b := m2) (P := fun x => jm_only bx tr su nb j b (nI x) (nI (m1 + y))) (by omega) fun x hx => ?_
    have hal := bt_alone (jc_shi nb bf (su (3 * j)) (su (3 * j + 1)) (su (3 * j + 2)) (nI (m1 + y)) (nI wn)) hx (show b < 10 by omega)
    have hs := fun i => shi_bt (i := i) (x := x) hv hS hZ hw (show m1 + y ≤ 60 by omega)
    rw [bt_and, Bool.and_eq_true, bt_and, Bool.and_eq_true, bt_cells (by omega) (by omega), decide_eq_true_eq]
    constructor
    · rintro ⟨h1, ⟨h2, h3⟩, h4⟩
      have h5 := hal.mp ⟨h1, h4⟩
      refine ⟨h2, by omega, ((hs b).mp h1).2.2, ?_⟩
      rintro ⟨i, k1, k2, k3, k4⟩
      exact h5.2 i (by omega) (fun q => k3 (by rw [q])) ((hs i).mpr ⟨k1, by omega, k2, k4⟩)
    · rintro ⟨h2, h3, h4, h5⟩
      have h1 := (hs b).mpr ⟨hb, by omega, h4⟩
      have h6 := hal.mpr ⟨h1, fun i k1 k2 k3 => h5 (by
        obtain ⟨g1, -, g3, g4⟩ := (hs i).mp k3
        exact ⟨i, g1, g3, fun q => k2 (eq_nI (by omega) (by omega) q), g4⟩)⟩
      exact ⟨h1, ⟨h2, by omega⟩, h6.2⟩
  unfold jc_tks
  generalize hn : m3 - m1 = n at hrow
  clear hn
  induction n with
  | zero =>
    show (0 : Int32) = am * nI 0
    exact (Int32.mul_zero).symm
  | succ n ih =>
    rw [jc_sum_s, cNN, ih fun y hy => hrow y (by omega), ← nI_add, Int32.mul_add]
    congr 1
    unfold jc_tk
    rw [hrow n (by omega)]
theorem tkh_ok {b : Nat} (hv : vR nb bf bx tr) (hnb : nb ≤ 10) (hb : b < nb) (hS : vS (su (3 * j)) (su (3 * j + 1)) (su (3 * j + 2))) (hl : 0 ≤ (li j).toInt) (hw : 1 ≤ wn ∧ wn ≤ 60) (hm : m0 < m2) (hm2 : m2 ≤ wn) (hm3 : m3 ≤ 60) :
    jc_tkh nb bf (su (3 * j)) (su (3 * j + 1)) (su (3 * j + 2)) (li j) (nI wn) m0 m1 m2 m3 b = jm_lit bx tr su li nb (nI b) m0 m1 m2 m3 j - jm_lit bx tr su li nb (-1) m0 m1 m2 m3 j := by
  unfold jc_tkh jm_lit
  by_cases h : su (3 * j + 2) = 0
  · rw [if_pos ((hs_0 hS.2.2.1).mpr h), if_pos h, if_pos h]
    rfl
  · have h1 : ¬ jc_hasSun (su (3 * j + 2)) = 0 := fun q => h ((hs_0 hS.2.2.1).mp q)
    rw [if_neg h1, if_neg h, if_neg h]
    by_cases h2 : li j = 0
    · rw [if_pos h2, if_pos h2, if_pos (by rw [h2]; decide)]
      rfl
    · have h3 : ¬ li j ≤ 0 := fun q => h2 (i_eq.mpr (by rw [i_le] at q; have q' : (li j).toInt ≤ 0 := q; show (li j).toInt = 0; omega))
      rw [if_neg h2, if_neg h2, if_neg h3, tks_ok hv hnb hb hS (hs_pos h1) hw hm hm2 hm3]
      have e : jm_dark bx tr su nb (-1) 0 j m0 m1 m2 m3 = jm_dark bx tr su nb (nI b) 0 j m0 m1 m2 m3 + cNN (fun y x => jm_only bx tr su nb j b (nI (m0 + x)) (nI (m1 + y))) (m2 - m0) (m3 - m1) := by
        unfold jm_dark
        refine cNN_split (fun y _ x _ => ?_) (fun y _ x _ => ?_)
        · rw [D_any, D_any]
          exact any_split hnb hb
        · rw [D_any]
          exact fun q => q.2.2 q.1
      rw [e, ← nI_add]
      generalize li j = a
      generalize (nI m2 - nI m0) * (nI m3 - nI m1) = c
      generalize nI (jm_dark bx tr su nb (nI b) 0 j m0 m1 m2 m3) = d
      generalize nI (cNN (fun y x => jm_only bx tr su nb j b (nI (m0 + x)) (nI (m1 + y))) (m2 - m0) (m3 - m1)) = k
      grind
theorem sum_sub {f g h : Nat → Int32} {n : Nat} (q : ∀ i, i < n → f i = g i - h i) : jc_sum f n = jc_sum g n - jc_sum h n := by
  induction n with
  | zero => show (0 : Int32) = 0 - 0; decide
  | succ n ih =>
    rw [jc_sum_s, jc_sum_s, jc_sum_s, ih fun i hi => q i (by omega), q n (by omega)]
    generalize jc_sum g n = a
    generalize jc_sum h n = b
    generalize g n = c
    generalize h n = d
    grind
theorem sum_0 {f : Nat → Int32} {n : Nat} (q : ∀ i, i < n → f i = 0) : jc_sum f n = 0 := by
  induction n with
  | zero => rfl
  | succ n ih =>
    rw [jc_sum_s, ih fun i hi => q i (by omega), q n (by omega)]
    rfl
theorem bits_0 : jc_bits 0 = 0 := by decide +kernel
theorem tk_0 {X Y Z am w : Int32} {i y : Nat} (h : ¬ i < nb ∨ bf i 6 = 0) : jc_tk nb bf X Y Z am w m0 m1 m2 y i = 0 := by
  unfold jc_tk
  have e : jc_shi nb bf X Y Z (nI (m1 + y)) w i = 0 := by
    unfold jc_shi
    split
    · rename_i hi
      rcases h with h | h
      · exact absurd hi h
      · unfold jc_shade
        rw [if_pos h]
    · rfl
  rw [e, Int64.zero_and, bits_0, Int32.mul_zero]
theorem tkd_0 {hf : Nat → Nat → Int32} {w : Int32} {i : Nat} (h : ¬ i < nb ∨ bf i 6 = 0) : jc_tkd nb bf hf w m0 m1 m2 m3 24 i = 0 := by
  unfold jc_tkd
  refine sum_0 fun t _ => ?_
  unfold jc_tkh
  split
  · rfl
  · split
    · rfl
    · exact sum_0 fun y _ => tk_0 h
theorem lk_worst {hf : Nat → Nat → Int32} (hv : vR nb bf bx tr) (hnb : nb ≤ 10) (hh : hR hf su li) (hw : 1 ≤ wn ∧ wn ≤ 60) (hm : m0 < m2) (hm2 : m2 ≤ wn) (hm3 : m3 ≤ 60) :
    (jc_best (fun b => jc_tkd nb bf hf (nI wn) m0 m1 m2 m3 24 b) 10) = jc_best (fun b => jm_more bx tr su li nb m0 m1 m2 m3 b) nb := by
  have e10 : 10 = nb + (10 - nb) := by omega
  rw [e10, best_0 (n := nb) (fun i hi => tkd_0 (Or.inl (by omega)))]
  refine best_congr fun b hb => ?_
  show jc_tkd nb bf hf (nI wn) m0 m1 m2 m3 24 b = _
  unfold jm_more
  obtain ⟨⟨-, -, -, -, -, -, e6⟩, -, -⟩ := hv b hb
  by_cases h : tr b = 0
  · rw [if_pos h, tkd_0 (Or.inr (e6.trans h))]
  · rw [if_neg h]
    unfold jc_tkd jm_day
    refine sum_sub fun t ht => ?_
    obtain ⟨⟨q0, q1, q2, q3⟩, hS, hl, -⟩ := hh t ht
    rw [q0, q1, q2, q3]
    rw [q0, q1, q2] at hS
    exact tkh_ok hv hnb hb hS hl hw hm hm2 hm3
end WO
