/-! the reference's question for one cell, as whole numbers -/
def bl (a : Int64) (v A : Int) : Prop := a.toInt = v ∧ -A ≤ v ∧ v ≤ A
theorem bl_mul {a b : Int64} {v w A B : Int} (ha : bl a v A) (hb : bl b w B) (h : A * B ≤ 9223372036854775807) : bl (a * b) (v * w) (A * B) := by
  have h1 := mb_mul ha.2 hb.2
  exact ⟨l_mul ha.1 hb.1 (by omega), h1⟩
theorem bl_add {a b : Int64} {v w A B : Int} (ha : bl a v A) (hb : bl b w B) (h : A + B ≤ 9223372036854775807) : bl (a + b) (v + w) (A + B) := by
  have h1 := ha.2
  have h2 := hb.2
  exact ⟨l_add ha.1 hb.1 (by omega), by omega, by omega⟩
theorem bl_sub {a b : Int64} {v w A B : Int} (ha : bl a v A) (hb : bl b w B) (h : A + B ≤ 9223372036854775807) : bl (a - b) (v - w) (A + B) := by
  have h1 := ha.2
  have h2 := hb.2
  exact ⟨l_sub ha.1 hb.1 (by omega), by omega, by omega⟩
theorem bl_neg {a : Int64} {v A : Int} (ha : bl a v A) (h : A ≤ 9223372036854775807) : bl (-a) (-v) A := by
  have h1 := ha.2
  exact ⟨l_neg ha.1 (by omega), by omega, by omega⟩
theorem bl_w {a : Int64} {v A B : Int} (h : bl a v A) (hB : A ≤ B) : bl a v B := ⟨h.1, by have := h.2; omega, by have := h.2; omega⟩
theorem bl_i {a : Int32} {v A : Int} (h : bd a v A) : bl a.toInt64 v A := ⟨by rw [Int32.toInt_toInt64]; exact h.1, h.2⟩
theorem bl_2 : bl 2 2 2 := ⟨rfl, by decide, by decide⟩
theorem bl_1 : bl 1 1 1 := ⟨rfl, by decide, by decide⟩
/-- pairs -/
def bp (q : Int64 × Int64) (Q : Int × Int) (A : Int) : Prop := bl q.1 Q.1 A ∧ bl q.2 Q.2 A
theorem on_A {l : Int64 × Int64} {L : Int × Int} {a b : Int64} {v w A : Int} (hl : bp l L A) (ha : bl a v A) (hb : bl b w A) (hA : A * A ≤ 9223372036854775807) : bp (jm_A l a b) (fq_A L v w) A := by
  unfold jm_A fq_A
  have h1 := (bl_mul ha hl.2 hA).1
  have h2 := (bl_mul hl.1 hb hA).1
  by_cases h : a * l.2 ≤ l.1 * b
  · rw [if_pos h]
    rw [l_le, h1, h2] at h
    rw [if_neg (by omega)]
    exact hl
  · rw [if_neg h]
    rw [l_le, h1, h2] at h
    rw [if_pos (by omega)]
    exact ⟨ha, hb⟩
theorem on_B {l : Int64 × Int64} {L : Int × Int} {a b : Int64} {v w A : Int} (hl : bp l L A) (ha : bl a v A) (hb : bl b w A) (hA : A * A ≤ 9223372036854775807) : bp (jm_B l a b) (fq_B L v w) A := by
  unfold jm_B fq_B
  have h1 := (bl_mul ha hl.2 hA).1
  have h2 := (bl_mul hl.1 hb hA).1
  by_cases h : l.1 * b ≤ a * l.2
  · rw [if_pos h]
    rw [l_le, h1, h2] at h
    rw [if_neg (by omega)]
    exact hl
  · rw [if_neg h]
    rw [l_le, h1, h2] at h
    rw [if_pos (by omega)]
    exact ⟨ha, hb⟩
theorem on_may {m g f t : Int64} {M Gg F T A : Int} {q : (Int64 × Int64) × (Int64 × Int64)} {Q : (Int × Int) × (Int × Int)} (hm : bl m M A) (hg : bl g Gg (A + A)) (hf : bl f F A) (ht : bl t T A) (h1 : bp q.1 Q.1 (A + A)) (h2 : bp q.2 Q.2 (A + A)) (hA : (A + A) * (A + A) ≤ 9223372036854775807) (hA2 : A + A ≤ 9223372036854775807) :
    (¬ (jm_may m g f t q).1 = 0 ↔ (fq_may M Gg F T Q).1) ∧ bp (jm_may m g f t q).2.1 (fq_may M Gg F T Q).2.1 (A + A) ∧ bp (jm_may m g f t q).2.2 (fq_may M Gg F T Q).2.2 (A + A) := by
  have z0 : (0 : Int64).toInt = 0 := rfl
  unfold jm_may fq_may
  by_cases h : g = 0
  · have h' : Gg = 0 := by rw [← hg.1, h]; rfl
    rw [if_pos h, if_pos h']
    refine ⟨?_, h1, h2⟩
    show ¬ (if m < f then (0 : Int32) else if t < m then 0 else 1) = 0 ↔ F ≤ M ∧ M ≤ T
    by_cases h3 : m < f
    · rw [if_pos h3]; rw [l_lt, hm.1, hf.1] at h3
      exact ⟨fun q => absurd rfl q, fun q => absurd q (by omega)⟩
    · rw [if_neg h3]; rw [l_lt, hm.1, hf.1] at h3
      by_cases h4 : t < m
      · rw [if_pos h4]; rw [l_lt, hm.1, ht.1] at h4
        exact ⟨fun q => absurd rfl q, fun q => absurd q (by omega)⟩
      · rw [if_neg h4]; rw [l_lt, hm.1, ht.1] at h4
        exact ⟨fun _ => by omega, fun _ => by decide⟩
  · have h' : ¬ Gg = 0 := fun q => h (l_eq.mpr (by rw [hg.1, q]; rfl))
    rw [if_neg h, if_neg h']
    by_cases h3 : g ≤ 0
    · rw [if_pos h3]; rw [l_le, hg.1, z0] at h3
      rw [if_neg (by omega)]
      exact ⟨⟨fun _ => trivial, fun _ => by show ¬ (1 : Int32) = 0; decide⟩, on_A h1 (bl_sub hf hm hA2) (bl_neg hg hA2) hA, on_B h2 (bl_sub ht hm hA2) (bl_neg hg hA2) hA⟩
    · rw [if_neg h3]; rw [l_le, hg.1, z0] at h3
      rw [if_pos (by omega)]
      exact ⟨⟨fun _ => trivial, fun _ => by show ¬ (1 : Int32) = 0; decide⟩, on_A h1 (bl_sub hm ht hA2) hg hA, on_B h2 (bl_sub hm hf hA2) hg hA⟩
theorem on_ok {x0 y0 z0 x1 y1 z1 X Y Z : Int32} {x y : Nat} (hB : vB x0 y0 z0 x1 y1 z1) (hS : vS X Y Z) (hx : x ≤ 60) (hy : y ≤ 60) :
    (¬ jm_on x0 y0 z0 x1 y1 z1 X Y Z (nI x) (nI y) = 0) ↔ fq_on x0.toInt y0.toInt z0.toInt x1.toInt y1.toInt z1.toInt X.toInt Y.toInt Z.toInt x y := by
  obtain ⟨hbx, hby, hbz⟩ := hB
  obtain ⟨hX, hY, hZ⟩ := hS
  have bZ : bl Z.toInt64 Z.toInt 100 := bl_i ⟨rfl, by omega, by omega⟩
  have b2Z : bl (2 * Z.toInt64) (2 * Z.toInt) 200 := bl_mul bl_2 bZ (by decide)
  have hm : ∀ n : Nat, n ≤ 60 → bl ((2 * (nI n).toInt64 + 1) * Z.toInt64) ((2 * (n : Int) + 1) * Z.toInt) 40000 := fun n hn => bl_w (bl_mul (bl_add (bl_mul bl_2 (bl_i (bd_nI hn (by decide))) (by decide)) bl_1 (by decide)) bZ (by decide)) (by decide)
  have hq : ∀ {a : Int32}, -100 ≤ a.toInt → a.toInt ≤ 200 → bl (2 * Z.toInt64 * a.toInt64) (2 * Z.toInt * a.toInt) 40000 := fun h1 h2 => bl_mul b2Z (bl_i (A := 200) ⟨rfl, by omega, h2⟩) (by decide)
  have hg : ∀ {a : Int32}, -300 ≤ a.toInt → a.toInt ≤ 300 → bl (2 * a.toInt64) (2 * a.toInt) (40000 + 40000) := fun h1 h2 => bl_w (bl_mul bl_2 (bl_i (A := 300) ⟨rfl, h1, h2⟩) (by decide)) (by decide)
  have bz0 : bl z0.toInt64 z0.toInt (40000 + 40000) := bl_i ⟨rfl, by omega, by omega⟩
  have bz1 : bl z1.toInt64 z1.toInt (40000 + 40000) := bl_i ⟨rfl, by omega, by omega⟩
  have p1 := on_may (q := ((z0.toInt64, 1), (z1.toInt64, 1))) (Q := ((z0.toInt, 1), (z1.toInt, 1))) (hm x hx) (hg hX.1 hX.2) (hq (a := x0) (by omega) (by omega)) (hq (a := x1) (by omega) (by omega)) ⟨bz0, bl_w bl_1 (by decide)⟩ ⟨bz1, bl_w bl_1 (by decide)⟩ (by decide) (by decide)
  have p2 := on_may (hm y hy) (hg hY.1 hY.2) (hq (a := y0) (by omega) (by omega)) (hq (a := y1) (by omega) (by omega)) p1.2.1 p1.2.2 (by decide) (by decide)
  unfold jm_on fq_on
  by_cases h1 : (jm_p1 x0 z0 x1 z1 X Z (nI x)).1 = 0
  · rw [if_pos h1]
    exact ⟨fun q => absurd rfl q, fun q => absurd h1 (p1.1.mpr q.1)⟩
  · rw [if_neg h1]
    by_cases h2 : (jm_p2 x0 y0 z0 x1 y1 z1 X Y Z (nI x) (nI y)).1 = 0
    · rw [if_pos h2]
      exact ⟨fun q => absurd rfl q, fun q => absurd h2 (p2.1.mpr q.2.1)⟩
    · rw [if_neg h2]
      have e1 := (bl_mul p2.2.2.1 p2.2.1.2 (by decide)).1
      have e2 := (bl_mul p2.2.1.1 p2.2.2.2 (by decide)).1
      by_cases h3 : (jm_p2 x0 y0 z0 x1 y1 z1 X Y Z (nI x) (nI y)).2.2.1 * (jm_p2 x0 y0 z0 x1 y1 z1 X Y Z (nI x) (nI y)).2.1.2 < (jm_p2 x0 y0 z0 x1 y1 z1 X Y Z (nI x) (nI y)).2.1.1 * (jm_p2 x0 y0 z0 x1 y1 z1 X Y Z (nI x) (nI y)).2.2.2
      · rw [if_pos h3]
        have h4 := l_lt.mp h3
        have h5 := (e1 ▸ e2 ▸ h4)
        exact ⟨fun q => absurd rfl q, fun q => absurd q.2.2 (by unfold fq_le; exact Int.not_le.mpr h5)⟩
      · rw [if_neg h3]
        have h4 := mt l_lt.mpr h3
        have h5 := (e1 ▸ e2 ▸ h4)
        exact ⟨fun _ => ⟨p1.1.mp h1, p2.1.mp h2, Int.not_lt.mp h5⟩, fun _ => by decide⟩
/-- the heart: a cell of a row is in the box's shadow, said by both -/
theorem sd_on {pr x0 y0 z0 x1 y1 z1 X Y Z : Int32} {y wn x : Nat} (hB : vB x0 y0 z0 x1 y1 z1) (hS : vS X Y Z) (hZ : 0 < Z.toInt) (hy : y ≤ 60) (hw : 1 ≤ wn ∧ wn ≤ 60) :
    bt (jc_shade pr x0 y0 z0 x1 y1 z1 X Y Z (nI y) (nI wn)) x = true ↔ x < wn ∧ ¬ pr = 0 ∧ ¬ jm_on x0 y0 z0 x1 y1 z1 X Y Z (nI x) (nI y) = 0 := by
  rw [sd_ok hB hS hZ hy hw]
  by_cases hx : x < wn
  · rw [on_ok hB hS (by omega) hy, fq_eq hZ hB.1.2.1 hB.2.1.2.1 hB.2.2.2.1]
  · exact ⟨fun q => absurd q.1 hx, fun q => absurd q.1 hx⟩
