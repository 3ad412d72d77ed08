/-! The shadow of a box on a cell, over Int: the reference's way (fractions, low and high) and the other way (near, far, slide) say the same. -/
theorem fq_trans {a b c d e f : Int} (hd : 0 < d) (hb : 0 < b) (hf : 0 < f) (h1 : a * d ≤ c * b) (h2 : c * f ≤ e * d) : a * f ≤ e * b := by
  have p1 : (a * d) * f ≤ (c * b) * f := Int.mul_le_mul_of_nonneg_right h1 (by omega)
  have p2 : (c * f) * b ≤ (e * d) * b := Int.mul_le_mul_of_nonneg_right h2 (by omega)
  have e1 : (a * d) * f = (a * f) * d := Int.mul_right_comm ..
  have e2 : (c * b) * f = (c * f) * b := Int.mul_right_comm ..
  have e3 : (e * d) * b = (e * b) * d := Int.mul_right_comm ..
  have h3 : (a * f) * d ≤ (e * b) * d := by omega
  exact Int.le_of_mul_le_mul_right h3 hd
/-- the reference's atLeast and atMost -/
def fq_A (l : Int × Int) (a b : Int) : Int × Int := if l.1 * b < a * l.2 then (a, b) else l
def fq_B (h : Int × Int) (a b : Int) : Int × Int := if a * h.2 < h.1 * b then (a, b) else h
def fq_le (l h : Int × Int) : Prop := l.1 * h.2 ≤ h.1 * l.2
theorem fq_A_pos {l : Int × Int} {a b : Int} (hl : 0 < l.2) (hb : 0 < b) : 0 < (fq_A l a b).2 := by
  unfold fq_A; split <;> assumption
theorem fq_B_pos {l : Int × Int} {a b : Int} (hl : 0 < l.2) (hb : 0 < b) : 0 < (fq_B l a b).2 := by
  unfold fq_B; split <;> assumption
theorem fq_A_le {l h : Int × Int} {a b : Int} (hl : 0 < l.2) (hb : 0 < b) (hh : 0 < h.2) : fq_le (fq_A l a b) h ↔ fq_le l h ∧ fq_le (a, b) h := by
  unfold fq_A fq_le
  split
  · rename_i q
    refine ⟨fun z => ⟨?_, z⟩, fun z => z.2⟩
    exact fq_trans (a := l.1) (b := l.2) (c := a) (d := b) (e := h.1) (f := h.2) hb hl hh (by omega) z
  · rename_i q
    refine ⟨fun z => ⟨z, ?_⟩, fun z => z.1⟩
    exact fq_trans (a := a) (b := b) (c := l.1) (d := l.2) (e := h.1) (f := h.2) hl hb hh (by omega) z
theorem fq_B_le {l h : Int × Int} {a b : Int} (hl : 0 < l.2) (hb : 0 < b) (hh : 0 < h.2) : fq_le l (fq_B h a b) ↔ fq_le l h ∧ fq_le l (a, b) := by
  unfold fq_B fq_le
  split
  · rename_i q
    refine ⟨fun z => ⟨?_, z⟩, fun z => z.2⟩
    exact fq_trans (a := l.1) (b := l.2) (c := a) (d := b) (e := h.1) (f := h.2) hb hl hh z (by omega)
  · rename_i q
    refine ⟨fun z => ⟨z, ?_⟩, fun z => z.1⟩
    exact fq_trans (a := l.1) (b := l.2) (c := h.1) (d := h.2) (e := a) (f := b) hh hl hb z (by omega)
/-- the reference's may: whether it may be, low, high -/
def fq_may (m g f t : Int) (q : (Int × Int) × (Int × Int)) : Prop × (Int × Int) × (Int × Int) :=
  if g = 0 then (f ≤ m ∧ m ≤ t, q.1, q.2) else if 0 < g then (True, fq_A q.1 (m - t) g, fq_B q.2 (m - f) g) else (True, fq_A q.1 (f - m) (-g), fq_B q.2 (t - m) (-g))
/-- the reference's throwsOn -/
def fq_on (x0 y0 z0 x1 y1 z1 X Y Z x y : Int) : Prop :=
  (fq_may ((2 * x + 1) * Z) (2 * X) (2 * Z * x0) (2 * Z * x1) ((z0, 1), (z1, 1))).1 ∧
  (fq_may ((2 * y + 1) * Z) (2 * Y) (2 * Z * y0) (2 * Z * y1) (fq_may ((2 * x + 1) * Z) (2 * X) (2 * Z * x0) (2 * Z * x1) ((z0, 1), (z1, 1))).2).1 ∧
  fq_le (fq_may ((2 * y + 1) * Z) (2 * Y) (2 * Z * y0) (2 * Z * y1) (fq_may ((2 * x + 1) * Z) (2 * X) (2 * Z * x0) (2 * Z * x1) ((z0, 1), (z1, 1))).2).2.1 (fq_may ((2 * y + 1) * Z) (2 * Y) (2 * Z * y0) (2 * Z * y1) (fq_may ((2 * x + 1) * Z) (2 * X) (2 * Z * x0) (2 * Z * x1) ((z0, 1), (z1, 1))).2).2.2
/-- its near and far, and its question for one cell -/
def fq_S (Y : Int) : Int := if Y = 0 then 1 else 2 * (if Y < 0 then -Y else Y)
def fq_near (y0 z0 y1 Y Z y : Int) : Int := if 0 < Y then max (z0 * fq_S Y) ((2 * y + 1 - 2 * y1) * Z) else if Y < 0 then max (z0 * fq_S Y) ((2 * y0 - (2 * y + 1)) * Z) else z0 * fq_S Y
def fq_far (y0 z1 y1 Y Z y : Int) : Int := if 0 < Y then min (z1 * fq_S Y) ((2 * y + 1 - 2 * y0) * Z) else if Y < 0 then min (z1 * fq_S Y) ((2 * y1 - (2 * y + 1)) * Z) else z1 * fq_S Y
def fq_cl (x0 x1 X Z S near far x : Int) : Prop :=
  near ≤ far ∧ 2 * (x0 * (S * Z) + min (near * X) (far * X)) ≤ (2 * x + 1) * (S * Z) ∧ (2 * x + 1) * (S * Z) ≤ 2 * (x1 * (S * Z) + max (near * X) (far * X))
theorem fq_maxmul {a b k : Int} (hk : 0 ≤ k) (c : Int) : max a b * k ≤ c ↔ a * k ≤ c ∧ b * k ≤ c := by
  have h1 : a ≤ b → a * k ≤ b * k := fun h => Int.mul_le_mul_of_nonneg_right h hk
  have h2 : b ≤ a → b * k ≤ a * k := fun h => Int.mul_le_mul_of_nonneg_right h hk
  rcases Int.le_total a b with h | h
  · rw [Int.max_eq_right h]; have := h1 h; constructor <;> omega
  · rw [Int.max_eq_left h]; have := h2 h; constructor <;> omega
theorem fq_minmul {a b k : Int} (hk : 0 ≤ k) (c : Int) : c ≤ min a b * k ↔ c ≤ a * k ∧ c ≤ b * k := by
  have h1 : a ≤ b → a * k ≤ b * k := fun h => Int.mul_le_mul_of_nonneg_right h hk
  have h2 : b ≤ a → b * k ≤ a * k := fun h => Int.mul_le_mul_of_nonneg_right h hk
  rcases Int.le_total a b with h | h
  · rw [Int.min_eq_left h]; have := h1 h; constructor <;> omega
  · rw [Int.min_eq_right h]; have := h2 h; constructor <;> omega
theorem fq_cancel {a b g : Int} (hg : 0 < g) : a * g ≤ b * g ↔ a ≤ b := ⟨fun h => Int.le_of_mul_le_mul_right h hg, fun h => Int.mul_le_mul_of_nonneg_right h (by omega)⟩
theorem fq_core {z0 z1 A B C D g k : Int} (hg : 0 < g) (hk : 0 < k) (hz : z0 ≤ z1) (hAB : A ≤ B) :
    (max (z0 * g) A ≤ min (z1 * g) B ∧ max (z0 * g) A * k ≤ D * g ∧ C * g ≤ min (z1 * g) B * k) ↔ (z0 * g ≤ B ∧ A ≤ z1 * g ∧ z0 * k ≤ D ∧ A * k ≤ D * g ∧ C ≤ z1 * k ∧ C * g ≤ B * k) := by
  rw [fq_maxmul (by omega), fq_minmul (by omega)]
  have e1 : z0 * g * k = (z0 * k) * g := Int.mul_right_comm ..
  have e2 : z1 * g * k = (z1 * k) * g := Int.mul_right_comm ..
  rw [e1, e2, fq_cancel hg, fq_cancel hg]
  have hz' : z0 * g ≤ z1 * g := (fq_cancel hg).mpr hz
  omega
theorem fq_pairs {z0 z1 A B C D g k : Int} (hg : 0 < g) (hk : 0 < k) : fq_le (fq_A (fq_A (z0, 1) C k) A g) (fq_B (fq_B (z1, 1) D k) B g) ↔ (z0 ≤ z1 ∧ z0 * k ≤ D ∧ z0 * g ≤ B) ∧ (C ≤ z1 * k ∧ C * k ≤ D * k ∧ C * g ≤ B * k) ∧ (A ≤ z1 * g ∧ A * k ≤ D * g ∧ A * g ≤ B * g) := by
  have p1 : (0 : Int) < ((z0, 1) : Int × Int).2 := by show (0 : Int) < 1; decide
  have p2 : (0 : Int) < ((z1, 1) : Int × Int).2 := by show (0 : Int) < 1; decide
  rw [fq_A_le (fq_A_pos p1 hk) hg (fq_B_pos (fq_B_pos p2 hk) hg), fq_A_le p1 hk (fq_B_pos (fq_B_pos p2 hk) hg), fq_B_le p1 hg (fq_B_pos p2 hk), fq_B_le p1 hk p2, fq_B_le hk hg (fq_B_pos p2 hk), fq_B_le hk hk p2, fq_B_le hg hg (fq_B_pos p2 hk), fq_B_le hg hk p2]
  simp only [fq_le, Int.mul_one]
  constructor
  · intro h; obtain ⟨⟨⟨⟨a, b⟩, c⟩, ⟨d, e⟩, f⟩, ⟨g, h⟩, i⟩ := h; exact ⟨⟨a, b, c⟩, ⟨d, e, f⟩, g, h, i⟩
  · intro h; obtain ⟨⟨a, b, c⟩, ⟨d, e, f⟩, g, h, i⟩ := h; exact ⟨⟨⟨⟨a, b⟩, c⟩, ⟨d, e⟩, f⟩, ⟨g, h⟩, i⟩
theorem fq_pair1 {z0 z1 C D k : Int} (hk : 0 < k) : fq_le (fq_A (z0, 1) C k) (fq_B (z1, 1) D k) ↔ (z0 ≤ z1 ∧ z0 * k ≤ D) ∧ (C ≤ z1 * k ∧ C * k ≤ D * k) := by
  have p1 : (0 : Int) < ((z0, 1) : Int × Int).2 := by show (0 : Int) < 1; decide
  have p2 : (0 : Int) < ((z1, 1) : Int × Int).2 := by show (0 : Int) < 1; decide
  rw [fq_A_le p1 hk (fq_B_pos p2 hk), fq_B_le p1 hk p2, fq_B_le hk hk p2]
  simp only [fq_le, Int.mul_one]
theorem fq_clpos {x0 x1 X Z S n f x : Int} (hX : 0 < X) : fq_cl x0 x1 X Z S n f x ↔ n ≤ f ∧ n * (2 * X) ≤ ((2 * x + 1) * Z - 2 * Z * x0) * S ∧ ((2 * x + 1) * Z - 2 * Z * x1) * S ≤ f * (2 * X) := by
  unfold fq_cl
  have a0 : ((2 * x + 1) * Z - 2 * Z * x0) * S = (2 * x + 1) * (S * Z) - 2 * (x0 * (S * Z)) := by grind
  have a1 : ((2 * x + 1) * Z - 2 * Z * x1) * S = (2 * x + 1) * (S * Z) - 2 * (x1 * (S * Z)) := by grind
  have b0 : n * (2 * X) = 2 * (n * X) := Int.mul_left_comm ..
  have b1 : f * (2 * X) = 2 * (f * X) := Int.mul_left_comm ..
  refine and_congr_right fun h => ?_
  have hm : n * X ≤ f * X := Int.mul_le_mul_of_nonneg_right h (by omega)
  rw [Int.min_eq_left hm, Int.max_eq_right hm, a0, a1, b0, b1]
  omega
theorem fq_clneg {x0 x1 X Z S n f x : Int} (hX : X < 0) : fq_cl x0 x1 X Z S n f x ↔ n ≤ f ∧ n * (-(2 * X)) ≤ (2 * Z * x1 - (2 * x + 1) * Z) * S ∧ (2 * Z * x0 - (2 * x + 1) * Z) * S ≤ f * (-(2 * X)) := by
  unfold fq_cl
  have a0 : (2 * Z * x0 - (2 * x + 1) * Z) * S = 2 * (x0 * (S * Z)) - (2 * x + 1) * (S * Z) := by grind
  have a1 : (2 * Z * x1 - (2 * x + 1) * Z) * S = 2 * (x1 * (S * Z)) - (2 * x + 1) * (S * Z) := by grind
  have b0 : n * (-(2 * X)) = -(2 * (n * X)) := by grind
  have b1 : f * (-(2 * X)) = -(2 * (f * X)) := by grind
  refine and_congr_right fun h => ?_
  have hm : f * X ≤ n * X := by
    have := Int.mul_le_mul_of_nonneg_right h (show 0 ≤ -X by omega)
    have c0 : n * -X = -(n * X) := Int.mul_neg ..
    have c1 : f * -X = -(f * X) := Int.mul_neg ..
    omega
  rw [Int.min_eq_right hm, Int.max_eq_left hm, a0, a1, b0, b1]
  omega
theorem fq_cl0 {x0 x1 Z S n f x : Int} (hS : 0 < S * Z) : fq_cl x0 x1 0 Z S n f x ↔ n ≤ f ∧ 2 * x0 ≤ 2 * x + 1 ∧ 2 * x + 1 ≤ 2 * x1 := by
  unfold fq_cl
  refine and_congr_right fun h => ?_
  simp only [Int.mul_zero, Int.min_self, Int.max_self, Int.add_zero]
  have e0 : 2 * (x0 * (S * Z)) = (2 * x0) * (S * Z) := (Int.mul_assoc ..).symm
  have e1 : 2 * (x1 * (S * Z)) = (2 * x1) * (S * Z) := (Int.mul_assoc ..).symm
  rw [e0, e1, fq_cancel hS, fq_cancel hS]
theorem fq_Z {a b Z : Int} (hZ : 0 < Z) : 2 * Z * a ≤ b * Z ↔ 2 * a ≤ b := by
  rw [show 2 * Z * a = (2 * a) * Z by grind, fq_cancel hZ]
theorem fq_Z2 {a b Z : Int} (hZ : 0 < Z) : b * Z ≤ 2 * Z * a ↔ b ≤ 2 * a := by
  rw [show 2 * Z * a = (2 * a) * Z by grind, fq_cancel hZ]
/-- what is asked of one cell of a row -/
def fq_row (x0 y0 z0 x1 y1 z1 X Y Z x y : Int) : Prop :=
  (Y = 0 → 2 * y0 ≤ 2 * y + 1 ∧ 2 * y + 1 ≤ 2 * y1) ∧ fq_cl x0 x1 X Z (fq_S Y) (fq_near y0 z0 y1 Y Z y) (fq_far y0 z1 y1 Y Z y) x
theorem fq_eq {x0 y0 z0 x1 y1 z1 X Y Z x y : Int} (hZ : 0 < Z) (hx : x0 < x1) (hy : y0 < y1) (hz : z0 ≤ z1) : fq_on x0 y0 z0 x1 y1 z1 X Y Z x y ↔ fq_row x0 y0 z0 x1 y1 z1 X Y Z x y := by
  have hxx : (2 * x + 1) * Z - 2 * Z * x1 ≤ (2 * x + 1) * Z - 2 * Z * x0 := by
    have : 2 * Z * x0 ≤ 2 * Z * x1 := Int.mul_le_mul_of_nonneg_left (by omega) (by omega)
    omega
  have hyy : (2 * y + 1) * Z - 2 * Z * y1 ≤ (2 * y + 1) * Z - 2 * Z * y0 := by
    have : 2 * Z * y0 ≤ 2 * Z * y1 := Int.mul_le_mul_of_nonneg_left (by omega) (by omega)
    omega
  have ya : (2 * y + 1 - 2 * y1) * Z = (2 * y + 1) * Z - 2 * Z * y1 := by grind
  have yb : (2 * y + 1 - 2 * y0) * Z = (2 * y + 1) * Z - 2 * Z * y0 := by grind
  have yc : (2 * y0 - (2 * y + 1)) * Z = 2 * Z * y0 - (2 * y + 1) * Z := by grind
  have yd : (2 * y1 - (2 * y + 1)) * Z = 2 * Z * y1 - (2 * y + 1) * Z := by grind
  have xk : ∀ k : Int, 0 < k → ((2 * x + 1) * Z - 2 * Z * x1) * k ≤ ((2 * x + 1) * Z - 2 * Z * x0) * k := fun k hk => (fq_cancel hk).mpr hxx
  have yk : ∀ k : Int, 0 < k → ((2 * y + 1) * Z - 2 * Z * y1) * k ≤ ((2 * y + 1) * Z - 2 * Z * y0) * k := fun k hk => (fq_cancel hk).mpr hyy
  have xk' : ∀ k : Int, 0 < k → (2 * Z * x0 - (2 * x + 1) * Z) * k ≤ (2 * Z * x1 - (2 * x + 1) * Z) * k := fun k hk => (fq_cancel hk).mpr (by omega)
  have yk' : ∀ k : Int, 0 < k → (2 * Z * y0 - (2 * y + 1) * Z) * k ≤ (2 * Z * y1 - (2 * y + 1) * Z) * k := fun k hk => (fq_cancel hk).mpr (by omega)
  unfold fq_on fq_row
  rcases Int.lt_trichotomy Y 0 with hY | hY | hY
  · -- Y < 0
    have hS : fq_S Y = -(2 * Y) := by unfold fq_S; rw [if_neg (by omega), if_pos hY]; omega
    have hn : fq_near y0 z0 y1 Y Z y = max (z0 * -(2 * Y)) (2 * Z * y0 - (2 * y + 1) * Z) := by unfold fq_near; rw [if_neg (by omega), if_pos hY, hS, yc]
    have hf : fq_far y0 z1 y1 Y Z y = min (z1 * -(2 * Y)) (2 * Z * y1 - (2 * y + 1) * Z) := by unfold fq_far; rw [if_neg (by omega), if_pos hY, hS, yd]
    have hg : 0 < -(2 * Y) := by omega
    have hm : ∀ q, fq_may ((2 * y + 1) * Z) (2 * Y) (2 * Z * y0) (2 * Z * y1) q = (True, fq_A q.1 (2 * Z * y0 - (2 * y + 1) * Z) (-(2 * Y)), fq_B q.2 (2 * Z * y1 - (2 * y + 1) * Z) (-(2 * Y))) := fun q => by unfold fq_may; rw [if_neg (by omega), if_neg (by omega)]
    rw [hm, hS, hn, hf]
    have hAB : 2 * Z * y0 - (2 * y + 1) * Z ≤ 2 * Z * y1 - (2 * y + 1) * Z := by omega
    have hY0 : ¬ Y = 0 := by omega
    rcases Int.lt_trichotomy X 0 with hX | hX | hX
    · have hmx : ∀ q, fq_may ((2 * x + 1) * Z) (2 * X) (2 * Z * x0) (2 * Z * x1) q = (True, fq_A q.1 (2 * Z * x0 - (2 * x + 1) * Z) (-(2 * X)), fq_B q.2 (2 * Z * x1 - (2 * x + 1) * Z) (-(2 * X))) := fun q => by unfold fq_may; rw [if_neg (by omega), if_neg (by omega)]
      have hk : 0 < -(2 * X) := by omega
      rw [hmx]
      simp only [true_and, hY0, false_implies]
      rw [fq_pairs hg hk, fq_clneg hX, fq_core hg hk hz hAB]
      have := xk' _ hk; have := yk' _ hg
      constructor
      · rintro ⟨⟨a, b, c⟩, ⟨d, e, f⟩, g, h, i⟩; exact ⟨c, g, b, h, d, f⟩
      · rintro ⟨c, g, b, h, d, f⟩; exact ⟨⟨hz, b, c⟩, ⟨d, by assumption, f⟩, g, h, by assumption⟩
    · subst hX
      have hmx : ∀ q, fq_may ((2 * x + 1) * Z) (2 * 0) (2 * Z * x0) (2 * Z * x1) q = (2 * Z * x0 ≤ (2 * x + 1) * Z ∧ (2 * x + 1) * Z ≤ 2 * Z * x1, q.1, q.2) := fun q => by unfold fq_may; rw [if_pos (by omega)]
      rw [hmx]
      simp only [true_and, hY0, false_implies]
      rw [fq_pair1 hg, fq_cl0 (Int.mul_pos hg hZ), fq_Z hZ, fq_Z2 hZ]
      have := yk' _ hg
      have hzg : z0 * -(2 * Y) ≤ z1 * -(2 * Y) := (fq_cancel hg).mpr hz
      constructor
      · rintro ⟨⟨a, b⟩, ⟨c, d⟩, e, f⟩; exact ⟨by omega, a, b⟩
      · rintro ⟨a, b, c⟩; exact ⟨⟨b, c⟩, ⟨hz, by omega⟩, by omega, by assumption⟩
    · have hmx : ∀ q, fq_may ((2 * x + 1) * Z) (2 * X) (2 * Z * x0) (2 * Z * x1) q = (True, fq_A q.1 ((2 * x + 1) * Z - 2 * Z * x1) (2 * X), fq_B q.2 ((2 * x + 1) * Z - 2 * Z * x0) (2 * X)) := fun q => by unfold fq_may; rw [if_neg (by omega), if_pos (by omega)]
      have hk : 0 < 2 * X := by omega
      rw [hmx]
      simp only [true_and, hY0, false_implies]
      rw [fq_pairs hg hk, fq_clpos hX, fq_core hg hk hz hAB]
      have := xk _ hk; have := yk' _ hg
      constructor
      · rintro ⟨⟨a, b, c⟩, ⟨d, e, f⟩, g, h, i⟩; exact ⟨c, g, b, h, d, f⟩
      · rintro ⟨c, g, b, h, d, f⟩; exact ⟨⟨hz, b, c⟩, ⟨d, by assumption, f⟩, g, h, by assumption⟩
  · -- Y = 0
    subst hY
    have hS : fq_S 0 = 1 := by unfold fq_S; rw [if_pos rfl]
    have hn : fq_near y0 z0 y1 0 Z y = z0 := by unfold fq_near; rw [if_neg (by omega), if_neg (by omega), hS, Int.mul_one]
    have hf : fq_far y0 z1 y1 0 Z y = z1 := by unfold fq_far; rw [if_neg (by omega), if_neg (by omega), hS, Int.mul_one]
    have hm : ∀ q, fq_may ((2 * y + 1) * Z) (2 * 0) (2 * Z * y0) (2 * Z * y1) q = (2 * Z * y0 ≤ (2 * y + 1) * Z ∧ (2 * y + 1) * Z ≤ 2 * Z * y1, q.1, q.2) := fun q => by unfold fq_may; rw [if_pos (by omega)]
    rw [hm, hS, hn, hf]
    rcases Int.lt_trichotomy X 0 with hX | hX | hX
    · have hmx : ∀ q, fq_may ((2 * x + 1) * Z) (2 * X) (2 * Z * x0) (2 * Z * x1) q = (True, fq_A q.1 (2 * Z * x0 - (2 * x + 1) * Z) (-(2 * X)), fq_B q.2 (2 * Z * x1 - (2 * x + 1) * Z) (-(2 * X))) := fun q => by unfold fq_may; rw [if_neg (by omega), if_neg (by omega)]
      have hk : 0 < -(2 * X) := by omega
      rw [hmx]
      simp only [true_and, true_implies]
      rw [fq_pair1 hk, fq_clneg hX, fq_Z hZ, fq_Z2 hZ]
      simp only [Int.mul_one]
      have := xk' _ hk
      constructor
      · rintro ⟨a, ⟨b, c⟩, d, e⟩; exact ⟨a, hz, c, d⟩
      · rintro ⟨a, b, c, d⟩; exact ⟨a, ⟨hz, c⟩, d, by assumption⟩
    · subst hX
      have hmx : ∀ q, fq_may ((2 * x + 1) * Z) (2 * 0) (2 * Z * x0) (2 * Z * x1) q = (2 * Z * x0 ≤ (2 * x + 1) * Z ∧ (2 * x + 1) * Z ≤ 2 * Z * x1, q.1, q.2) := fun q => by unfold fq_may; rw [if_pos (by omega)]
      rw [hmx]
      simp only [true_implies]
      rw [fq_cl0 (by omega), fq_Z hZ, fq_Z2 hZ, fq_Z hZ, fq_Z2 hZ]
      simp only [fq_le, Int.mul_one]
      constructor
      · rintro ⟨a, b, c⟩; exact ⟨b, c, a⟩
      · rintro ⟨b, c, a⟩; exact ⟨a, b, c⟩
    · have hmx : ∀ q, fq_may ((2 * x + 1) * Z) (2 * X) (2 * Z * x0) (2 * Z * x1) q = (True, fq_A q.1 ((2 * x + 1) * Z - 2 * Z * x1) (2 * X), fq_B q.2 ((2 * x + 1) * Z - 2 * Z * x0) (2 * X)) := fun q => by unfold fq_may; rw [if_neg (by omega), if_pos (by omega)]
      have hk : 0 < 2 * X := by omega
      rw [hmx]
      simp only [true_and, true_implies]
      rw [fq_pair1 hk, fq_clpos hX, fq_Z hZ, fq_Z2 hZ]
      simp only [Int.mul_one]
      have := xk _ hk
      constructor
      · rintro ⟨a, ⟨b, c⟩, d, e⟩; exact ⟨a, hz, c, d⟩
      · rintro ⟨a, b, c, d⟩; exact ⟨a, ⟨hz, c⟩, d, by assumption⟩
  · -- 0 < Y
    have hS : fq_S Y = 2 * Y := by unfold fq_S; rw [if_neg (by omega), if_neg (by omega)]
    have hn : fq_near y0 z0 y1 Y Z y = max (z0 * (2 * Y)) ((2 * y + 1) * Z - 2 * Z * y1) := by unfold fq_near; rw [if_pos hY, hS, ya]
    have hf : fq_far y0 z1 y1 Y Z y = min (z1 * (2 * Y)) ((2 * y + 1) * Z - 2 * Z * y0) := by unfold fq_far; rw [if_pos hY, hS, yb]
    have hg : 0 < 2 * Y := by omega
    have hm : ∀ q, fq_may ((2 * y + 1) * Z) (2 * Y) (2 * Z * y0) (2 * Z * y1) q = (True, fq_A q.1 ((2 * y + 1) * Z - 2 * Z * y1) (2 * Y), fq_B q.2 ((2 * y + 1) * Z - 2 * Z * y0) (2 * Y)) := fun q => by unfold fq_may; rw [if_neg (by omega), if_pos (by omega)]
    rw [hm, hS, hn, hf]
    have hY0 : ¬ Y = 0 := by omega
    rcases Int.lt_trichotomy X 0 with hX | hX | hX
    · have hmx : ∀ q, fq_may ((2 * x + 1) * Z) (2 * X) (2 * Z * x0) (2 * Z * x1) q = (True, fq_A q.1 (2 * Z * x0 - (2 * x + 1) * Z) (-(2 * X)), fq_B q.2 (2 * Z * x1 - (2 * x + 1) * Z) (-(2 * X))) := fun q => by unfold fq_may; rw [if_neg (by omega), if_neg (by omega)]
      have hk : 0 < -(2 * X) := by omega
      rw [hmx]
      simp only [true_and, hY0, false_implies]
      rw [fq_pairs hg hk, fq_clneg hX, fq_core hg hk hz hyy]
      have := xk' _ hk; have := yk _ hg
      constructor
      · rintro ⟨⟨a, b, c⟩, ⟨d, e, f⟩, g, h, i⟩; exact ⟨c, g, b, h, d, f⟩
      · rintro ⟨c, g, b, h, d, f⟩; exact ⟨⟨hz, b, c⟩, ⟨d, by assumption, f⟩, g, h, by assumption⟩
    · subst hX
      have hmx : ∀ q, fq_may ((2 * x + 1) * Z) (2 * 0) (2 * Z * x0) (2 * Z * x1) q = (2 * Z * x0 ≤ (2 * x + 1) * Z ∧ (2 * x + 1) * Z ≤ 2 * Z * x1, q.1, q.2) := fun q => by unfold fq_may; rw [if_pos (by omega)]
      rw [hmx]
      simp only [true_and, hY0, false_implies]
      rw [fq_pair1 hg, fq_cl0 (Int.mul_pos hg hZ), fq_Z hZ, fq_Z2 hZ]
      have := yk _ hg
      have hzg : z0 * (2 * Y) ≤ z1 * (2 * Y) := (fq_cancel hg).mpr hz
      constructor
      · rintro ⟨⟨a, b⟩, ⟨c, d⟩, e, f⟩; exact ⟨by omega, a, b⟩
      · rintro ⟨a, b, c⟩; exact ⟨⟨b, c⟩, ⟨hz, by omega⟩, by omega, by assumption⟩
    · have hmx : ∀ q, fq_may ((2 * x + 1) * Z) (2 * X) (2 * Z * x0) (2 * Z * x1) q = (True, fq_A q.1 ((2 * x + 1) * Z - 2 * Z * x1) (2 * X), fq_B q.2 ((2 * x + 1) * Z - 2 * Z * x0) (2 * X)) := fun q => by unfold fq_may; rw [if_neg (by omega), if_pos (by omega)]
      have hk : 0 < 2 * X := by omega
      rw [hmx]
      simp only [true_and, hY0, false_implies]
      rw [fq_pairs hg hk, fq_clpos hX, fq_core hg hk hz hyy]
      have := xk _ hk; have := yk _ hg
      constructor
      · rintro ⟨⟨a, b, c⟩, ⟨d, e, f⟩, g, h, i⟩; exact ⟨c, g, b, h, d, f⟩
      · rintro ⟨c, g, b, h, d, f⟩; exact ⟨⟨hz, b, c⟩, ⟨d, by assumption, f⟩, g, h, by assumption⟩
theorem fq_cl_mono {x0 x1 X Z S n f f' x : Int} (hf : f ≤ f') (h : fq_cl x0 x1 X Z S n f x) : fq_cl x0 x1 X Z S n f' x := by
  obtain ⟨h1, h2, h3⟩ := h
  rcases Int.lt_trichotomy X 0 with hX | hX | hX
  · have a1 : f' * X ≤ f * X := Int.mul_le_mul_of_nonpos_right hf (by omega)
    have a2 : f * X ≤ n * X := Int.mul_le_mul_of_nonpos_right h1 (by omega)
    rw [Int.min_eq_right a2] at h2
    rw [Int.max_eq_left a2] at h3
    refine ⟨by omega, ?_, ?_⟩
    · rw [Int.min_eq_right (by omega)]; omega
    · rw [Int.max_eq_left (by omega)]; omega
  · subst hX
    simp only [Int.mul_zero] at h2 h3
    refine ⟨by omega, ?_, ?_⟩ <;> simp only [Int.mul_zero] <;> assumption
  · have a1 : f * X ≤ f' * X := Int.mul_le_mul_of_nonneg_right hf (by omega)
    have a2 : n * X ≤ f * X := Int.mul_le_mul_of_nonneg_right h1 (by omega)
    rw [Int.min_eq_left a2] at h2
    rw [Int.max_eq_right a2] at h3
    refine ⟨by omega, ?_, ?_⟩
    · rw [Int.min_eq_left (by omega)]; omega
    · rw [Int.max_eq_right (by omega)]; omega
theorem fq_far_mono {y0 z1 z1' y1 Y Z y : Int} (h : z1 ≤ z1') : fq_far y0 z1 y1 Y Z y ≤ fq_far y0 z1' y1 Y Z y := by
  have hS : 0 < fq_S Y := by unfold fq_S; split <;> (try split) <;> omega
  have : z1 * fq_S Y ≤ z1' * fq_S Y := (fq_cancel hS).mpr h
  unfold fq_far
  split <;> (try split) <;> omega
theorem fq_row_mono {x0 y0 z0 x1 y1 z1 z1' X Y Z x y : Int} (h : z1 ≤ z1') (hr : fq_row x0 y0 z0 x1 y1 z1 X Y Z x y) : fq_row x0 y0 z0 x1 y1 z1' X Y Z x y :=
  ⟨hr.1, fq_cl_mono (fq_far_mono h) hr.2⟩
