/-! a row of shadow, as whole numbers; nothing overflows -/
def bd (a : Int32) (v A : Int) : Prop := a.toInt = v ∧ -A ≤ v ∧ v ≤ A
theorem bd_w {a : Int32} {v A B : Int} (h : bd a v A) (hB : A ≤ B) : bd a v B := ⟨h.1, by have := h.2; omega, by have := h.2; omega⟩
theorem bd_mul {a b : Int32} {v w A B : Int} (ha : bd a v A) (hb : bd b w B) (h : A * B ≤ 2147483647) : bd (a * b) (v * w) (A * B) := by
  have h1 := mb_mul ha.2 hb.2
  exact ⟨i_mul ha.1 hb.1 (by omega), h1⟩
theorem bd_add {a b : Int32} {v w A B : Int} (ha : bd a v A) (hb : bd b w B) (h : A + B ≤ 2147483647) : bd (a + b) (v + w) (A + B) := by
  have h1 := ha.2
  have h2 := hb.2
  exact ⟨i_add ha.1 hb.1 (by omega), by omega, by omega⟩
theorem bd_sub {a b : Int32} {v w A B : Int} (ha : bd a v A) (hb : bd b w B) (h : A + B ≤ 2147483647) : bd (a - b) (v - w) (A + B) := by
  have h1 := ha.2
  have h2 := hb.2
  exact ⟨i_sub ha.1 hb.1 (by omega), by omega, by omega⟩
theorem bd_neg {a : Int32} {v A : Int} (ha : bd a v A) (h : A ≤ 2147483647) : bd (-a) (-v) A := by
  have h1 := ha.2
  exact ⟨i_neg ha.1 (by omega), by omega, by omega⟩
theorem bd_max {a b : Int32} {v w A : Int} (ha : bd a v A) (hb : bd b w A) : bd (jc_max a b) (max v w) A := by
  have h1 := ha.2
  have h2 := hb.2
  exact ⟨by rw [jx_max, ha.1, hb.1], by omega, by omega⟩
theorem bd_min {a b : Int32} {v w A : Int} (ha : bd a v A) (hb : bd b w A) : bd (jc_min a b) (min v w) A := by
  have h1 := ha.2
  have h2 := hb.2
  exact ⟨by rw [jx_min, ha.1, hb.1], by omega, by omega⟩
theorem bd_nI {n : Nat} {A : Nat} (h : n ≤ A) (hA : A < 2 ^ 31) : bd (nI n) (n : Int) (A : Int) := ⟨nI_toInt (by omega), by omega, by omega⟩
theorem bd_2 : bd 2 2 2 := ⟨rfl, by decide, by decide⟩
theorem bd_1 : bd 1 1 1 := ⟨rfl, by decide, by decide⟩
theorem bd_0 (A : Int) (h : 0 ≤ A) : bd 0 0 A := ⟨rfl, by omega, h⟩
/-- a box and a sun within the bounds -/
def vB (x0 y0 z0 x1 y1 z1 : Int32) : Prop := (-100 ≤ x0.toInt ∧ x0.toInt < x1.toInt ∧ x1.toInt ≤ 200) ∧ (-100 ≤ y0.toInt ∧ y0.toInt < y1.toInt ∧ y1.toInt ≤ 200) ∧ 0 ≤ z0.toInt ∧ z0.toInt ≤ z1.toInt ∧ z1.toInt ≤ 100
def vS (X Y Z : Int32) : Prop := (-300 ≤ X.toInt ∧ X.toInt ≤ 300) ∧ (-300 ≤ Y.toInt ∧ Y.toInt ≤ 300) ∧ 0 ≤ Z.toInt ∧ Z.toInt ≤ 100
section SH
variable {x0 y0 z0 x1 y1 z1 X Y Z : Int32} {y : Nat}
theorem sd_scale (hS : vS X Y Z) : bd (jc_scale Y) (fq_S Y.toInt) 600 ∧ 0 < fq_S Y.toInt := by
  obtain ⟨-, hY, -⟩ := hS
  unfold jc_scale fq_S
  by_cases h : Y = 0
  · subst h
    exact ⟨⟨rfl, by decide, by decide⟩, by decide⟩
  · have h0 : ¬ Y.toInt = 0 := fun q => h (i_eq.mpr q)
    rw [if_neg h, if_neg h0]
    have ha : bd (jc_abs Y) (if Y.toInt < 0 then -Y.toInt else Y.toInt) 300 := ⟨jx_abs (by omega), by split <;> omega, by split <;> omega⟩
    refine ⟨bd_mul bd_2 ha (by decide), ?_⟩
    split <;> omega
theorem sd_tm (hy : y ≤ 60) : bd (2 * nI y + 1) (2 * (y : Int) + 1) 121 := bd_add (bd_mul bd_2 (bd_nI hy (by decide)) (by decide)) bd_1 (by decide)
theorem sd_y (h : -100 ≤ y0.toInt ∧ y0.toInt ≤ 200) : bd (2 * y0) (2 * y0.toInt) 400 := bd_mul bd_2 ⟨rfl, by omega, h.2⟩ (by decide)
theorem sd_near (hB : vB x0 y0 z0 x1 y1 z1) (hS : vS X Y Z) (hy : y ≤ 60) : bd (jc_near y0 z0 y1 Y Z (2 * nI y + 1) (jc_scale Y)) (fq_near y0.toInt z0.toInt y1.toInt Y.toInt Z.toInt y) 60000 := by
  have hs := (sd_scale hS).1
  have ht := sd_tm hy
  obtain ⟨-, hby, hbz⟩ := hB
  obtain ⟨-, hY, hZ⟩ := hS
  have hz : bd (z0 * jc_scale Y) (z0.toInt * fq_S Y.toInt) 60000 := bd_mul (A := 100) ⟨rfl, by omega, by omega⟩ hs (by decide)
  have hZb : bd Z Z.toInt 100 := ⟨rfl, by omega, hZ.2⟩
  unfold jc_near fq_near
  by_cases h : Y ≤ 0
  · rw [if_pos h]
    rw [i_le] at h
    have h' : Y.toInt ≤ 0 := h
    rw [if_neg (show ¬ 0 < Y.toInt by omega)]
    by_cases h2 : 0 ≤ Y
    · rw [if_pos h2]
      rw [i_le] at h2
      have h2' : 0 ≤ Y.toInt := h2
      rw [if_neg (show ¬ Y.toInt < 0 by omega)]
      exact hz
    · rw [if_neg h2]
      rw [i_le] at h2
      have h2' : ¬ 0 ≤ Y.toInt := h2
      rw [if_pos (show Y.toInt < 0 by omega)]
      exact bd_max hz (bd_w (bd_mul (bd_sub (sd_y (by omega)) ht (by decide)) hZb (by decide)) (by decide))
  · rw [if_neg h]
    rw [i_le] at h
    have h' : ¬ Y.toInt ≤ 0 := h
    rw [if_pos (show 0 < Y.toInt by omega)]
    exact bd_max hz (bd_w (bd_mul (bd_sub ht (sd_y (by omega)) (by decide)) hZb (by decide)) (by decide))
theorem sd_far (hB : vB x0 y0 z0 x1 y1 z1) (hS : vS X Y Z) (hy : y ≤ 60) : bd (jc_far y0 y1 z1 Y Z (2 * nI y + 1) (jc_scale Y)) (fq_far y0.toInt z1.toInt y1.toInt Y.toInt Z.toInt y) 60000 := by
  have hs := (sd_scale hS).1
  have ht := sd_tm hy
  obtain ⟨-, hby, hbz⟩ := hB
  obtain ⟨-, hY, hZ⟩ := hS
  have hz : bd (z1 * jc_scale Y) (z1.toInt * fq_S Y.toInt) 60000 := bd_mul (A := 100) ⟨rfl, by omega, by omega⟩ hs (by decide)
  have hZb : bd Z Z.toInt 100 := ⟨rfl, by omega, hZ.2⟩
  unfold jc_far fq_far
  by_cases h : Y ≤ 0
  · rw [if_pos h]
    rw [i_le] at h
    have h' : Y.toInt ≤ 0 := h
    rw [if_neg (show ¬ 0 < Y.toInt by omega)]
    by_cases h2 : 0 ≤ Y
    · rw [if_pos h2]
      rw [i_le] at h2
      have h2' : 0 ≤ Y.toInt := h2
      rw [if_neg (show ¬ Y.toInt < 0 by omega)]
      exact hz
    · rw [if_neg h2]
      rw [i_le] at h2
      have h2' : ¬ 0 ≤ Y.toInt := h2
      rw [if_pos (show Y.toInt < 0 by omega)]
      exact bd_min hz (bd_w (bd_mul (bd_sub (sd_y (by omega)) ht (by decide)) hZb (by decide)) (by decide))
  · rw [if_neg h]
    rw [i_le] at h
    have h' : ¬ Y.toInt ≤ 0 := h
    rw [if_pos (show 0 < Y.toInt by omega)]
    exact bd_min hz (bd_w (bd_mul (bd_sub ht (sd_y (by omega)) (by decide)) hZb (by decide)) (by decide))
end SH
theorem fl_le {a b k : Int} (hb : 0 < b) : k ≤ a / b ↔ k * b ≤ a := Int.le_ediv_iff_mul_le hb
/-- the bits of the row between first and last -/
theorem sd_body {x0 x1 X Z sc n f : Int32} {wn x : Nat} {S N F : Int} (hx : -100 ≤ x0.toInt ∧ x0.toInt ≤ 200 ∧ -100 ≤ x1.toInt ∧ x1.toInt ≤ 200) (hX : -300 ≤ X.toInt ∧ X.toInt ≤ 300) (hZ : 0 < Z.toInt ∧ Z.toInt ≤ 100) (hs : bd sc S 600) (hS : 0 < S) (hn : bd n N 60000) (hf : bd f F 60000) (hw : 1 ≤ wn ∧ wn ≤ 60) :
    bt (jc_body x0 x1 X Z sc n f (nI wn)) x = true ↔ x < wn ∧ 2 * (x0.toInt * (S * Z.toInt) + min (N * X.toInt) (F * X.toInt)) ≤ (2 * (x : Int) + 1) * (S * Z.toInt) ∧ (2 * (x : Int) + 1) * (S * Z.toInt) ≤ 2 * (x1.toInt * (S * Z.toInt) + max (N * X.toInt) (F * X.toInt)) := by
  have hu : bd (sc * Z) (S * Z.toInt) 60000 := bd_mul hs (B := 100) ⟨rfl, by omega, hZ.2⟩ (by decide)
  have hu0 : 0 < S * Z.toInt := Int.mul_pos hS hZ.1
  have hXb : bd X X.toInt 300 := ⟨rfl, hX.1, hX.2⟩
  have hnX : bd (n * X) (N * X.toInt) 18000000 := bd_mul hn hXb (by decide)
  have hfX : bd (f * X) (F * X.toInt) 18000000 := bd_mul hf hXb (by decide)
  have hl := bd_min hnX hfX
  have hm := bd_max hnX hfX
  have h2u : bd (2 * (sc * Z)) (2 * (S * Z.toInt)) 120000 := bd_mul bd_2 hu (by decide)
  have h0 : bd (x0 * (sc * Z)) (x0.toInt * (S * Z.toInt)) 12000000 := bd_mul (A := 200) ⟨rfl, by omega, hx.2.1⟩ hu (by decide)
  have h1 : bd (x1 * (sc * Z)) (x1.toInt * (S * Z.toInt)) 12000000 := bd_mul (A := 200) ⟨rfl, by omega, hx.2.2.2⟩ hu (by decide)
  have ha := bd_sub hu (bd_mul bd_2 (bd_add h0 hl (by decide)) (by decide)) (by decide)
  have hb := bd_sub (bd_mul bd_2 (bd_add h1 hm (by decide)) (by decide)) hu (by decide)
  generalize hU : S * Z.toInt = U at *
  have hF : (jc_fover ((sc * Z) - 2 * (x0 * (sc * Z) + jc_min (n * X) (f * X))) (2 * (sc * Z))).toInt = (U - 2 * (x0.toInt * U + min (N * X.toInt) (F * X.toInt))) / (2 * U) := by
    rw [jx_fover (by rw [h2u.1]; omega), ha.1, h2u.1]
  have hL : (jc_last x1 (sc * Z) (jc_max (n * X) (f * X))).toInt = (2 * (x1.toInt * U + max (N * X.toInt) (F * X.toInt)) - U) / (2 * U) := by
    unfold jc_last
    rw [jx_fover (by rw [h2u.1]; omega), hb.1, h2u.1]
  generalize hA : U - 2 * (x0.toInt * U + min (N * X.toInt) (F * X.toInt)) = A at *
  generalize hB : 2 * (x1.toInt * U + max (N * X.toInt) (F * X.toInt)) - U = B at *
  have bA : -(60060000 : Int) ≤ A ∧ A ≤ 60060000 := ha.2
  have bB : -(60060000 : Int) ≤ B ∧ B ≤ 60060000 := hb.2
  have qA1 : A / (2 * U) ≤ 60060000 := by
    rcases Int.lt_or_le 60060000 (A / (2 * U)) with q | q
    · have := (fl_le (show 0 < 2 * U by omega)).mp (show 60060001 ≤ A / (2 * U) by omega)
      omega
    · exact q
  have qA0 : -60060000 ≤ A / (2 * U) := (fl_le (show 0 < 2 * U by omega)).mpr (by omega)
  have qB1 : B / (2 * U) ≤ 60060000 := by
    rcases Int.lt_or_le 60060000 (B / (2 * U)) with q | q
    · have := (fl_le (show 0 < 2 * U by omega)).mp (show 60060001 ≤ B / (2 * U) by omega)
      omega
    · exact q
  have qB0 : -60060000 ≤ B / (2 * U) := (fl_le (show 0 < 2 * U by omega)).mpr (by omega)
  have hfi : bd (jc_first x0 (sc * Z) (jc_min (n * X) (f * X))) (-(A / (2 * U))) 60060000 := by
    unfold jc_first
    exact ⟨i_neg hF (by omega), by omega, by omega⟩
  have hla : bd (jc_last x1 (sc * Z) (jc_max (n * X) (f * X))) (B / (2 * U)) 60060000 := ⟨hL, by omega, by omega⟩
  have hw1 : bd (nI wn - 1) ((wn : Int) - 1) 60060000 := bd_w (bd_sub (bd_nI hw.2 (by decide)) bd_1 (by decide)) (by decide)
  have hff := bd_max hfi (bd_0 60060000 (by decide))
  have hll := bd_min hla hw1
  have e1 : (x : Int) * (2 * U) ≤ B ↔ (2 * (x : Int) + 1) * U ≤ 2 * (x1.toInt * U + max (N * X.toInt) (F * X.toInt)) := by
    have e : (2 * (x : Int) + 1) * U = (x : Int) * (2 * U) + U := by grind
    omega
  have e2 : (-(x : Int)) * (2 * U) ≤ A ↔ 2 * (x0.toInt * U + min (N * X.toInt) (F * X.toInt)) ≤ (2 * (x : Int) + 1) * U := by
    have e : (2 * (x : Int) + 1) * U = -((-(x : Int)) * (2 * U)) + U := by grind
    omega
  have e3 : (x : Int) ≤ B / (2 * U) ↔ _ := (fl_le (show 0 < 2 * U by omega)).trans e1
  have e4 : -(x : Int) ≤ A / (2 * U) ↔ _ := (fl_le (show 0 < 2 * U by omega)).trans e2
  rw [← e3, ← e4]
  unfold jc_body
  generalize jc_max (jc_first x0 (sc * Z) (jc_min (n * X) (f * X))) 0 = p at hff
  generalize jc_min (jc_last x1 (sc * Z) (jc_max (n * X) (f * X))) (nI wn - 1) = r at hll
  generalize A / (2 * U) = qa at *
  generalize B / (2 * U) = qb at *
  by_cases hpr : p ≤ r
  · rw [i_le, hff.1, hll.1] at hpr
    have hp0 : 0 ≤ p.toInt := by rw [hff.1]; omega
    have hr0 : 0 ≤ r.toInt := by rw [hll.1]; omega
    obtain ⟨pn, hpn⟩ : ∃ m : Nat, p.toInt = (m : Int) := ⟨p.toInt.toNat, by omega⟩
    obtain ⟨rn, hrn⟩ : ∃ m : Nat, r.toInt = (m : Int) := ⟨r.toInt.toNat, by omega⟩
    have ep : p = nI pn := i_eq.mpr (by rw [hpn, nI_toInt (by have := hff.1; have := hll.1; omega)])
    have er : r = nI rn := i_eq.mpr (by rw [hrn, nI_toInt (by have := hll.1; omega)])
    have h1 := hff.1
    have h2 := hll.1
    rw [hpn] at h1
    rw [hrn] at h2
    rw [ep, er, bt_cells (by omega) (by omega)]
    simp only [decide_eq_true_eq]
    omega
  · have h3 : jc_cells p r = 0 := by unfold jc_cells; rw [if_neg hpr]
    rw [i_le, hff.1, hll.1] at hpr
    rw [h3, bt_0]
    constructor
    · intro q; exact absurd q (by decide)
    · intro q; omega
theorem sd_ok {pr x0 y0 z0 x1 y1 z1 X Y Z : Int32} {y wn x : Nat} (hB : vB x0 y0 z0 x1 y1 z1) (hS : vS X Y Z) (hZ : 0 < Z.toInt) (hy : y ≤ 60) (hw : 1 ≤ wn ∧ wn ≤ 60) :
    bt (jc_shade pr x0 y0 z0 x1 y1 z1 X Y Z (nI y) (nI wn)) x = true ↔ x < wn ∧ ¬ pr = 0 ∧ fq_row x0.toInt y0.toInt z0.toInt x1.toInt y1.toInt z1.toInt X.toInt Y.toInt Z.toInt x y := by
  have hsc := sd_scale hS
  have hn := sd_near hB hS hy
  have hf := sd_far hB hS hy
  have ht := sd_tm hy
  obtain ⟨hbx, hby, hbz⟩ := hB
  obtain ⟨hX, hY, hZ2⟩ := hS
  unfold jc_shade
  by_cases h1 : pr = 0
  · rw [if_pos h1, bt_0]
    exact ⟨fun q => absurd q (by decide), fun q => absurd h1 q.2.1⟩
  · rw [if_neg h1]
    have h2 : ¬ jc_hasSun Z = 0 := by
      unfold jc_hasSun
      rw [if_neg (by rw [i_le]; show ¬ _ ≤ (0 : Int); omega)]
      decide
    rw [if_neg h2]
    have hgo : bt (jc_go x0 y0 z0 x1 y1 z1 X Y Z (nI y) (nI wn)) x = true ↔ x < wn ∧ fq_cl x0.toInt x1.toInt X.toInt Z.toInt (fq_S Y.toInt) (fq_near y0.toInt z0.toInt y1.toInt Y.toInt Z.toInt y) (fq_far y0.toInt z1.toInt y1.toInt Y.toInt Z.toInt y) x := by
      unfold jc_go fq_cl
      by_cases h3 : jc_near y0 z0 y1 Y Z (2 * nI y + 1) (jc_scale Y) ≤ jc_far y0 y1 z1 Y Z (2 * nI y + 1) (jc_scale Y)
      · rw [if_pos h3]
        rw [i_le, hn.1, hf.1] at h3
        rw [sd_body ⟨by omega, by omega, by omega, by omega⟩ hX ⟨hZ, hZ2.2⟩ hsc.1 hsc.2 hn hf hw]
        exact ⟨fun q => ⟨q.1, h3, q.2⟩, fun q => ⟨q.1, q.2.2⟩⟩
      · rw [if_neg h3, bt_0]
        rw [i_le, hn.1, hf.1] at h3
        exact ⟨fun q => absurd q (by decide), fun q => absurd q.2.1 h3⟩
    unfold fq_row
    by_cases h4 : Y = 0
    · rw [if_pos h4]
      have h4' : Y.toInt = 0 := by rw [h4]; rfl
      have hy0 := sd_y (y0 := y0) (by omega)
      have hy1 := sd_y (y0 := y1) (by omega)
      have h5 : jc_spans y0 y1 (2 * nI y + 1) = 0 ↔ ¬ (2 * y0.toInt ≤ 2 * (y : Int) + 1 ∧ 2 * (y : Int) + 1 ≤ 2 * y1.toInt) := by
        unfold jc_spans
        by_cases h6 : 2 * nI y + 1 < 2 * y0
        · rw [if_pos h6]; rw [i_lt, ht.1, hy0.1] at h6
          exact ⟨fun _ => by omega, fun _ => rfl⟩
        · rw [if_neg h6]; rw [i_lt, ht.1, hy0.1] at h6
          by_cases h7 : 2 * y1 < 2 * nI y + 1
          · rw [if_pos h7]; rw [i_lt, ht.1, hy1.1] at h7
            exact ⟨fun _ => by omega, fun _ => rfl⟩
          · rw [if_neg h7]; rw [i_lt, ht.1, hy1.1] at h7
            exact ⟨fun q => absurd q (by decide), fun q => by omega⟩
      by_cases h8 : jc_spans y0 y1 (2 * nI y + 1) = 0
      · rw [if_pos h8, bt_0]
        exact ⟨fun q => absurd q (by decide), fun q => absurd (q.2.2.1 h4') (h5.mp h8)⟩
      · rw [if_neg h8, hgo]
        have h9 : 2 * y0.toInt ≤ 2 * (y : Int) + 1 ∧ 2 * (y : Int) + 1 ≤ 2 * y1.toInt := Classical.byContradiction fun q => h8 (h5.mpr q)
        exact ⟨fun q => ⟨q.1, h1, fun _ => h9, q.2⟩, fun q => ⟨q.1, q.2.2.2⟩⟩
    · rw [if_neg h4, hgo]
      have h4' : ¬ Y.toInt = 0 := fun q => h4 (i_eq.mpr q)
      exact ⟨fun q => ⟨q.1, h1, fun z => absurd z h4', q.2⟩, fun q => ⟨q.1, q.2.2.2⟩⟩
