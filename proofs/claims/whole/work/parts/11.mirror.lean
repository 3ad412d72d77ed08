/-! Its methods as functions of numbers (as its bytecode goes, in Int32 and Int64), and what they mean -/
def jc_max (x y : Int32) : Int32 := if x < y then y else x
def jc_min (x y : Int32) : Int32 := if y < x then y else x
def jc_abs (x : Int32) : Int32 := if 0 ≤ x then x else 0 - x
def jc_within (n a b : Int32) : Int32 := if n < a then 0 else if b < n then 0 else 1
def jc_allowed (x0 y0 z0 x1 y1 z1 : Int32) : Int32 := if x0 < (-100) then 0 else if x1 ≤ x0 then 0 else if 200 < x1 then 0 else if y0 < (-100) then 0 else if y1 ≤ y0 then 0 else if 200 < y1 then 0 else if z0 < 0 then 0 else if z1 < z0 then 0 else if 100 < z1 then 0 else 1
def jc_hasSun (Z : Int32) : Int32 := if Z ≤ 0 then 0 else 1
def jc_spans (y0 y1 tm : Int32) : Int32 := if tm < 2 * y0 then 0 else if 2 * y1 < tm then 0 else 1
def jc_near (y0 z0 y1 Y Z tm sc : Int32) : Int32 := if Y ≤ 0 then (if 0 ≤ Y then z0 * sc else jc_max (z0 * sc) ((2 * y0 - tm) * Z)) else jc_max (z0 * sc) ((tm - 2 * y1) * Z)
def jc_far (y0 y1 z1 Y Z tm sc : Int32) : Int32 := if Y ≤ 0 then (if 0 ≤ Y then z1 * sc else jc_min (z1 * sc) ((2 * y1 - tm) * Z)) else jc_min (z1 * sc) ((tm - 2 * y0) * Z)
def jc_fdiv (x y : Int32) : Int32 := if 0 ≤ (x ^^^ y) then x / y else if x / y * y = x then x / y else x / y - 1
def jc_fover (n d : Int32) : Int32 := if d ≤ 0 then 0 else jc_fdiv n d
def jc_cells (f l : Int32) : Int64 := if f ≤ l then (((1 : Int64) <<< ((l - f + 1).toInt64 &&& 63)) - 1) <<< (f.toInt64 &&& 63) else 0
def jc_scale (Y : Int32) : Int32 := if Y = 0 then 1 else 2 * jc_abs Y
def jc_first (x0 u least : Int32) : Int32 := -(jc_fover (u - 2 * (x0 * u + least)) (2 * u))
def jc_last (x1 u most : Int32) : Int32 := jc_fover (2 * (x1 * u + most) - u) (2 * u)
def jc_body (x0 x1 X Z sc n f w : Int32) : Int64 := jc_cells (jc_max (jc_first x0 (sc * Z) (jc_min (n * X) (f * X))) 0) (jc_min (jc_last x1 (sc * Z) (jc_max (n * X) (f * X))) (w - 1))
def jc_go (x0 y0 z0 x1 y1 z1 X Y Z y w : Int32) : Int64 :=
  if jc_near y0 z0 y1 Y Z (2 * y + 1) (jc_scale Y) ≤ jc_far y0 y1 z1 Y Z (2 * y + 1) (jc_scale Y) then jc_body x0 x1 X Z (jc_scale Y) (jc_near y0 z0 y1 Y Z (2 * y + 1) (jc_scale Y)) (jc_far y0 y1 z1 Y Z (2 * y + 1) (jc_scale Y)) w else 0
def jc_shade (pr x0 y0 z0 x1 y1 z1 X Y Z y w : Int32) : Int64 :=
  if pr = 0 then 0 else if jc_hasSun Z = 0 then 0 else if Y = 0 then (if jc_spans y0 y1 (2 * y + 1) = 0 then 0 else jc_go x0 y0 z0 x1 y1 z1 X Y Z y w) else jc_go x0 y0 z0 x1 y1 z1 X Y Z y w
def jc_hasCell (w : Int64) (x : Int32) : Int32 := if ((w.toUInt64 >>> (x.toInt64.toUInt64 &&& Int64.toUInt64 63)).toInt64 &&& 1) = 0 then 0 else 1
/-- Long.bitCount, as its bytecode goes -/
def jc_ush (x : Int64) (k : Int32) : Int64 := (x.toUInt64 >>> (k.toInt64.toUInt64 &&& Int64.toUInt64 63)).toInt64
def jc_b1 (i : Int64) : Int64 := i - (jc_ush i 1 &&& 6148914691236517205)
def jc_b2 (i : Int64) : Int64 := (i &&& 3689348814741910323) + (jc_ush i 2 &&& 3689348814741910323)
def jc_b3 (i : Int64) : Int64 := (i + jc_ush i 4) &&& 1085102592571150095
def jc_b4 (i : Int64) : Int64 := i + jc_ush i 8
def jc_b5 (i : Int64) : Int64 := i + jc_ush i 16
def jc_b6 (i : Int64) : Int64 := i + jc_ush i 32
def jc_bits (i : Int64) : Int32 := (jc_b6 (jc_b5 (jc_b4 (jc_b3 (jc_b2 (jc_b1 i)))))).toInt32 &&& 127
/-- whole numbers behind them -/
theorem jx_max {x y : Int32} : (jc_max x y).toInt = max x.toInt y.toInt := by
  unfold jc_max
  split <;> rename_i h <;> rw [i_lt] at h <;> omega
theorem jx_min {x y : Int32} : (jc_min x y).toInt = min x.toInt y.toInt := by
  unfold jc_min
  split <;> rename_i h <;> rw [i_lt] at h <;> omega
theorem jx_abs {x : Int32} (h : -2147483648 < x.toInt) : (jc_abs x).toInt = if x.toInt < 0 then -x.toInt else x.toInt := by
  have := x.toInt_lt
  unfold jc_abs
  split <;> rename_i h0 <;> rw [i_le] at h0
  · rw [if_neg (by simpa using h0)]
  · have h0' : x.toInt < 0 := by simpa using h0
    rw [if_pos h0', i_sub (x := 0) (y := x.toInt) rfl rfl (by omega)]
    omega
theorem jx_xor (x y : Int32) (hy : 0 < y.toInt) : 0 ≤ (x ^^^ y) ↔ 0 ≤ x.toInt := by
  have h1 : (x ^^^ y).toBitVec.msb = (x.toBitVec.msb ^^ y.toBitVec.msb) := by simp
  have hm : ∀ z : Int32, z.toBitVec.msb = decide (z.toInt < 0) := fun z => by
    rw [BitVec.msb_eq_toInt]; rfl
  rw [hm, hm, hm] at h1
  have h2 : decide (y.toInt < 0) = false := by simp; omega
  rw [h2, Bool.xor_false] at h1
  rw [i_le]
  show (0 : Int) ≤ _ ↔ _
  have h3 : ((x ^^^ y).toInt < 0) ↔ (x.toInt < 0) := by simpa using h1
  omega
theorem jx_fdiv {x y : Int32} (hy : 0 < y.toInt) : (jc_fdiv x y).toInt = x.toInt / y.toInt := by
  have hx1 := x.le_toInt
  have hx2 := x.toInt_lt
  have hq : (x / y).toInt = x.toInt.tdiv y.toInt := Int32.toInt_div_of_ne_right x y (fun h => by rw [h] at hy; exact absurd hy (by decide))
  unfold jc_fdiv
  split
  · rename_i h
    rw [jx_xor x y hy] at h
    rw [hq, Int.tdiv_eq_ediv_of_nonneg h]
  · rename_i h
    rw [jx_xor x y hy] at h
    obtain ⟨a, ha⟩ : ∃ a : Int, a = -x.toInt := ⟨_, rfl⟩
    have hxa : x.toInt = -a := by omega
    have hq2 : x.toInt.tdiv y.toInt = -(a / y.toInt) := by rw [hxa, Int.neg_tdiv, Int.tdiv_eq_ediv_of_nonneg (by omega)]
    rw [hq2] at hq
    have hdm : y.toInt * (a / y.toInt) + a % y.toInt = a := Int.mul_ediv_add_emod ..
    have hm0 : 0 ≤ a % y.toInt := Int.emod_nonneg _ (by omega)
    have hm1 : a % y.toInt < y.toInt := Int.emod_lt_of_pos _ hy
    have hq0 : 0 ≤ a / y.toInt := Int.ediv_nonneg (by omega) (by omega)
    generalize a / y.toInt = q at hq hdm hq0
    generalize a % y.toInt = r at hdm hm0 hm1
    have hqy : q ≤ y.toInt * q := by
      have := Int.mul_le_mul_of_nonneg_right (show 1 ≤ y.toInt by omega) hq0
      omega
    have hm : (x / y * y).toInt = -q * y.toInt := i_mul hq rfl (by
      have e : -q * y.toInt = -(y.toInt * q) := by rw [Int.neg_mul, Int.mul_comm]
      rw [e]; omega)
    have e : -q * y.toInt = -(y.toInt * q) := by rw [Int.neg_mul, Int.mul_comm]
    rw [e] at hm
    split
    · rename_i hz
      rw [i_eq, hm] at hz
      rw [hq, hxa]
      have e2 : -a = y.toInt * (-q) := by rw [Int.mul_neg]; omega
      rw [e2, Int.mul_ediv_cancel_left _ (by omega)]
    · rename_i hz
      rw [i_eq, hm] at hz
      have hc : (x / y - 1).toInt = -q - 1 := i_sub hq rfl (by omega)
      rw [hc, hxa]
      have e2 : -a = (y.toInt - r) + y.toInt * (-q - 1) := by rw [Int.mul_sub, Int.mul_neg]; omega
      rw [e2, Int.add_mul_ediv_left _ _ (by omega), Int.ediv_eq_zero_of_lt (by omega) (by omega)]
      omega
theorem jx_fover {n d : Int32} (hd : 0 < d.toInt) : (jc_fover n d).toInt = n.toInt / d.toInt := by
  unfold jc_fover
  rw [if_neg (by rw [i_le]; show ¬ _ ≤ (0 : Int); omega), jx_fdiv hd]
