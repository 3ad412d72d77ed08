/-! Long.bitCount counts the bits -/
theorem pb_and {X Y M m : Nat} (hY : Y < 256) (hm : m < 256) : (256 * X + Y) &&& (256 * M + m) = 256 * (X &&& M) + (Y &&& m) := by
  have hYm : Y &&& m < 256 := Nat.lt_of_le_of_lt Nat.and_le_left hY
  apply Nat.eq_of_testBit_eq
  intro j
  rw [Nat.testBit_and, show 256 = 2 ^ 8 from rfl, Nat.testBit_two_pow_mul_add X hY j, Nat.testBit_two_pow_mul_add M hm j, Nat.testBit_two_pow_mul_add (X &&& M) hYm j]
  split <;> simp [Nat.testBit_and]
def pb_M5 : Nat → Nat | 0 => 0 | k + 1 => 256 * pb_M5 k + 0x55
def pb_M3 : Nat → Nat | 0 => 0 | k + 1 => 256 * pb_M3 k + 0x33
def pb_MF : Nat → Nat | 0 => 0 | k + 1 => 256 * pb_MF k + 0x0f
def pb_1 (k n : Nat) : Nat := n - (n / 2 &&& pb_M5 k)
def pb_2 (k n : Nat) : Nat := (n &&& pb_M3 k) + (n / 4 &&& pb_M3 k)
def pb_3 (k n : Nat) : Nat := (n + n / 16) &&& pb_MF k
theorem pb_d1 : ∀ b, b < 2 → ∀ r, r < 128 → (128 * b + r) &&& 0x55 = r &&& 0x55 := by decide +kernel
theorem pb_d2 : ∀ b, b < 4 → ∀ r, r < 64 → (64 * b + r) &&& 0x33 = r &&& 0x33 := by decide +kernel
theorem pb_le (n : Nat) : n / 2 &&& 0x55 ≤ n := Nat.le_trans Nat.and_le_left (Nat.div_le_self ..)
theorem pb_le5 (k n : Nat) : n / 2 &&& pb_M5 k ≤ n := Nat.le_trans Nat.and_le_left (Nat.div_le_self ..)
theorem pb_1s (k q r : Nat) (hr : r < 256) : pb_1 (k + 1) (256 * q + r) = 256 * pb_1 k q + pb_1 1 r := by
  unfold pb_1
  have e1 : (256 * q + r) / 2 = 256 * (q / 2) + (128 * (q % 2) + r / 2) := by omega
  rw [e1, show pb_M5 (k + 1) = 256 * pb_M5 k + 0x55 from rfl, pb_and (by omega) (by omega), pb_d1 _ (by omega) _ (by omega), show pb_M5 1 = 0x55 from rfl]
  have := pb_le5 k q
  have := pb_le r
  omega
theorem pb_2s (k q r : Nat) (hr : r < 256) : pb_2 (k + 1) (256 * q + r) = 256 * pb_2 k q + pb_2 1 r := by
  unfold pb_2
  have e1 : (256 * q + r) / 4 = 256 * (q / 4) + (64 * (q % 4) + r / 4) := by omega
  rw [e1, show pb_M3 (k + 1) = 256 * pb_M3 k + 0x33 from rfl, pb_and hr (by omega), pb_and (by omega) (by omega), pb_d2 _ (by omega) _ (by omega), show pb_M3 1 = 0x33 from rfl]
  omega
theorem pb_d3 : ∀ r, r < 256 → pb_1 1 r < 256 ∧ pb_2 1 (pb_1 1 r) < 256 ∧ pb_2 1 (pb_1 1 r) % 16 ≤ 4 ∧ pb_2 1 (pb_1 1 r) / 16 ≤ 4 := by decide +kernel
def pb_s (k n : Nat) : Nat := pb_3 k (pb_2 k (pb_1 k n))
theorem pb_21s (k q r : Nat) (hr : r < 256) : pb_2 (k + 1) (pb_1 (k + 1) (256 * q + r)) = 256 * pb_2 k (pb_1 k q) + pb_2 1 (pb_1 1 r) := by
  rw [pb_1s k q r hr, pb_2s k _ _ (pb_d3 r hr).1]
theorem pb_low (k q : Nat) (hq : q < 256 ^ k) : pb_2 k (pb_1 k q) % 16 ≤ 4 := by
  cases k with
  | zero =>
    have : q = 0 := by simpa using hq
    subst this
    decide
  | succ k =>
    have e : q = 256 * (q / 256) + q % 256 := by omega
    rw [e, pb_21s k _ _ (by omega)]
    have := (pb_d3 (q % 256) (by omega)).2.2.1
    omega
theorem pb_d4 : ∀ y, y < 9 → ∀ x, x < 9 → (16 * y + x) &&& 0x0f = x := by decide +kernel
theorem pb_ss (k q r : Nat) (hq : q < 256 ^ k) (hr : r < 256) : pb_s (k + 1) (256 * q + r) = 256 * pb_s k q + pb_s 1 r := by
  unfold pb_s
  rw [pb_21s k q r hr]
  have h1 := pb_low k q hq
  obtain ⟨-, h2, h3, h4⟩ := pb_d3 r hr
  generalize pb_2 k (pb_1 k q) = Q at h1 ⊢
  generalize pb_2 1 (pb_1 1 r) = R at h2 h3 h4 ⊢
  unfold pb_3
  have e1 : 256 * Q + R + (256 * Q + R) / 16 = 256 * (Q + Q / 16) + (16 * (R / 16 + Q % 16) + (R % 16 + R / 16)) := by omega
  have e2 : R + R / 16 = 16 * (R / 16) + (R % 16 + R / 16) := by omega
  rw [e1, show pb_MF (k + 1) = 256 * pb_MF k + 0x0f from rfl, pb_and (by omega) (by omega), pb_d4 _ (by omega) _ (by omega), show pb_MF 1 = 0x0f from rfl, e2, pb_d4 _ (by omega) _ (by omega)]
/-- the number of bits among the lowest n -/
def pb_cnt (f : Nat → Bool) : Nat → Nat | 0 => 0 | n + 1 => pb_cnt f n + (if f n then 1 else 0)
theorem pb_byte : ∀ r, r < 256 → pb_s 1 r = pb_cnt r.testBit 8 ∧ pb_s 1 r ≤ 8 := by decide +kernel
theorem pb_cnt_add (f : Nat → Bool) (a b : Nat) : pb_cnt f (a + b) = pb_cnt f a + pb_cnt (fun j => f (a + j)) b := by
  induction b with
  | zero => rfl
  | succ b ih => rw [← Nat.add_assoc, pb_cnt, ih, pb_cnt]; omega
theorem pb_cnt_congr {f g : Nat → Bool} {n : Nat} (h : ∀ j, j < n → f j = g j) : pb_cnt f n = pb_cnt g n := by
  induction n with
  | zero => rfl
  | succ n ih => rw [pb_cnt, pb_cnt, ih fun j hj => h j (by omega), h n (by omega)]
theorem pb_cnt_split (q r k : Nat) (hr : r < 256) : pb_cnt (256 * q + r).testBit (8 + k) = pb_cnt r.testBit 8 + pb_cnt q.testBit k := by
  rw [pb_cnt_add]
  congr 1
  · exact pb_cnt_congr fun j hj => by rw [show 256 = 2 ^ 8 from rfl, Nat.testBit_two_pow_mul_add q hr j, if_pos hj]
  · exact pb_cnt_congr fun j hj => by rw [show 256 = 2 ^ 8 from rfl, Nat.testBit_two_pow_mul_add q hr, if_neg (by omega)]; congr 1; omega
theorem pb_f1 {p y : Nat} (h : p ≤ 8) : (p + 256 * y) / 256 = y := by omega
theorem pb_f2 {p q r : Nat} (h : p ≤ 16) (h2 : q ≤ 16) : (p + 256 * q + 65536 * r) / 65536 = r := by omega
theorem pb_f3 {a b c d r : Nat} (h : a ≤ 32) (h2 : b ≤ 32) (h3 : c ≤ 32) (h4 : d ≤ 32) : (a + 256 * b + 65536 * c + 16777216 * d + 4294967296 * r) / 4294967296 = r := by omega
theorem pb_f4 {a k : Nat} (h : a ≤ 64) : (a + 256 * k) % 128 = a := by omega
theorem pb_fold {x y1 y2 y3 y4 y5 y6 p0 p1 p2 p3 p4 p5 p6 p7 : Nat} (h0 : p0 ≤ 8) (h1 : p1 ≤ 8) (h2 : p2 ≤ 8) (h3 : p3 ≤ 8) (h4 : p4 ≤ 8) (h5 : p5 ≤ 8) (h6 : p6 ≤ 8) (h7 : p7 ≤ 8)
    (e0 : x = p0 + 256 * y1) (e1 : y1 = p1 + 256 * y2) (e2 : y2 = p2 + 256 * y3) (e3 : y3 = p3 + 256 * y4) (e4 : y4 = p4 + 256 * y5) (e5 : y5 = p5 + 256 * y6) (e6 : y6 = p6 + 256 * p7) :
    (let a := x + x / 256; let b := a + a / 65536; let c := b + b / 4294967296; c % 128) = p0 + p1 + p2 + p3 + p4 + p5 + p6 + p7 := by
  have a1 : x / 256 = y1 := by rw [e0]; exact pb_f1 h0
  have a2 : (x + y1) / 65536 = y2 + y3 := by
    rw [show x + y1 = (p0 + p1) + 256 * (p1 + p2) + 65536 * (y2 + y3) by omega]
    exact pb_f2 (by omega) (by omega)
  have a3 : (x + y1 + (y2 + y3)) / 4294967296 = y4 + y5 + y6 + p7 := by
    rw [show x + y1 + (y2 + y3) = (p0 + p1 + p2 + p3) + 256 * (p1 + p2 + p3 + p4) + 65536 * (p2 + p3 + p4 + p5) + 16777216 * (p3 + p4 + p5 + p6) + 4294967296 * (y4 + y5 + y6 + p7) by omega]
    exact pb_f3 (by omega) (by omega) (by omega) (by omega)
  show (x + x / 256 + (x + x / 256) / 65536 + (x + x / 256 + (x + x / 256) / 65536) / 4294967296) % 128 = _
  rw [a1, a2, a3]
  rw [show x + y1 + (y2 + y3) + (y4 + y5 + y6 + p7) = (p0 + p1 + p2 + p3 + p4 + p5 + p6 + p7) + 256 * (y1 + y2 + y3 + y4 + y5 + y6 + p7) by omega]
  exact pb_f4 (by omega)
def pb_all (n : Nat) : Nat := let x := pb_s 8 n; let a := x + x / 256; let b := a + a / 65536; let c := b + b / 4294967296; c % 128
theorem pb_ok (n : Nat) (hn : n < 2 ^ 64) : pb_all n = pb_cnt n.testBit 64 := by
  obtain ⟨q0, r0, e0, h0⟩ : ∃ q r, n = 256 * q + r ∧ r < 256 := ⟨n / 256, n % 256, by omega, by omega⟩
  obtain ⟨q1, r1, e1, h1⟩ : ∃ q r, q0 = 256 * q + r ∧ r < 256 := ⟨q0 / 256, q0 % 256, by omega, by omega⟩
  obtain ⟨q2, r2, e2, h2⟩ : ∃ q r, q1 = 256 * q + r ∧ r < 256 := ⟨q1 / 256, q1 % 256, by omega, by omega⟩
  obtain ⟨q3, r3, e3, h3⟩ : ∃ q r, q2 = 256 * q + r ∧ r < 256 := ⟨q2 / 256, q2 % 256, by omega, by omega⟩
  obtain ⟨q4, r4, e4, h4⟩ : ∃ q r, q3 = 256 * q + r ∧ r < 256 := ⟨q3 / 256, q3 % 256, by omega, by omega⟩
  obtain ⟨q5, r5, e5, h5⟩ : ∃ q r, q4 = 256 * q + r ∧ r < 256 := ⟨q4 / 256, q4 % 256, by omega, by omega⟩
  obtain ⟨r7, r6, e6, h6⟩ : ∃ q r, q5 = 256 * q + r ∧ r < 256 := ⟨q5 / 256, q5 % 256, by omega, by omega⟩
  have h7 : r7 < 256 := by omega
  have g7 : pb_s 1 r7 = pb_s 1 (256 * 0 + r7) := by rw [Nat.mul_zero, Nat.zero_add]
  have b6 : q5 < 256 ^ 2 := by omega
  have b5 : q4 < 256 ^ 3 := by omega
  have b4 : q3 < 256 ^ 4 := by omega
  have b3 : q2 < 256 ^ 5 := by omega
  have b2 : q1 < 256 ^ 6 := by omega
  have b1 : q0 < 256 ^ 7 := by omega
  have s6 : pb_s 2 q5 = 256 * pb_s 1 r7 + pb_s 1 r6 := by rw [e6, pb_ss 1 r7 r6 (by omega) h6]
  have s5 : pb_s 3 q4 = 256 * pb_s 2 q5 + pb_s 1 r5 := by rw [e5, pb_ss 2 q5 r5 b6 h5]
  have s4 : pb_s 4 q3 = 256 * pb_s 3 q4 + pb_s 1 r4 := by rw [e4, pb_ss 3 q4 r4 b5 h4]
  have s3 : pb_s 5 q2 = 256 * pb_s 4 q3 + pb_s 1 r3 := by rw [e3, pb_ss 4 q3 r3 b4 h3]
  have s2 : pb_s 6 q1 = 256 * pb_s 5 q2 + pb_s 1 r2 := by rw [e2, pb_ss 5 q2 r2 b3 h2]
  have s1 : pb_s 7 q0 = 256 * pb_s 6 q1 + pb_s 1 r1 := by rw [e1, pb_ss 6 q1 r1 b2 h1]
  have s0 : pb_s 8 n = 256 * pb_s 7 q0 + pb_s 1 r0 := by rw [e0, pb_ss 7 q0 r0 b1 h0]
  have c6 : pb_cnt q5.testBit 16 = pb_cnt r6.testBit 8 + pb_cnt r7.testBit 8 := by rw [e6]; exact pb_cnt_split r7 r6 8 h6
  have c5 : pb_cnt q4.testBit 24 = pb_cnt r5.testBit 8 + pb_cnt q5.testBit 16 := by rw [e5]; exact pb_cnt_split q5 r5 16 h5
  have c4 : pb_cnt q3.testBit 32 = pb_cnt r4.testBit 8 + pb_cnt q4.testBit 24 := by rw [e4]; exact pb_cnt_split q4 r4 24 h4
  have c3 : pb_cnt q2.testBit 40 = pb_cnt r3.testBit 8 + pb_cnt q3.testBit 32 := by rw [e3]; exact pb_cnt_split q3 r3 32 h3
  have c2 : pb_cnt q1.testBit 48 = pb_cnt r2.testBit 8 + pb_cnt q2.testBit 40 := by rw [e2]; exact pb_cnt_split q2 r2 40 h2
  have c1 : pb_cnt q0.testBit 56 = pb_cnt r1.testBit 8 + pb_cnt q1.testBit 48 := by rw [e1]; exact pb_cnt_split q1 r1 48 h1
  have c0 : pb_cnt n.testBit 64 = pb_cnt r0.testBit 8 + pb_cnt q0.testBit 56 := by rw [e0]; exact pb_cnt_split q0 r0 56 h0
  obtain ⟨u0, v0⟩ := pb_byte r0 h0
  obtain ⟨u1, v1⟩ := pb_byte r1 h1
  obtain ⟨u2, v2⟩ := pb_byte r2 h2
  obtain ⟨u3, v3⟩ := pb_byte r3 h3
  obtain ⟨u4, v4⟩ := pb_byte r4 h4
  obtain ⟨u5, v5⟩ := pb_byte r5 h5
  obtain ⟨u6, v6⟩ := pb_byte r6 h6
  obtain ⟨u7, v7⟩ := pb_byte r7 h7
  have := pb_fold (x := pb_s 8 n) v0 v1 v2 v3 v4 v5 v6 v7 (s0.trans (Nat.add_comm ..)) (s1.trans (Nat.add_comm ..)) (s2.trans (Nat.add_comm ..)) (s3.trans (Nat.add_comm ..)) (s4.trans (Nat.add_comm ..)) (s5.trans (Nat.add_comm ..)) (s6.trans (Nat.add_comm ..))
  unfold pb_all
  rw [this, c0, c1, c2, c3, c4, c5, c6, u0, u1, u2, u3, u4, u5, u6, u7]
  omega
