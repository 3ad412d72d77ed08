/-! rows of cells as bits -/
def un (w : Int64) : Nat := w.toUInt64.toNat
theorem un_lt (w : Int64) : un w < 2 ^ 64 := w.toUInt64.toNat_lt
theorem un_inj {a b : Int64} (h : un a = un b) : a = b := by
  have h1 : a.toUInt64 = b.toUInt64 := UInt64.toNat_inj.mp h
  have h2 : a.toUInt64.toInt64 = b.toUInt64.toInt64 := by rw [h1]
  exact h2
theorem un_and (a b : Int64) : un (a &&& b) = un a &&& un b := UInt64.toNat_and _ _
theorem un_or (a b : Int64) : un (a ||| b) = un a ||| un b := UInt64.toNat_or _ _
theorem un_xor (a b : Int64) : un (a ^^^ b) = un a ^^^ un b := UInt64.toNat_xor _ _
theorem un_add (a b : Int64) : un (a + b) = (un a + un b) % 2 ^ 64 := UInt64.toNat_add _ _
theorem un_sub {a b : Int64} (h : un b ≤ un a) : un (a - b) = un a - un b := UInt64.toNat_sub_of_le _ _ h
theorem sh_x : ∀ x, x < 64 → ((nI x).toInt64.toUInt64 &&& Int64.toUInt64 63) = UInt64.ofNat x := by decide +kernel
theorem un_ush (w : Int64) {k : Nat} (hk : k < 64) : un (jc_ush w (nI k)) = un w / 2 ^ k := by
  unfold un jc_ush
  rw [sh_x k hk]
  show (w.toUInt64 >>> UInt64.ofNat k).toNat = _
  rw [UInt64.toNat_shiftRight, UInt64.toNat_ofNat_of_lt' (by exact Nat.lt_trans hk (by decide)), Nat.mod_eq_of_lt hk, Nat.shiftRight_eq_div_pow]
def bt (w : Int64) (x : Nat) : Bool := (un w).testBit x
theorem bt_or (a b : Int64) (x : Nat) : bt (a ||| b) x = (bt a x || bt b x) := by unfold bt; rw [un_or, Nat.testBit_or]
theorem bt_and (a b : Int64) (x : Nat) : bt (a &&& b) x = (bt a x && bt b x) := by unfold bt; rw [un_and, Nat.testBit_and]
theorem bt_xor (a b : Int64) (x : Nat) : bt (a ^^^ b) x = (bt a x ^^ bt b x) := by unfold bt; rw [un_xor, Nat.testBit_xor]
theorem bt_0 (x : Nat) : bt 0 x = false := by
  unfold bt
  rw [show un 0 = 0 from rfl, Nat.zero_testBit]
theorem bt_m1 {x : Nat} (h : x < 64) : bt (-1) x = true := by
  unfold bt
  rw [show un (-1) = 2 ^ 64 - 1 by decide +kernel, Nat.testBit_two_pow_sub_one]
  simpa using h
theorem hc_bt (w : Int64) {x : Nat} (h : x < 64) : (jc_hasCell w (nI x) = 0 ↔ bt w x = false) ∧ (jc_hasCell w (nI x) = 0 ∨ jc_hasCell w (nI x) = 1) := by
  have h1 : un (jc_ush w (nI x) &&& 1) = un w / 2 ^ x % 2 := by
    rw [un_and, un_ush w h, show un 1 = 1 from rfl, Nat.and_one_is_mod]
  have h2 : bt w x = decide (un w / 2 ^ x % 2 = 1) := Nat.testBit_eq_decide_div_mod_eq
  unfold jc_hasCell
  show ((if (jc_ush w (nI x) &&& 1) = 0 then (0 : Int32) else 1) = 0 ↔ _) ∧ ((if (jc_ush w (nI x) &&& 1) = 0 then (0 : Int32) else 1) = 0 ∨ _)
  by_cases h3 : (jc_ush w (nI x) &&& 1) = 0
  · rw [h3] at h1
    rw [if_pos h3, h2]
    have h4 : un w / 2 ^ x % 2 = 0 := h1.symm
    exact ⟨⟨fun _ => by rw [h4]; rfl, fun _ => rfl⟩, Or.inl rfl⟩
  · have h5 : ¬ un w / 2 ^ x % 2 = 0 := fun q => h3 (un_inj (h1.trans q))
    have h4 : un w / 2 ^ x % 2 = 1 := by omega
    rw [if_neg h3, h2]
    exact ⟨⟨fun q => absurd q (by decide), fun q => absurd q (by rw [h4]; decide)⟩, Or.inr (if_neg h3)⟩
theorem cells_nat : ∀ f, f < 60 → ∀ m, m < 60 → un (jc_cells (nI f) (nI m)) = if f ≤ m then (2 ^ (m + 1 - f) - 1) * 2 ^ f else 0 := by decide +kernel
theorem bt_cells {f m x : Nat} (hf : f < 60) (hm : m < 60) : bt (jc_cells (nI f) (nI m)) x = decide (f ≤ x ∧ x ≤ m) := by
  unfold bt
  rw [cells_nat f hf m hm]
  split
  · rename_i h
    rw [Nat.testBit_mul_two_pow, Nat.testBit_two_pow_sub_one]
    by_cases h1 : f ≤ x
    · by_cases h2 : x ≤ m
      · simp [h1, h2]; omega
      · simp [h1, h2]; omega
    · simp [h1]
  · rename_i h
    rw [Nat.zero_testBit]
    exact (decide_eq_false (by omega)).symm
/-- bitCount -/
theorem jb_1 (i : Int64) : un (jc_b1 i) = pb_1 8 (un i) := by
  unfold jc_b1 pb_1
  have h : un (jc_ush i 1 &&& 6148914691236517205) = (un i / 2 &&& pb_M5 8) := by
    rw [un_and, show (1 : Int32) = nI 1 from rfl, un_ush i (by decide)]; rfl
  rw [un_sub (by rw [h]; exact pb_le5 8 _), h]
theorem jb_2 (i : Int64) : un (jc_b2 i) = pb_2 8 (un i) := by
  unfold jc_b2 pb_2
  have h : un (jc_ush i 2 &&& 3689348814741910323) = (un i / 4 &&& pb_M3 8) := by
    rw [un_and, show (2 : Int32) = nI 2 from rfl, un_ush i (by decide)]; rfl
  have h2 : un (i &&& 3689348814741910323) = (un i &&& pb_M3 8) := un_and _ _
  have e : pb_M3 8 = 3689348814741910323 := rfl
  have b1 : un i &&& pb_M3 8 ≤ pb_M3 8 := Nat.and_le_right
  have b2 : un i / 4 &&& pb_M3 8 ≤ pb_M3 8 := Nat.and_le_right
  rw [un_add, h, h2, Nat.mod_eq_of_lt (by omega)]
theorem jb_2le (n : Nat) : pb_2 8 n ≤ 7378697629483820646 := by
  unfold pb_2
  have e : pb_M3 8 = 3689348814741910323 := rfl
  have b1 : n &&& pb_M3 8 ≤ pb_M3 8 := Nat.and_le_right
  have b2 : n / 4 &&& pb_M3 8 ≤ pb_M3 8 := Nat.and_le_right
  omega
theorem jb_3 (i : Int64) (h : un i ≤ 7378697629483820646) : un (jc_b3 i) = pb_3 8 (un i) := by
  unfold jc_b3 pb_3
  have h2 : un (i + jc_ush i 4) = un i + un i / 16 := by
    rw [un_add, show (4 : Int32) = nI 4 from rfl, un_ush i (by decide), Nat.mod_eq_of_lt (by omega)]
  rw [un_and, h2]; rfl
theorem jb_3le (n : Nat) : pb_3 8 n ≤ 1085102592571150095 := by
  unfold pb_3
  have e : pb_MF 8 = 1085102592571150095 := rfl
  have b1 : (n + n / 16) &&& pb_MF 8 ≤ pb_MF 8 := Nat.and_le_right
  omega
theorem jb_s (i : Int64) {k m : Nat} (hk : k < 64) (hm : 2 ^ k = m) (hm1 : 2 ≤ m) (h : un i < 2 ^ 63) : un (i + jc_ush i (nI k)) = un i + un i / m := by
  rw [un_add, un_ush i hk, hm, Nat.mod_eq_of_lt]
  have : un i / m ≤ un i / 2 := Nat.div_le_div_left hm1 (by decide)
  omega
theorem jb_l (i : Int64) : i.toInt32 &&& 127 = nI (un i % 128) := by
  apply Int32.toBitVec_inj.mp
  apply BitVec.eq_of_toNat_eq
  have h1 : (i.toInt32 &&& 127).toBitVec = i.toBitVec.signExtend 32 &&& 127#32 := rfl
  have h2 : (nI (un i % 128)).toBitVec = BitVec.ofNat 32 (un i % 128) := rfl
  rw [h1, h2, BitVec.signExtend_eq_setWidth_of_le _ (by decide), BitVec.toNat_and, BitVec.toNat_setWidth, BitVec.toNat_ofNat, BitVec.toNat_ofNat]
  have h3 : i.toBitVec.toNat = un i := rfl
  rw [h3, show 127 % 2 ^ 32 = 2 ^ 7 - 1 from rfl, Nat.and_two_pow_sub_one_eq_mod]
  omega
theorem jb_ok (i : Int64) : jc_bits i = nI (pb_cnt (bt i) 64) := by
  unfold jc_bits
  rw [jb_l]
  have e1 := jb_1 i
  have e2 := jb_2 (jc_b1 i)
  have e3 := jb_3 (jc_b2 (jc_b1 i)) (by rw [e2]; exact jb_2le _)
  have l3 : un (jc_b3 (jc_b2 (jc_b1 i))) ≤ 1085102592571150095 := by rw [e3]; exact jb_3le _
  rw [e2, e1] at e3
  generalize jc_b3 (jc_b2 (jc_b1 i)) = x at e3 l3 ⊢
  have e4 : un (jc_b4 x) = un x + un x / 256 := jb_s x (k := 8) (by decide) rfl (by decide) (by omega)
  have e5 : un (jc_b5 (jc_b4 x)) = un (jc_b4 x) + un (jc_b4 x) / 65536 := jb_s _ (k := 16) (by decide) rfl (by decide) (by omega)
  have e6 : un (jc_b6 (jc_b5 (jc_b4 x))) = un (jc_b5 (jc_b4 x)) + un (jc_b5 (jc_b4 x)) / 4294967296 := jb_s _ (k := 32) (by decide) rfl (by decide) (by omega)
  have e7 : un (jc_b6 (jc_b5 (jc_b4 x))) % 128 = pb_all (un i) := by
    rw [e6, e5, e4, e3]; rfl
  rw [e7, pb_ok (un i) (un_lt i)]
  rfl
