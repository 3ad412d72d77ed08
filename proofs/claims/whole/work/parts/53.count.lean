/-! counts -/
theorem cN_congr {P Q : Nat → Prop} {n : Nat} (h : ∀ i, i < n → (P i ↔ Q i)) : cN P n = cN Q n := by
  induction n with
  | zero => rfl
  | succ n ih =>
    rw [cN, cN, ih fun i hi => h i (by omega), show P n = Q n from propext (h n (by omega))]
theorem cN_add (P : Nat → Prop) (a b : Nat) : cN P (a + b) = cN P a + cN (fun i => P (a + i)) b := by
  induction b with
  | zero => rfl
  | succ b ih =>
    rw [← Nat.add_assoc, cN, ih, cN]
    omega
theorem cNN_congr {P Q : Nat → Nat → Prop} {n m : Nat} (h : ∀ j, j < m → ∀ i, i < n → (P j i ↔ Q j i)) : cNN P n m = cNN Q n m := by
  induction m with
  | zero => rfl
  | succ m ih =>
    rw [cNN, cNN, ih fun j hj => h j (by omega), cN_congr (h m (by omega))]
theorem cN_split {P Q R : Nat → Prop} {n : Nat} (h : ∀ i, i < n → (P i ↔ Q i ∨ R i)) (h2 : ∀ i, i < n → ¬ (Q i ∧ R i)) : cN P n = cN Q n + cN R n := by
  induction n with
  | zero => rfl
  | succ n ih =>
    rw [cN, cN, cN, ih (fun i hi => h i (by omega)) (fun i hi => h2 i (by omega))]
    have h3 := h n (by omega)
    have h4 := h2 n (by omega)
    by_cases hq : Q n
    · have hr : ¬ R n := fun z => h4 ⟨hq, z⟩
      rw [pN_t (h3.mpr (Or.inl hq)), pN_t hq, pN_f hr]
      omega
    · by_cases hr : R n
      · rw [pN_t (h3.mpr (Or.inr hr)), pN_f hq, pN_t hr]
        omega
      · rw [pN_f (fun z => (h3.mp z).elim hq hr), pN_f hq, pN_f hr]
        omega
theorem cNN_split {P Q R : Nat → Nat → Prop} {n m : Nat} (h : ∀ j, j < m → ∀ i, i < n → (P j i ↔ Q j i ∨ R j i)) (h2 : ∀ j, j < m → ∀ i, i < n → ¬ (Q j i ∧ R j i)) : cNN P n m = cNN Q n m + cNN R n m := by
  induction m with
  | zero => rfl
  | succ m ih =>
    rw [cNN, cNN, cNN, ih (fun j hj => h j (by omega)) (fun j hj => h2 j (by omega)), cN_split (h m (by omega)) (h2 m (by omega))]
    omega
theorem cN_mono {P : Nat → Prop} {a b : Nat} (h : a ≤ b) : cN P a ≤ cN P b := by
  obtain ⟨c, rfl⟩ := Nat.le.dest h
  rw [cN_add]
  omega
theorem cN_imp {P Q : Nat → Prop} {n : Nat} (h : ∀ i, i < n → P i → Q i) : cN P n ≤ cN Q n := by
  induction n with
  | zero => exact Nat.le_refl _
  | succ n ih =>
    rw [cN, cN]
    have h1 := ih fun i hi => h i (by omega)
    by_cases hp : P n
    · rw [pN_t hp, pN_t (h n (by omega) hp)]; omega
    · rw [pN_f hp]; omega
theorem cNN_imp {P Q : Nat → Nat → Prop} {n m : Nat} (h : ∀ j, j < m → ∀ i, i < n → P j i → Q j i) : cNN P n m ≤ cNN Q n m := by
  induction m with
  | zero => exact Nat.le_refl _
  | succ m ih =>
    rw [cNN, cNN]
    have h1 := ih fun j hj => h j (by omega)
    have h2 := cN_imp (h m (by omega))
    omega
theorem cN_lt {P : Nat → Prop} {i n : Nat} (h : i < n) (hp : P i) : cN P i < cN P n := by
  have h1 : cN P (i + 1) = cN P i + 1 := by rw [cN, pN_t hp]
  have h2 := cN_mono (P := P) (show i + 1 ≤ n by omega)
  omega
/-- the bits between a and b -/
theorem pc_cN {f : Nat → Bool} {P : Nat → Prop} {a b n : Nat} (h : ∀ x, x < n → (f x = true ↔ a ≤ x ∧ x < b ∧ P x)) : pb_cnt f n = cN (fun i => P (a + i)) (min n b - a) := by
  induction n with
  | zero =>
    rw [show min 0 b - a = 0 by omega]
    rfl
  | succ n ih =>
    rw [pb_cnt, ih fun x hx => h x (by omega)]
    have h1 := h n (by omega)
    by_cases hc : a ≤ n ∧ n < b
    · have e : min (n + 1) b - a = (min n b - a) + 1 := by omega
      rw [e, cN]
      have e2 : a + (min n b - a) = n := by omega
      rw [e2]
      by_cases hp : P n
      · rw [if_pos (h1.mpr ⟨hc.1, hc.2, hp⟩), pN_t hp]
      · rw [if_neg (fun z => hp (h1.mp z).2.2), pN_f hp]
    · rw [if_neg (fun z => hc ⟨(h1.mp z).1, (h1.mp z).2.1⟩), show min (n + 1) b - a = min n b - a by omega]
      rfl
theorem bits_cN {w : Int64} {P : Nat → Prop} {a b : Nat} (hb : b ≤ 64) (h : ∀ x, x < 64 → (bt w x = true ↔ a ≤ x ∧ x < b ∧ P x)) : jc_bits w = nI (cN (fun i => P (a + i)) (b - a)) := by
  rw [jb_ok, pc_cN h, show min 64 b = b by omega]
theorem sum_cNN {g : Nat → Int32} {P : Nat → Nat → Prop} {n m : Nat} (h : ∀ j, j < m → g j = nI (cN (P j) n)) : jc_sum g m = nI (cNN P n m) := by
  induction m with
  | zero => rfl
  | succ m ih =>
    rw [jc_sum_s, cNN, ih fun j hj => h j (by omega), h m (by omega), nI_add]
theorem cN_grid (P : Nat → Prop) (n m : Nat) : cN P (n * m) = cNN (fun j i => P (n * j + i)) n m := by
  induction m with
  | zero => rfl
  | succ m ih =>
    rw [Nat.mul_succ, cN_add, ih, cNN]
theorem gr_d {n j i : Nat} (h : i < n) : (n * j + i) / n = j ∧ (n * j + i) % n = i := by
  constructor
  · rw [Nat.mul_comm, Nat.add_comm, Nat.add_mul_div_right _ _ (by omega), Nat.div_eq_of_lt h]
    omega
  · rw [Nat.mul_add_mod]
    exact Nat.mod_eq_of_lt h
/-! the relation of the two states -/
def vR (nb : Nat) (bf : Nat → Nat → Int32) (bx tr : Nat → Int32) : Prop := ∀ i, i < nb → (bf i 0 = bx (6 * i) ∧ bf i 1 = bx (6 * i + 1) ∧ bf i 2 = bx (6 * i + 2) ∧ bf i 3 = bx (6 * i + 3) ∧ bf i 4 = bx (6 * i + 4) ∧ bf i 5 = bx (6 * i + 5) ∧ bf i 6 = tr i) ∧ vB (bf i 0) (bf i 1) (bf i 2) (bf i 3) (bf i 4) (bf i 5) ∧ (tr i = 0 ∨ tr i = 1)
def hR (hf : Nat → Nat → Int32) (su li : Nat → Int32) : Prop := ∀ j, j < 24 → (hf j 0 = su (3 * j) ∧ hf j 1 = su (3 * j + 1) ∧ hf j 2 = su (3 * j + 2) ∧ hf j 3 = li j) ∧ vS (hf j 0) (hf j 1) (hf j 2) ∧ 0 ≤ (li j).toInt ∧ (li j).toInt ≤ 1000
theorem hs_0 {Z : Int32} (h : 0 ≤ Z.toInt) : jc_hasSun Z = 0 ↔ Z = 0 := by
  unfold jc_hasSun
  by_cases h1 : Z ≤ 0
  · rw [if_pos h1]
    rw [i_le] at h1
    have h1' : Z.toInt ≤ 0 := h1
    exact ⟨fun _ => i_eq.mpr (by show Z.toInt = 0; omega), fun _ => rfl⟩
  · rw [if_neg h1]
    exact ⟨fun q => absurd q (by decide), fun q => absurd (by rw [q]; decide) h1⟩
theorem hs_pos {Z : Int32} (h : ¬ jc_hasSun Z = 0) : 0 < Z.toInt := by
  unfold jc_hasSun at h
  split at h
  · exact absurd rfl h
  · rename_i h1
    rw [i_le] at h1
    have h1' : ¬ Z.toInt ≤ 0 := h1
    omega
theorem nI_nm {b : Nat} (h : b < 2 ^ 31) : ¬ nI b = (-1) := fun q => by
  have h9 := congrArg Int32.toInt q
  rw [nI_toInt h, show (-1 : Int32).toInt = -1 from rfl] at h9
  omega
section LK
variable {nb wn : Nat} {bf : Nat → Nat → Int32} {bx tr su : Nat → Int32} {j : Nat}
theorem sh_bt (hv : vR nb bf bx tr) (hS : vS (su (3 * j)) (su (3 * j + 1)) (su (3 * j + 2))) (hZ : 0 < (su (3 * j + 2)).toInt) (hw : 1 ≤ wn ∧ wn ≤ 60) {y : Nat} (hy : y ≤ 60) {i : Nat} (hi : i < nb) (x : Nat) :
    bt (jc_shade (bf i 6) (bf i 0) (bf i 1) (bf i 2) (bf i 3) (bf i 4) (bf i 5) (su (3 * j)) (su (3 * j + 1)) (su (3 * j + 2)) (nI y) (nI wn)) x = true ↔ x < wn ∧ ¬ tr i = 0 ∧ ¬ jm_b bx su i j (nI x) (nI y) = 0 := by
  obtain ⟨⟨e0, e1, e2, e3, e4, e5, e6⟩, hB, -⟩ := hv i hi
  rw [sd_on hB hS hZ hy hw]
  unfold jm_b
  rw [e0, e1, e2, e3, e4, e5, e6]
theorem row_bt (hv : vR nb bf bx tr) (hnb : nb ≤ 10) (hS : vS (su (3 * j)) (su (3 * j + 1)) (su (3 * j + 2))) (hZ : 0 < (su (3 * j + 2)).toInt) (hw : 1 ≤ wn ∧ wn ≤ 60) {y : Nat} (hy : y ≤ 60) (x n : Nat) (hn : nb ≤ n) :
    bt (jc_row nb bf (su (3 * j)) (su (3 * j + 1)) (su (3 * j + 2)) (nI y) (nI wn) n) x = true ↔ x < wn ∧ jm_any bx tr su (-1) j (nI x) (nI y) nb := by
  have h : ∀ m, bt (jc_row nb bf (su (3 * j)) (su (3 * j + 1)) (su (3 * j + 2)) (nI y) (nI wn) m) x = true ↔ ∃ b, b < m ∧ b < nb ∧ x < wn ∧ ¬ tr b = 0 ∧ ¬ jm_b bx su b j (nI x) (nI y) = 0 := by
    intro m
    induction m with
    | zero =>
      rw [show jc_row nb bf (su (3 * j)) (su (3 * j + 1)) (su (3 * j + 2)) (nI y) (nI wn) 0 = 0 from rfl, bt_0]
      exact ⟨fun q => absurd q (by decide), fun ⟨b, q, _⟩ => absurd q (Nat.not_lt_zero b)⟩
    | succ m ih =>
      by_cases hm : m < nb
      · rw [jc_row_in hm, bt_or, Bool.or_eq_true, ih, sh_bt hv hS hZ hw hy hm]
        constructor
        · rintro (⟨b, q1, q2⟩ | q)
          · exact ⟨b, by omega, q2⟩
          · exact ⟨m, by omega, hm, q⟩
        · rintro ⟨b, q1, q2⟩
          rcases Nat.lt_or_ge b m with z | z
          · exact Or.inl ⟨b, z, q2⟩
          · have : b = m := by omega
            subst this
            exact Or.inr q2.2
      · rw [jc_row_out hm, ih]
        constructor
        · rintro ⟨b, q1, q2⟩
          exact ⟨b, by omega, q2⟩
        · rintro ⟨b, q1, q2⟩
          exact ⟨b, by omega, q2⟩
  rw [h n]
  unfold jm_any
  constructor
  · rintro ⟨b, q1, q2, q3, q4, q5⟩
    exact ⟨q3, b, q2, q4, nI_nm (by omega), q5⟩
  · rintro ⟨q3, b, q2, q4, -, q5⟩
    exact ⟨b, by omega, q2, q3, q4, q5⟩
theorem D_any {wo : Int32} {x y : Int32} : jm_D bx tr su nb wo 0 j x y ↔ jm_any bx tr su wo j x y nb := by
  unfold jm_D
  exact ⟨fun q => q.elim (fun z => absurd rfl z.1) id, Or.inr⟩
/-- shadows of all boxes -/
theorem lk_rows {hn : Nat} (hv : vR nb bf bx tr) (hnb : nb ≤ 10) (hS : vS (su (3 * j)) (su (3 * j + 1)) (su (3 * j + 2))) (hZ : 0 < (su (3 * j + 2)).toInt) (hw : 1 ≤ wn ∧ wn ≤ 60) (hh : hn ≤ 60) :
    jc_sum (fun y => jc_bits (jc_row nb bf (su (3 * j)) (su (3 * j + 1)) (su (3 * j + 2)) (nI y) (nI wn) 10)) hn = nI (cN (jm_at bx tr su nb wn j) (wn * hn)) := by
  rw [cN_grid]
  refine sum_cNN fun y hy => ?_
  rw [bits_cN (a := 0) (b := wn) (P := fun x => jm_any bx tr su (-1) j (nI x) (nI y) nb) (by omega) (fun x _ => by rw [row_bt hv hnb hS hZ hw (by omega) x 10 hnb]; exact ⟨fun q => ⟨Nat.zero_le _, q⟩, fun q => q.2⟩)]
  congr 1
  rw [Nat.sub_zero]
  refine cN_congr fun i hi => ?_
  unfold jm_at
  rw [(gr_d hi).1, (gr_d hi).2, D_any, Nat.zero_add]
/-- shadows of one box -/
theorem lk_one {hn i : Nat} (hv : vR nb bf bx tr) (hi : i < nb) (hS : vS (su (3 * j)) (su (3 * j + 1)) (su (3 * j + 2))) (hZ : 0 < (su (3 * j + 2)).toInt) (hw : 1 ≤ wn ∧ wn ≤ 60) (hh : hn ≤ 60) :
    jc_sum (fun y => jc_bits (jc_shade (bf i 6) (bf i 0) (bf i 1) (bf i 2) (bf i 3) (bf i 4) (bf i 5) (su (3 * j)) (su (3 * j + 1)) (su (3 * j + 2)) (nI y) (nI wn))) hn = nI (cN (jm_at1 bx tr su i wn j) (wn * hn)) := by
  rw [cN_grid]
  refine sum_cNN fun y hy => ?_
  rw [bits_cN (a := 0) (b := wn) (P := fun x => ¬ tr i = 0 ∧ ¬ jm_b bx su i j (nI x) (nI y) = 0) (by omega) (fun x _ => by rw [sh_bt hv hS hZ hw (by omega) hi x]; exact ⟨fun q => ⟨Nat.zero_le _, q⟩, fun q => q.2⟩)]
  congr 1
  rw [Nat.sub_zero]
  refine cN_congr fun x hx => ?_
  unfold jm_at1
  rw [(gr_d hx).1, (gr_d hx).2, Nat.zero_add]
/-- the dark cells of a window, with what a ledge adds -/
theorem lk_dark {ld : Int32 → Int64 → Int64} {Q : Nat → Nat → Prop} {m0 m1 m2 m3 : Nat} (hv : vR nb bf bx tr) (hnb : nb ≤ 10) (hS : vS (su (3 * j)) (su (3 * j + 1)) (su (3 * j + 2))) (hZ : 0 < (su (3 * j + 2)).toInt) (hw : 1 ≤ wn ∧ wn ≤ 60)
    (hm : m0 < m2) (hm2 : m2 ≤ wn) (hm3 : m3 ≤ 60) (hld : ∀ y, y ≤ 60 → ∀ (r : Int64) (x : Nat), bt (ld (nI y) r) x = true ↔ bt r x = true ∨ (x < wn ∧ Q y x)) :
    jc_dark nb bf (su (3 * j)) (su (3 * j + 1)) (su (3 * j + 2)) (nI wn) ld m0 m1 m2 m3 = nI (cNN (fun b a => jm_any bx tr su (-1) j (nI (m0 + a)) (nI (m1 + b)) nb ∨ Q (m1 + b) (m0 + a)) (m2 - m0) (m3 - m1)) := by
  unfold jc_dark
  refine sum_cNN fun b hb => ?_
  unfold jc_dk
  have e : nI m2 - 1 = nI (m2 - 1) := by
    obtain ⟨z, hz⟩ : ∃ z, m2 = z + 1 := ⟨m2 - 1, by omega⟩
    rw [hz, nI_s1]
    rfl
  rw [e]
  refine bits_cN (b := m2) (P := fun x => jm_any bx tr su (-1) j (nI x) (nI (m1 + b)) nb ∨ Q (m1 + b) x) (by omega) fun x _ => ?_
  rw [bt_and, Bool.and_eq_true, hld (m1 + b) (by omega), row_bt hv hnb hS hZ hw (by omega) x 10 hnb, bt_cells (by omega) (by omega), decide_eq_true_eq]
  constructor
  · rintro ⟨q | q, h1, h2⟩
    · exact ⟨h1, by omega, Or.inl q.2⟩
    · exact ⟨h1, by omega, Or.inr q.2⟩
  · rintro ⟨h1, h2, q | q⟩
    · exact ⟨Or.inl ⟨by omega, q⟩, h1, by omega⟩
    · exact ⟨Or.inr ⟨by omega, q⟩, h1, by omega⟩
theorem lk_dark0 {m0 m1 m2 m3 : Nat} (hv : vR nb bf bx tr) (hnb : nb ≤ 10) (hS : vS (su (3 * j)) (su (3 * j + 1)) (su (3 * j + 2))) (hZ : 0 < (su (3 * j + 2)).toInt) (hw : 1 ≤ wn ∧ wn ≤ 60)
    (hm : m0 < m2) (hm2 : m2 ≤ wn) (hm3 : m3 ≤ 60) : jc_dark nb bf (su (3 * j)) (su (3 * j + 1)) (su (3 * j + 2)) (nI wn) ld_no m0 m1 m2 m3 = nI (jm_dark bx tr su nb (-1) 0 j m0 m1 m2 m3) := by
  rw [lk_dark (Q := fun _ _ => False) hv hnb hS hZ hw hm hm2 hm3 (fun y _ r x => ⟨Or.inl, fun q => q.elim id fun z => z.2.elim⟩)]
  unfold jm_dark
  congr 1
  refine cNN_congr fun b _ a _ => ?_
  rw [D_any]
  exact ⟨fun q => q.elim id False.elim, Or.inl⟩
theorem any_ledge {u0 v1 u1 : Nat} {d wo x y : Int32} (hnb : nb ≤ 10) : jm_any (jm_ledge bx u0 v1 u1 d) (upd tr 10 1) su wo j x y nb ↔ jm_any bx tr su wo j x y nb := by
  unfold jm_any
  have h : ∀ b, b < nb → jm_b (jm_ledge bx u0 v1 u1 d) su b j x y = jm_b bx su b j x y ∧ upd tr 10 1 b = tr b := fun b hb => by
    refine ⟨?_, pk_un (by omega)⟩
    unfold jm_b jm_ledge
    rw [jm_lay_ne (b := 10) (by omega), jm_lay_ne (b := 10) (by omega), jm_lay_ne (b := 10) (by omega), jm_lay_ne (b := 10) (by omega), jm_lay_ne (b := 10) (by omega), jm_lay_ne (b := 10) (by omega)]
  constructor
  · rintro ⟨b, hb, q⟩
    rw [(h b hb).1, (h b hb).2] at q
    exact ⟨b, hb, q⟩
  · rintro ⟨b, hb, q⟩
    refine ⟨b, hb, ?_⟩
    rw [(h b hb).1, (h b hb).2]
    exact q
theorem ledge_b {u0 v1 u1 : Nat} {d x y : Int32} : jm_b (jm_ledge bx u0 v1 u1 d) su 10 j x y = jm_on (nI u0) (nI v1) 0 (nI u1) (nI (v1 + 1)) d (su (3 * j)) (su (3 * j + 1)) (su (3 * j + 2)) x y := by
  unfold jm_b jm_ledge jm_lay
  rfl
theorem lk_led {m0 m1 m2 m3 d : Nat} (hv : vR nb bf bx tr) (hnb : nb ≤ 10) (hS : vS (su (3 * j)) (su (3 * j + 1)) (su (3 * j + 2))) (hZ : 0 < (su (3 * j + 2)).toInt) (hw : 1 ≤ wn ∧ wn ≤ 60)
    (hm : m0 < m2) (hm2 : m2 ≤ wn) (hm3 : m3 ≤ 60) (hd : d ≤ 100) :
    jc_dark nb bf (su (3 * j)) (su (3 * j + 1)) (su (3 * j + 2)) (nI wn) (ld_box 1 (nI m0) (nI m3) 0 (nI m2) (nI m3 + 1) (nI d) (su (3 * j)) (su (3 * j + 1)) (su (3 * j + 2)) (nI wn)) m0 m1 m2 m3 = jm_led bx tr su nb j m0 m1 m2 m3 (nI d) := by
  have hB : vB (nI m0) (nI m3) 0 (nI m2) (nI (m3 + 1)) (nI d) := by
    unfold vB
    rw [nI_toInt (n := m0) (by omega), nI_toInt (n := m2) (by omega), nI_toInt (n := m3) (by omega), nI_toInt (n := m3 + 1) (by omega), nI_toInt (n := d) (by omega), show (0 : Int32).toInt = 0 from rfl]
    omega
  rw [nI_1, lk_dark (Q := fun y x => ¬ jm_on (nI m0) (nI m3) 0 (nI m2) (nI (m3 + 1)) (nI d) (su (3 * j)) (su (3 * j + 1)) (su (3 * j + 2)) (nI x) (nI y) = 0) hv hnb hS hZ hw hm hm2 hm3 (fun y hy r x => by
    unfold ld_box
    rw [bt_or, Bool.or_eq_true, sd_on hB hS hZ hy hw]
    exact ⟨fun q => q.imp id fun z => ⟨z.1, z.2.2⟩, fun q => q.imp id fun z => ⟨z.1, by decide, z.2⟩⟩)]
  unfold jm_led jm_dark
  congr 1
  refine cNN_congr fun b _ a _ => ?_
  unfold jm_D
  rw [any_ledge hnb, ledge_b]
  exact ⟨fun q => q.elim Or.inr fun z => Or.inl ⟨by decide, z⟩, fun q => q.elim (fun z => Or.inr z.2) Or.inl⟩
end LK
