/-! the answers of both, joined -/
theorem wd_ok {w : Int64} {P : Nat → Prop} (h : ∀ x, x < 60 → (bt w x = true ↔ P x)) : ∀ n x a, x + n = 60 → a < cN (fun i => P (x + i)) n → ∃ y, x ≤ y ∧ y < 60 ∧ P y ∧ cN (fun i => P (x + i)) (y - x) = a ∧ jc_with w n x (nI a) = nI y := by
  intro n
  induction n with
  | zero => intro x a hx ha; exact absurd ha (Nat.not_lt_zero a)
  | succ n ih =>
    intro x a hx ha
    have e : cN (fun i => P (x + i)) (n + 1) = pN (P x) + cN (fun i => P (x + 1 + i)) n := by
      rw [show n + 1 = 1 + n by omega, cN_add, show cN (fun i => P (x + i)) 1 = pN (P x) from by rw [cN, cN]; exact Nat.zero_add _]
      congr 1
      exact cN_congr fun i _ => by rw [Nat.add_assoc]
    have hc := (hc_bt w (show x < 64 by omega)).1
    have hs : ∀ y, x + 1 ≤ y → cN (fun i => P (x + i)) (y - x) = pN (P x) + cN (fun i => P (x + 1 + i)) (y - (x + 1)) := fun y hy => by
      rw [show y - x = 1 + (y - (x + 1)) by omega, cN_add, show cN (fun i => P (x + i)) 1 = pN (P x) from by rw [cN, cN]; exact Nat.zero_add _]
      congr 1
      exact cN_congr fun i _ => by rw [Nat.add_assoc]
    rw [jc_with_s]
    by_cases hp : P x
    · have hb : bt w x = true := (h x (by omega)).mpr hp
      rw [if_neg (fun q => by rw [hc.mp q] at hb; exact absurd hb (by decide))]
      by_cases h0 : a = 0
      · subst h0
        rw [if_pos (show nI 0 = 0 from rfl)]
        exact ⟨x, Nat.le_refl _, by omega, hp, by rw [Nat.sub_self]; rfl, rfl⟩
      · obtain ⟨z, rfl⟩ : ∃ z, a = z + 1 := ⟨a - 1, by omega⟩
        rw [pN_t hp] at e
        have hl := cN_le (fun i => P (x + i)) (n + 1)
        rw [if_neg (nI_n0 (by omega) (by omega)), show nI (z + 1) + (-1) = nI z from (Int32.sub_eq_add_neg _ _).symm.trans (nI_s1 z)]
        obtain ⟨y, q1, q2, q3, q4, q5⟩ := ih (x + 1) z (by omega) (by omega)
        refine ⟨y, by omega, q2, q3, ?_, q5⟩
        rw [hs y q1, pN_t hp, q4]
        omega
    · have hb : bt w x = false := by
        rcases hq : bt w x with _ | _
        · rfl
        · exact absurd ((h x (by omega)).mp hq) hp
      rw [if_pos (hc.mpr hb)]
      rw [pN_f hp] at e
      obtain ⟨y, q1, q2, q3, q4, q5⟩ := ih (x + 1) a (by omega) (by omega)
      refine ⟨y, by omega, q2, q3, ?_, q5⟩
      rw [hs y q1, pN_f hp, q4]
      omega
/-- the class's way to the cell at a place -/
theorem ce_ok {row : Nat → Int64} {P : Nat → Prop} {wn hn : Nat} (hw : 1 ≤ wn ∧ wn ≤ 60) (hh : hn ≤ 60) (h : ∀ y, y < hn → ∀ x, x < 64 → (bt (row y) x = true ↔ x < wn ∧ P (wn * y + x))) :
    ∀ n y a, y + n = hn → a < 2 ^ 31 → cN P (wn * y) ≤ a → jm_cell P wn (wn * hn) (nI a) (jc_cell row n y (nI (a - cN P (wn * y)))) := by
  intro n
  have hmul : wn * hn ≤ 60 * 60 := Nat.mul_le_mul hw.2 hh
  induction n with
  | zero =>
    intro y a hy ha hc
    have e : y = hn := by omega
    subst e
    refine Or.inr ⟨fun i hi hp q => ?_, rfl⟩
    have h1 := cN_lt hi hp
    have h2 := cN_le P i
    have h3 := eq_nI (by omega) ha q
    omega
  | succ n ih =>
    intro y a hy ha hc
    have hyn : wn * y + wn ≤ wn * hn := by
      rw [← Nat.mul_succ]
      exact Nat.mul_le_mul_left _ (by omega)
    have hb : jc_bits (row y) = nI (cN (fun i => P (wn * y + i)) wn) := by
      rw [bits_cN (a := 0) (b := wn) (P := fun x => P (wn * y + x)) (by omega) (fun x hx => by rw [h y (by omega) x hx]; exact ⟨fun q => ⟨Nat.zero_le _, q⟩, fun q => q.2⟩)]
      congr 1
      rw [Nat.sub_zero]
      exact cN_congr fun i _ => by rw [Nat.zero_add]
    have hl := cN_le (fun i => P (wn * y + i)) wn
    have hs : cN P (wn * (y + 1)) = cN P (wn * y) + cN (fun i => P (wn * y + i)) wn := by rw [Nat.mul_succ, cN_add]
    rw [jc_cell_s, hb]
    by_cases hle : cN (fun i => P (wn * y + i)) wn ≤ a - cN P (wn * y)
    · rw [if_pos (nI_le hle (by omega))]
      have e : nI (a - cN P (wn * y)) - nI (cN (fun i => P (wn * y + i)) wn) = nI (a - cN P (wn * (y + 1))) := by
        rw [hs]
        obtain ⟨z, hz⟩ : ∃ z, a - cN P (wn * y) = z + cN (fun i => P (wn * y + i)) wn := ⟨a - cN P (wn * y) - cN (fun i => P (wn * y + i)) wn, by omega⟩
        rw [hz, ← nI_add, Int32.add_sub_cancel]
        congr 1
        omega
      rw [e]
      exact ih (y + 1) a (by omega) ha (by omega)
    · rw [if_neg (nI_ge (Nat.lt_of_not_le hle) (by omega))]
      have h60 : ∀ x, x < 60 → (bt (row y) x = true ↔ (x < wn ∧ P (wn * y + x))) := fun x hx => h y (by omega) x (by omega)
      have ecl : cN (fun i => 0 + i < wn ∧ P (wn * y + (0 + i))) 60 = cN (fun i => P (wn * y + i)) wn := by
        rw [show 60 = wn + (60 - wn) by omega, cN_add]
        have e1 : cN (fun i => 0 + i < wn ∧ P (wn * y + (0 + i))) wn = cN (fun i => P (wn * y + i)) wn := cN_congr fun i hi => by rw [Nat.zero_add]; exact ⟨fun q => q.2, fun q => ⟨hi, q⟩⟩
        have e2 : cN (fun i => 0 + (wn + i) < wn ∧ P (wn * y + (0 + (wn + i)))) (60 - wn) = cN (fun _ => False) (60 - wn) := cN_congr fun i hi => ⟨fun q => by omega, False.elim⟩
        have e3 : ∀ m, cN (fun _ => False) m = 0 := fun m => by
          induction m with
          | zero => rfl
          | succ m im => rw [cN, im, pN_f id]
        rw [e1, e2, e3]
        omega
      obtain ⟨x, -, q2, ⟨q3, q3'⟩, q4, q5⟩ := wd_ok (P := fun x => x < wn ∧ P (wn * y + x)) h60 60 0 (a - cN P (wn * y)) rfl (by rw [ecl]; omega)
      refine Or.inl ⟨wn * y + x, by omega, q3', ?_, ?_⟩
      · have e : cN (fun i => 0 + i < wn ∧ P (wn * y + (0 + i))) (x - 0) = cN (fun i => P (wn * y + i)) x := by
          rw [Nat.sub_zero]
          exact cN_congr fun i hi => by rw [Nat.zero_add]; exact ⟨fun q => q.2, fun q => ⟨by omega, q⟩⟩
        rw [e] at q4
        rw [cN_add, q4, show cN P (wn * y) + (a - cN P (wn * y)) = a by omega]
      · rw [(gr_d q3).1, (gr_d q3).2, q5]
theorem ce_one {P : Nat → Prop} {wn n a : Nat} {r s : Int32} (hn : n ≤ 3600) (ha : a < 2 ^ 31) (h1 : jm_cell P wn n (nI a) r) (h2 : jm_cell P wn n (nI a) s) : r = s := by
  rcases h1 with ⟨i, hi, p1, e1, rfl⟩ | ⟨n1, rfl⟩
  · rcases h2 with ⟨k, hk, p2, e2, rfl⟩ | ⟨n2, rfl⟩
    · have b1 := cN_le P i
      have b2 := cN_le P k
      have e := eq_nI (by omega) (by omega) (e1.trans e2.symm)
      rcases Nat.lt_trichotomy i k with z | z | z
      · have := cN_lt z p1; omega
      · rw [z]
      · have := cN_lt z p2; omega
    · exact absurd e1 (n2 i hi p1)
  · rcases h2 with ⟨k, hk, p2, e2, rfl⟩ | ⟨n2, rfl⟩
    · exact absurd e2 (n1 k hk p2)
    · rfl
/-- the search by halves -/
theorem tl_step {dk : Int32 → Int32} {cs : Int32} {f s n : Nat} (hs : ¬ s = 0) (hm : ∀ a b : Nat, 1 ≤ a → a ≤ b → b ≤ 100 → dk (nI b) < cs → dk (nI a) < cs) (hn : n ≤ 100) (hs2 : s ≤ 64)
    (hA : ∀ i : Nat, 1 ≤ i → i ≤ n → dk (nI i) < cs) (hB : ∀ i : Nat, n + 2 * s ≤ i → i ≤ 100 → ¬ dk (nI i) < cs) :
    ∃ m : Nat, m ≤ 100 ∧ jc_tl dk cs (f + 1) s (nI n) = jc_tl dk cs f (s / 2) (nI m) ∧ (∀ i : Nat, 1 ≤ i → i ≤ m → dk (nI i) < cs) ∧ (∀ i : Nat, m + s ≤ i → i ≤ 100 → ¬ dk (nI i) < cs) := by
  rw [jc_tl_s _ _ _ _ _ hs, nI_add]
  by_cases h1 : (100 : Int32) < nI (n + s)
  · rw [if_pos h1]
    have h1' := lt_nI (a := 100) (by decide) (by omega) h1
    exact ⟨n, hn, rfl, hA, fun i q1 q2 => by omega⟩
  · rw [if_neg h1]
    have h1' := nlt_nI (a := 100) (by omega) h1
    by_cases h2 : cs ≤ dk (nI (n + s))
    · rw [if_pos h2]
      have h3 : ¬ dk (nI (n + s)) < cs := by rw [i_lt]; rw [i_le] at h2; omega
      exact ⟨n, hn, rfl, hA, fun i q1 q2 q3 => h3 (hm (n + s) i (by omega) q1 q2 q3)⟩
    · rw [if_neg h2]
      have h3 : dk (nI (n + s)) < cs := by rw [i_lt]; rw [i_le] at h2; omega
      exact ⟨n + s, by omega, rfl, fun i q1 q2 => hm i (n + s) q1 q2 (by omega) h3, fun i q1 q2 => hB i (by omega) q2⟩
theorem tl_ok {dk : Int32 → Int32} {cs : Int32} (hm : ∀ a b : Nat, 1 ≤ a → a ≤ b → b ≤ 100 → dk (nI b) < cs → dk (nI a) < cs) :
    ∃ m : Nat, m ≤ 100 ∧ jc_tl dk cs 8 64 0 = nI m ∧ (∀ i : Nat, 1 ≤ i → i ≤ m → dk (nI i) < cs) ∧ (∀ i : Nat, m < i → i ≤ 100 → ¬ dk (nI i) < cs) := by
  obtain ⟨m1, l1, e1, a1, b1⟩ := tl_step (f := 7) (s := 64) (n := 0) (by decide) hm (by decide) (by decide) (fun i h1 h2 => by omega) (fun i h1 h2 => by omega)
  obtain ⟨m2, l2, e2, a2, b2⟩ := tl_step (f := 6) (s := 32) (by decide) hm l1 (by decide) a1 b1
  obtain ⟨m3, l3, e3, a3, b3⟩ := tl_step (f := 5) (s := 16) (by decide) hm l2 (by decide) a2 b2
  obtain ⟨m4, l4, e4, a4, b4⟩ := tl_step (f := 4) (s := 8) (by decide) hm l3 (by decide) a3 b3
  obtain ⟨m5, l5, e5, a5, b5⟩ := tl_step (f := 3) (s := 4) (by decide) hm l4 (by decide) a4 b4
  obtain ⟨m6, l6, e6, a6, b6⟩ := tl_step (f := 2) (s := 2) (by decide) hm l5 (by decide) a5 b5
  obtain ⟨m7, l7, e7, a7, b7⟩ := tl_step (f := 1) (s := 1) (by decide) hm l6 (by decide) a6 b6
  refine ⟨m7, l7, ?_, a7, fun i h1 h2 => b7 i (by omega) h2⟩
  exact e1.trans (e2.trans (e3.trans (e4.trans (e5.trans (e6.trans (e7.trans (jc_tl_0 _ _ _ _)))))))
theorem dp_ok {dk : Int32 → Int32} {f : Nat → Int32} {z cs r : Int32} (hf : ∀ i : Nat, 1 ≤ i → i ≤ 100 → dk (nI i) = f i) (hm : ∀ a b : Nat, 1 ≤ a → a ≤ b → b ≤ 100 → f b < cs → f a < cs) (hz : z < cs) (hr : jm_deep f z cs r) :
    r = if 100 ≤ jc_tl dk cs 8 64 0 then (-1) else jc_tl dk cs 8 64 0 + 1 := by
  obtain ⟨m, hm1, e, a, b⟩ := tl_ok (dk := dk) (cs := cs) (fun x y h1 h2 h3 h4 => by rw [hf x h1 (by omega)]; rw [hf y (by omega) h3] at h4; exact hm x y h1 h2 h3 h4)
  rw [e]
  rcases hr with ⟨q, -⟩ | ⟨-, ⟨d, d1, d2, d3, d4, rfl⟩ | ⟨q, rfl⟩⟩
  · exact absurd hz q
  · have h1 : d = m + 1 := by
      rcases Nat.lt_trichotomy d (m + 1) with z | z | z
      · exact absurd (by rw [← hf d d1 d2]; exact a d d1 (by omega)) d4
      · exact z
      · exact absurd (by rw [hf (m + 1) (by omega) (by omega)]; exact d3 (m + 1) (by omega) z) (b (m + 1) (by omega) (by omega))
    subst h1
    have h9 : ¬ (100 : Int32) ≤ nI m := nI_ge (b := 100) (by omega) (by decide)
    rw [if_neg h9, nI_1]
  · have h1 : m = 100 := by
      rcases Nat.lt_or_ge m 100 with z | z
      · exact absurd (by rw [hf (m + 1) (by omega) (by omega)]; exact q (m + 1) (by omega) (by omega)) (b (m + 1) (by omega) (by omega))
      · omega
    subst h1
    rw [if_pos (by decide)]
/-- a deeper ledge darkens no fewer cells -/
theorem led_mono {bx tr su : Nat → Int32} {nb j m0 m1 m2 m3 a b : Nat} (hnb : nb ≤ 10) (hS : vS (su (3 * j)) (su (3 * j + 1)) (su (3 * j + 2))) (hZ : 0 < (su (3 * j + 2)).toInt) (hm : m0 < m2) (hm2 : m2 ≤ 60) (hm3 : m3 ≤ 60) (hab : a ≤ b) (hb : b ≤ 100) :
    jm_dark (jm_ledge bx m0 m3 m2 (nI a)) (upd tr 10 1) su nb (-1) 1 j m0 m1 m2 m3 ≤ jm_dark (jm_ledge bx m0 m3 m2 (nI b)) (upd tr 10 1) su nb (-1) 1 j m0 m1 m2 m3 := by
  have hB : ∀ d : Nat, d ≤ 100 → vB (nI m0) (nI m3) 0 (nI m2) (nI (m3 + 1)) (nI d) := fun d hd => by
    unfold vB
    rw [nI_toInt (n := m0) (by omega), nI_toInt (n := m2) (by omega), nI_toInt (n := m3) (by omega), nI_toInt (n := m3 + 1) (by omega), nI_toInt (n := d) (by omega), show (0 : Int32).toInt = 0 from rfl]
    omega
  unfold jm_dark
  refine cNN_imp fun y hy x hx => ?_
  unfold jm_D
  rw [any_ledge hnb, any_ledge hnb, ledge_b, ledge_b]
  rintro (q | q)
  · refine Or.inl ⟨q.1, ?_⟩
    have q2 := q.2
    have hBa := hB a (by omega)
    have hBb := hB b hb
    rw [on_ok hBb hS (by omega) (by omega), fq_eq hZ hBb.1.2.1 hBb.2.1.2.1 hBb.2.2.2.1]
    rw [on_ok hBa hS (by omega) (by omega), fq_eq hZ hBa.1.2.1 hBa.2.1.2.1 hBa.2.2.2.1] at q2
    refine fq_row_mono ?_ q2
    rw [nI_toInt (n := a) (by omega), nI_toInt (n := b) (by omega)]
    omega
  · exact Or.inr q
theorem led_lt {bx tr su : Nat → Int32} {nb j m0 m1 m2 m3 a b : Nat} {cs : Int32} (hnb : nb ≤ 10) (hS : vS (su (3 * j)) (su (3 * j + 1)) (su (3 * j + 2))) (hZ : 0 < (su (3 * j + 2)).toInt) (hm : m0 < m2) (hm2 : m2 ≤ 60) (hm3 : m3 ≤ 60) (hab : a ≤ b) (hb : b ≤ 100) (h : jm_led bx tr su nb j m0 m1 m2 m3 (nI b) < cs) : jm_led bx tr su nb j m0 m1 m2 m3 (nI a) < cs := by
  have h1 := led_mono (bx := bx) (tr := tr) (m1 := m1) hnb hS hZ hm hm2 hm3 hab hb
  unfold jm_led at h ⊢
  have h2 : jm_dark (jm_ledge bx m0 m3 m2 (nI b)) (upd tr 10 1) su nb (-1) 1 j m0 m1 m2 m3 ≤ (m2 - m0) * (m3 - m1) := cNN_le _ _ _
  have h3 : (m2 - m0) * (m3 - m1) ≤ 60 * 60 := Nat.mul_le_mul (by omega) (by omega)
  have h4 := nI_le h1 (by omega)
  rw [i_lt] at h ⊢
  rw [i_le] at h4
  omega
/-- allowed, said by both -/
theorem al_vB {x0 y0 z0 x1 y1 z1 : Int32} : ¬ jc_allowed x0 y0 z0 x1 y1 z1 = 0 ↔ vB x0 y0 z0 x1 y1 z1 := by
  have e1 : (-100 : Int32).toInt = -100 := rfl
  have e2 : (200 : Int32).toInt = 200 := rfl
  have e3 : (0 : Int32).toInt = 0 := rfl
  have e4 : (100 : Int32).toInt = 100 := rfl
  unfold jc_allowed vB
  simp only [i_lt, i_le, e1, e2, e3, e4]
  repeat' split
  all_goals first
    | exact ⟨fun q => absurd rfl q, fun q => absurd q (by omega)⟩
    | exact ⟨fun _ => by omega, fun _ => by decide⟩
theorem wi_in {n a b : Int32} : jc_within n a b = 0 ↔ ¬ (a.toInt ≤ n.toInt ∧ n.toInt ≤ b.toInt) := by
  unfold jc_within
  simp only [i_lt]
  split
  · exact ⟨fun _ => by omega, fun _ => rfl⟩
  · split
    · exact ⟨fun _ => by omega, fun _ => rfl⟩
    · exact ⟨fun q => absurd q (by decide), fun q => absurd q (by omega)⟩
theorem bx_vB {x0 y0 z0 x1 y1 z1 : Int32} : ¬ jm_isBox x0 y0 z0 x1 y1 z1 = 0 ↔ vB x0 y0 z0 x1 y1 z1 := by
  have e1 : (-100 : Int32).toInt = -100 := rfl
  have e2 : (200 : Int32).toInt = 200 := rfl
  have e3 : (0 : Int32).toInt = 0 := rfl
  have e4 : (100 : Int32).toInt = 100 := rfl
  unfold jm_isBox vB
  simp only [wi_in, i_lt, i_le, e1, e2, e3, e4]
  repeat' split
  all_goals first
    | exact ⟨fun q => absurd rfl q, fun q => absurd q (by omega)⟩
    | exact ⟨fun _ => by omega, fun _ => by decide⟩
/-- light -/
theorem lk_lit {nb wn : Nat} {bf : Nat → Nat → Int32} {bx tr su li : Nat → Int32} {j m0 m1 m2 m3 : Nat} (hv : vR nb bf bx tr) (hnb : nb ≤ 10) (hS : vS (su (3 * j)) (su (3 * j + 1)) (su (3 * j + 2))) (hw : 1 ≤ wn ∧ wn ≤ 60) (hm : m0 < m2) (hm2 : m2 ≤ wn) (hm3 : m3 ≤ 60) :
    jc_lightOf nb bf (su (3 * j)) (su (3 * j + 1)) (su (3 * j + 2)) (li j) (nI wn) m0 m1 m2 m3 = jm_lit bx tr su li nb (-1) m0 m1 m2 m3 j := by
  unfold jc_lightOf jm_lit
  by_cases h : su (3 * j + 2) = 0
  · rw [if_pos ((hs_0 hS.2.2.1).mpr h), if_pos h]
  · have h1 : ¬ jc_hasSun (su (3 * j + 2)) = 0 := fun q => h ((hs_0 hS.2.2.1).mp q)
    rw [if_neg h1, if_neg h, lk_dark0 hv hnb hS (hs_pos h1) hw hm hm2 hm3]
theorem sum_congr {f g : Nat → Int32} {n : Nat} (h : ∀ i, i < n → f i = g i) : jc_sum f n = jc_sum g n := by
  induction n with
  | zero => rfl
  | succ n ih => rw [jc_sum_s, jc_sum_s, ih fun i hi => h i (by omega), h n (by omega)]
theorem best_congr {f g : Nat → Int32} {n : Nat} (h : ∀ i, i < n → f i = g i) : jc_best f n = jc_best g n := by
  induction n with
  | zero => rfl
  | succ n ih => rw [jc_best_s, jc_best_s, ih fun i hi => h i (by omega), h n (by omega)]
theorem best_pos (f : Nat → Int32) (n : Nat) : 0 ≤ (jc_best f n).2 := by
  induction n with
  | zero => show (0 : Int32) ≤ 0; decide
  | succ n ih =>
    rw [jc_best_s]
    split
    · exact ih
    · rename_i h
      rw [i_le] at *
      show (0 : Int32).toInt ≤ (f n).toInt
      omega
theorem best_0 {f : Nat → Int32} {n m : Nat} (h : ∀ i, n ≤ i → f i = 0) : jc_best f (n + m) = jc_best f n := by
  induction m with
  | zero => rfl
  | succ m ih =>
    rw [← Nat.add_assoc, jc_best_s, ih, if_pos (by rw [h (n + m) (by omega)]; exact best_pos f n)]
