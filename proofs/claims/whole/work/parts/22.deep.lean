/-! the search for the depth; the boxes' own shades -/
def jc_tl (dk : Int32 → Int32) (cs : Int32) : Nat → Nat → Int32 → Int32
  | 0, _, tl => tl
  | f + 1, s, tl => if s = 0 then tl else if 100 < tl + nI s then jc_tl dk cs f (s / 2) tl else if cs ≤ dk (tl + nI s) then jc_tl dk cs f (s / 2) tl else jc_tl dk cs f (s / 2) (tl + nI s)
theorem jc_tl_0 (dk : Int32 → Int32) (cs : Int32) (f : Nat) (tl : Int32) : jc_tl dk cs f 0 tl = tl := by
  cases f with
  | zero => rfl
  | succ f => rw [jc_tl, if_pos rfl]
theorem jc_tl_s (dk : Int32 → Int32) (cs : Int32) (f s : Nat) (tl : Int32) (hs : ¬ s = 0) : jc_tl dk cs (f + 1) s tl = if 100 < tl + nI s then jc_tl dk cs f (s / 2) tl else if cs ≤ dk (tl + nI s) then jc_tl dk cs f (s / 2) tl else jc_tl dk cs f (s / 2) (tl + nI s) := by
  rw [jc_tl, if_neg hs]
def jc_shi (nb : Nat) (bf : Nat → Nat → Int32) (X Y Z y w : Int32) (i : Nat) : Int64 := if i < nb then jc_shade (bf i 6) (bf i 0) (bf i 1) (bf i 2) (bf i 3) (bf i 4) (bf i 5) X Y Z y w else 0
def jc_one (f : Nat → Int64) : Nat → Int64
  | 0 => 0
  | i + 1 => jc_one f i ||| f i
def jc_more (f : Nat → Int64) : Nat → Int64
  | 0 => 0
  | i + 1 => jc_more f i ||| (jc_one f i &&& f i)
def jc_alone (f : Nat → Int64) : Int64 := jc_one f 10 &&& (jc_more f 10 ^^^ (-1))
theorem lt_nI {a b : Nat} (ha : a < 2 ^ 31) (hb : b < 2 ^ 31) (h : nI a < nI b) : a < b := (nI_ltI ha hb).mp h
theorem nlt_nI {a b : Nat} (hb : b < 2 ^ 31) (h : ¬ nI a < nI b) : ¬ a < b := fun q => h (nI_lt q hb)
theorem pos_nI {s : Nat} (hs : s < 2 ^ 31) (h : ¬ nI s ≤ 0) : ¬ s = 0 := fun q => h (by rw [q]; decide)
theorem npos_nI {s : Nat} (hs : s < 2 ^ 31) (h : nI s ≤ 0) : s = 0 := by
  rcases Nat.eq_zero_or_pos s with q | q
  · exact q
  · exact absurd h (nI_nle q hs)
theorem tl_f {s f : Nat} (h : s < 2 ^ f) (hs : ¬ s = 0) : ∃ z, f = z + 1 := by
  cases f with
  | zero => simp at h; omega
  | succ z => exact ⟨z, rfl⟩
theorem upL_all {f g : Nat → Int64} {i : Nat} {x : Int64} (h3 : ∀ j, j < i → f j = g j) (hx : x = g i) : ∀ j, j < i + 1 → vp_updL f i x j = g j := fun j hj => by
  by_cases hji : j = i
  · subst hji
    rw [pk_uLs, hx]
  · rw [pk_uLn hji]
    exact h3 j (by omega)
theorem upI_all {f g : Nat → Int32} {i : Nat} {x : Int32} (h3 : ∀ j, j < i → f j = g j) (hx : x = g i) : ∀ j, j < i + 1 → upd f i x j = g j := fun j hj => by
  by_cases hji : j = i
  · subst hji
    rw [pk_us, hx]
  · rw [pk_un hji]
    exact h3 j (by omega)
