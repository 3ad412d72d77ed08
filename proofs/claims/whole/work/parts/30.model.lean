/-! The reference: its state as the map has it, and its methods as functions -/
abbrev oMd (th : Int32) (wn hn nb nw : Nat) (cB cT cS cL cW : Nat) (l1 l2 l3 l4 : Int64) : va_E := .inr (4, [.int th, .int (nI wn), .int (nI hn), .int (nI nb), .ref cB, .ref cT, .ref cS, .ref cL, .int (nI nw), .ref cW, .long l1, .long l2, .long l3, .long l4])
def sM (k : Nat → ClassId) (G : Nat → Option va_E) (mo cB cT cS cL cW : Nat) (th : Int32) (wn hn nb nw : Nat) (bx tr su li wi : Nat → Int32) (l1 l2 l3 l4 : Int64) : Prop :=
  G mo = some (oMd th wn hn nb nw cB cT cS cL cW l1 l2 l3 l4) ∧ G cB = some (aInt (k 0) 66 bx) ∧ G cT = some (aInt (k 2) 11 tr) ∧ G cS = some (aInt (k 0) 72 su) ∧ G cL = some (aInt (k 0) 24 li) ∧ G cW = some (aInt (k 0) 40 wi)
theorem sM_o {k : Nat → ClassId} {G : Nat → Option va_E} {mo cB cT cS cL cW : Nat} {th : Int32} {wn hn nb nw : Nat} {bx tr su li wi : Nat → Int32} {l1 l2 l3 l4 : Int64} (h : sM k G mo cB cT cS cL cW th wn hn nb nw bx tr su li wi l1 l2 l3 l4) (th2 : Int32) (nb2 nw2 : Nat) (m1 m2 m3 m4 : Int64) : sM k (gs_u G mo (oMd th2 wn hn nb2 nw2 cB cT cS cL cW m1 m2 m3 m4)) mo cB cT cS cL cW th2 wn hn nb2 nw2 bx tr su li wi m1 m2 m3 m4 := by
  obtain ⟨h1, h2, h3, h4, h5, h6⟩ := h
  exact ⟨gs_us _ _ _, gs_keep h2 h1 (by simp), gs_keep h3 h1 (by simp), gs_keep h4 h1 (by simp), gs_keep h5 h1 (by simp), gs_keep h6 h1 (by simp)⟩
def jm_A (l : Int64 × Int64) (a b : Int64) : Int64 × Int64 := if a * l.2 ≤ l.1 * b then l else (a, b)
def jm_B (h : Int64 × Int64) (a b : Int64) : Int64 × Int64 := if h.1 * b ≤ a * h.2 then h else (a, b)
def jm_may (m g f t : Int64) (q : (Int64 × Int64) × (Int64 × Int64)) : Int32 × (Int64 × Int64) × (Int64 × Int64) :=
  if g = 0 then ((if m < f then 0 else if t < m then 0 else 1), q) else if g ≤ 0 then (1, jm_A q.1 (f - m) (-g), jm_B q.2 (t - m) (-g)) else (1, jm_A q.1 (m - t) g, jm_B q.2 (m - f) g)
def jm_p1 (x0 z0 x1 z1 X Z x : Int32) : Int32 × (Int64 × Int64) × (Int64 × Int64) := jm_may ((2 * x.toInt64 + 1) * Z.toInt64) (2 * X.toInt64) (2 * Z.toInt64 * x0.toInt64) (2 * Z.toInt64 * x1.toInt64) ((z0.toInt64, 1), (z1.toInt64, 1))
def jm_p2 (x0 y0 z0 x1 y1 z1 X Y Z x y : Int32) : Int32 × (Int64 × Int64) × (Int64 × Int64) := jm_may ((2 * y.toInt64 + 1) * Z.toInt64) (2 * Y.toInt64) (2 * Z.toInt64 * y0.toInt64) (2 * Z.toInt64 * y1.toInt64) (jm_p1 x0 z0 x1 z1 X Z x).2
def jm_on (x0 y0 z0 x1 y1 z1 X Y Z x y : Int32) : Int32 :=
  if (jm_p1 x0 z0 x1 z1 X Z x).1 = 0 then 0 else if (jm_p2 x0 y0 z0 x1 y1 z1 X Y Z x y).1 = 0 then 0 else if (jm_p2 x0 y0 z0 x1 y1 z1 X Y Z x y).2.2.1 * (jm_p2 x0 y0 z0 x1 y1 z1 X Y Z x y).2.1.2 < (jm_p2 x0 y0 z0 x1 y1 z1 X Y Z x y).2.1.1 * (jm_p2 x0 y0 z0 x1 y1 z1 X Y Z x y).2.2.2 then 0 else 1
/-- of box b in the reference's own arrays -/
def jm_b (bx su : Nat → Int32) (b t : Nat) (x y : Int32) : Int32 := jm_on (bx (6 * b)) (bx (6 * b + 1)) (bx (6 * b + 2)) (bx (6 * b + 3)) (bx (6 * b + 4)) (bx (6 * b + 5)) (su (3 * t)) (su (3 * t + 1)) (su (3 * t + 2)) x y
noncomputable def pI (P : Prop) : Int32 := @ite Int32 P (Classical.propDecidable P) 1 0
theorem pI_t {P : Prop} (h : P) : pI P = 1 := by unfold pI; exact if_pos h
theorem pI_f {P : Prop} (h : ¬ P) : pI P = 0 := by unfold pI; exact if_neg h
noncomputable def pN (P : Prop) : Nat := @ite Nat P (Classical.propDecidable P) 1 0
theorem pN_t {P : Prop} (h : P) : pN P = 1 := by unfold pN; exact if_pos h
theorem pN_f {P : Prop} (h : ¬ P) : pN P = 0 := by unfold pN; exact if_neg h
theorem pI_0 {P : Prop} : pI P = 0 ↔ ¬ P := by
  by_cases h : P
  · rw [pI_t h]; exact ⟨fun q => absurd q (by decide), fun q => absurd h q⟩
  · rw [pI_f h]; exact ⟨fun _ => h, fun _ => rfl⟩
theorem pI_01 (P : Prop) : pI P = 0 ∨ pI P = 1 := by
  by_cases h : P
  · exact Or.inr (pI_t h)
  · exact Or.inl (pI_f h)
theorem jm_on01 (x0 y0 z0 x1 y1 z1 X Y Z x y : Int32) : jm_on x0 y0 z0 x1 y1 z1 X Y Z x y = 0 ∨ jm_on x0 y0 z0 x1 y1 z1 X Y Z x y = 1 := by
  unfold jm_on
  split
  · exact Or.inl rfl
  · split
    · exact Or.inl rfl
    · split
      · exact Or.inl rfl
      · exact Or.inr rfl
/-- one of the first n boxes, but one, throws its shadow there -/
def jm_any (bx tr su : Nat → Int32) (wo : Int32) (t : Nat) (x y : Int32) (n : Nat) : Prop := ∃ b : Nat, b < n ∧ ¬ tr b = 0 ∧ ¬ nI b = wo ∧ ¬ jm_b bx su b t x y = 0
def jm_D (bx tr su : Nat → Int32) (nb : Nat) (wo le : Int32) (t : Nat) (x y : Int32) : Prop := (¬ le = 0 ∧ ¬ jm_b bx su 10 t x y = 0) ∨ jm_any bx tr su wo t x y nb
noncomputable def cN (P : Nat → Prop) : Nat → Nat
  | 0 => 0
  | i + 1 => cN P i + pN (P i)
noncomputable def cNN (P : Nat → Nat → Prop) (n : Nat) : Nat → Nat
  | 0 => 0
  | j + 1 => cNN P n j + cN (P j) n
theorem cN_le (P : Nat → Prop) (n : Nat) : cN P n ≤ n := by
  induction n with
  | zero => exact Nat.le_refl 0
  | succ n ih =>
    rw [cN]
    by_cases h : P n
    · rw [pN_t h]; omega
    · rw [pN_f h]; omega
theorem cNN_le (P : Nat → Nat → Prop) (n m : Nat) : cNN P n m ≤ n * m := by
  induction m with
  | zero => exact Nat.le_refl 0
  | succ m ih =>
    rw [cNN, Nat.mul_succ]
    have := cN_le (P m) n
    omega
section TE
variable {p : Program} {l : Launch} {e : Env} {R : Room} {s : State} {m : MethodId} {args : Array Value} {below : List Frame} {meth : Method} {c : Code} {H : Heap} {locs : List Loc} {cells slots : Nat} {Q : State → Prop} {pc : Nat} {ls : Array Slot} {rest : List Value}
theorem lv_topE {x y : Int32} (h : x = y) (k : W p l e R s m args below meth c H locs cells slots Q (F0 m pc ls (.int y :: rest))) : W p l e R s m args below meth c H locs cells slots Q (F0 m pc ls (.int x :: rest)) := h ▸ k
end TE
def jm_noB (b : Int32) (nb : Nat) : Int32 := if b < 0 then 1 else if b < nI nb then 0 else 1
def jm_noH (t : Int32) : Int32 := if t < 0 then 1 else if t ≤ 23 then 0 else 1
def jm_isBox (x0 y0 z0 x1 y1 z1 : Int32) : Int32 := if jc_within x0 (-100) 200 = 0 then 0 else if jc_within y0 (-100) 200 = 0 then 0 else if jc_within x1 (-100) 200 = 0 then 0 else if jc_within y1 (-100) 200 = 0 then 0 else if jc_within z0 0 100 = 0 then 0 else if jc_within z1 0 100 = 0 then 0 else if x1 ≤ x0 then 0 else if y1 ≤ y0 then 0 else if z1 < z0 then 0 else 1
