/-! worst: the two scratch arrays -/
def gST (k : Nat → ClassId) (G : Nat → Option va_E) (aS aT : Nat) (sh : Nat → Int64) (tk : Nat → Int32) : Nat → Option va_E := gs_u (gs_u G aS (aLong (k 1) 10 sh)) aT (aInt (k 0) 10 tk)
section ST
variable {k : Nat → ClassId} {G : Nat → Option va_E} {o aB aW aH aS aT wn hn nb nw : Nat} {ba wa ha : Nat → Nat} {bf hf : Nat → Nat → Int32} {wf : Nat → Nat → Nat} {sh sh2 : Nat → Int64} {tk tk2 : Nat → Int32}
theorem sC.ne (h : sC k G o aB aW aH aS aT wn hn nb nw ba wa ha bf hf wf sh tk) : aS ≠ aT := gs_ne h.1.2.2.2.2.1 h.1.2.2.2.2.2 (by simp)
theorem gST_S (hne : aS ≠ aT) : gs_u (gST k G aS aT sh tk) aS (aLong (k 1) 10 sh2) = gST k G aS aT sh2 tk := by
  unfold gST
  rw [gs_comm (fun z => hne z.symm), gs_uu]
theorem gST_T : gs_u (gST k G aS aT sh tk) aT (aInt (k 0) 10 tk2) = gST k G aS aT sh tk2 := by
  unfold gST
  rw [gs_uu]
theorem gST_S2 (hne : aS ≠ aT) : gST k (gST k G aS aT sh tk) aS aT sh2 tk2 = gST k G aS aT sh2 tk2 := by
  show gs_u (gs_u (gST k G aS aT sh tk) aS (aLong (k 1) 10 sh2)) aT (aInt (k 0) 10 tk2) = _
  rw [gST_S hne, gST_T]
theorem gST_id (h : sC k G o aB aW aH aS aT wn hn nb nw ba wa ha bf hf wf sh tk) : gST k G aS aT sh tk = G := by
  unfold gST
  rw [gs_id h.1.2.2.2.2.1, gs_id h.1.2.2.2.2.2]
theorem sC_ST (h : sC k G o aB aW aH aS aT wn hn nb nw ba wa ha bf hf wf sh tk) (sh2 : Nat → Int64) (tk2 : Nat → Int32) : sC k (gST k G aS aT sh2 tk2) o aB aW aH aS aT wn hn nb nw ba wa ha bf hf wf sh2 tk2 := sC_T (sC_S h sh2) tk2
theorem gST_keep (h : sC k G o aB aW aH aS aT wn hn nb nw ba wa ha bf hf wf sh tk) {b : Nat} {e : va_E} (hb : G b = some e) (h1 : e ≠ aLong (k 1) 10 sh) (h2 : e ≠ aInt (k 0) 10 tk) : gST k G aS aT sh2 tk2 b = some e := by
  unfold gST
  exact gs_keep (gs_keep hb h.1.2.2.2.2.1 h1) (sC_S h sh2).1.2.2.2.2.2 h2
end ST
def jc_tk (nb : Nat) (bf : Nat → Nat → Int32) (X Y Z am w : Int32) (m0 m1 m2 j i : Nat) : Int32 := am * jc_bits (jc_shi nb bf X Y Z (nI (m1 + j)) w i &&& (jc_cells (nI m0) (nI m2 - 1) &&& jc_alone (jc_shi nb bf X Y Z (nI (m1 + j)) w)))
def jc_tks (nb : Nat) (bf : Nat → Nat → Int32) (X Y Z am w : Int32) (m0 m1 m2 n i : Nat) : Int32 := jc_sum (fun j => jc_tk nb bf X Y Z am w m0 m1 m2 j i) n
def jc_tkh (nb : Nat) (bf : Nat → Nat → Int32) (X Y Z am w : Int32) (m0 m1 m2 m3 i : Nat) : Int32 := if jc_hasSun Z = 0 then 0 else if am ≤ 0 then 0 else jc_tks nb bf X Y Z am w m0 m1 m2 (m3 - m1) i
def jc_tkd (nb : Nat) (bf : Nat → Nat → Int32) (hf : Nat → Nat → Int32) (w : Int32) (m0 m1 m2 m3 n i : Nat) : Int32 := jc_sum (fun h => jc_tkh nb bf (hf h 0) (hf h 1) (hf h 2) (hf h 3) w m0 m1 m2 m3 i) n
theorem i_assoc (a b c : Int32) : a + b + c = a + (b + c) := Int32.add_assoc a b c
theorem i_add0 (a : Int32) : a + 0 = a := Int32.add_zero a
theorem i_0add (a : Int32) : 0 + a = a := Int32.zero_add a
