/-! the two objects and the law's own array side by side: which writes leave which -/
def kd (e : va_E) : Nat := match e with
  | .inr (ci, _) => ci
  | .inl (_, n, .inl _) => 100 + n
  | .inl (_, n, .inr (.inl _)) => 1000 + n
  | .inl (_, n, .inr (.inr _)) => 5000 + n
theorem kd_keep {G : Nat → Option va_E} {a b : Nat} {e f g : va_E} (hb : G b = some f) (ha : G a = some e) (h : kd f ≠ kd e) : gs_u G a g b = some f := gs_keep hb ha (fun q => h (by rw [q]))
def ofC (n : Nat) : Prop := n = 0 ∨ n = 1 ∨ n = 2 ∨ n = 3 ∨ n = 5010 ∨ n = 5024 ∨ n = 1010 ∨ n = 110
def ofM (n : Nat) : Prop := n = 4 ∨ n = 166 ∨ n = 111 ∨ n = 172 ∨ n = 124 ∨ n = 140
section KP
variable {k : Nat → ClassId} {G G2 : Nat → Option va_E} {o aB aW aH aS aT wn hn nb nw : Nat} {ba wa ha : Nat → Nat} {bf hf : Nat → Nat → Int32} {wf : Nat → Nat → Nat} {sh : Nat → Int64} {tk : Nat → Int32} {mo cB cT cS cL cW : Nat} {th : Int32} {bx tr su li wi : Nat → Int32} {l1 l2 l3 l4 : Int64}
theorem sC.keep (h : sC k G o aB aW aH aS aT wn hn nb nw ba wa ha bf hf wf sh tk) (hq : ∀ (b : Nat) (e : va_E), G b = some e → ofC (kd e) → G2 b = some e) : sC k G2 o aB aW aH aS aT wn hn nb nw ba wa ha bf hf wf sh tk := by
  obtain ⟨⟨h1, h2, h3, h4, h5, h6⟩, h7, h8, h9, h10, h11⟩ := h
  exact ⟨⟨hq _ _ h1 (by simp [ofC, kd]), hq _ _ h2 (by simp [ofC, kd]), hq _ _ h3 (by simp [ofC, kd]), hq _ _ h4 (by simp [ofC, kd]), hq _ _ h5 (by simp [ofC, kd]), hq _ _ h6 (by simp [ofC, kd])⟩, h7, fun i hi => hq _ _ (h8 i hi) (by simp [ofC, kd]), fun i hi => hq _ _ (h9 i hi) (by simp [ofC, kd]), fun i hi => hq _ _ (h10 i hi) (by simp [ofC, kd]), h11⟩
theorem sM.keep (h : sM k G mo cB cT cS cL cW th wn hn nb nw bx tr su li wi l1 l2 l3 l4) (hq : ∀ (b : Nat) (e : va_E), G b = some e → ofM (kd e) → G2 b = some e) : sM k G2 mo cB cT cS cL cW th wn hn nb nw bx tr su li wi l1 l2 l3 l4 := by
  obtain ⟨h1, h2, h3, h4, h5, h6⟩ := h
  exact ⟨hq _ _ h1 (by simp [ofM, kd]), hq _ _ h2 (by simp [ofM, kd]), hq _ _ h3 (by simp [ofM, kd]), hq _ _ h4 (by simp [ofM, kd]), hq _ _ h5 (by simp [ofM, kd]), hq _ _ h6 (by simp [ofM, kd])⟩
theorem sC_k {a n : Nat} {e g : va_E} (h : sC k G o aB aW aH aS aT wn hn nb nw ba wa ha bf hf wf sh tk) (hA : G a = some e) (hn2 : kd e = n) (h2 : ¬ ofC n) : sC k (gs_u G a g) o aB aW aH aS aT wn hn nb nw ba wa ha bf hf wf sh tk := h.keep fun b f hb hf => kd_keep hb hA (fun q => h2 (by rw [← hn2, ← q]; exact hf))
theorem sM_k {a n : Nat} {e g : va_E} (h : sM k G mo cB cT cS cL cW th wn hn nb nw bx tr su li wi l1 l2 l3 l4) (hA : G a = some e) (hn2 : kd e = n) (h2 : ¬ ofM n) : sM k (gs_u G a g) mo cB cT cS cL cW th wn hn nb nw bx tr su li wi l1 l2 l3 l4 := h.keep fun b f hb hf => kd_keep hb hA (fun q => h2 (by rw [← hn2, ← q]; exact hf))
theorem sM_at {q : Nat} {e : va_E} (h : sM k G mo cB cT cS cL cW th wn hn nb nw bx tr su li wi l1 l2 l3 l4) (hq : G q = none) : sM k (gs_u G q e) mo cB cT cS cL cW th wn hn nb nw bx tr su li wi l1 l2 l3 l4 := h.keep fun b f hb _ => gs_keepN hb hq
end KP
/-- all that the law has in hand between two calls -/
def InvT (k : Nat → ClassId) (G : Nat → Option va_E) (o mo out : Nat) (th : Int32) (ou : Nat → Int64) : Prop :=
  ∃ (aB aW aH aS aT wn hn nb nw : Nat) (ba wa ha : Nat → Nat) (bf hf : Nat → Nat → Int32) (wf : Nat → Nat → Nat) (sh : Nat → Int64) (tk : Nat → Int32) (cB cT cS cL cW : Nat) (bx tr su li wi : Nat → Int32) (l1 l2 l3 l4 : Int64),
    sC k G o aB aW aH aS aT wn hn nb nw ba wa ha bf hf wf sh tk ∧ sM k G mo cB cT cS cL cW th wn hn nb nw bx tr su li wi l1 l2 l3 l4 ∧ vR nb bf bx tr ∧ hR hf su li ∧ jm_Wf nw wi wf ∧ G out = some (aLong (k 1) 1 ou)
/-- a wrapper's answer: 0 and the array's new element, or the throw's number -/
def wr_post (PC : Option Value → (Nat → Option va_E) → Prop) (TC : String → Prop) (k : Nat → ClassId) (G : Nat → Option va_E) (out : Nat) (ou : Nat → Int64) (f : Int32 → Int64) : Option Value → (Nat → Option va_E) → Prop := fun v G1 =>
  (∃ (v0 : Int32) (G0 : Nat → Option va_E), PC (some (.int v0)) G0 ∧ v = some (.int 0) ∧ G1 = gs_u G0 out (aLong (k 1) 1 (vp_updL ou 0 (f v0)))) ∨ (TC e_IA ∧ v = some (.int 1) ∧ G1 = G) ∨ (TC e_IS ∧ v = some (.int 2) ∧ G1 = G)
def f_i : Int32 → Int64 := fun x => x.toInt64
def f_z : Int32 → Int64 := fun x => if x = 0 then 0 else 1
theorem e_ne : ¬ e_IS = e_IA := by decide
theorem e_ne' : ¬ e_IA = e_IS := by decide
abbrev wMW (y : MethodName) (cc : ByteArray) (n : Nat) (ret : Option FieldType) (hh : List (Nat × Nat × Nat × Nat)) : List Cond := Cond.codeWith y cc n ret hh :: wW
theorem gi_MW {y : MethodName} {cc : ByteArray} {n : Nat} {ret : Option FieldType} {hh : List (Nat × Nat × Nat × Nat)} (hc : Cond.codeWith y cc n ret hh ∈ wW) : ∀ w ∈ wMW y cc n ret hh, w ∈ wW := fun w h => (List.mem_cons.mp h).elim (fun e => e ▸ hc) id
