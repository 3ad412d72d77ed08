/-! maps: writes that fall together, cells that stay -/
theorem gs_uu (G : Nat → Option va_E) (a : Nat) (e f : va_E) : gs_u (gs_u G a e) a f = gs_u G a f := by
  funext q
  unfold gs_u
  split <;> rfl
theorem gs_comm {G : Nat → Option va_E} {a b : Nat} (h : a ≠ b) (e f : va_E) : gs_u (gs_u G a e) b f = gs_u (gs_u G b f) a e := by
  funext q
  unfold gs_u
  by_cases h1 : q = b
  · subst h1
    rw [if_pos rfl, if_neg (fun z => h z.symm), if_pos rfl]
  · rw [if_neg h1]
    split <;> rfl
theorem gs_id {G : Nat → Option va_E} {a : Nat} {e : va_E} (h : G a = some e) : gs_u G a e = G := by
  funext q
  unfold gs_u
  split
  · rename_i z; rw [z, h]
  · rfl
theorem gs_keepN {G : Nat → Option va_E} {q b : Nat} {e f : va_E} (hb : G b = some f) (hq : G q = none) : gs_u G q e b = some f := by
  have : b ≠ q := fun z => by rw [z, hq] at hb; cases hb
  rw [gs_un this, hb]
theorem sC.mono {k : Nat → ClassId} {G G2 : Nat → Option va_E} {o aB aW aH aS aT wn hn nb nw : Nat} {ba wa ha : Nat → Nat} {bf hf : Nat → Nat → Int32} {wf : Nat → Nat → Nat} {sh : Nat → Int64} {tk : Nat → Int32} (h : sC k G o aB aW aH aS aT wn hn nb nw ba wa ha bf hf wf sh tk) (hq : ∀ (b : Nat) (e : va_E), G b = some e → G2 b = some e) : sC k G2 o aB aW aH aS aT wn hn nb nw ba wa ha bf hf wf sh tk := by
  obtain ⟨⟨h1, h2, h3, h4, h5, h6⟩, h7, h8, h9, h10, h11⟩ := h
  exact ⟨⟨hq _ _ h1, hq _ _ h2, hq _ _ h3, hq _ _ h4, hq _ _ h5, hq _ _ h6⟩, h7, fun i hi => hq _ _ (h8 i hi), fun i hi => hq _ _ (h9 i hi), fun i hi => hq _ _ (h10 i hi), h11⟩
theorem sC_at {k : Nat → ClassId} {G : Nat → Option va_E} {o aB aW aH aS aT wn hn nb nw : Nat} {ba wa ha : Nat → Nat} {bf hf : Nat → Nat → Int32} {wf : Nat → Nat → Nat} {sh : Nat → Int64} {tk : Nat → Int32} (h : sC k G o aB aW aH aS aT wn hn nb nw ba wa ha bf hf wf sh tk) {q : Nat} {e : va_E} (hq : G q = none) : sC k (gs_u G q e) o aB aW aH aS aT wn hn nb nw ba wa ha bf hf wf sh tk := h.mono fun _ _ hb => gs_keepN hb hq
theorem sC_S {k : Nat → ClassId} {G : Nat → Option va_E} {o aB aW aH aS aT wn hn nb nw : Nat} {ba wa ha : Nat → Nat} {bf hf : Nat → Nat → Int32} {wf : Nat → Nat → Nat} {sh : Nat → Int64} {tk : Nat → Int32} (h : sC k G o aB aW aH aS aT wn hn nb nw ba wa ha bf hf wf sh tk) (sh2 : Nat → Int64) : sC k (gs_u G aS (aLong (k 1) 10 sh2)) o aB aW aH aS aT wn hn nb nw ba wa ha bf hf wf sh2 tk := by
  obtain ⟨⟨h1, h2, h3, h4, h5, h6⟩, h7, h8, h9, h10, h11⟩ := h
  exact ⟨⟨gs_keep h1 h5 (by simp), gs_keep h2 h5 (by simp), gs_keep h3 h5 (by simp), gs_keep h4 h5 (by simp), gs_us _ _ _, gs_keep h6 h5 (by simp)⟩, h7, fun i hi => gs_keep (h8 i hi) h5 (by simp), fun i hi => gs_keep (h9 i hi) h5 (by simp), fun i hi => gs_keep (h10 i hi) h5 (by simp), h11⟩
theorem sC_T {k : Nat → ClassId} {G : Nat → Option va_E} {o aB aW aH aS aT wn hn nb nw : Nat} {ba wa ha : Nat → Nat} {bf hf : Nat → Nat → Int32} {wf : Nat → Nat → Nat} {sh : Nat → Int64} {tk : Nat → Int32} (h : sC k G o aB aW aH aS aT wn hn nb nw ba wa ha bf hf wf sh tk) (tk2 : Nat → Int32) : sC k (gs_u G aT (aInt (k 0) 10 tk2)) o aB aW aH aS aT wn hn nb nw ba wa ha bf hf wf sh tk2 := by
  obtain ⟨⟨h1, h2, h3, h4, h5, h6⟩, h7, h8, h9, h10, h11⟩ := h
  exact ⟨⟨gs_keep h1 h6 (by simp), gs_keep h2 h6 (by simp), gs_keep h3 h6 (by simp), gs_keep h4 h6 (by simp), gs_keep h5 h6 (by simp), gs_us _ _ _⟩, h7, fun i hi => gs_keep (h8 i hi) h6 (by simp), fun i hi => gs_keep (h9 i hi) h6 (by simp), fun i hi => gs_keep (h10 i hi) h6 (by simp), h11⟩
theorem jw_01 (n a b : Int32) : jc_within n a b = 0 ∨ jc_within n a b = 1 := by
  unfold jc_within
  split
  · exact Or.inl rfl
  · split
    · exact Or.inl rfl
    · exact Or.inr rfl
theorem nar01 {x : Int32} (h : x = 0 ∨ x = 1) : narrow .boolean (.int x) = .int x := by
  rcases h with rfl | rfl <;> rfl
theorem fit01 {x : Int32} (h : x = 0 ∨ x = 1) : fits .boolean (.int x) = true := by
  rcases h with rfl | rfl <;> rfl
theorem vpn01 {x : Int32} (h : x = 0 ∨ x = 1) : vp_nar .boolean x = x := by
  rcases h with rfl | rfl <;> rfl
