/-! writers: the states behind them -/
def updB (bf : Nat → Nat → Int32) (i : Nat) (g : Nat → Int32) : Nat → Nat → Int32 := fun a => if a = i then g else bf a
theorem updB_s (bf : Nat → Nat → Int32) (i : Nat) (g : Nat → Int32) : updB bf i g i = g := by simp [updB]
theorem updB_n {bf : Nat → Nat → Int32} {i a : Nat} {g : Nat → Int32} (h : ¬ a = i) : updB bf i g a = bf a := by simp [updB, h]
def updW (wf : Nat → Nat → Nat) (i : Nat) (g : Nat → Nat) : Nat → Nat → Nat := fun a => if a = i then g else wf a
theorem updW_s (wf : Nat → Nat → Nat) (i : Nat) (g : Nat → Nat) : updW wf i g i = g := by simp [updW]
theorem updW_n {wf : Nat → Nat → Nat} {i a : Nat} {g : Nat → Nat} (h : ¬ a = i) : updW wf i g a = wf a := by simp [updW, h]
section WS
variable {k : Nat → ClassId} {G : Nat → Option va_E} {o aB aW aH aS aT wn hn nb nw : Nat} {ba wa ha : Nat → Nat} {bf hf : Nat → Nat → Int32} {wf : Nat → Nat → Nat} {sh : Nat → Int64} {tk : Nat → Int32} {mo cB cT cS cL cW : Nat} {th : Int32} {bx tr su li wi : Nat → Int32} {l1 l2 l3 l4 : Int64} {out : Nat} {ou : Nat → Int64}
theorem sC_box (h : sC k G o aB aW aH aS aT wn hn nb nw ba wa ha bf hf wf sh tk) {i : Nat} (hi : i < nb) (g : Nat → Int32) : sC k (gs_u G (ba i) (oBx g)) o aB aW aH aS aT wn hn nb nw ba wa ha (updB bf i g) hf wf sh tk := by
  obtain ⟨⟨h1, h2, h3, h4, h5, h6⟩, h7, h8, h9, h10, h11, h12⟩ := h
  have hb := h8 i hi
  refine ⟨⟨kd_keep h1 hb (by simp [kd]), kd_keep h2 hb (by simp [kd]), kd_keep h3 hb (by simp [kd]), kd_keep h4 hb (by simp [kd]), kd_keep h5 hb (by simp [kd]), kd_keep h6 hb (by simp [kd])⟩, h7, fun a ha2 => ?_, fun a ha2 => kd_keep (h9 a ha2) hb (by simp [kd]), fun a ha2 => kd_keep (h10 a ha2) hb (by simp [kd]), h11, h12⟩
  by_cases e : a = i
  · subst e
    rw [updB_s]
    exact gs_us _ _ _
  · rw [updB_n e, gs_un (fun q => e (h11 a i ha2 hi q))]
    exact h8 a ha2
theorem sC_hour (h : sC k G o aB aW aH aS aT wn hn nb nw ba wa ha bf hf wf sh tk) {i : Nat} (hi : i < 24) (g : Nat → Int32) : sC k (gs_u G (ha i) (oHr g)) o aB aW aH aS aT wn hn nb nw ba wa ha bf (updB hf i g) wf sh tk := by
  obtain ⟨⟨h1, h2, h3, h4, h5, h6⟩, h7, h8, h9, h10, h11, h12, h13⟩ := h
  have hb := h10 i hi
  refine ⟨⟨kd_keep h1 hb (by simp [kd]), kd_keep h2 hb (by simp [kd]), kd_keep h3 hb (by simp [kd]), kd_keep h4 hb (by simp [kd]), kd_keep h5 hb (by simp [kd]), kd_keep h6 hb (by simp [kd])⟩, h7, fun a ha2 => kd_keep (h8 a ha2) hb (by simp [kd]), fun a ha2 => kd_keep (h9 a ha2) hb (by simp [kd]), fun a ha2 => ?_, h11, h12, h13⟩
  by_cases e : a = i
  · subst e
    rw [updB_s]
    exact gs_us _ _ _
  · rw [updB_n e, gs_un (fun q => e (h12 a i ha2 hi q))]
    exact h10 a ha2
theorem sC_newbox (h : sC k G o aB aW aH aS aT wn hn nb nw ba wa ha bf hf wf sh tk) (hk : k 3 ≠ k 4) {q : Nat} (hq : G q = none) (hn2 : nb < 10) (g : Nat → Int32) : sC k (gs_u (gs_u (gs_u G q (oBx g)) aB (aRef (k 3) 10 (va_up (upTo nb ba) nb (some q)))) o (oSs wn hn aB aW aH aS aT (nb + 1) nw)) o aB aW aH aS aT wn hn (nb + 1) nw (upn ba nb q) wa ha (updB bf nb g) hf wf sh tk := by
  obtain ⟨⟨h1, h2, h3, h4, h5, h6⟩, h7, h8, h9, h10, h11, h12, h13⟩ := h
  have kq : ∀ {b : Nat} {e : va_E}, G b = some e → gs_u G q (oBx g) b = some e := fun hb => gs_keepN hb hq
  have nqB : ¬ q = aB := fun z => by rw [z, h2] at hq; cases hq
  have nqo : ¬ q = o := fun z => by rw [z, h1] at hq; cases hq
  have k2 : ∀ {b : Nat} {e : va_E}, G b = some e → kd e ≠ 5010 → gs_u (gs_u G q (oBx g)) aB (aRef (k 3) 10 (va_up (upTo nb ba) nb (some q))) b = some e := fun hb he => kd_keep (kq hb) (kq h2) he
  have o2 := k2 h1 (by simp [kd])
  have k3 : ∀ {b : Nat} {e : va_E}, G b = some e → kd e ≠ 5010 → kd e ≠ 3 → gs_u (gs_u (gs_u G q (oBx g)) aB (aRef (k 3) 10 (va_up (upTo nb ba) nb (some q)))) o (oSs wn hn aB aW aH aS aT (nb + 1) nw) b = some e := fun hb he he2 => kd_keep (k2 hb he) o2 he2
  have w2 : gs_u (gs_u G q (oBx g)) aB (aRef (k 3) 10 (va_up (upTo nb ba) nb (some q))) aW = some (aRef (k 4) 10 (upTo nw wa)) := gs_keep (kq h3) (kq h2) (fun z => hk (by injection z with z; injection z with z1 z2; exact z1.symm))
  refine ⟨⟨gs_us _ _ _, ?_, kd_keep w2 o2 (by simp [kd]), k3 h4 (by simp [kd]) (by simp [kd]), k3 h5 (by simp [kd]) (by simp [kd]), k3 h6 (by simp [kd]) (by simp [kd])⟩, by omega, fun a ha2 => ?_, fun a ha2 => k3 (h9 a ha2) (by simp [kd]) (by simp [kd]), fun a ha2 => k3 (h10 a ha2) (by simp [kd]) (by simp [kd]), fun a b ha2 hb2 e => ?_, h12, h13⟩
  · rw [← upTo_s]
    exact kd_keep (gs_us _ _ _) o2 (by simp [kd])
  · by_cases e : a = nb
    · subst e
      rw [upn_s, updB_s, gs_un nqo, gs_un nqB]
      exact gs_us _ _ _
    · rw [upn_n e, updB_n e]
      exact k3 (h8 a (by omega)) (by simp [kd]) (by simp [kd])
  · have hne : ∀ c, c < nb → ¬ ba c = q := fun c hc z => by
      have h9 := h8 c hc
      rw [z, hq] at h9
      cases h9
    by_cases e1 : a = nb <;> by_cases e2 : b = nb
    · omega
    · subst e1
      rw [upn_s, upn_n e2] at e
      exact absurd e.symm (hne b (by omega))
    · subst e2
      rw [upn_s, upn_n e1] at e
      exact absurd e (hne a (by omega))
    · rw [upn_n e1, upn_n e2] at e
      exact h11 a b (by omega) (by omega) e
theorem sC_newwin (h : sC k G o aB aW aH aS aT wn hn nb nw ba wa ha bf hf wf sh tk) (hk : k 3 ≠ k 4) {q : Nat} (hq : G q = none) (hn2 : nw < 10) (g : Nat → Nat) (hg : g 0 < g 2 ∧ g 2 ≤ wn ∧ g 1 < g 3 ∧ g 3 ≤ hn) : sC k (gs_u (gs_u (gs_u G q (oWn g)) aW (aRef (k 4) 10 (va_up (upTo nw wa) nw (some q)))) o (oSs wn hn aB aW aH aS aT nb (nw + 1))) o aB aW aH aS aT wn hn nb (nw + 1) ba (upn wa nw q) ha bf hf (updW wf nw g) sh tk := by
  obtain ⟨⟨h1, h2, h3, h4, h5, h6⟩, h7, h8, h9, h10, h11, h12, h13⟩ := h
  have kq : ∀ {b : Nat} {e : va_E}, G b = some e → gs_u G q (oWn g) b = some e := fun hb => gs_keepN hb hq
  have nqB : ¬ q = aW := fun z => by rw [z, h3] at hq; cases hq
  have nqo : ¬ q = o := fun z => by rw [z, h1] at hq; cases hq
  have k2 : ∀ {b : Nat} {e : va_E}, G b = some e → kd e ≠ 5010 → gs_u (gs_u G q (oWn g)) aW (aRef (k 4) 10 (va_up (upTo nw wa) nw (some q))) b = some e := fun hb he => kd_keep (kq hb) (kq h3) he
  have o2 := k2 h1 (by simp [kd])
  have k3 : ∀ {b : Nat} {e : va_E}, G b = some e → kd e ≠ 5010 → kd e ≠ 3 → gs_u (gs_u (gs_u G q (oWn g)) aW (aRef (k 4) 10 (va_up (upTo nw wa) nw (some q)))) o (oSs wn hn aB aW aH aS aT nb (nw + 1)) b = some e := fun hb he he2 => kd_keep (k2 hb he) o2 he2
  have w2 : gs_u (gs_u G q (oWn g)) aW (aRef (k 4) 10 (va_up (upTo nw wa) nw (some q))) aB = some (aRef (k 3) 10 (upTo nb ba)) := gs_keep (kq h2) (kq h3) (fun z => hk (by injection z with z; injection z with z1 z2))
  refine ⟨⟨gs_us _ _ _, kd_keep w2 o2 (by simp [kd]), ?_, k3 h4 (by simp [kd]) (by simp [kd]), k3 h5 (by simp [kd]) (by simp [kd]), k3 h6 (by simp [kd]) (by simp [kd])⟩, by omega, fun a ha2 => k3 (h8 a ha2) (by simp [kd]) (by simp [kd]), fun a ha2 => ?_, fun a ha2 => k3 (h10 a ha2) (by simp [kd]) (by simp [kd]), h11, h12, fun a ha2 => ?_⟩
  · rw [← upTo_s]
    exact kd_keep (gs_us _ _ _) o2 (by simp [kd])
  · by_cases e : a = nw
    · subst e
      rw [upn_s, updW_s, gs_un nqo, gs_un nqB]
      exact gs_us _ _ _
    · rw [upn_n e, updW_n e]
      exact k3 (h9 a (by omega)) (by simp [kd]) (by simp [kd])
  · by_cases e : a = nw
    · subst e
      rw [updW_s]
      exact hg
    · rw [updW_n e]
      exact h13 a (by omega)
theorem sM_T (h : sM k G mo cB cT cS cL cW th wn hn nb nw bx tr su li wi l1 l2 l3 l4) (x : Nat → Int32) : sM k (gs_u G cT (aInt (k 2) 11 x)) mo cB cT cS cL cW th wn hn nb nw bx x su li wi l1 l2 l3 l4 := by
  obtain ⟨h1, h2, h3, h4, h5, h6⟩ := h
  exact ⟨kd_keep h1 h3 (by simp [kd]), kd_keep h2 h3 (by simp [kd]), gs_us _ _ _, kd_keep h4 h3 (by simp [kd]), kd_keep h5 h3 (by simp [kd]), kd_keep h6 h3 (by simp [kd])⟩
theorem sM_B (h : sM k G mo cB cT cS cL cW th wn hn nb nw bx tr su li wi l1 l2 l3 l4) (x : Nat → Int32) : sM k (gs_u G cB (aInt (k 0) 66 x)) mo cB cT cS cL cW th wn hn nb nw x tr su li wi l1 l2 l3 l4 := by
  obtain ⟨h1, h2, h3, h4, h5, h6⟩ := h
  exact ⟨kd_keep h1 h2 (by simp [kd]), gs_us _ _ _, kd_keep h3 h2 (by simp [kd]), kd_keep h4 h2 (by simp [kd]), kd_keep h5 h2 (by simp [kd]), kd_keep h6 h2 (by simp [kd])⟩
theorem sM_S (h : sM k G mo cB cT cS cL cW th wn hn nb nw bx tr su li wi l1 l2 l3 l4) (x : Nat → Int32) : sM k (gs_u G cS (aInt (k 0) 72 x)) mo cB cT cS cL cW th wn hn nb nw bx tr x li wi l1 l2 l3 l4 := by
  obtain ⟨h1, h2, h3, h4, h5, h6⟩ := h
  exact ⟨kd_keep h1 h4 (by simp [kd]), kd_keep h2 h4 (by simp [kd]), kd_keep h3 h4 (by simp [kd]), gs_us _ _ _, kd_keep h5 h4 (by simp [kd]), kd_keep h6 h4 (by simp [kd])⟩
theorem sM_L (h : sM k G mo cB cT cS cL cW th wn hn nb nw bx tr su li wi l1 l2 l3 l4) (x : Nat → Int32) : sM k (gs_u G cL (aInt (k 0) 24 x)) mo cB cT cS cL cW th wn hn nb nw bx tr su x wi l1 l2 l3 l4 := by
  obtain ⟨h1, h2, h3, h4, h5, h6⟩ := h
  exact ⟨kd_keep h1 h5 (by simp [kd]), kd_keep h2 h5 (by simp [kd]), kd_keep h3 h5 (by simp [kd]), kd_keep h4 h5 (by simp [kd]), gs_us _ _ _, kd_keep h6 h5 (by simp [kd])⟩
theorem sM_W (h : sM k G mo cB cT cS cL cW th wn hn nb nw bx tr su li wi l1 l2 l3 l4) (x : Nat → Int32) : sM k (gs_u G cW (aInt (k 0) 40 x)) mo cB cT cS cL cW th wn hn nb nw bx tr su li x l1 l2 l3 l4 := by
  obtain ⟨h1, h2, h3, h4, h5, h6⟩ := h
  exact ⟨kd_keep h1 h6 (by simp [kd]), kd_keep h2 h6 (by simp [kd]), kd_keep h3 h6 (by simp [kd]), kd_keep h4 h6 (by simp [kd]), kd_keep h5 h6 (by simp [kd]), gs_us _ _ _⟩
theorem IT_of {c9 : Int32} (hC : sC k G o aB aW aH aS aT wn hn nb nw ba wa ha bf hf wf sh tk) (hM : sM k G mo cB cT cS cL cW c9 wn hn nb nw bx tr su li wi l1 l2 l3 l4) (hv : vR nb bf bx tr) (hh : hR hf su li) (hwf : jm_Wf nw wi wf) (ho : G out = some (aLong (k 1) 1 ou)) : InvT k G o mo out c9 ou :=
  ⟨aB, aW, aH, aS, aT, wn, hn, nb, nw, ba, wa, ha, bf, hf, wf, sh, tk, cB, cT, cS, cL, cW, bx, tr, su, li, wi, l1, l2, l3, l4, hC, hM, hv, hh, hwf, ho⟩
/-- the relation behind a written box, a written hour, a new box, a new window -/
theorem vR_set {i : Nat} {g : Nat → Int32} {bx2 tr2 : Nat → Int32} (hv : vR nb bf bx tr) (hnb : nb ≤ 10) (hi : i < nb) (hx : ∀ a, (a < 6 * i ∨ 6 * i + 6 ≤ a) → bx2 a = bx a) (ht : ∀ a, ¬ a = i → tr2 a = tr a) (hg : (g 0 = bx2 (6 * i) ∧ g 1 = bx2 (6 * i + 1) ∧ g 2 = bx2 (6 * i + 2) ∧ g 3 = bx2 (6 * i + 3) ∧ g 4 = bx2 (6 * i + 4) ∧ g 5 = bx2 (6 * i + 5) ∧ g 6 = tr2 i) ∧ vB (g 0) (g 1) (g 2) (g 3) (g 4) (g 5) ∧ (tr2 i = 0 ∨ tr2 i = 1)) : vR nb (updB bf i g) bx2 tr2 := fun a ha2 => by
  by_cases e : a = i
  · subst e
    rw [updB_s]
    exact hg
  · rw [updB_n e]
    obtain ⟨⟨e0, e1, e2, e3, e4, e5, e6⟩, hB, h01⟩ := hv a ha2
    rw [hx _ (by omega), hx _ (by omega), hx _ (by omega), hx _ (by omega), hx _ (by omega), hx _ (by omega), ht a e]
    exact ⟨⟨e0, e1, e2, e3, e4, e5, e6⟩, hB, h01⟩
theorem vR_new {g : Nat → Int32} {bx2 tr2 : Nat → Int32} (hv : vR nb bf bx tr) (hx : ∀ a, a < 6 * nb → bx2 a = bx a) (ht : ∀ a, a < nb → tr2 a = tr a) (hg : (g 0 = bx2 (6 * nb) ∧ g 1 = bx2 (6 * nb + 1) ∧ g 2 = bx2 (6 * nb + 2) ∧ g 3 = bx2 (6 * nb + 3) ∧ g 4 = bx2 (6 * nb + 4) ∧ g 5 = bx2 (6 * nb + 5) ∧ g 6 = tr2 nb) ∧ vB (g 0) (g 1) (g 2) (g 3) (g 4) (g 5) ∧ (tr2 nb = 0 ∨ tr2 nb = 1)) : vR (nb + 1) (updB bf nb g) bx2 tr2 := fun a ha2 => by
  by_cases e : a = nb
  · subst e
    rw [updB_s]
    exact hg
  · rw [updB_n e]
    obtain ⟨⟨e0, e1, e2, e3, e4, e5, e6⟩, hB, h01⟩ := hv a (by omega)
    rw [hx _ (by omega), hx _ (by omega), hx _ (by omega), hx _ (by omega), hx _ (by omega), hx _ (by omega), ht a (by omega)]
    exact ⟨⟨e0, e1, e2, e3, e4, e5, e6⟩, hB, h01⟩
theorem hR_set {i : Nat} {g : Nat → Int32} {su2 li2 : Nat → Int32} (hh : hR hf su li) (hi : i < 24) (hx : ∀ a, (a < 3 * i ∨ 3 * i + 3 ≤ a) → su2 a = su a) (ht : ∀ a, ¬ a = i → li2 a = li a) (hg : (g 0 = su2 (3 * i) ∧ g 1 = su2 (3 * i + 1) ∧ g 2 = su2 (3 * i + 2) ∧ g 3 = li2 i) ∧ vS (g 0) (g 1) (g 2) ∧ 0 ≤ (li2 i).toInt ∧ (li2 i).toInt ≤ 1000) : hR (updB hf i g) su2 li2 := fun a ha2 => by
  by_cases e : a = i
  · subst e
    rw [updB_s]
    exact hg
  · rw [updB_n e]
    obtain ⟨⟨e0, e1, e2, e3⟩, hB, h01⟩ := hh a ha2
    rw [hx _ (by omega), hx _ (by omega), hx _ (by omega), ht a e]
    exact ⟨⟨e0, e1, e2, e3⟩, hB, h01⟩
theorem lay_at {b : Nat} {x0 y0 z0 x1 y1 z1 : Int32} : jm_lay bx b x0 y0 z0 x1 y1 z1 (6 * b) = x0 ∧ jm_lay bx b x0 y0 z0 x1 y1 z1 (6 * b + 1) = y0 ∧ jm_lay bx b x0 y0 z0 x1 y1 z1 (6 * b + 2) = z0 ∧ jm_lay bx b x0 y0 z0 x1 y1 z1 (6 * b + 3) = x1 ∧ jm_lay bx b x0 y0 z0 x1 y1 z1 (6 * b + 4) = y1 ∧ jm_lay bx b x0 y0 z0 x1 y1 z1 (6 * b + 5) = z1 := by
  unfold jm_lay
  refine ⟨?_, ?_, ?_, ?_, ?_, ?_⟩
  · rw [pk_un (by omega), pk_un (by omega), pk_un (by omega), pk_un (by omega), pk_un (by omega), pk_us]
  · rw [pk_un (by omega), pk_un (by omega), pk_un (by omega), pk_un (by omega), pk_us]
  · rw [pk_un (by omega), pk_un (by omega), pk_un (by omega), pk_us]
  · rw [pk_un (by omega), pk_un (by omega), pk_us]
  · rw [pk_un (by omega), pk_us]
  · rw [pk_us]
theorem sun_at {b : Nat} {x y z : Int32} : jm_sun su b x y z (3 * b) = x ∧ jm_sun su b x y z (3 * b + 1) = y ∧ jm_sun su b x y z (3 * b + 2) = z := by
  unfold jm_sun
  refine ⟨?_, ?_, ?_⟩
  · rw [pk_un (by omega), pk_un (by omega), pk_us]
  · rw [pk_un (by omega), pk_us]
  · rw [pk_us]
theorem sun_ne {b a : Nat} {x y z : Int32} (h : a < 3 * b ∨ 3 * b + 3 ≤ a) : jm_sun su b x y z a = su a := by
  unfold jm_sun
  rw [pk_un (by omega), pk_un (by omega), pk_un (by omega)]
theorem win_at {b : Nat} {x y z w : Int32} : jm_win wi b x y z w (4 * b) = x ∧ jm_win wi b x y z w (4 * b + 1) = y ∧ jm_win wi b x y z w (4 * b + 2) = z ∧ jm_win wi b x y z w (4 * b + 3) = w := by
  unfold jm_win
  refine ⟨?_, ?_, ?_, ?_⟩
  · rw [pk_un (by omega), pk_un (by omega), pk_un (by omega), pk_us]
  · rw [pk_un (by omega), pk_un (by omega), pk_us]
  · rw [pk_un (by omega), pk_us]
  · rw [pk_us]
theorem win_ne {b a : Nat} {x y z w : Int32} (h : a < 4 * b ∨ 4 * b + 4 ≤ a) : jm_win wi b x y z w a = wi a := by
  unfold jm_win
  rw [pk_un (by omega), pk_un (by omega), pk_un (by omega), pk_un (by omega)]
end WS
