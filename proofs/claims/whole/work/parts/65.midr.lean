/-! readers: both answers are one -/
theorem mid_shadow {k : Nat → ClassId} {G : Nat → Option va_E} {o aB aW aH aS aT : Nat} {wn hn nb nw : Nat} {ba wa ha : Nat → Nat} {bf hf : Nat → Nat → Int32} {wf : Nat → Nat → Nat} {sh : Nat → Int64} {tk : Nat → Int32} {mo cB cT cS cL cW : Nat} {th : Int32} {bx tr su li wi : Nat → Int32} {l1 l2 l3 l4 : Int64} {out : Nat} {ou : Nat → Int64} {x y t : Int32} (hC : sC k G o aB aW aH aS aT wn hn nb nw ba wa ha bf hf wf sh tk) (hM : sM k G mo cB cT cS cL cW th wn hn nb nw bx tr su li wi l1 l2 l3 l4) (hv : vR nb bf bx tr) (hh : hR hf su li) (hwf : jm_Wf nw wi wf) (ho : G out = some (aLong (k 1) 1 ou)) {v : Option Value} {G1 : Nat → Option va_E} (hp : wr_post (pc_shadow k G o aB aW aH aS aT wn hn nb nw ba wa ha bf hf wf sh tk x y t) (tc_shadow k G o aB aW aH aS aT wn hn nb nw ba wa ha bf hf wf sh tk x y t) k G out ou f_z v G1) : ∃ kk : Int32, v = some (.int kk) ∧ sM k G1 mo cB cT cS cL cW th wn hn nb nw bx tr su li wi l1 l2 l3 l4 ∧ ∀ (v2 : Option Value) (G2 : Nat → Option va_E), pm_shadow k G1 mo cB cT cS cL cW th wn hn nb nw bx tr su li wi l1 l2 l3 l4 x y t v2 G2 → ∃ r : Int32, ∃ ou2 : Nat → Int64, v2 = some (.int r) ∧ InvT k G2 o mo out kk ou2 ∧ (kk = 0 → ou2 0 = f_z r) := by
  obtain ⟨hnb, hnw, hw1, hw2, hh1, hh2⟩ := hC.2.1
  have hWb := hC.2.2.2.2.2.2.2
  rcases hp with ⟨v0, G0, hc, rfl, rfl⟩ | ⟨ht, rfl, hg⟩ | ⟨ht, rfl, hg⟩
  · unfold pc_shadow at hc
    obtain ⟨i, hi, ei, hs, hx0, hy0, hv0, rfl⟩ := hc
    refine ⟨0, rfl, sM_out hM ho _, fun v2 G2 hm => ?_⟩
    unfold pm_shadow at hm
    obtain ⟨c9, r, j9, m1, m2, m3, m4, hck, rfl, hr, rfl⟩ := hm
    obtain ⟨rfl, rfl⟩ := Ck_is0 hck (⟨hx0, hy0⟩) hi ei (fun q => hs ((hR_no hh hi).mpr q))
    have hS := hR_S hh hi
    have hZ := hR_Z hh hi hs
    obtain ⟨q0, q1, q2, q3⟩ := (hh _ hi).1
    refine ⟨r, _, rfl, IT_mo (sC_out hC ho _) (sM_out hM ho _) hv hh hwf (gs_us _ _ _) _ _ _ _ _, fun _ => ?_⟩
    rw [pk_uLs]
    congr 1
    have hrr := hr rfl
    obtain ⟨xn, hxn, ex⟩ := wi_nI hw2 hx0
    obtain ⟨yn, hyn, ey⟩ := wi_nI hh2 hy0
    subst ex
    subst ey
    rw [int_v hv0, hrr, q0, q1, q2]
    have h1 := hc_bt (jc_row nb bf (su (3 * j9)) (su (3 * j9 + 1)) (su (3 * j9 + 2)) (nI yn) (nI wn) 10) (show xn < 64 by omega)
    have h2 := row_bt (j := j9) hv hnb hS hZ ⟨hw1, hw2⟩ (show yn ≤ 60 by omega) xn 10 hnb
    by_cases hD : jm_D bx tr su nb (-1) 0 j9 (nI xn) (nI yn)
    · rw [pI_t hD]
      rcases h1.2 with z | z
      · have h3 := h1.1.mp z
        have h4 := h2.mpr ⟨hxn, D_any.mp hD⟩
        rw [h3] at h4
        exact absurd h4 (by decide)
      · exact z
    · rw [pI_f hD]
      refine h1.1.mpr ?_
      rcases h5 : bt (jc_row nb bf (su (3 * j9)) (su (3 * j9 + 1)) (su (3 * j9 + 2)) (nI yn) (nI wn) 10) xn with _ | _
      · rfl
      · exact absurd (D_any.mpr (h2.mp h5).2) hD
  · subst hg
    refine ⟨1, rfl, hM, fun v2 G2 hm => ?_⟩
    unfold pm_shadow at hm
    unfold tc_shadow at ht
    obtain ⟨c9, r, j9, m1, m2, m3, m4, hck, rfl, hr, rfl⟩ := hm
    have hx := ht.elim (fun q => q.2) (fun q => absurd q.1 e_ne')
    have hc1 : c9 = 1 := Ck_is1 hck (hx.elim (fun z => Or.inl fun q => q.1 z) (fun z => z.elim (fun z => Or.inl fun q => q.2 z) Or.inr))
    subst hc1
    exact ⟨r, _, rfl, IT_mo hC hM hv hh hwf ho _ _ _ _ _, fun q => absurd q (by decide)⟩
  · subst hg
    refine ⟨2, rfl, hM, fun v2 G2 hm => ?_⟩
    unfold pm_shadow at hm
    unfold tc_shadow at ht
    obtain ⟨c9, r, j9, m1, m2, m3, m4, hck, rfl, hr, rfl⟩ := hm
    have hx := ht.elim (fun q => absurd q.1 e_ne) (fun q => q.2)
    obtain ⟨hx0, hy0, i, hi, ei, hs⟩ := hx
    have hc2 : c9 = 2 := Ck_is2 hck (⟨hx0, hy0⟩) hi ei ((hR_no hh hi).mp hs)
    subst hc2
    exact ⟨r, _, rfl, IT_mo hC hM hv hh hwf ho _ _ _ _ _, fun q => absurd q (by decide)⟩
theorem mid_shadows {k : Nat → ClassId} {G : Nat → Option va_E} {o aB aW aH aS aT : Nat} {wn hn nb nw : Nat} {ba wa ha : Nat → Nat} {bf hf : Nat → Nat → Int32} {wf : Nat → Nat → Nat} {sh : Nat → Int64} {tk : Nat → Int32} {mo cB cT cS cL cW : Nat} {th : Int32} {bx tr su li wi : Nat → Int32} {l1 l2 l3 l4 : Int64} {out : Nat} {ou : Nat → Int64} {b t : Int32} (hC : sC k G o aB aW aH aS aT wn hn nb nw ba wa ha bf hf wf sh tk) (hM : sM k G mo cB cT cS cL cW th wn hn nb nw bx tr su li wi l1 l2 l3 l4) (hv : vR nb bf bx tr) (hh : hR hf su li) (hwf : jm_Wf nw wi wf) (ho : G out = some (aLong (k 1) 1 ou)) {v : Option Value} {G1 : Nat → Option va_E} (hp : wr_post (pc_shadows k G o aB aW aH aS aT wn hn nb nw ba wa ha bf hf wf sh tk b t) (tc_shadows k G o aB aW aH aS aT wn hn nb nw ba wa ha bf hf wf sh tk b t) k G out ou f_i v G1) : ∃ kk : Int32, v = some (.int kk) ∧ sM k G1 mo cB cT cS cL cW th wn hn nb nw bx tr su li wi l1 l2 l3 l4 ∧ ∀ (v2 : Option Value) (G2 : Nat → Option va_E), pm_shadows k G1 mo cB cT cS cL cW th wn hn nb nw bx tr su li wi l1 l2 l3 l4 b t v2 G2 → ∃ r : Int32, ∃ ou2 : Nat → Int64, v2 = some (.int r) ∧ InvT k G2 o mo out kk ou2 ∧ (kk = 0 → ou2 0 = f_i r) := by
  obtain ⟨hnb, hnw, hw1, hw2, hh1, hh2⟩ := hC.2.1
  have hWb := hC.2.2.2.2.2.2.2
  rcases hp with ⟨v0, G0, hc, rfl, rfl⟩ | ⟨ht, rfl, hg⟩ | ⟨ht, rfl, hg⟩
  · unfold pc_shadows at hc
    obtain ⟨i, hi, ei, hs, hcase, rfl⟩ := hc
    refine ⟨0, rfl, sM_out hM ho _, fun v2 G2 hm => ?_⟩
    unfold pm_shadows at hm
    obtain ⟨c9, r, j9, m1, m2, m3, m4, hck, rfl, hr, rfl⟩ := hm
    obtain ⟨rfl, rfl⟩ := Ck_is0 hck (hcase.imp (fun q => q.1) (fun q => (noB_iff (by omega)).mpr (q.2.imp fun _ z => ⟨z.1, z.2.1⟩))) hi ei (fun q => hs ((hR_no hh hi).mpr q))
    have hS := hR_S hh hi
    have hZ := hR_Z hh hi hs
    obtain ⟨q0, q1, q2, q3⟩ := (hh _ hi).1
    refine ⟨r, _, rfl, IT_mo (sC_out hC ho _) (sM_out hM ho _) hv hh hwf (gs_us _ _ _) _ _ _ _ _, fun _ => ?_⟩
    rw [pk_uLs]
    congr 1
    rcases hr rfl with ⟨hb1, rfl⟩ | ⟨hb1, a, ha2, ea, rfl⟩
    · rcases hcase with ⟨-, hv0⟩ | ⟨hb2, -⟩
      · rw [int_v hv0, q0, q1, q2]
        exact lk_rows hv hnb hS hZ ⟨hw1, hw2⟩ hh2
      · exact absurd hb1 hb2
    · rcases hcase with ⟨hb2, -⟩ | ⟨-, j, hj, ej, hv0⟩
      · exact absurd hb2 hb1
      · have hja : a = j := eq_nI (by omega) (by omega) (ea.symm.trans ej)
        subst hja
        rw [int_v hv0, q0, q1, q2]
        exact lk_one hv ha2 hS hZ ⟨hw1, hw2⟩ hh2
  · subst hg
    refine ⟨1, rfl, hM, fun v2 G2 hm => ?_⟩
    unfold pm_shadows at hm
    unfold tc_shadows at ht
    obtain ⟨c9, r, j9, m1, m2, m3, m4, hck, rfl, hr, rfl⟩ := hm
    have hx := ht.elim (fun q => q.2) (fun q => absurd q.1 e_ne')
    have hc1 : c9 = 1 := Ck_is1 hck (hx.imp (fun z q => q.elim z.1 (fun q => z.2 ((noB_iff (by omega)).mp q))) id)
    subst hc1
    exact ⟨r, _, rfl, IT_mo hC hM hv hh hwf ho _ _ _ _ _, fun q => absurd q (by decide)⟩
  · subst hg
    refine ⟨2, rfl, hM, fun v2 G2 hm => ?_⟩
    unfold pm_shadows at hm
    unfold tc_shadows at ht
    obtain ⟨c9, r, j9, m1, m2, m3, m4, hck, rfl, hr, rfl⟩ := hm
    have hx := ht.elim (fun q => absurd q.1 e_ne) (fun q => q.2)
    obtain ⟨hcase, i, hi, ei, hs⟩ := hx
    have hc2 : c9 = 2 := Ck_is2 hck (hcase.imp id (fun q => (noB_iff (by omega)).mpr q)) hi ei ((hR_no hh hi).mp hs)
    subst hc2
    exact ⟨r, _, rfl, IT_mo hC hM hv hh hwf ho _ _ _ _ _, fun q => absurd q (by decide)⟩
theorem mid_dark {k : Nat → ClassId} {G : Nat → Option va_E} {o aB aW aH aS aT : Nat} {wn hn nb nw : Nat} {ba wa ha : Nat → Nat} {bf hf : Nat → Nat → Int32} {wf : Nat → Nat → Nat} {sh : Nat → Int64} {tk : Nat → Int32} {mo cB cT cS cL cW : Nat} {th : Int32} {bx tr su li wi : Nat → Int32} {l1 l2 l3 l4 : Int64} {out : Nat} {ou : Nat → Int64} {q t : Int32} (hC : sC k G o aB aW aH aS aT wn hn nb nw ba wa ha bf hf wf sh tk) (hM : sM k G mo cB cT cS cL cW th wn hn nb nw bx tr su li wi l1 l2 l3 l4) (hv : vR nb bf bx tr) (hh : hR hf su li) (hwf : jm_Wf nw wi wf) (ho : G out = some (aLong (k 1) 1 ou)) {v : Option Value} {G1 : Nat → Option va_E} (hp : wr_post (pc_dark k G o aB aW aH aS aT wn hn nb nw ba wa ha bf hf wf sh tk q t) (tc_dark k G o aB aW aH aS aT wn hn nb nw ba wa ha bf hf wf sh tk q t) k G out ou f_i v G1) : ∃ kk : Int32, v = some (.int kk) ∧ sM k G1 mo cB cT cS cL cW th wn hn nb nw bx tr su li wi l1 l2 l3 l4 ∧ ∀ (v2 : Option Value) (G2 : Nat → Option va_E), pm_dark k G1 mo cB cT cS cL cW th wn hn nb nw bx tr su li wi l1 l2 l3 l4 wf q t v2 G2 → ∃ r : Int32, ∃ ou2 : Nat → Int64, v2 = some (.int r) ∧ InvT k G2 o mo out kk ou2 ∧ (kk = 0 → ou2 0 = f_i r) := by
  obtain ⟨hnb, hnw, hw1, hw2, hh1, hh2⟩ := hC.2.1
  have hWb := hC.2.2.2.2.2.2.2
  rcases hp with ⟨v0, G0, hc, rfl, rfl⟩ | ⟨ht, rfl, hg⟩ | ⟨ht, rfl, hg⟩
  · unfold pc_dark at hc
    obtain ⟨i, j, hi, ei, hs, hj, ej, hv0, rfl⟩ := hc
    refine ⟨0, rfl, sM_out hM ho _, fun v2 G2 hm => ?_⟩
    unfold pm_dark at hm
    obtain ⟨c9, r, j9, m1, m2, m3, m4, hck, rfl, hr, rfl⟩ := hm
    obtain ⟨rfl, rfl⟩ := Ck_is0 hck ((noB_iff (by omega)).mpr ⟨j, hj, ej⟩) hi ei (fun q => hs ((hR_no hh hi).mpr q))
    have hS := hR_S hh hi
    have hZ := hR_Z hh hi hs
    obtain ⟨q0, q1, q2, q3⟩ := (hh _ hi).1
    refine ⟨r, _, rfl, IT_mo (sC_out hC ho _) (sM_out hM ho _) hv hh hwf (gs_us _ _ _) _ _ _ _ _, fun _ => ?_⟩
    rw [pk_uLs]
    congr 1
    obtain ⟨a, ha2, ea, rfl⟩ := hr rfl
    have hja : a = j := eq_nI (by omega) (by omega) (ea.symm.trans ej)
    subst hja
    rw [int_v hv0, q0, q1, q2]
    have hb := hWb a ha2
    exact lk_dark0 hv hnb hS hZ ⟨hw1, hw2⟩ hb.1 hb.2.1 (by omega)
  · subst hg
    refine ⟨1, rfl, hM, fun v2 G2 hm => ?_⟩
    unfold pm_dark at hm
    unfold tc_dark at ht
    obtain ⟨c9, r, j9, m1, m2, m3, m4, hck, rfl, hr, rfl⟩ := hm
    have hx := ht.elim (fun q => q.2) (fun q => absurd q.1 e_ne')
    have hc1 : c9 = 1 := Ck_is1 hck (hx.imp (fun z q => z ((noB_iff (by omega)).mp q)) id)
    subst hc1
    exact ⟨r, _, rfl, IT_mo hC hM hv hh hwf ho _ _ _ _ _, fun q => absurd q (by decide)⟩
  · subst hg
    refine ⟨2, rfl, hM, fun v2 G2 hm => ?_⟩
    unfold pm_dark at hm
    unfold tc_dark at ht
    obtain ⟨c9, r, j9, m1, m2, m3, m4, hck, rfl, hr, rfl⟩ := hm
    have hx := ht.elim (fun q => absurd q.1 e_ne) (fun q => q.2)
    obtain ⟨⟨j, hj, ej⟩, i, hi, ei, hs⟩ := hx
    have hc2 : c9 = 2 := Ck_is2 hck ((noB_iff (by omega)).mpr ⟨j, hj, ej⟩) hi ei ((hR_no hh hi).mp hs)
    subst hc2
    exact ⟨r, _, rfl, IT_mo hC hM hv hh hwf ho _ _ _ _ _, fun q => absurd q (by decide)⟩
theorem mid_cell {k : Nat → ClassId} {G : Nat → Option va_E} {o aB aW aH aS aT : Nat} {wn hn nb nw : Nat} {ba wa ha : Nat → Nat} {bf hf : Nat → Nat → Int32} {wf : Nat → Nat → Nat} {sh : Nat → Int64} {tk : Nat → Int32} {mo cB cT cS cL cW : Nat} {th : Int32} {bx tr su li wi : Nat → Int32} {l1 l2 l3 l4 : Int64} {out : Nat} {ou : Nat → Int64} {b t : Int32} (hC : sC k G o aB aW aH aS aT wn hn nb nw ba wa ha bf hf wf sh tk) (hM : sM k G mo cB cT cS cL cW th wn hn nb nw bx tr su li wi l1 l2 l3 l4) (hv : vR nb bf bx tr) (hh : hR hf su li) (hwf : jm_Wf nw wi wf) (ho : G out = some (aLong (k 1) 1 ou)) {v : Option Value} {G1 : Nat → Option va_E} (hp : wr_post (pc_cell k G o aB aW aH aS aT wn hn nb nw ba wa ha bf hf wf sh tk b t) (tc_cell k G o aB aW aH aS aT wn hn nb nw ba wa ha bf hf wf sh tk b t) k G out ou f_i v G1) : ∃ kk : Int32, v = some (.int kk) ∧ sM k G1 mo cB cT cS cL cW th wn hn nb nw bx tr su li wi l1 l2 l3 l4 ∧ ∀ (v2 : Option Value) (G2 : Nat → Option va_E), pm_cell k G1 mo cB cT cS cL cW th wn hn nb nw bx tr su li wi l1 l2 l3 l4 b t v2 G2 → ∃ r : Int32, ∃ ou2 : Nat → Int64, v2 = some (.int r) ∧ InvT k G2 o mo out kk ou2 ∧ (kk = 0 → ou2 0 = f_i r) := by
  obtain ⟨hnb, hnw, hw1, hw2, hh1, hh2⟩ := hC.2.1
  have hWb := hC.2.2.2.2.2.2.2
  rcases hp with ⟨v0, G0, hc, rfl, rfl⟩ | ⟨ht, rfl, hg⟩ | ⟨ht, rfl, hg⟩
  · unfold pc_cell at hc
    obtain ⟨i, hi, ei, hs, hb0, hv0, rfl⟩ := hc
    refine ⟨0, rfl, sM_out hM ho _, fun v2 G2 hm => ?_⟩
    unfold pm_cell at hm
    obtain ⟨c9, r, j9, m1, m2, m3, m4, hck, rfl, hr, rfl⟩ := hm
    obtain ⟨rfl, rfl⟩ := Ck_is0 hck (hb0) hi ei (fun q => hs ((hR_no hh hi).mpr q))
    have hS := hR_S hh hi
    have hZ := hR_Z hh hi hs
    obtain ⟨q0, q1, q2, q3⟩ := (hh _ hi).1
    refine ⟨r, _, rfl, IT_mo (sC_out hC ho _) (sM_out hM ho _) hv hh hwf (gs_us _ _ _) _ _ _ _ _, fun _ => ?_⟩
    rw [pk_uLs]
    congr 1
    obtain ⟨a, ha2, rfl⟩ := nI_of hb0
    rw [int_v hv0, q0, q1, q2]
    have h1 := ce_ok (row := fun y => jc_row nb bf (su (3 * j9)) (su (3 * j9 + 1)) (su (3 * j9 + 2)) (nI y) (nI wn) 10) (P := jm_at bx tr su nb wn j9) (hn := hn) ⟨hw1, hw2⟩ hh2 (fun y hy x _ => by
      show bt (jc_row nb bf (su (3 * j9)) (su (3 * j9 + 1)) (su (3 * j9 + 2)) (nI y) (nI wn) 10) x = true ↔ _
      rw [row_bt hv hnb hS hZ ⟨hw1, hw2⟩ (by omega) x 10 hnb]
      unfold jm_at
      rw [D_any]
      constructor
      · rintro ⟨g1, g2⟩
        rw [(gr_d g1).1, (gr_d g1).2]
        exact ⟨g1, g2⟩
      · rintro ⟨g1, g2⟩
        rw [(gr_d g1).1, (gr_d g1).2] at g2
        exact ⟨g1, g2⟩) hn 0 a (by omega) ha2 (Nat.zero_le _)
    have hmul : wn * hn ≤ 60 * 60 := Nat.mul_le_mul hw2 hh2
    exact ce_one (by omega) ha2 h1 (hr rfl)
  · subst hg
    refine ⟨1, rfl, hM, fun v2 G2 hm => ?_⟩
    unfold pm_cell at hm
    unfold tc_cell at ht
    obtain ⟨c9, r, j9, m1, m2, m3, m4, hck, rfl, hr, rfl⟩ := hm
    have hx := ht.elim (fun q => q.2) (fun q => absurd q.1 e_ne')
    have hc1 : c9 = 1 := Ck_is1 hck (hx.imp (fun z q => q z) id)
    subst hc1
    exact ⟨r, _, rfl, IT_mo hC hM hv hh hwf ho _ _ _ _ _, fun q => absurd q (by decide)⟩
  · subst hg
    refine ⟨2, rfl, hM, fun v2 G2 hm => ?_⟩
    unfold pm_cell at hm
    unfold tc_cell at ht
    obtain ⟨c9, r, j9, m1, m2, m3, m4, hck, rfl, hr, rfl⟩ := hm
    have hx := ht.elim (fun q => absurd q.1 e_ne) (fun q => q.2)
    obtain ⟨hb0, i, hi, ei, hs⟩ := hx
    have hc2 : c9 = 2 := Ck_is2 hck (hb0) hi ei ((hR_no hh hi).mp hs)
    subst hc2
    exact ⟨r, _, rfl, IT_mo hC hM hv hh hwf ho _ _ _ _ _, fun q => absurd q (by decide)⟩
theorem mid_lit {k : Nat → ClassId} {G : Nat → Option va_E} {o aB aW aH aS aT : Nat} {wn hn nb nw : Nat} {ba wa ha : Nat → Nat} {bf hf : Nat → Nat → Int32} {wf : Nat → Nat → Nat} {sh : Nat → Int64} {tk : Nat → Int32} {mo cB cT cS cL cW : Nat} {th : Int32} {bx tr su li wi : Nat → Int32} {l1 l2 l3 l4 : Int64} {out : Nat} {ou : Nat → Int64} {q t : Int32} (hC : sC k G o aB aW aH aS aT wn hn nb nw ba wa ha bf hf wf sh tk) (hM : sM k G mo cB cT cS cL cW th wn hn nb nw bx tr su li wi l1 l2 l3 l4) (hv : vR nb bf bx tr) (hh : hR hf su li) (hwf : jm_Wf nw wi wf) (ho : G out = some (aLong (k 1) 1 ou)) {v : Option Value} {G1 : Nat → Option va_E} (hp : wr_post (pc_lit k G o aB aW aH aS aT wn hn nb nw ba wa ha bf hf wf sh tk q t) (tc_lit k G o aB aW aH aS aT wn hn nb nw ba wa ha bf hf wf sh tk q t) k G out ou f_i v G1) : ∃ kk : Int32, v = some (.int kk) ∧ sM k G1 mo cB cT cS cL cW th wn hn nb nw bx tr su li wi l1 l2 l3 l4 ∧ ∀ (v2 : Option Value) (G2 : Nat → Option va_E), pm_lit k G1 mo cB cT cS cL cW th wn hn nb nw bx tr su li wi l1 l2 l3 l4 wf q t v2 G2 → ∃ r : Int32, ∃ ou2 : Nat → Int64, v2 = some (.int r) ∧ InvT k G2 o mo out kk ou2 ∧ (kk = 0 → ou2 0 = f_i r) := by
  obtain ⟨hnb, hnw, hw1, hw2, hh1, hh2⟩ := hC.2.1
  have hWb := hC.2.2.2.2.2.2.2
  rcases hp with ⟨v0, G0, hc, rfl, rfl⟩ | ⟨ht, rfl, hg⟩ | ⟨ht, rfl, hg⟩
  · unfold pc_lit at hc
    obtain ⟨j, hj, ej, hcase, rfl⟩ := hc
    refine ⟨0, rfl, sM_out hM ho _, fun v2 G2 hm => ?_⟩
    unfold pm_lit at hm
    obtain ⟨c9, r, m1, m2, m3, m4, hck, rfl, hr, rfl⟩ := hm
    have hP : jm_noB q nw = 0 ∧ (t = (-1) ∨ jm_noH t = 0) := ⟨(noB_iff (by omega)).mpr ⟨j, hj, ej⟩, hcase.imp (fun z => z.1) (fun z => noH_iff.mpr (z.2.imp fun _ y => ⟨y.1, y.2.1⟩))⟩
    have hc0 : c9 = 0 := hck.elim (fun z => absurd hP z.2) (fun z => z.1)
    subst hc0
    refine ⟨r, _, rfl, IT_mo (sC_out hC ho _) (sM_out hM ho _) hv hh hwf (gs_us _ _ _) _ _ _ _ _, fun _ => ?_⟩
    rw [pk_uLs]
    congr 1
    have hl : ∀ t, t < 24 → jc_lightOf nb bf (hf t 0) (hf t 1) (hf t 2) (hf t 3) (nI wn) (wf j 0) (wf j 1) (wf j 2) (wf j 3) = jm_lit bx tr su li nb (-1) (wf j 0) (wf j 1) (wf j 2) (wf j 3) t := fun t ht => by
      obtain ⟨q0, q1, q2, q3⟩ := (hh t ht).1
      have hb := hWb j hj
      rw [q0, q1, q2, q3]
      exact lk_lit hv hnb (hR_S hh ht) ⟨hw1, hw2⟩ hb.1 hb.2.1 (by omega)
    obtain ⟨a, ha2, ea, hr2⟩ := hr rfl
    have hja : a = j := eq_nI (by omega) (by omega) (ea.symm.trans ej)
    subst hja
    rcases hr2 with ⟨g1, rfl⟩ | ⟨g1, i2, hi2, ei2, rfl⟩
    · rcases hcase with ⟨-, hv0⟩ | ⟨g2, -⟩
      · rw [int_v hv0]
        exact sum_congr hl
      · exact absurd g1 g2
    · rcases hcase with ⟨g2, -⟩ | ⟨-, i, hi, ei, hv0⟩
      · exact absurd g2 g1
      · have hii : i2 = i := eq_nI (by omega) (by omega) (ei2.symm.trans ei)
        subst hii
        rw [int_v hv0]
        exact hl i2 hi2
  · subst hg
    refine ⟨1, rfl, hM, fun v2 G2 hm => ?_⟩
    unfold pm_lit at hm
    unfold tc_lit at ht
    obtain ⟨c9, r, m1, m2, m3, m4, hck, rfl, hr, rfl⟩ := hm
    have hx := ht.2
    have hc1 : c9 = 1 := hck.elim (fun z => z.1) (fun z => (hx.elim (fun y => y ((noB_iff (by omega)).mp z.2.1)) (fun y => z.2.2.elim y.1 (fun w9 => y.2 (noH_iff.mp w9)))).elim)
    subst hc1
    exact ⟨r, _, rfl, IT_mo hC hM hv hh hwf ho _ _ _ _ _, fun q => absurd q (by decide)⟩
  · unfold tc_lit at ht
    exact absurd ht.1 e_ne
theorem mid_brightest {k : Nat → ClassId} {G : Nat → Option va_E} {o aB aW aH aS aT : Nat} {wn hn nb nw : Nat} {ba wa ha : Nat → Nat} {bf hf : Nat → Nat → Int32} {wf : Nat → Nat → Nat} {sh : Nat → Int64} {tk : Nat → Int32} {mo cB cT cS cL cW : Nat} {th : Int32} {bx tr su li wi : Nat → Int32} {l1 l2 l3 l4 : Int64} {out : Nat} {ou : Nat → Int64} {q : Int32} (hC : sC k G o aB aW aH aS aT wn hn nb nw ba wa ha bf hf wf sh tk) (hM : sM k G mo cB cT cS cL cW th wn hn nb nw bx tr su li wi l1 l2 l3 l4) (hv : vR nb bf bx tr) (hh : hR hf su li) (hwf : jm_Wf nw wi wf) (ho : G out = some (aLong (k 1) 1 ou)) {v : Option Value} {G1 : Nat → Option va_E} (hp : wr_post (pc_brightest k G o aB aW aH aS aT wn hn nb nw ba wa ha bf hf wf sh tk q) (tc_brightest k G o aB aW aH aS aT wn hn nb nw ba wa ha bf hf wf sh tk q) k G out ou f_i v G1) : ∃ kk : Int32, v = some (.int kk) ∧ sM k G1 mo cB cT cS cL cW th wn hn nb nw bx tr su li wi l1 l2 l3 l4 ∧ ∀ (v2 : Option Value) (G2 : Nat → Option va_E), pm_brightest k G1 mo cB cT cS cL cW th wn hn nb nw bx tr su li wi l1 l2 l3 l4 wf q v2 G2 → ∃ r : Int32, ∃ ou2 : Nat → Int64, v2 = some (.int r) ∧ InvT k G2 o mo out kk ou2 ∧ (kk = 0 → ou2 0 = f_i r) := by
  obtain ⟨hnb, hnw, hw1, hw2, hh1, hh2⟩ := hC.2.1
  have hWb := hC.2.2.2.2.2.2.2
  rcases hp with ⟨v0, G0, hc, rfl, rfl⟩ | ⟨ht, rfl, hg⟩ | ⟨ht, rfl, hg⟩
  · unfold pc_brightest at hc
    obtain ⟨j, hj, ej, hv0, rfl⟩ := hc
    refine ⟨0, rfl, sM_out hM ho _, fun v2 G2 hm => ?_⟩
    unfold pm_brightest at hm
    obtain ⟨c9, r, m1, m2, m3, m4, hck, rfl, hr, rfl⟩ := hm
    have hP : jm_noB q nw = 0 := (noB_iff (by omega)).mpr ⟨j, hj, ej⟩
    have hc0 : c9 = 0 := hck.elim (fun z => absurd hP z.2) (fun z => z.1)
    subst hc0
    refine ⟨r, _, rfl, IT_mo (sC_out hC ho _) (sM_out hM ho _) hv hh hwf (gs_us _ _ _) _ _ _ _ _, fun _ => ?_⟩
    rw [pk_uLs]
    congr 1
    have hl : ∀ t, t < 24 → jc_lightOf nb bf (hf t 0) (hf t 1) (hf t 2) (hf t 3) (nI wn) (wf j 0) (wf j 1) (wf j 2) (wf j 3) = jm_lit bx tr su li nb (-1) (wf j 0) (wf j 1) (wf j 2) (wf j 3) t := fun t ht => by
      obtain ⟨q0, q1, q2, q3⟩ := (hh t ht).1
      have hb := hWb j hj
      rw [q0, q1, q2, q3]
      exact lk_lit hv hnb (hR_S hh ht) ⟨hw1, hw2⟩ hb.1 hb.2.1 (by omega)
    obtain ⟨a, ha2, ea, hre⟩ := hr rfl
    have hja : a = j := eq_nI (by omega) (by omega) (ea.symm.trans ej)
    subst hja
    rw [int_v hv0, hre, best_congr hl]
  · subst hg
    refine ⟨1, rfl, hM, fun v2 G2 hm => ?_⟩
    unfold pm_brightest at hm
    unfold tc_brightest at ht
    obtain ⟨c9, r, m1, m2, m3, m4, hck, rfl, hr, rfl⟩ := hm
    have hc1 : c9 = 1 := hck.elim (fun z => z.1) (fun z => absurd ((noB_iff (by omega)).mp z.2) ht.2)
    subst hc1
    exact ⟨r, _, rfl, IT_mo hC hM hv hh hwf ho _ _ _ _ _, fun q => absurd q (by decide)⟩
  · unfold tc_brightest at ht
    exact absurd ht.1 e_ne
