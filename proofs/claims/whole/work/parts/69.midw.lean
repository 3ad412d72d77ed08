/-! writers: both answers are one, and so are the states -/
theorem mid_there {k : Nat → ClassId} {G : Nat → Option va_E} {o aB aW aH aS aT : Nat} {wn hn nb nw : Nat} {ba wa ha : Nat → Nat} {bf hf : Nat → Nat → Int32} {wf : Nat → Nat → Nat} {sh : Nat → Int64} {tk : Nat → Int32} {mo cB cT cS cL cW : Nat} {th : Int32} {bx tr su li wi : Nat → Int32} {l1 l2 l3 l4 : Int64} {out : Nat} {ou : Nat → Int64} {b on : Int32} (hC : sC k G o aB aW aH aS aT wn hn nb nw ba wa ha bf hf wf sh tk) (hM : sM k G mo cB cT cS cL cW th wn hn nb nw bx tr su li wi l1 l2 l3 l4) (hv : vR nb bf bx tr) (hh : hR hf su li) (hwf : jm_Wf nw wi wf) (ho : G out = some (aLong (k 1) 1 ou)) (hon : on = 0 ∨ on = 1) {v : Option Value} {G1 : Nat → Option va_E} (hp : wr_post (pc_there k G o aB aW aH aS aT wn hn nb nw ba wa ha bf hf wf sh tk b on) (tc_there k G o aB aW aH aS aT wn hn nb nw ba wa ha bf hf wf sh tk b on) k G out ou f_z v G1) : ∃ kk : Int32, v = some (.int kk) ∧ sM k G1 mo cB cT cS cL cW th wn hn nb nw bx tr su li wi l1 l2 l3 l4 ∧ ∀ (v2 : Option Value) (G2 : Nat → Option va_E), pm_there k G1 mo cB cT cS cL cW th wn hn nb nw bx tr su li wi l1 l2 l3 l4 b on v2 G2 → ∃ r : Int32, ∃ ou2 : Nat → Int64, v2 = some (.int r) ∧ InvT k G2 o mo out kk ou2 ∧ (kk = 0 → ou2 0 = f_z r) := by
  obtain ⟨hnb, hnw, hw1, hw2, hh1, hh2⟩ := hC.2.1
  have hWb := hC.2.2.2.2.2.2.2
  rcases hp with ⟨v0, G0, hc, rfl, rfl⟩ | ⟨ht, rfl, hg⟩ | ⟨ht, rfl, hg⟩
  · unfold pc_there at hc
    obtain ⟨i, hi, ei, hv0, rfl⟩ := hc
    obtain ⟨g, hg⟩ : ∃ g : Nat → Int32, g = fun c => if c = 6 then on else bf i c := ⟨_, rfl⟩
    have e : (.inr (0, [.int (bf i 0), .int (bf i 1), .int (bf i 2), .int (bf i 3), .int (bf i 4), .int (bf i 5), .int on]) : va_E) = oBx g := by rw [hg]; rfl
    rw [e]
    have hC1 := sC_box hC hi g
    have hM1 : sM k (gs_u G (ba i) (oBx g)) mo cB cT cS cL cW th wn hn nb nw bx tr su li wi l1 l2 l3 l4 := sM_k hM (hC.2.2.1 i hi) rfl (by simp [ofM, kd])
    have ho1 : gs_u G (ba i) (oBx g) out = some (aLong (k 1) 1 ou) := kd_keep ho (hC.2.2.1 i hi) (by simp [kd])
    refine ⟨0, rfl, sM_out hM1 ho1 _, fun v2 G2 hm => ?_⟩
    unfold pm_there at hm
    rcases hm with ⟨h1, -⟩ | ⟨-, a, ha2, ea, rfl, rfl⟩
    · exact absurd ((noB_iff (by omega)).mpr ⟨i, hi, ei⟩) h1
    · have hai : a = i := eq_nI (by omega) (by omega) (ea.symm.trans ei)
      subst hai
      obtain ⟨⟨e0, e1, e2, e3, e4, e5, e6⟩, hB, h01⟩ := hv a hi
      have hC2 := sC_k (g := oMd 0 wn hn nb nw cB cT cS cL cW l1 l2 l3 l4) (sC_out hC1 ho1 (vp_updL ou 0 (f_z v0))) (sM_out hM1 ho1 (vp_updL ou 0 (f_z v0))).1 rfl (by simp [ofC, kd])
      have hM2 := sM_o (sM_out hM1 ho1 (vp_updL ou 0 (f_z v0))) 0 nb nw l1 l2 l3 l4
      have ho2 := kd_keep (g := oMd 0 wn hn nb nw cB cT cS cL cW l1 l2 l3 l4) (gs_us (gs_u G (ba a) (oBx g)) out (aLong (k 1) 1 (vp_updL ou 0 (f_z v0)))) (sM_out hM1 ho1 (vp_updL ou 0 (f_z v0))).1 (by simp [kd])
      refine ⟨tr a, _, rfl, IT_of (sC_k hC2 hM2.2.2.1 rfl (by simp [ofC, kd])) (sM_T hM2 _) (vR_set (bx2 := bx) hv hnb hi (fun _ _ => rfl) (fun c hc => pk_un hc) ?_) hh hwf (kd_keep ho2 hM2.2.2.1 (by simp [kd])), fun _ => ?_⟩
      · rw [pk_us]
        subst hg
        exact ⟨⟨e0, e1, e2, e3, e4, e5, rfl⟩, hB, hon⟩
      · rw [pk_uLs, int_v hv0, e6]
  · subst hg
    refine ⟨1, rfl, hM, fun v2 G2 hm => ?_⟩
    unfold pm_there at hm
    unfold tc_there at ht
    rcases hm with ⟨h1, rfl, rfl⟩ | ⟨h1, -⟩
    · exact ⟨0, _, rfl, IT_mo hC hM hv hh hwf ho _ _ _ _ _, fun q => absurd q (by decide)⟩
    · exact absurd ((noB_iff (by omega)).mp h1) ht.2
  · unfold tc_there at ht
    exact absurd ht.1 e_ne
theorem mid_light {k : Nat → ClassId} {G : Nat → Option va_E} {o aB aW aH aS aT : Nat} {wn hn nb nw : Nat} {ba wa ha : Nat → Nat} {bf hf : Nat → Nat → Int32} {wf : Nat → Nat → Nat} {sh : Nat → Int64} {tk : Nat → Int32} {mo cB cT cS cL cW : Nat} {th : Int32} {bx tr su li wi : Nat → Int32} {l1 l2 l3 l4 : Int64} {out : Nat} {ou : Nat → Int64} {t d1 : Int32} (hC : sC k G o aB aW aH aS aT wn hn nb nw ba wa ha bf hf wf sh tk) (hM : sM k G mo cB cT cS cL cW th wn hn nb nw bx tr su li wi l1 l2 l3 l4) (hv : vR nb bf bx tr) (hh : hR hf su li) (hwf : jm_Wf nw wi wf) (ho : G out = some (aLong (k 1) 1 ou)) {v : Option Value} {G1 : Nat → Option va_E} (hp : wr_post (pc_light k G o aB aW aH aS aT wn hn nb nw ba wa ha bf hf wf sh tk t d1) (tc_light k G o aB aW aH aS aT wn hn nb nw ba wa ha bf hf wf sh tk t d1) k G out ou f_i v G1) : ∃ kk : Int32, v = some (.int kk) ∧ sM k G1 mo cB cT cS cL cW th wn hn nb nw bx tr su li wi l1 l2 l3 l4 ∧ ∀ (v2 : Option Value) (G2 : Nat → Option va_E), pm_light k G1 mo cB cT cS cL cW th wn hn nb nw bx tr su li wi l1 l2 l3 l4 t d1 v2 G2 → ∃ r : Int32, ∃ ou2 : Nat → Int64, v2 = some (.int r) ∧ InvT k G2 o mo out kk ou2 ∧ (kk = 0 → ou2 0 = f_i r) := by
  obtain ⟨hnb, hnw, hw1, hw2, hh1, hh2⟩ := hC.2.1
  have hWb := hC.2.2.2.2.2.2.2
  rcases hp with ⟨v0, G0, hc, rfl, rfl⟩ | ⟨ht, rfl, hg⟩ | ⟨ht, rfl, hg⟩
  · unfold pc_light at hc
    obtain ⟨i, hi, ei, hd, hv0, rfl⟩ := hc
    obtain ⟨g, hg⟩ : ∃ g : Nat → Int32, g = fun c => if c = 3 then d1 else hf i c := ⟨_, rfl⟩
    have e : (.inr (1, [.int (hf i 0), .int (hf i 1), .int (hf i 2), .int d1]) : va_E) = oHr g := by rw [hg]; rfl
    rw [e]
    have hC1 := sC_hour hC hi g
    have hM1 : sM k (gs_u G (ha i) (oHr g)) mo cB cT cS cL cW th wn hn nb nw bx tr su li wi l1 l2 l3 l4 := sM_k hM (hC.2.2.2.2.1 i hi) rfl (by simp [ofM, kd])
    have ho1 : gs_u G (ha i) (oHr g) out = some (aLong (k 1) 1 ou) := kd_keep ho (hC.2.2.2.2.1 i hi) (by simp [kd])
    refine ⟨0, rfl, sM_out hM1 ho1 _, fun v2 G2 hm => ?_⟩
    unfold pm_light at hm
    rcases hm with ⟨h1, -⟩ | ⟨-, a, ha2, ea, rfl, rfl⟩
    · exact absurd ⟨noH_iff.mpr ⟨i, hi, ei⟩, hd⟩ h1
    · have hai : a = i := eq_nI (by omega) (by omega) (ea.symm.trans ei)
      subst hai
      obtain ⟨⟨e0, e1, e2, e3⟩, hB, h01⟩ := hh a hi
      have hC2 := sC_k (g := oMd 0 wn hn nb nw cB cT cS cL cW l1 l2 l3 l4) (sC_out hC1 ho1 (vp_updL ou 0 (f_i v0))) (sM_out hM1 ho1 (vp_updL ou 0 (f_i v0))).1 rfl (by simp [ofC, kd])
      have hM2 := sM_o (sM_out hM1 ho1 (vp_updL ou 0 (f_i v0))) 0 nb nw l1 l2 l3 l4
      have ho2 := kd_keep (g := oMd 0 wn hn nb nw cB cT cS cL cW l1 l2 l3 l4) (gs_us (gs_u G (ha a) (oHr g)) out (aLong (k 1) 1 (vp_updL ou 0 (f_i v0)))) (sM_out hM1 ho1 (vp_updL ou 0 (f_i v0))).1 (by simp [kd])
      have hd3 := wi_ok hd
      refine ⟨li a, _, rfl, IT_of (sC_k hC2 hM2.2.2.2.2.1 rfl (by simp [ofC, kd])) (sM_L hM2 _) hv (hR_set (su2 := su) hh hi (fun _ _ => rfl) (fun c hc => pk_un hc) ?_) hwf (kd_keep ho2 hM2.2.2.2.2.1 (by simp [kd])), fun _ => ?_⟩
      · rw [pk_us]
        subst hg
        exact ⟨⟨e0, e1, e2, rfl⟩, hB, hd3⟩
      · rw [pk_uLs, int_v hv0, e3]
  · subst hg
    refine ⟨1, rfl, hM, fun v2 G2 hm => ?_⟩
    unfold pm_light at hm
    unfold tc_light at ht
    rcases hm with ⟨h1, rfl, rfl⟩ | ⟨h1, -⟩
    · exact ⟨0, _, rfl, IT_mo hC hM hv hh hwf ho _ _ _ _ _, fun q => absurd q (by decide)⟩
    · exact (ht.2.elim (fun z => z (noH_iff.mp h1.1)) h1.2).elim
  · unfold tc_light at ht
    exact absurd ht.1 e_ne
theorem mid_sun {k : Nat → ClassId} {G : Nat → Option va_E} {o aB aW aH aS aT : Nat} {wn hn nb nw : Nat} {ba wa ha : Nat → Nat} {bf hf : Nat → Nat → Int32} {wf : Nat → Nat → Nat} {sh : Nat → Int64} {tk : Nat → Int32} {mo cB cT cS cL cW : Nat} {th : Int32} {bx tr su li wi : Nat → Int32} {l1 l2 l3 l4 : Int64} {out : Nat} {ou : Nat → Int64} {t d1 d2 d3 : Int32} (hC : sC k G o aB aW aH aS aT wn hn nb nw ba wa ha bf hf wf sh tk) (hM : sM k G mo cB cT cS cL cW th wn hn nb nw bx tr su li wi l1 l2 l3 l4) (hv : vR nb bf bx tr) (hh : hR hf su li) (hwf : jm_Wf nw wi wf) (ho : G out = some (aLong (k 1) 1 ou)) {v : Option Value} {G1 : Nat → Option va_E} (hp : (∃ G0 : Nat → Option va_E, pc_sun k G o aB aW aH aS aT wn hn nb nw ba wa ha bf hf wf sh tk t d1 d2 d3 none G0 ∧ v = some (.int 0) ∧ G1 = G0) ∨ (tc_sun k G o aB aW aH aS aT wn hn nb nw ba wa ha bf hf wf sh tk t d1 d2 d3 e_IA ∧ v = some (.int 1) ∧ G1 = G)) : ∃ kk : Int32, v = some (.int kk) ∧ sM k G1 mo cB cT cS cL cW th wn hn nb nw bx tr su li wi l1 l2 l3 l4 ∧ ∀ (v2 : Option Value) (G2 : Nat → Option va_E), pm_sun k G1 mo cB cT cS cL cW th wn hn nb nw bx tr su li wi l1 l2 l3 l4 t d1 d2 d3 v2 G2 → ∃ ou2 : Nat → Int64, v2 = none ∧ InvT k G2 o mo out kk ou2 := by
  obtain ⟨hnb, hnw, hw1, hw2, hh1, hh2⟩ := hC.2.1
  rcases hp with ⟨G0, hc, rfl, rfl⟩ | ⟨ht, rfl, hg⟩
  · unfold pc_sun at hc
    obtain ⟨-, i, hi, ei, hd, rfl⟩ := hc
    obtain ⟨g, hg⟩ : ∃ g : Nat → Int32, g = fun c => if c = 0 then d1 else if c = 1 then d2 else if c = 2 then d3 else hf i c := ⟨_, rfl⟩
    have e : (.inr (1, [.int d1, .int d2, .int d3, .int (hf i 3)]) : va_E) = oHr g := by rw [hg]; rfl
    rw [e]
    have hC1 := sC_hour hC hi g
    have hM1 : sM k (gs_u G (ha i) (oHr g)) mo cB cT cS cL cW th wn hn nb nw bx tr su li wi l1 l2 l3 l4 := sM_k hM (hC.2.2.2.2.1 i hi) rfl (by simp [ofM, kd])
    have ho1 : gs_u G (ha i) (oHr g) out = some (aLong (k 1) 1 ou) := kd_keep ho (hC.2.2.2.2.1 i hi) (by simp [kd])
    refine ⟨0, rfl, hM1, fun v2 G2 hm => ?_⟩
    unfold pm_sun at hm
    rcases hm with ⟨h1, -⟩ | ⟨-, rfl, a, ha2, ea, rfl⟩
    · exact absurd ⟨noH_iff.mpr ⟨i, hi, ei⟩, hd.1, hd.2.1, hd.2.2⟩ h1
    · have hai : a = i := eq_nI (by omega) (by omega) (ea.symm.trans ei)
      subst hai
      obtain ⟨⟨e0, e1, e2, e3⟩, hB, h01⟩ := hh a hi
      have hC2 := sC_k (g := oMd 0 wn hn nb nw cB cT cS cL cW l1 l2 l3 l4) hC1 hM1.1 rfl (by simp [ofC, kd])
      have hM2 := sM_o hM1 0 nb nw l1 l2 l3 l4
      have ho2 := kd_keep (g := oMd 0 wn hn nb nw cB cT cS cL cW l1 l2 l3 l4) ho1 hM1.1 (by simp [kd])
      have w1 := wi_ok hd.1
      have w2 := wi_ok hd.2.1
      have w3 := wi_ok hd.2.2
      have hs := sun_at (su := su) (b := a) (x := d1) (y := d2) (z := d3)
      refine ⟨_, rfl, IT_of (sC_k hC2 hM2.2.2.2.1 rfl (by simp [ofC, kd])) (sM_S hM2 _) hv (hR_set (li2 := li) hh hi (fun _ hc => sun_ne hc) (fun c hc => rfl) ?_) hwf (kd_keep ho2 hM2.2.2.2.1 (by simp [kd]))⟩
      rw [hs.1, hs.2.1, hs.2.2]
      subst hg
      exact ⟨⟨rfl, rfl, rfl, e3⟩, ⟨w1, w2, w3⟩, h01⟩
  · subst hg
    refine ⟨1, rfl, hM, fun v2 G2 hm => ?_⟩
    unfold pm_sun at hm
    unfold tc_sun at ht
    rcases hm with ⟨h1, rfl, rfl⟩ | ⟨h1, -⟩
    · exact ⟨_, rfl, IT_mo hC hM hv hh hwf ho _ _ _ _ _⟩
    · exact (ht.2.elim (fun z => z (noH_iff.mp h1.1)) (fun z => z.elim h1.2.1 (fun z => z.elim h1.2.2.1 h1.2.2.2))).elim
theorem mid_move {k : Nat → ClassId} {G : Nat → Option va_E} {o aB aW aH aS aT : Nat} {wn hn nb nw : Nat} {ba wa ha : Nat → Nat} {bf hf : Nat → Nat → Int32} {wf : Nat → Nat → Nat} {sh : Nat → Int64} {tk : Nat → Int32} {mo cB cT cS cL cW : Nat} {th : Int32} {bx tr su li wi : Nat → Int32} {l1 l2 l3 l4 : Int64} {out : Nat} {ou : Nat → Int64} {b d1 d2 d3 : Int32} (hC : sC k G o aB aW aH aS aT wn hn nb nw ba wa ha bf hf wf sh tk) (hM : sM k G mo cB cT cS cL cW th wn hn nb nw bx tr su li wi l1 l2 l3 l4) (hv : vR nb bf bx tr) (hh : hR hf su li) (hwf : jm_Wf nw wi wf) (ho : G out = some (aLong (k 1) 1 ou)) {v : Option Value} {G1 : Nat → Option va_E} (hp : wr_post (pc_move k G o aB aW aH aS aT wn hn nb nw ba wa ha bf hf wf sh tk b d1 d2 d3) (tc_move k G o aB aW aH aS aT wn hn nb nw ba wa ha bf hf wf sh tk b d1 d2 d3) k G out ou f_z v G1) : ∃ kk : Int32, v = some (.int kk) ∧ sM k G1 mo cB cT cS cL cW th wn hn nb nw bx tr su li wi l1 l2 l3 l4 ∧ ∀ (v2 : Option Value) (G2 : Nat → Option va_E), pm_move k G1 mo cB cT cS cL cW th wn hn nb nw bx tr su li wi l1 l2 l3 l4 b d1 d2 d3 v2 G2 → ∃ r : Int32, ∃ ou2 : Nat → Int64, v2 = some (.int r) ∧ InvT k G2 o mo out kk ou2 ∧ (kk = 0 → ou2 0 = f_z r) := by
  obtain ⟨hnb, hnw, hw1, hw2, hh1, hh2⟩ := hC.2.1
  have hWb := hC.2.2.2.2.2.2.2
  rcases hp with ⟨v0, G0, hc, rfl, rfl⟩ | ⟨ht, rfl, hg⟩ | ⟨ht, rfl, hg⟩
  · unfold pc_move at hc
    obtain ⟨i, hi, ei, hd, hcase⟩ := hc
    obtain ⟨⟨e0, e1, e2, e3, e4, e5, e6⟩, hB, h01⟩ := hv i hi
    rcases hcase with ⟨hal, hv0, rfl⟩ | ⟨hal, hv0, rfl⟩
    · refine ⟨0, rfl, sM_out hM ho _, fun v2 G2 hm => ?_⟩
      unfold pm_move at hm
      rcases hm with ⟨h1, -⟩ | ⟨-, a, ha2, ea, hm2⟩
      · exact absurd ⟨(noB_iff (by omega)).mpr ⟨i, hi, ei⟩, hd.1, hd.2.1, hd.2.2⟩ h1
      · have hai : a = i := eq_nI (by omega) (by omega) (ea.symm.trans ei)
        subst hai
        rcases hm2 with ⟨-, rfl, rfl⟩ | ⟨hz, -⟩
        · exact ⟨0, _, rfl, IT_mo (sC_out hC ho _) (sM_out hM ho _) hv hh hwf (gs_us _ _ _) _ _ _ _ _, fun _ => by rw [pk_uLs, int_v hv0]⟩
        · rw [← e0, ← e1, ← e2, ← e3, ← e4, ← e5, bx_vB, ← al_vB] at hz
          exact absurd hal hz
    · obtain ⟨g, hg⟩ : ∃ g : Nat → Int32, g = fun c => if c = 0 then bf i 0 + d1 else if c = 1 then bf i 1 + d2 else if c = 2 then bf i 2 + d3 else if c = 3 then bf i 3 + d1 else if c = 4 then bf i 4 + d2 else if c = 5 then bf i 5 + d3 else bf i c := ⟨_, rfl⟩
      have e : (.inr (0, [.int (bf i 0 + d1), .int (bf i 1 + d2), .int (bf i 2 + d3), .int (bf i 3 + d1), .int (bf i 4 + d2), .int (bf i 5 + d3), .int (bf i 6)]) : va_E) = oBx g := by rw [hg]; rfl
      rw [e]
      have hC1 := sC_box hC hi g
      have hM1 : sM k (gs_u G (ba i) (oBx g)) mo cB cT cS cL cW th wn hn nb nw bx tr su li wi l1 l2 l3 l4 := sM_k hM (hC.2.2.1 i hi) rfl (by simp [ofM, kd])
      have ho1 : gs_u G (ba i) (oBx g) out = some (aLong (k 1) 1 ou) := kd_keep ho (hC.2.2.1 i hi) (by simp [kd])
      refine ⟨0, rfl, sM_out hM1 ho1 _, fun v2 G2 hm => ?_⟩
      unfold pm_move at hm
      rcases hm with ⟨h1, -⟩ | ⟨-, a, ha2, ea, hm2⟩
      · exact absurd ⟨(noB_iff (by omega)).mpr ⟨i, hi, ei⟩, hd.1, hd.2.1, hd.2.2⟩ h1
      · have hai : a = i := eq_nI (by omega) (by omega) (ea.symm.trans ei)
        subst hai
        rcases hm2 with ⟨hz, -⟩ | ⟨-, rfl, rfl⟩
        · rw [← e0, ← e1, ← e2, ← e3, ← e4, ← e5] at hz
          exact absurd hz (bx_vB.mpr (al_vB.mp hal))
        · have hMo := sM_out hM1 ho1 (vp_updL ou 0 (f_z v0))
          have hC2 := sC_k (g := oMd 0 wn hn nb nw cB cT cS cL cW l1 l2 l3 l4) (sC_out hC1 ho1 (vp_updL ou 0 (f_z v0))) hMo.1 rfl (by simp [ofC, kd])
          have hM2 := sM_o hMo 0 nb nw l1 l2 l3 l4
          have ho2 := kd_keep (g := oMd 0 wn hn nb nw cB cT cS cL cW l1 l2 l3 l4) (gs_us (gs_u G (ba a) (oBx g)) out (aLong (k 1) 1 (vp_updL ou 0 (f_z v0)))) hMo.1 (by simp [kd])
          rw [← e0, ← e1, ← e2, ← e3, ← e4, ← e5]
          obtain ⟨bx2, hbx2⟩ : ∃ z, z = jm_lay bx a (bf a 0 + d1) (bf a 1 + d2) (bf a 2 + d3) (bf a 3 + d1) (bf a 4 + d2) (bf a 5 + d3) := ⟨_, rfl⟩
          rw [← hbx2]
          have hM3 := sM_B hM2 bx2
          have hC3 := sC_k (g := aInt (k 0) 66 bx2) hC2 hM2.2.1 rfl (by simp [ofC, kd])
          have ho3 := kd_keep (g := aInt (k 0) 66 bx2) ho2 hM2.2.1 (by simp [kd])
          have hla := lay_at (bx := bx) (b := a) (x0 := bf a 0 + d1) (y0 := bf a 1 + d2) (z0 := bf a 2 + d3) (x1 := bf a 3 + d1) (y1 := bf a 4 + d2) (z1 := bf a 5 + d3)
          rw [← hbx2] at hla
          refine ⟨1, _, rfl, IT_of (sC_k hC3 hM3.2.2.1 rfl (by simp [ofC, kd])) (sM_T hM3 _) (vR_set (bx2 := bx2) hv hnb hi (fun c hc => by rw [hbx2]; exact jm_lay_ne hc) (fun c hc => by rw [pk_un hc, pk_un hc]) ?_) hh hwf (kd_keep ho3 hM3.2.2.1 (by simp [kd])), fun _ => by rw [pk_uLs, int_v hv0]⟩
          rw [hla.1, hla.2.1, hla.2.2.1, hla.2.2.2.1, hla.2.2.2.2.1, hla.2.2.2.2.2, pk_us]
          subst hg
          exact ⟨⟨rfl, rfl, rfl, rfl, rfl, rfl, e6⟩, al_vB.mp hal, h01⟩
  · subst hg
    refine ⟨1, rfl, hM, fun v2 G2 hm => ?_⟩
    unfold pm_move at hm
    unfold tc_move at ht
    rcases hm with ⟨h1, rfl, rfl⟩ | ⟨h1, -⟩
    · exact ⟨0, _, rfl, IT_mo hC hM hv hh hwf ho _ _ _ _ _, fun q => absurd q (by decide)⟩
    · exact (ht.2.elim (fun z => z ((noB_iff (by omega)).mp h1.1)) (fun z => z.elim h1.2.1 (fun z => z.elim h1.2.2.1 h1.2.2.2))).elim
  · unfold tc_move at ht
    exact absurd ht.1 e_ne
theorem mid_box {k : Nat → ClassId} {G : Nat → Option va_E} {o aB aW aH aS aT : Nat} {wn hn nb nw : Nat} {ba wa ha : Nat → Nat} {bf hf : Nat → Nat → Int32} {wf : Nat → Nat → Nat} {sh : Nat → Int64} {tk : Nat → Int32} {mo cB cT cS cL cW : Nat} {th : Int32} {bx tr su li wi : Nat → Int32} {l1 l2 l3 l4 : Int64} {out : Nat} {ou : Nat → Int64} {x0 y0 z0 x1 y1 z1 : Int32} (hC : sC k G o aB aW aH aS aT wn hn nb nw ba wa ha bf hf wf sh tk) (hM : sM k G mo cB cT cS cL cW th wn hn nb nw bx tr su li wi l1 l2 l3 l4) (hv : vR nb bf bx tr) (hh : hR hf su li) (hwf : jm_Wf nw wi wf) (ho : G out = some (aLong (k 1) 1 ou)) (hk34 : k 3 ≠ k 4) {v : Option Value} {G1 : Nat → Option va_E} (hp : wr_post (pc_box k G o aB aW aH aS aT wn hn nb nw ba wa ha bf hf wf sh tk x0 y0 z0 x1 y1 z1) (tc_box k G o aB aW aH aS aT wn hn nb nw ba wa ha bf hf wf sh tk x0 y0 z0 x1 y1 z1) k G out ou f_i v G1) : ∃ kk : Int32, v = some (.int kk) ∧ sM k G1 mo cB cT cS cL cW th wn hn nb nw bx tr su li wi l1 l2 l3 l4 ∧ ∀ (v2 : Option Value) (G2 : Nat → Option va_E), pm_box k G1 mo cB cT cS cL cW th wn hn nb nw bx tr su li wi l1 l2 l3 l4 x0 y0 z0 x1 y1 z1 v2 G2 → ∃ r : Int32, ∃ ou2 : Nat → Int64, v2 = some (.int r) ∧ InvT k G2 o mo out kk ou2 ∧ (kk = 0 → ou2 0 = f_i r) := by
  obtain ⟨hnb, hnw, hw1, hw2, hh1, hh2⟩ := hC.2.1
  have hWb := hC.2.2.2.2.2.2.2
  rcases hp with ⟨v0, G0, hc, rfl, rfl⟩ | ⟨ht, rfl, hg⟩ | ⟨ht, rfl, hg⟩
  · unfold pc_box at hc
    obtain ⟨q, h10, hal, hf0, hv0, rfl⟩ := hc
    obtain ⟨g, hg⟩ : ∃ g : Nat → Int32, g = fun c => if c = 0 then x0 else if c = 1 then y0 else if c = 2 then z0 else if c = 3 then x1 else if c = 4 then y1 else if c = 5 then z1 else 1 := ⟨_, rfl⟩
    have e : (.inr (0, [.int x0, .int y0, .int z0, .int x1, .int y1, .int z1, .int 1]) : va_E) = oBx g := by rw [hg]; rfl
    rw [e]
    have hC1 := sC_newbox hC hk34 hf0 h10 g
    have oB := gs_keepN (e := oBx g) hC.1.2.1 hf0
    have oO := kd_keep (g := aRef (k 3) 10 (va_up (upTo nb ba) nb (some q))) (gs_keepN (e := oBx g) hC.1.1 hf0) oB (by simp [kd])
    have hM1 := sM_k (g := oSs wn hn aB aW aH aS aT (nb + 1) nw) (sM_k (g := aRef (k 3) 10 (va_up (upTo nb ba) nb (some q))) (sM_at (e := oBx g) hM hf0) oB rfl (by simp [ofM, kd])) oO rfl (by simp [ofM, kd])
    have ho1 := kd_keep (g := oSs wn hn aB aW aH aS aT (nb + 1) nw) (kd_keep (g := aRef (k 3) 10 (va_up (upTo nb ba) nb (some q))) (gs_keepN (e := oBx g) ho hf0) oB (by simp [kd])) oO (by simp [kd])
    refine ⟨0, rfl, sM_out hM1 ho1 _, fun v2 G2 hm => ?_⟩
    unfold pm_box at hm
    rcases hm with ⟨h1, -⟩ | ⟨-, h1, -⟩ | ⟨-, -, rfl, rfl⟩
    · exact absurd h1 (bx_vB.mpr (al_vB.mp hal))
    · omega
    · have hla := lay_at (bx := bx) (b := nb) (x0 := x0) (y0 := y0) (z0 := z0) (x1 := x1) (y1 := y1) (z1 := z1)
      refine ⟨nI nb, _, rfl, IT_gM (sC_out hC1 ho1 _) (sM_out hM1 ho1 _) (vR_new (bx2 := jm_lay bx nb x0 y0 z0 x1 y1 z1) hv (fun c hc => jm_lay_ne (Or.inl hc)) (fun c hc => pk_un (by omega)) ?_) hh hwf (gs_us _ _ _) _ _ _ _ _, fun _ => by rw [pk_uLs, int_v hv0]⟩
      rw [hla.1, hla.2.1, hla.2.2.1, hla.2.2.2.1, hla.2.2.2.2.1, hla.2.2.2.2.2, pk_us]
      subst hg
      exact ⟨⟨rfl, rfl, rfl, rfl, rfl, rfl, rfl⟩, al_vB.mp hal, Or.inr rfl⟩
  · subst hg
    refine ⟨1, rfl, hM, fun v2 G2 hm => ?_⟩
    unfold pm_box at hm
    unfold tc_box at ht
    have hx := ht.elim (fun q => q.2) (fun q => absurd q.1 e_ne')
    rcases hm with ⟨-, rfl, rfl⟩ | ⟨h1, -⟩ | ⟨h1, -⟩
    · exact ⟨0, _, rfl, IT_mo hC hM hv hh hwf ho _ _ _ _ _, fun q => absurd q (by decide)⟩
    · exact absurd hx (al_vB.mpr (bx_vB.mp h1))
    · exact absurd hx (al_vB.mpr (bx_vB.mp h1))
  · subst hg
    refine ⟨2, rfl, hM, fun v2 G2 hm => ?_⟩
    unfold pm_box at hm
    unfold tc_box at ht
    have hx := ht.elim (fun q => absurd q.1 e_ne) (fun q => q.2)
    rcases hm with ⟨h1, -⟩ | ⟨-, -, rfl, rfl⟩ | ⟨-, h1, -⟩
    · exact absurd h1 (bx_vB.mpr (al_vB.mp hx.1))
    · exact ⟨0, _, rfl, IT_mo hC hM hv hh hwf ho _ _ _ _ _, fun q => absurd q (by decide)⟩
    · exact absurd h1 hx.2
theorem mid_window {k : Nat → ClassId} {G : Nat → Option va_E} {o aB aW aH aS aT : Nat} {wn hn nb nw : Nat} {ba wa ha : Nat → Nat} {bf hf : Nat → Nat → Int32} {wf : Nat → Nat → Nat} {sh : Nat → Int64} {tk : Nat → Int32} {mo cB cT cS cL cW : Nat} {th : Int32} {bx tr su li wi : Nat → Int32} {l1 l2 l3 l4 : Int64} {out : Nat} {ou : Nat → Int64} {u0 v0 u1 v1 : Int32} (hC : sC k G o aB aW aH aS aT wn hn nb nw ba wa ha bf hf wf sh tk) (hM : sM k G mo cB cT cS cL cW th wn hn nb nw bx tr su li wi l1 l2 l3 l4) (hv : vR nb bf bx tr) (hh : hR hf su li) (hwf : jm_Wf nw wi wf) (ho : G out = some (aLong (k 1) 1 ou)) (hk34 : k 3 ≠ k 4) {v : Option Value} {G1 : Nat → Option va_E} (hp : wr_post (pc_window k G o aB aW aH aS aT wn hn nb nw ba wa ha bf hf wf sh tk u0 v0 u1 v1) (tc_window k G o aB aW aH aS aT wn hn nb nw ba wa ha bf hf wf sh tk u0 v0 u1 v1) k G out ou f_i v G1) : ∃ kk : Int32, v = some (.int kk) ∧ sM k G1 mo cB cT cS cL cW th wn hn nb nw bx tr su li wi l1 l2 l3 l4 ∧ ∀ (v2 : Option Value) (G2 : Nat → Option va_E), pm_window k G1 mo cB cT cS cL cW th wn hn nb nw bx tr su li wi l1 l2 l3 l4 u0 v0 u1 v1 v2 G2 → ∃ r : Int32, ∃ ou2 : Nat → Int64, v2 = some (.int r) ∧ InvT k G2 o mo out kk ou2 ∧ (kk = 0 → ou2 0 = f_i r) := by
  obtain ⟨hnb, hnw, hw1, hw2, hh1, hh2⟩ := hC.2.1
  have hWb := hC.2.2.2.2.2.2.2
  have hok2 : (0 ≤ u0 ∧ u0 < u1 ∧ u1 ≤ nI wn ∧ 0 ≤ v0 ∧ v0 < v1 ∧ v1 ≤ nI hn) ↔ (¬ u0 < 0 ∧ ¬ v0 < 0 ∧ u1 ≤ nI wn ∧ v1 ≤ nI hn ∧ u0 < u1 ∧ v0 < v1) := by simp only [i_lt, i_le]; omega
  rcases hp with ⟨w0, G0, hc, rfl, rfl⟩ | ⟨ht, rfl, hg⟩ | ⟨ht, rfl, hg⟩
  · unfold pc_window at hc
    obtain ⟨q, h10, hok, hf0, hv0, rfl⟩ := hc
    obtain ⟨n0, n1, n2, n3, rfl, rfl, rfl, rfl, hn4⟩ := wok_n ⟨hw1, hw2⟩ ⟨hh1, hh2⟩ hok
    obtain ⟨g, hg⟩ : ∃ g : Nat → Nat, g = fun c => if c = 0 then n0 else if c = 1 then n1 else if c = 2 then n2 else n3 := ⟨_, rfl⟩
    have e : (.inr (2, [.int (nI n0), .int (nI n1), .int (nI n2), .int (nI n3)]) : va_E) = oWn g := by rw [hg]; rfl
    rw [e]
    have hC1 := sC_newwin hC hk34 hf0 h10 g (by subst hg; exact hn4)
    have oB := gs_keepN (e := oWn g) hC.1.2.2.1 hf0
    have oO := kd_keep (g := aRef (k 4) 10 (va_up (upTo nw wa) nw (some q))) (gs_keepN (e := oWn g) hC.1.1 hf0) oB (by simp [kd])
    have hM1 := sM_k (g := oSs wn hn aB aW aH aS aT nb (nw + 1)) (sM_k (g := aRef (k 4) 10 (va_up (upTo nw wa) nw (some q))) (sM_at (e := oWn g) hM hf0) oB rfl (by simp [ofM, kd])) oO rfl (by simp [ofM, kd])
    have ho1 := kd_keep (g := oSs wn hn aB aW aH aS aT nb (nw + 1)) (kd_keep (g := aRef (k 4) 10 (va_up (upTo nw wa) nw (some q))) (gs_keepN (e := oWn g) ho hf0) oB (by simp [kd])) oO (by simp [kd])
    have hMo := sM_out hM1 ho1 (vp_updL ou 0 (f_i w0))
    have hCo := sC_out hC1 ho1 (vp_updL ou 0 (f_i w0))
    have hoo := gs_us (gs_u (gs_u (gs_u G q (oWn g)) aW (aRef (k 4) 10 (va_up (upTo nw wa) nw (some q)))) o (oSs wn hn aB aW aH aS aT nb (nw + 1))) out (aLong (k 1) 1 (vp_updL ou 0 (f_i w0)))
    refine ⟨0, rfl, hMo, fun v2 G2 hm => ?_⟩
    unfold pm_window at hm
    rcases hm with ⟨h1, -⟩ | ⟨-, h1, -⟩ | ⟨-, -, rfl, rfl⟩
    · exact absurd (hok2.mp hok) h1
    · omega
    · have hM2 := sM_o hMo 0 nb nw l1 l2 l3 l4
      have hC2 := sC_k (g := oMd 0 wn hn nb nw cB cT cS cL cW l1 l2 l3 l4) hCo hMo.1 rfl (by simp [ofC, kd])
      have ho2 := kd_keep (g := oMd 0 wn hn nb nw cB cT cS cL cW l1 l2 l3 l4) hoo hMo.1 (by simp [kd])
      have hM3 := sM_W hM2 (jm_win wi nw (nI n0) (nI n1) (nI n2) (nI n3))
      have hC3 := sC_k (g := aInt (k 0) 40 (jm_win wi nw (nI n0) (nI n1) (nI n2) (nI n3))) hC2 hM2.2.2.2.2.2 rfl (by simp [ofC, kd])
      have ho3 := kd_keep (g := aInt (k 0) 40 (jm_win wi nw (nI n0) (nI n1) (nI n2) (nI n3))) ho2 hM2.2.2.2.2.2 (by simp [kd])
      refine ⟨nI nw, _, rfl, IT_of (sC_k hC3 hM3.1 rfl (by simp [ofC, kd])) (sM_o hM3 0 nb (nw + 1) l1 l2 l3 l4) hv hh (fun a ha2 => ?_) (kd_keep ho3 hM3.1 (by simp [kd])), fun _ => by rw [pk_uLs, int_v hv0]⟩
      by_cases e9 : a = nw
      · subst e9
        have hwa := win_at (wi := wi) (b := a) (x := nI n0) (y := nI n1) (z := nI n2) (w := nI n3)
        rw [updW_s, hwa.1, hwa.2.1, hwa.2.2.1, hwa.2.2.2]
        subst hg
        exact ⟨⟨rfl, rfl, rfl, rfl⟩, (by show n0 ≤ n2; omega), (by show n1 ≤ n3; omega), (by show n2 ≤ 60; omega), (by show n3 ≤ 60; omega)⟩
      · rw [updW_n e9, win_ne (by omega), win_ne (by omega), win_ne (by omega), win_ne (by omega)]
        exact hwf a (by omega)
  · subst hg
    refine ⟨1, rfl, hM, fun v2 G2 hm => ?_⟩
    unfold pm_window at hm
    unfold tc_window at ht
    have hx := ht.elim (fun q => q.2) (fun q => absurd q.1 e_ne')
    rcases hm with ⟨-, rfl, rfl⟩ | ⟨h1, -⟩ | ⟨h1, -⟩
    · exact ⟨0, _, rfl, IT_mo hC hM hv hh hwf ho _ _ _ _ _, fun q => absurd q (by decide)⟩
    · exact absurd (hok2.mpr h1) hx
    · exact absurd (hok2.mpr h1) hx
  · subst hg
    refine ⟨2, rfl, hM, fun v2 G2 hm => ?_⟩
    unfold pm_window at hm
    unfold tc_window at ht
    have hx := ht.elim (fun q => absurd q.1 e_ne) (fun q => q.2)
    rcases hm with ⟨h1, -⟩ | ⟨-, -, rfl, rfl⟩ | ⟨-, h1, -⟩
    · exact absurd (hok2.mp hx.1) h1
    · exact ⟨0, _, rfl, IT_mo hC hM hv hh hwf ho _ _ _ _ _, fun q => absurd q (by decide)⟩
    · exact absurd h1 hx.2
