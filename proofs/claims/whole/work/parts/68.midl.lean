/-! ledge, deep, worst: both answers are one -/
theorem mid_ledge {k : Nat → ClassId} {G : Nat → Option va_E} {o aB aW aH aS aT : Nat} {wn hn nb nw : Nat} {ba wa ha : Nat → Nat} {bf hf : Nat → Nat → Int32} {wf : Nat → Nat → Nat} {sh : Nat → Int64} {tk : Nat → Int32} {mo cB cT cS cL cW : Nat} {th : Int32} {bx tr su li wi : Nat → Int32} {l1 l2 l3 l4 : Int64} {out : Nat} {ou : Nat → Int64} {q t d : Int32} (hC : sC k G o aB aW aH aS aT wn hn nb nw ba wa ha bf hf wf sh tk) (hM : sM k G mo cB cT cS cL cW th wn hn nb nw bx tr su li wi l1 l2 l3 l4) (hv : vR nb bf bx tr) (hh : hR hf su li) (hwf : jm_Wf nw wi wf) (ho : G out = some (aLong (k 1) 1 ou)) {v : Option Value} {G1 : Nat → Option va_E} (hp : wr_post (pc_ledge k G o aB aW aH aS aT wn hn nb nw ba wa ha bf hf wf sh tk q t d) (tc_ledge k G o aB aW aH aS aT wn hn nb nw ba wa ha bf hf wf sh tk q t d) k G out ou f_i v G1) : ∃ kk : Int32, v = some (.int kk) ∧ sM k G1 mo cB cT cS cL cW th wn hn nb nw bx tr su li wi l1 l2 l3 l4 ∧ ∀ (v2 : Option Value) (G2 : Nat → Option va_E), pm_ledge k G1 mo cB cT cS cL cW th wn hn nb nw bx tr su li wi l1 l2 l3 l4 wf q t d v2 G2 → ∃ r : Int32, ∃ ou2 : Nat → Int64, v2 = some (.int r) ∧ InvT k G2 o mo out kk ou2 ∧ (kk = 0 → ou2 0 = f_i r) := by
  obtain ⟨hnb, hnw, hw1, hw2, hh1, hh2⟩ := hC.2.1
  have hWb := hC.2.2.2.2.2.2.2
  rcases hp with ⟨v0, G0, hc, rfl, rfl⟩ | ⟨ht, rfl, hg⟩ | ⟨ht, rfl, hg⟩
  · unfold pc_ledge at hc
    obtain ⟨i, j, a, hi, ei, hs, hj, ej, hd, hf0, hv0, rfl⟩ := hc
    have ho1 := gs_keepN (e := .inr (0, [.int (nI (wf j 0)), .int (nI (wf j 3)), .int 0, .int (nI (wf j 2)), .int (nI (wf j 3) + 1), .int d, .int 1])) ho hf0
    refine ⟨0, rfl, sM_out (sM_at hM hf0) ho1 _, fun v2 G2 hm => ?_⟩
    unfold pm_ledge at hm
    obtain ⟨c9, r, j9, bx2, tr2, m1, m2, m3, m4, hck, rfl, hr, h60, h10, rfl⟩ := hm
    obtain ⟨rfl, rfl⟩ := Ck_is0 hck ⟨(noB_iff (by omega)).mpr ⟨j, hj, ej⟩, hd⟩ hi ei (fun q => hs ((hR_no hh hi).mpr q))
    have hS := hR_S hh hi
    have hZ := hR_Z hh hi hs
    obtain ⟨q0, q1, q2, q3⟩ := (hh _ hi).1
    refine ⟨r, _, rfl, IT_gM (sC_out (sC_at hC hf0) ho1 _) (sM_out (sM_at hM hf0) ho1 _) (vR_eq hv hnb h60 h10) hh hwf (gs_us _ _ _) _ _ _ _ _, fun _ => ?_⟩
    rw [pk_uLs]
    congr 1
    obtain ⟨b, hb2, eb, rfl⟩ := hr rfl
    have hja : b = j := eq_nI (by omega) (by omega) (eb.symm.trans ej)
    subst hja
    obtain ⟨dn, hd2, ed⟩ := wi_1 hd
    subst ed
    rw [int_v hv0, q0, q1, q2]
    have hb := hWb b hb2
    exact lk_led hv hnb hS hZ ⟨hw1, hw2⟩ hb.1 hb.2.1 (by omega) hd2
  · subst hg
    refine ⟨1, rfl, hM, fun v2 G2 hm => ?_⟩
    unfold pm_ledge at hm
    unfold tc_ledge at ht
    obtain ⟨c9, r, j9, bx2, tr2, m1, m2, m3, m4, hck, rfl, hr, h60, h10, rfl⟩ := hm
    have hx := ht.elim (fun q => q.2) (fun q => absurd q.1 e_ne')
    have hc1 : c9 = 1 := Ck_is1 hck (hx.elim (fun z => Or.inl fun q => z ((noB_iff (by omega)).mp q.1)) (fun z => z.elim (fun z => Or.inl fun q => q.2 z) Or.inr))
    subst hc1
    exact ⟨r, _, rfl, IT_gM hC hM (vR_eq hv hnb h60 h10) hh hwf ho _ _ _ _ _, fun q => absurd q (by decide)⟩
  · subst hg
    refine ⟨2, rfl, hM, fun v2 G2 hm => ?_⟩
    unfold pm_ledge at hm
    unfold tc_ledge at ht
    obtain ⟨c9, r, j9, bx2, tr2, m1, m2, m3, m4, hck, rfl, hr, h60, h10, rfl⟩ := hm
    have hx := ht.elim (fun q => absurd q.1 e_ne) (fun q => q.2)
    obtain ⟨hw9, hd, i, hi, ei, hs⟩ := hx
    have hc2 : c9 = 2 := Ck_is2 hck ⟨(noB_iff (by omega)).mpr hw9, hd⟩ hi ei ((hR_no hh hi).mp hs)
    subst hc2
    exact ⟨r, _, rfl, IT_gM hC hM (vR_eq hv hnb h60 h10) hh hwf ho _ _ _ _ _, fun q => absurd q (by decide)⟩
theorem mid_deep {k : Nat → ClassId} {G : Nat → Option va_E} {o aB aW aH aS aT : Nat} {wn hn nb nw : Nat} {ba wa ha : Nat → Nat} {bf hf : Nat → Nat → Int32} {wf : Nat → Nat → Nat} {sh : Nat → Int64} {tk : Nat → Int32} {mo cB cT cS cL cW : Nat} {th : Int32} {bx tr su li wi : Nat → Int32} {l1 l2 l3 l4 : Int64} {out : Nat} {ou : Nat → Int64} {q t cs : Int32} (hC : sC k G o aB aW aH aS aT wn hn nb nw ba wa ha bf hf wf sh tk) (hM : sM k G mo cB cT cS cL cW th wn hn nb nw bx tr su li wi l1 l2 l3 l4) (hv : vR nb bf bx tr) (hh : hR hf su li) (hwf : jm_Wf nw wi wf) (ho : G out = some (aLong (k 1) 1 ou)) {v : Option Value} {G1 : Nat → Option va_E} (hp : wr_post (pc_deep k G o aB aW aH aS aT wn hn nb nw ba wa ha bf hf wf sh tk q t cs) (tc_deep k G o aB aW aH aS aT wn hn nb nw ba wa ha bf hf wf sh tk q t cs) k G out ou f_i v G1) : ∃ kk : Int32, v = some (.int kk) ∧ sM k G1 mo cB cT cS cL cW th wn hn nb nw bx tr su li wi l1 l2 l3 l4 ∧ ∀ (v2 : Option Value) (G2 : Nat → Option va_E), pm_deep k G1 mo cB cT cS cL cW th wn hn nb nw bx tr su li wi l1 l2 l3 l4 wf q t cs v2 G2 → ∃ r : Int32, ∃ ou2 : Nat → Int64, v2 = some (.int r) ∧ InvT k G2 o mo out kk ou2 ∧ (kk = 0 → ou2 0 = f_i r) := by
  obtain ⟨hnb, hnw, hw1, hw2, hh1, hh2⟩ := hC.2.1
  have hWb := hC.2.2.2.2.2.2.2
  rcases hp with ⟨v0, G0, hc, rfl, rfl⟩ | ⟨ht, rfl, hg⟩ | ⟨ht, rfl, hg⟩
  · unfold pc_deep at hc
    obtain ⟨i, j, hi, ei, hs, hj, ej, hcs, hcase⟩ := hc
    have hb := hWb j hj
    rcases hcase with ⟨hlt, hv0, rfl⟩ | ⟨hlt, hv0, a, z9, hf0, rfl⟩
    · refine ⟨0, rfl, sM_out hM ho _, fun v2 G2 hm => ?_⟩
      unfold pm_deep at hm
      obtain ⟨c9, r, j9, bx2, tr2, m1, m2, m3, m4, hck, rfl, hr, h60, h10, rfl⟩ := hm
      obtain ⟨rfl, rfl⟩ := Ck_is0 hck ⟨(noB_iff (by omega)).mpr ⟨j, hj, ej⟩, hcs⟩ hi ei (fun q => hs ((hR_no hh hi).mpr q))
      have hS := hR_S hh hi
      have hZ := hR_Z hh hi hs
      obtain ⟨q0, q1, q2, q3⟩ := (hh _ hi).1
      refine ⟨r, _, rfl, IT_gM (sC_out hC ho _) (sM_out hM ho _) (vR_eq hv hnb h60 h10) hh hwf (gs_us _ _ _) _ _ _ _ _, fun _ => ?_⟩
      rw [pk_uLs]
      congr 1
      obtain ⟨b, hb2, eb, hr2⟩ := hr rfl
      have hja : b = j := eq_nI (by omega) (by omega) (eb.symm.trans ej)
      subst hja
      rw [q0, q1, q2, lk_dark0 hv hnb hS hZ ⟨hw1, hw2⟩ hb.1 hb.2.1 (by omega)] at hlt
      rw [int_v hv0]
      rcases hr2 with ⟨-, rfl⟩ | ⟨z, -⟩
      · rfl
      · exact absurd z hlt
    · have ho1 := gs_keepN (e := .inr (0, [.int (nI (wf j 0)), .int (nI (wf j 3)), .int 0, .int (nI (wf j 2)), .int (nI (wf j 3) + 1), .int z9, .int 1])) ho hf0
      refine ⟨0, rfl, sM_out (sM_at hM hf0) ho1 _, fun v2 G2 hm => ?_⟩
      unfold pm_deep at hm
      obtain ⟨c9, r, j9, bx2, tr2, m1, m2, m3, m4, hck, rfl, hr, h60, h10, rfl⟩ := hm
      obtain ⟨rfl, rfl⟩ := Ck_is0 hck ⟨(noB_iff (by omega)).mpr ⟨j, hj, ej⟩, hcs⟩ hi ei (fun q => hs ((hR_no hh hi).mpr q))
      have hS := hR_S hh hi
      have hZ := hR_Z hh hi hs
      obtain ⟨q0, q1, q2, q3⟩ := (hh _ hi).1
      refine ⟨r, _, rfl, IT_gM (sC_out (sC_at hC hf0) ho1 _) (sM_out (sM_at hM hf0) ho1 _) (vR_eq hv hnb h60 h10) hh hwf (gs_us _ _ _) _ _ _ _ _, fun _ => ?_⟩
      rw [pk_uLs]
      congr 1
      obtain ⟨b, hb2, eb, hr2⟩ := hr rfl
      have hja : b = j := eq_nI (by omega) (by omega) (eb.symm.trans ej)
      subst hja
      rw [q0, q1, q2, lk_dark0 hv hnb hS hZ ⟨hw1, hw2⟩ hb.1 hb.2.1 (by omega)] at hlt
      rw [int_v hv0, q0, q1, q2]
      exact (dp_ok (fun d h1 h2 => lk_led hv hnb hS hZ ⟨hw1, hw2⟩ hb.1 hb.2.1 (by omega) h2) (fun x y h1 h2 h3 h4 => led_lt hnb hS hZ hb.1 (by omega) (by omega) h2 h3 h4) hlt hr2).symm
  · subst hg
    refine ⟨1, rfl, hM, fun v2 G2 hm => ?_⟩
    unfold pm_deep at hm
    unfold tc_deep at ht
    obtain ⟨c9, r, j9, bx2, tr2, m1, m2, m3, m4, hck, rfl, hr, h60, h10, rfl⟩ := hm
    have hx := ht.elim (fun q => q.2) (fun q => absurd q.1 e_ne')
    have hc1 : c9 = 1 := Ck_is1 hck (hx.elim (fun z => Or.inl fun q => z ((noB_iff (by omega)).mp q.1)) (fun z => z.elim (fun z => Or.inl fun q => q.2 z) Or.inr))
    subst hc1
    exact ⟨r, _, rfl, IT_gM hC hM (vR_eq hv hnb h60 h10) hh hwf ho _ _ _ _ _, fun q => absurd q (by decide)⟩
  · subst hg
    refine ⟨2, rfl, hM, fun v2 G2 hm => ?_⟩
    unfold pm_deep at hm
    unfold tc_deep at ht
    obtain ⟨c9, r, j9, bx2, tr2, m1, m2, m3, m4, hck, rfl, hr, h60, h10, rfl⟩ := hm
    have hx := ht.elim (fun q => absurd q.1 e_ne) (fun q => q.2)
    obtain ⟨hw9, hd, i, hi, ei, hs⟩ := hx
    have hc2 : c9 = 2 := Ck_is2 hck ⟨(noB_iff (by omega)).mpr hw9, hd⟩ hi ei ((hR_no hh hi).mp hs)
    subst hc2
    exact ⟨r, _, rfl, IT_gM hC hM (vR_eq hv hnb h60 h10) hh hwf ho _ _ _ _ _, fun q => absurd q (by decide)⟩
theorem mid_worst {k : Nat → ClassId} {G : Nat → Option va_E} {o aB aW aH aS aT : Nat} {wn hn nb nw : Nat} {ba wa ha : Nat → Nat} {bf hf : Nat → Nat → Int32} {wf : Nat → Nat → Nat} {sh : Nat → Int64} {tk : Nat → Int32} {mo cB cT cS cL cW : Nat} {th : Int32} {bx tr su li wi : Nat → Int32} {l1 l2 l3 l4 : Int64} {out : Nat} {ou : Nat → Int64} {q : Int32} (hC : sC k G o aB aW aH aS aT wn hn nb nw ba wa ha bf hf wf sh tk) (hM : sM k G mo cB cT cS cL cW th wn hn nb nw bx tr su li wi l1 l2 l3 l4) (hv : vR nb bf bx tr) (hh : hR hf su li) (hwf : jm_Wf nw wi wf) (ho : G out = some (aLong (k 1) 1 ou)) {v : Option Value} {G1 : Nat → Option va_E} (hp : wr_post (pc_worst k G o aB aW aH aS aT wn hn nb nw ba wa ha bf hf wf sh tk q) (tc_worst k G o aB aW aH aS aT wn hn nb nw ba wa ha bf hf wf sh tk q) k G out ou f_i v G1) : ∃ kk : Int32, v = some (.int kk) ∧ sM k G1 mo cB cT cS cL cW th wn hn nb nw bx tr su li wi l1 l2 l3 l4 ∧ ∀ (v2 : Option Value) (G2 : Nat → Option va_E), pm_worst k G1 mo cB cT cS cL cW th wn hn nb nw bx tr su li wi l1 l2 l3 l4 wf q v2 G2 → ∃ r : Int32, ∃ ou2 : Nat → Int64, v2 = some (.int r) ∧ InvT k G2 o mo out kk ou2 ∧ (kk = 0 → ou2 0 = f_i r) := by
  obtain ⟨hnb, hnw, hw1, hw2, hh1, hh2⟩ := hC.2.1
  have hWb := hC.2.2.2.2.2.2.2
  rcases hp with ⟨v0, G0, hc, rfl, rfl⟩ | ⟨ht, rfl, hg⟩ | ⟨ht, rfl, hg⟩
  · unfold pc_worst at hc
    obtain ⟨j, hj, ej, hv0, sh9, tk9, rfl⟩ := hc
    have hb := hWb j hj
    have ho1 : gST k G aS aT sh9 tk9 out = some (aLong (k 1) 1 ou) := gST_keep hC ho (by simp) (by simp)
    have hC1 := sC_ST hC sh9 tk9
    have hM1 : sM k (gST k G aS aT sh9 tk9) mo cB cT cS cL cW th wn hn nb nw bx tr su li wi l1 l2 l3 l4 := sM_k (sM_k hM hC.1.2.2.2.2.1 rfl (by simp [ofM, kd])) (sC_S hC sh9).1.2.2.2.2.2 rfl (by simp [ofM, kd])
    refine ⟨0, rfl, sM_out hM1 ho1 _, fun v2 G2 hm => ?_⟩
    unfold pm_worst at hm
    obtain ⟨c9, r, m1, m2, m3, m4, hck, rfl, hr, rfl⟩ := hm
    have hP : jm_noB q nw = 0 := (noB_iff (by omega)).mpr ⟨j, hj, ej⟩
    have hc0 : c9 = 0 := hck.elim (fun z => absurd hP z.2) (fun z => z.1)
    subst hc0
    refine ⟨r, _, rfl, IT_mo (sC_out hC1 ho1 _) (sM_out hM1 ho1 _) hv hh hwf (gs_us _ _ _) _ _ _ _ _, fun _ => ?_⟩
    rw [pk_uLs]
    congr 1
    obtain ⟨a, ha2, ea, hre⟩ := hr rfl
    have hja : a = j := eq_nI (by omega) (by omega) (ea.symm.trans ej)
    subst hja
    rw [int_v hv0, hre, lk_worst hv hnb hh ⟨hw1, hw2⟩ hb.1 hb.2.1 (by omega)]
  · subst hg
    refine ⟨1, rfl, hM, fun v2 G2 hm => ?_⟩
    unfold pm_worst at hm
    unfold tc_worst at ht
    obtain ⟨c9, r, m1, m2, m3, m4, hck, rfl, hr, rfl⟩ := hm
    have hc1 : c9 = 1 := hck.elim (fun z => z.1) (fun z => absurd ((noB_iff (by omega)).mp z.2) ht.2)
    subst hc1
    exact ⟨r, _, rfl, IT_mo hC hM hv hh hwf ho _ _ _ _ _, fun q => absurd q (by decide)⟩
  · unfold tc_worst at ht
    exact absurd ht.1 e_ne
