/-! contracts, by program -/
set_option maxHeartbeats 4000000 in
set_option maxRecDepth 100000 in
theorem k_Md_there (l : Launch) (D : va_G) (k : Nat → ClassId) (zb : Nat) (G : Nat → Option va_E) (mo cB cT cS cL cW : Nat) (th : Int32) (wn hn nb nw : Nat) (bx tr su li wi : Nat → Int32) (l1 l2 l3 l4 : Int64) (b on : Int32) (hM : sM k G mo cB cT cS cL cW th wn hn nb nw bx tr su li wi l1 l2 l3 l4) (hnb : nb ≤ 10) (hnw : nw ≤ 10) (hwn : 1 ≤ wn ∧ wn ≤ 60) (hhn : 1 ≤ hn ∧ hn ≤ 60) (hon : on = 0 ∨ on = 1) (htr : ∀ i, i < nb → tr i = 0 ∨ tr i = 1) : Met l y_Md_there (wM y_Md_there c_Md_there 4 (some .boolean)) ({ frames := 1, cells := 0, slots := 0, locals := 21 }) (gs_P D k zb G [.ref mo, .int b, .int on]) (gs_Q D zb (fun v G1 => (¬ jm_noB b nb = 0 ∧ v = some (.int 0) ∧ G1 = gs_u G mo (oMd 1 wn hn nb nw cB cT cS cL cW l1 l2 l3 l4)) ∨ (jm_noB b nb = 0 ∧ ∃ i : Nat, i < nb ∧ b = nI i ∧ v = some (.int (tr i)) ∧ G1 = gs_u (gs_u G mo (oMd 0 wn hn nb nw cB cT cS cL cW l1 l2 l3 l4)) cT (aInt (k 2) 11 (upd tr i on))))) 0 0 (fun q : Nat => zb ≤ q) := by
  refine Met.ofW (cc := c_Md_there) (maxL := 4) (ret := (some .boolean)) (by decide) rfl ?_
  intro p e s m args below meth c s₁ B hml hv
  obtain ⟨rfl, hG, hK, hX⟩ := hv
  have hx := B.exec
  have hb := B.bytes
  have hr := B.returns
  have hts := atoms_spec (ws := wM y_Md_there c_Md_there 4 (some .boolean)) B.pre
  have hw : ∀ w9 ∈ wW, w9.before ([.ref mo, .int b, .int on] : List Value).toArray s = true := fun w9 h9 => hts w9 (gi_in w9 h9)
  have hown : s.vm.findClass R_Md = some m.cls := findClass_of_methodNamed B.named
  have hlocks := B.notSynchronized
  have E : gs_E p s m ([.ref mo, .int b, .int on] : List Value).toArray c c_Md_there wW R_Md := ⟨hx, hb, hw, hown⟩
  have hS : gs_S zb s.heap s.heap [] := va_S.rf
  have hl := lv_entry ([.ref mo, .int b, .int on]) (n := 4) (Nat.le_of_ble_eq_true rfl)
  rw [lg_entry_eq]
  generalize (lg_sl ([.ref mo, .int b, .int on]) ++ List.replicate (4 - (lg_sl ([.ref mo, .int b, .int on])).length) Slot.unset).toArray = ls at hl ⊢
  have hl : lv_has ls 4 [(0, .ref mo), (1, .int b), (2, .int on)] := hl
  refine lv_aload_n hx hb d_Md_there_0 rfl (lv_at hl 0 rfl) ?_
  refine lv_aload_n hx hb d_Md_there_1 rfl (lv_at hl 0 rfl) ?_
  refine lv_iload_n hx hb d_Md_there_2 rfl (lv_at hl 1 rfl) ?_
  refine gs_V (As := [.int b]) (rest := [.ref mo]) (k_Md_noBox l D k zb G mo cB cT cS cL cW th wn hn nb nw bx tr su li wi l1 l2 l3 l4 b ⟨hM.1, hM.2.1, hM.2.2.1, hM.2.2.2.1, hM.2.2.2.2.1, hM.2.2.2.2.2⟩) E hml hl.1 (cg_V (C := R_Md) hw w_532 w_529 w_4 w_531 sel_Md_noBox hd_Md_noBox ⟨by exact Nat.le_of_ble_eq_true rfl, by exact Nat.le_of_ble_eq_true rfl⟩) hG hK hX hS hM.1 rfl rfl rfl rfl (by exact Nat.le_of_ble_eq_true rfl) d_Md_there_3 ⟨by exact Nat.le_of_ble_eq_true rfl, by exact Nat.le_of_ble_eq_true rfl⟩ (fun v G1 H locs hp hG hS => ?_)
  obtain ⟨hv1, hG1⟩ := hp
  subst hv1
  rw [hG1] at hG
  refine W.eq (g2 := F0 m 6 ls [.int (jm_noB b nb), .ref mo]) rfl ?_
  refine lv_if_eq (tgt := 13) hx hb d_Md_there_6 (by decide) (fun c_1 => ?_) (fun c_1 => ?_)
  · obtain ⟨ib, hib, hbi⟩ := noB_1 (by omega) c_1
    have hib10 : ib < 10 := by omega
    rw [hbi] at hl
    refine lv_iconst (v := 0) hx hb d_Md_there_13 (by decide) ?_
    refine gs_put E hK.1 hG hS hM.1 (C := R_Md) (T := F_Md) (N := 14) rfl i_Md t_Md t_Md_ok n_Md 0 (by decide) w_463 rfl (v := .int 0) rfl rfl (Nat.le_of_ble_eq_true rfl) d_Md_there_14 (fun H locs hG hS => ?_)
    obtain ⟨G_2, eG_2⟩ : ∃ z, z = gs_u G mo (.inr (4, [.int 0, .int (nI wn), .int (nI hn), .int (nI nb), .ref cB, .ref cT, .ref cS, .ref cL, .int (nI nw), .ref cW, .long l1, .long l2, .long l3, .long l4])) := ⟨_, rfl⟩
    have hG : gs_W D classes zb G_2 H := by rw [eG_2]; exact hG
    have hc_3 : G_2 cB = some (aInt (k 0) 66 bx) := by rw [eG_2]; exact gs_keep hM.2.1 hM.1 (by simp)
    have hc_4 : G_2 cT = some (aInt (k 2) 11 tr) := by rw [eG_2]; exact gs_keep hM.2.2.1 hM.1 (by simp)
    have hc_5 : G_2 cS = some (aInt (k 0) 72 su) := by rw [eG_2]; exact gs_keep hM.2.2.2.1 hM.1 (by simp)
    have hc_6 : G_2 cL = some (aInt (k 0) 24 li) := by rw [eG_2]; exact gs_keep hM.2.2.2.2.1 hM.1 (by simp)
    have hc_7 : G_2 cW = some (aInt (k 0) 40 wi) := by rw [eG_2]; exact gs_keep hM.2.2.2.2.2 hM.1 (by simp)
    have hc_8 : G_2 mo = some (.inr (4, [.int 0, .int (nI wn), .int (nI hn), .int (nI nb), .ref cB, .ref cT, .ref cS, .ref cL, .int (nI nw), .ref cW, .long l1, .long l2, .long l3, .long l4])) := by rw [eG_2]; exact gs_us _ _ _
    refine lv_aload_n hx hb d_Md_there_17 rfl (lv_at hl 0 rfl) ?_
    refine gs_get E hK.1 hG hc_8 (C := R_Md) (T := F_Md) (N := 14) rfl i_Md 0 (by decide) w_463 (v := .int 0) rfl d_Md_there_18 ?_
    refine lv_if_le (tgt := 26) hx hb d_Md_there_21 (by decide) (fun c_9 => ?_) (fun c_9 => ?_)
    · refine lv_aload_n hx hb d_Md_there_26 rfl (lv_at hl 0 rfl) ?_
      refine gs_get E hK.1 hG hc_8 (C := R_Md) (T := F_Md) (N := 14) rfl i_Md 5 (by decide) w_468 (v := .ref cT) rfl d_Md_there_27 ?_
      refine lv_iload_n hx hb d_Md_there_30 rfl (lv_at hl 1 rfl) ?_
      refine gn_zald E hK.1 hG hc_4 2 rfl (j := ib) (by omega) (by decide) d_Md_there_31 ?_
      refine lv_topi (fun v_10 ev_10 => ?_)
      refine lv_istore_n (lv' := [(3, .int v_10), (0, .ref mo), (1, .int (nI ib)), (2, .int on)]) hx hb d_Md_there_32 rfl hl (by decide) rfl (fun ls hl => ?_)
      refine lv_aload_n hx hb d_Md_there_33 rfl (lv_at hl 1 rfl) ?_
      refine gs_get E hK.1 hG hc_8 (C := R_Md) (T := F_Md) (N := 14) rfl i_Md 5 (by decide) w_468 (v := .ref cT) rfl d_Md_there_34 ?_
      refine lv_iload_n hx hb d_Md_there_37 rfl (lv_at hl 2 rfl) ?_
      refine lv_iload_n hx hb d_Md_there_38 rfl (lv_at hl 3 rfl) ?_
      refine gn_zast E hK.1 hG hS hc_4 2 rfl (vpn01 hon) (j := ib) (by omega) (by decide) d_Md_there_39 (fun H locs hG hS => ?_)
      obtain ⟨G_11, eG_11⟩ : ∃ z, z = gs_u G_2 cT (aInt (k 2) 11 (upd tr ib on)) := ⟨_, rfl⟩
      have hG : gs_W D classes zb G_11 H := by rw [eG_11]; exact hG
      have hc_12 : G_11 mo = some (.inr (4, [.int 0, .int (nI wn), .int (nI hn), .int (nI nb), .ref cB, .ref cT, .ref cS, .ref cL, .int (nI nw), .ref cW, .long l1, .long l2, .long l3, .long l4])) := by rw [eG_11]; exact gs_keep hc_8 hc_4 (by simp)
      have hc_13 : G_11 cB = some (aInt (k 0) 66 bx) := by rw [eG_11]; exact gs_keep hc_3 hc_4 (by simp)
      have hc_14 : G_11 cS = some (aInt (k 0) 72 su) := by rw [eG_11]; exact gs_keep hc_5 hc_4 (by simp)
      have hc_15 : G_11 cL = some (aInt (k 0) 24 li) := by rw [eG_11]; exact gs_keep hc_6 hc_4 (by simp)
      have hc_16 : G_11 cW = some (aInt (k 0) 40 wi) := by rw [eG_11]; exact gs_keep hc_7 hc_4 (by simp)
      have hc_17 : G_11 cT = some (aInt (k 2) 11 (upd tr ib on)) := by rw [eG_11]; exact gs_us _ _ _
      refine lv_iload_n hx hb d_Md_there_40 rfl (lv_at hl 0 rfl) ?_
      refine W.zret (v := v_10) hx hb hr (nar01 (by rw [ev_10]; exact htr ib hib)) (gs_end (Or.inr ⟨c_1, ib, hib, hbi, by rw [ev_10], ?_⟩) hG hS) hS.2.2 d_Md_there_41
      subst ev_10; simp only [eG_11, eG_2, gs_uu]
    · exact absurd (by decide) c_9
  · refine lv_iconst (v := 1) hx hb d_Md_there_9 (by decide) ?_
    refine lv_goto (tgt := 14) hx hb d_Md_there_10 (by decide) ?_
    refine gs_put E hK.1 hG hS hM.1 (C := R_Md) (T := F_Md) (N := 14) rfl i_Md t_Md t_Md_ok n_Md 0 (by decide) w_463 rfl (v := .int 1) rfl rfl (Nat.le_of_ble_eq_true rfl) d_Md_there_14 (fun H locs hG hS => ?_)
    obtain ⟨G_18, eG_18⟩ : ∃ z, z = gs_u G mo (.inr (4, [.int 1, .int (nI wn), .int (nI hn), .int (nI nb), .ref cB, .ref cT, .ref cS, .ref cL, .int (nI nw), .ref cW, .long l1, .long l2, .long l3, .long l4])) := ⟨_, rfl⟩
    have hG : gs_W D classes zb G_18 H := by rw [eG_18]; exact hG
    have hc_19 : G_18 cB = some (aInt (k 0) 66 bx) := by rw [eG_18]; exact gs_keep hM.2.1 hM.1 (by simp)
    have hc_20 : G_18 cT = some (aInt (k 2) 11 tr) := by rw [eG_18]; exact gs_keep hM.2.2.1 hM.1 (by simp)
    have hc_21 : G_18 cS = some (aInt (k 0) 72 su) := by rw [eG_18]; exact gs_keep hM.2.2.2.1 hM.1 (by simp)
    have hc_22 : G_18 cL = some (aInt (k 0) 24 li) := by rw [eG_18]; exact gs_keep hM.2.2.2.2.1 hM.1 (by simp)
    have hc_23 : G_18 cW = some (aInt (k 0) 40 wi) := by rw [eG_18]; exact gs_keep hM.2.2.2.2.2 hM.1 (by simp)
    have hc_24 : G_18 mo = some (.inr (4, [.int 1, .int (nI wn), .int (nI hn), .int (nI nb), .ref cB, .ref cT, .ref cS, .ref cL, .int (nI nw), .ref cW, .long l1, .long l2, .long l3, .long l4])) := by rw [eG_18]; exact gs_us _ _ _
    refine lv_aload_n hx hb d_Md_there_17 rfl (lv_at hl 0 rfl) ?_
    refine gs_get E hK.1 hG hc_24 (C := R_Md) (T := F_Md) (N := 14) rfl i_Md 0 (by decide) w_463 (v := .int 1) rfl d_Md_there_18 ?_
    refine lv_if_le (tgt := 26) hx hb d_Md_there_21 (by decide) (fun c_25 => ?_) (fun c_25 => ?_)
    · exact absurd c_25 (by decide)
    · refine lv_iconst (v := 0) hx hb d_Md_there_24 (by decide) ?_
      refine W.zret (v := 0) hx hb hr (by decide) (gs_end (Or.inl ⟨c_1, rfl, ?_⟩) hG hS) hS.2.2 d_Md_there_25
      simp only [eG_18, gs_uu]
set_option maxHeartbeats 4000000 in
set_option maxRecDepth 100000 in
theorem k_Md_sun (l : Launch) (D : va_G) (k : Nat → ClassId) (zb : Nat) (G : Nat → Option va_E) (mo cB cT cS cL cW : Nat) (th : Int32) (wn hn nb nw : Nat) (bx tr su li wi : Nat → Int32) (l1 l2 l3 l4 : Int64) (t d1 d2 d3 : Int32) (hM : sM k G mo cB cT cS cL cW th wn hn nb nw bx tr su li wi l1 l2 l3 l4) (hnb : nb ≤ 10) (hnw : nw ≤ 10) (hwn : 1 ≤ wn ∧ wn ≤ 60) (hhn : 1 ≤ hn ∧ hn ≤ 60) : Met l y_Md_sun (wM y_Md_sun c_Md_sun 5 none) ({ frames := 1, cells := 0, slots := 0, locals := 22 }) (gs_P D k zb G [.ref mo, .int t, .int d1, .int d2, .int d3]) (gs_Q D zb (fun v G1 => (¬ (jm_noH t = 0 ∧ ¬ jc_within d1 (-300) 300 = 0 ∧ ¬ jc_within d2 (-300) 300 = 0 ∧ ¬ jc_within d3 0 100 = 0) ∧ v = none ∧ G1 = gs_u G mo (oMd 1 wn hn nb nw cB cT cS cL cW l1 l2 l3 l4)) ∨ ((jm_noH t = 0 ∧ ¬ jc_within d1 (-300) 300 = 0 ∧ ¬ jc_within d2 (-300) 300 = 0 ∧ ¬ jc_within d3 0 100 = 0) ∧ v = none ∧ ∃ j : Nat, j < 24 ∧ t = nI j ∧ G1 = gs_u (gs_u G mo (oMd 0 wn hn nb nw cB cT cS cL cW l1 l2 l3 l4)) cS (aInt (k 0) 72 (jm_sun su j d1 d2 d3))))) 0 0 (fun q : Nat => zb ≤ q) := by
  refine Met.ofW (cc := c_Md_sun) (maxL := 5) (ret := none) (by decide) rfl ?_
  intro p e s m args below meth c s₁ B hml hv
  obtain ⟨rfl, hG, hK, hX⟩ := hv
  have hx := B.exec
  have hb := B.bytes
  have hr := B.returns
  have hts := atoms_spec (ws := wM y_Md_sun c_Md_sun 5 none) B.pre
  have hw : ∀ w9 ∈ wW, w9.before ([.ref mo, .int t, .int d1, .int d2, .int d3] : List Value).toArray s = true := fun w9 h9 => hts w9 (gi_in w9 h9)
  have hown : s.vm.findClass R_Md = some m.cls := findClass_of_methodNamed B.named
  have hlocks := B.notSynchronized
  have E : gs_E p s m ([.ref mo, .int t, .int d1, .int d2, .int d3] : List Value).toArray c c_Md_sun wW R_Md := ⟨hx, hb, hw, hown⟩
  have hS : gs_S zb s.heap s.heap [] := va_S.rf
  have hl := lv_entry ([.ref mo, .int t, .int d1, .int d2, .int d3]) (n := 5) (Nat.le_of_ble_eq_true rfl)
  rw [lg_entry_eq]
  generalize (lg_sl ([.ref mo, .int t, .int d1, .int d2, .int d3]) ++ List.replicate (5 - (lg_sl ([.ref mo, .int t, .int d1, .int d2, .int d3])).length) Slot.unset).toArray = ls at hl ⊢
  have hl : lv_has ls 5 [(0, .ref mo), (1, .int t), (2, .int d1), (3, .int d2), (4, .int d3)] := hl
  refine lv_aload_n hx hb d_Md_sun_0 rfl (lv_at hl 0 rfl) ?_
  refine lv_iload_n hx hb d_Md_sun_1 rfl (lv_at hl 1 rfl) ?_
  refine gs_St (As := [.int t]) (rest := [.ref mo]) (k_Md_noHour l D k zb G t) E hml hl.1 (cg_S hw w_543 w_541 w_4 w_542 hd_Md_noHour ⟨by exact Nat.le_of_ble_eq_true rfl, by exact Nat.le_of_ble_eq_true rfl⟩) hG hK hX hS rfl rfl (by exact Nat.le_of_ble_eq_true rfl) d_Md_sun_2 ⟨by exact Nat.le_of_ble_eq_true rfl, by exact Nat.le_of_ble_eq_true rfl⟩ (fun v G1 H locs hp hG hS => ?_)
  obtain ⟨hv1, hG1⟩ := hp
  subst hv1
  rw [hG1] at hG
  refine W.eq (g2 := F0 m 5 ls [.int (jm_noH t), .ref mo]) rfl ?_
  refine lv_if_ne (tgt := 45) hx hb d_Md_sun_5 (by decide) (fun c_1 => ?_) (fun c_1 => ?_)
  · refine lv_iconst (v := 1) hx hb d_Md_sun_45 (by decide) ?_
    refine lv_goto (tgt := 50) hx hb d_Md_sun_46 (by decide) ?_
    refine gs_put E hK.1 hG hS hM.1 (C := R_Md) (T := F_Md) (N := 14) rfl i_Md t_Md t_Md_ok n_Md 0 (by decide) w_463 rfl (v := .int 1) rfl rfl (Nat.le_of_ble_eq_true rfl) d_Md_sun_50 (fun H locs hG hS => ?_)
    obtain ⟨G_2, eG_2⟩ : ∃ z, z = gs_u G mo (.inr (4, [.int 1, .int (nI wn), .int (nI hn), .int (nI nb), .ref cB, .ref cT, .ref cS, .ref cL, .int (nI nw), .ref cW, .long l1, .long l2, .long l3, .long l4])) := ⟨_, rfl⟩
    have hG : gs_W D classes zb G_2 H := by rw [eG_2]; exact hG
    have hc_3 : G_2 cB = some (aInt (k 0) 66 bx) := by rw [eG_2]; exact gs_keep hM.2.1 hM.1 (by simp)
    have hc_4 : G_2 cT = some (aInt (k 2) 11 tr) := by rw [eG_2]; exact gs_keep hM.2.2.1 hM.1 (by simp)
    have hc_5 : G_2 cS = some (aInt (k 0) 72 su) := by rw [eG_2]; exact gs_keep hM.2.2.2.1 hM.1 (by simp)
    have hc_6 : G_2 cL = some (aInt (k 0) 24 li) := by rw [eG_2]; exact gs_keep hM.2.2.2.2.1 hM.1 (by simp)
    have hc_7 : G_2 cW = some (aInt (k 0) 40 wi) := by rw [eG_2]; exact gs_keep hM.2.2.2.2.2 hM.1 (by simp)
    have hc_8 : G_2 mo = some (.inr (4, [.int 1, .int (nI wn), .int (nI hn), .int (nI nb), .ref cB, .ref cT, .ref cS, .ref cL, .int (nI nw), .ref cW, .long l1, .long l2, .long l3, .long l4])) := by rw [eG_2]; exact gs_us _ _ _
    refine lv_aload_n hx hb d_Md_sun_53 rfl (lv_at hl 0 rfl) ?_
    refine gs_get E hK.1 hG hc_8 (C := R_Md) (T := F_Md) (N := 14) rfl i_Md 0 (by decide) w_463 (v := .int 1) rfl d_Md_sun_54 ?_
    refine lv_if_ne (tgt := 92) hx hb d_Md_sun_57 (by decide) (fun c_9 => ?_) (fun c_9 => ?_)
    · refine W.vret hx hb hr (gs_end (Or.inl ⟨fun q9 => c_1 q9.1, rfl, ?_⟩) hG hS) hS.2.2 d_Md_sun_92
      simp only [eG_2, gs_uu, jm_sun]
    · exact absurd c_9 (by decide)
  · obtain ⟨j9, hj9, htj⟩ := noH_1 c_1
    rw [htj] at hl
    refine lv_iload_n hx hb d_Md_sun_8 rfl (lv_at hl 2 rfl) ?_
    refine lv_sipush (v := (-300)) hx hb d_Md_sun_9 (by decide) ?_
    refine lv_sipush (v := 300) hx hb d_Md_sun_12 (by decide) ?_
    refine gs_St (As := [.int d1, .int (-300), .int 300]) (rest := [.ref mo]) (k_Md_isIn l D k zb G d1 (-300) 300) E hml hl.1 (cg_S hw w_520 w_518 w_4 w_519 hd_Md_isIn ⟨by exact Nat.le_of_ble_eq_true rfl, by exact Nat.le_of_ble_eq_true rfl⟩) hG hK hX hS rfl rfl (by exact Nat.le_of_ble_eq_true rfl) d_Md_sun_15 ⟨by exact Nat.le_of_ble_eq_true rfl, by exact Nat.le_of_ble_eq_true rfl⟩ (fun v G1 H locs hp hG hS => ?_)
    obtain ⟨hv1, hG1⟩ := hp
    subst hv1
    rw [hG1] at hG
    refine W.eq (g2 := F0 m 18 ls [.int (jc_within d1 (-300) 300), .ref mo]) rfl ?_
    refine lv_if_eq (tgt := 45) hx hb d_Md_sun_18 (by decide) (fun c_10 => ?_) (fun c_10 => ?_)
    · refine lv_iconst (v := 1) hx hb d_Md_sun_45 (by decide) ?_
      refine lv_goto (tgt := 50) hx hb d_Md_sun_46 (by decide) ?_
      refine gs_put E hK.1 hG hS hM.1 (C := R_Md) (T := F_Md) (N := 14) rfl i_Md t_Md t_Md_ok n_Md 0 (by decide) w_463 rfl (v := .int 1) rfl rfl (Nat.le_of_ble_eq_true rfl) d_Md_sun_50 (fun H locs hG hS => ?_)
      obtain ⟨G_11, eG_11⟩ : ∃ z, z = gs_u G mo (.inr (4, [.int 1, .int (nI wn), .int (nI hn), .int (nI nb), .ref cB, .ref cT, .ref cS, .ref cL, .int (nI nw), .ref cW, .long l1, .long l2, .long l3, .long l4])) := ⟨_, rfl⟩
      have hG : gs_W D classes zb G_11 H := by rw [eG_11]; exact hG
      have hc_12 : G_11 cB = some (aInt (k 0) 66 bx) := by rw [eG_11]; exact gs_keep hM.2.1 hM.1 (by simp)
      have hc_13 : G_11 cT = some (aInt (k 2) 11 tr) := by rw [eG_11]; exact gs_keep hM.2.2.1 hM.1 (by simp)
      have hc_14 : G_11 cS = some (aInt (k 0) 72 su) := by rw [eG_11]; exact gs_keep hM.2.2.2.1 hM.1 (by simp)
      have hc_15 : G_11 cL = some (aInt (k 0) 24 li) := by rw [eG_11]; exact gs_keep hM.2.2.2.2.1 hM.1 (by simp)
      have hc_16 : G_11 cW = some (aInt (k 0) 40 wi) := by rw [eG_11]; exact gs_keep hM.2.2.2.2.2 hM.1 (by simp)
      have hc_17 : G_11 mo = some (.inr (4, [.int 1, .int (nI wn), .int (nI hn), .int (nI nb), .ref cB, .ref cT, .ref cS, .ref cL, .int (nI nw), .ref cW, .long l1, .long l2, .long l3, .long l4])) := by rw [eG_11]; exact gs_us _ _ _
      refine lv_aload_n hx hb d_Md_sun_53 rfl (lv_at hl 0 rfl) ?_
      refine gs_get E hK.1 hG hc_17 (C := R_Md) (T := F_Md) (N := 14) rfl i_Md 0 (by decide) w_463 (v := .int 1) rfl d_Md_sun_54 ?_
      refine lv_if_ne (tgt := 92) hx hb d_Md_sun_57 (by decide) (fun c_18 => ?_) (fun c_18 => ?_)
      · refine W.vret hx hb hr (gs_end (Or.inl ⟨fun q9 => q9.2.1 c_10, rfl, ?_⟩) hG hS) hS.2.2 d_Md_sun_92
        simp only [eG_11, gs_uu, jm_sun]
      · exact absurd c_18 (by decide)
    · refine lv_iload_n hx hb d_Md_sun_21 rfl (lv_at hl 3 rfl) ?_
      refine lv_sipush (v := (-300)) hx hb d_Md_sun_22 (by decide) ?_
      refine lv_sipush (v := 300) hx hb d_Md_sun_25 (by decide) ?_
      refine gs_St (As := [.int d2, .int (-300), .int 300]) (rest := [.ref mo]) (k_Md_isIn l D k zb G d2 (-300) 300) E hml hl.1 (cg_S hw w_520 w_518 w_4 w_519 hd_Md_isIn ⟨by exact Nat.le_of_ble_eq_true rfl, by exact Nat.le_of_ble_eq_true rfl⟩) hG hK hX hS rfl rfl (by exact Nat.le_of_ble_eq_true rfl) d_Md_sun_28 ⟨by exact Nat.le_of_ble_eq_true rfl, by exact Nat.le_of_ble_eq_true rfl⟩ (fun v G1 H locs hp hG hS => ?_)
      obtain ⟨hv1, hG1⟩ := hp
      subst hv1
      rw [hG1] at hG
      refine W.eq (g2 := F0 m 31 ls [.int (jc_within d2 (-300) 300), .ref mo]) rfl ?_
      refine lv_if_eq (tgt := 45) hx hb d_Md_sun_31 (by decide) (fun c_19 => ?_) (fun c_19 => ?_)
      · refine lv_iconst (v := 1) hx hb d_Md_sun_45 (by decide) ?_
        refine lv_goto (tgt := 50) hx hb d_Md_sun_46 (by decide) ?_
        refine gs_put E hK.1 hG hS hM.1 (C := R_Md) (T := F_Md) (N := 14) rfl i_Md t_Md t_Md_ok n_Md 0 (by decide) w_463 rfl (v := .int 1) rfl rfl (Nat.le_of_ble_eq_true rfl) d_Md_sun_50 (fun H locs hG hS => ?_)
        obtain ⟨G_20, eG_20⟩ : ∃ z, z = gs_u G mo (.inr (4, [.int 1, .int (nI wn), .int (nI hn), .int (nI nb), .ref cB, .ref cT, .ref cS, .ref cL, .int (nI nw), .ref cW, .long l1, .long l2, .long l3, .long l4])) := ⟨_, rfl⟩
        have hG : gs_W D classes zb G_20 H := by rw [eG_20]; exact hG
        have hc_21 : G_20 cB = some (aInt (k 0) 66 bx) := by rw [eG_20]; exact gs_keep hM.2.1 hM.1 (by simp)
        have hc_22 : G_20 cT = some (aInt (k 2) 11 tr) := by rw [eG_20]; exact gs_keep hM.2.2.1 hM.1 (by simp)
        have hc_23 : G_20 cS = some (aInt (k 0) 72 su) := by rw [eG_20]; exact gs_keep hM.2.2.2.1 hM.1 (by simp)
        have hc_24 : G_20 cL = some (aInt (k 0) 24 li) := by rw [eG_20]; exact gs_keep hM.2.2.2.2.1 hM.1 (by simp)
        have hc_25 : G_20 cW = some (aInt (k 0) 40 wi) := by rw [eG_20]; exact gs_keep hM.2.2.2.2.2 hM.1 (by simp)
        have hc_26 : G_20 mo = some (.inr (4, [.int 1, .int (nI wn), .int (nI hn), .int (nI nb), .ref cB, .ref cT, .ref cS, .ref cL, .int (nI nw), .ref cW, .long l1, .long l2, .long l3, .long l4])) := by rw [eG_20]; exact gs_us _ _ _
        refine lv_aload_n hx hb d_Md_sun_53 rfl (lv_at hl 0 rfl) ?_
        refine gs_get E hK.1 hG hc_26 (C := R_Md) (T := F_Md) (N := 14) rfl i_Md 0 (by decide) w_463 (v := .int 1) rfl d_Md_sun_54 ?_
        refine lv_if_ne (tgt := 92) hx hb d_Md_sun_57 (by decide) (fun c_27 => ?_) (fun c_27 => ?_)
        · refine W.vret hx hb hr (gs_end (Or.inl ⟨fun q9 => q9.2.2.1 c_19, rfl, ?_⟩) hG hS) hS.2.2 d_Md_sun_92
          simp only [eG_20, gs_uu, jm_sun]
        · exact absurd c_27 (by decide)
      · refine lv_iload hx hb d_Md_sun_34 (lv_at hl 4 rfl) ?_
        refine lv_iconst (v := 0) hx hb d_Md_sun_36 (by decide) ?_
        refine lv_bipush (v := 100) hx hb d_Md_sun_37 (by decide) ?_
        refine gs_St (As := [.int d3, .int 0, .int 100]) (rest := [.ref mo]) (k_Md_isIn l D k zb G d3 0 100) E hml hl.1 (cg_S hw w_520 w_518 w_4 w_519 hd_Md_isIn ⟨by exact Nat.le_of_ble_eq_true rfl, by exact Nat.le_of_ble_eq_true rfl⟩) hG hK hX hS rfl rfl (by exact Nat.le_of_ble_eq_true rfl) d_Md_sun_39 ⟨by exact Nat.le_of_ble_eq_true rfl, by exact Nat.le_of_ble_eq_true rfl⟩ (fun v G1 H locs hp hG hS => ?_)
        obtain ⟨hv1, hG1⟩ := hp
        subst hv1
        rw [hG1] at hG
        refine W.eq (g2 := F0 m 42 ls [.int (jc_within d3 0 100), .ref mo]) rfl ?_
        refine lv_if_ne (tgt := 49) hx hb d_Md_sun_42 (by decide) (fun c_28 => ?_) (fun c_28 => ?_)
        · refine lv_iconst (v := 0) hx hb d_Md_sun_49 (by decide) ?_
          refine gs_put E hK.1 hG hS hM.1 (C := R_Md) (T := F_Md) (N := 14) rfl i_Md t_Md t_Md_ok n_Md 0 (by decide) w_463 rfl (v := .int 0) rfl rfl (Nat.le_of_ble_eq_true rfl) d_Md_sun_50 (fun H locs hG hS => ?_)
          obtain ⟨G_29, eG_29⟩ : ∃ z, z = gs_u G mo (.inr (4, [.int 0, .int (nI wn), .int (nI hn), .int (nI nb), .ref cB, .ref cT, .ref cS, .ref cL, .int (nI nw), .ref cW, .long l1, .long l2, .long l3, .long l4])) := ⟨_, rfl⟩
          have hG : gs_W D classes zb G_29 H := by rw [eG_29]; exact hG
          have hc_30 : G_29 cB = some (aInt (k 0) 66 bx) := by rw [eG_29]; exact gs_keep hM.2.1 hM.1 (by simp)
          have hc_31 : G_29 cT = some (aInt (k 2) 11 tr) := by rw [eG_29]; exact gs_keep hM.2.2.1 hM.1 (by simp)
          have hc_32 : G_29 cS = some (aInt (k 0) 72 su) := by rw [eG_29]; exact gs_keep hM.2.2.2.1 hM.1 (by simp)
          have hc_33 : G_29 cL = some (aInt (k 0) 24 li) := by rw [eG_29]; exact gs_keep hM.2.2.2.2.1 hM.1 (by simp)
          have hc_34 : G_29 cW = some (aInt (k 0) 40 wi) := by rw [eG_29]; exact gs_keep hM.2.2.2.2.2 hM.1 (by simp)
          have hc_35 : G_29 mo = some (.inr (4, [.int 0, .int (nI wn), .int (nI hn), .int (nI nb), .ref cB, .ref cT, .ref cS, .ref cL, .int (nI nw), .ref cW, .long l1, .long l2, .long l3, .long l4])) := by rw [eG_29]; exact gs_us _ _ _
          refine lv_aload_n hx hb d_Md_sun_53 rfl (lv_at hl 0 rfl) ?_
          refine gs_get E hK.1 hG hc_35 (C := R_Md) (T := F_Md) (N := 14) rfl i_Md 0 (by decide) w_463 (v := .int 0) rfl d_Md_sun_54 ?_
          refine lv_if_ne (tgt := 92) hx hb d_Md_sun_57 (by decide) (fun c_36 => ?_) (fun c_36 => ?_)
          · exact absurd (by decide) c_36
          · refine lv_aload_n hx hb d_Md_sun_60 rfl (lv_at hl 0 rfl) ?_
            refine gs_get E hK.1 hG hc_35 (C := R_Md) (T := F_Md) (N := 14) rfl i_Md 6 (by decide) w_469 (v := .ref cS) rfl d_Md_sun_61 ?_
            refine lv_iconst (v := 3) hx hb d_Md_sun_64 (by decide) ?_
            refine lv_iload_n hx hb d_Md_sun_65 rfl (lv_at hl 1 rfl) ?_
            refine lv_imul hx hb d_Md_sun_66 ?_
            refine lv_topE (show 3 * (nI j9) = nI (3 * j9) from pk_mul 3 j9) ?_
            refine lv_iload_n hx hb d_Md_sun_67 rfl (lv_at hl 2 rfl) ?_
            refine gn_iast E hK.1 hG hS hc_32 0 rfl (j := (3 * j9)) (by omega) (by decide) d_Md_sun_68 (fun H locs hG hS => ?_)
            obtain ⟨G_37, eG_37⟩ : ∃ z, z = gs_u G_29 cS (aInt (k 0) 72 (upd su (3 * j9) d1)) := ⟨_, rfl⟩
            have hG : gs_W D classes zb G_37 H := by rw [eG_37]; exact hG
            have hc_38 : G_37 mo = some (.inr (4, [.int 0, .int (nI wn), .int (nI hn), .int (nI nb), .ref cB, .ref cT, .ref cS, .ref cL, .int (nI nw), .ref cW, .long l1, .long l2, .long l3, .long l4])) := by rw [eG_37]; exact gs_keep hc_35 hc_32 (by simp)
            have hc_39 : G_37 cB = some (aInt (k 0) 66 bx) := by rw [eG_37]; exact gs_keep hc_30 hc_32 (by simp)
            have hc_40 : G_37 cT = some (aInt (k 2) 11 tr) := by rw [eG_37]; exact gs_keep hc_31 hc_32 (by simp)
            have hc_41 : G_37 cL = some (aInt (k 0) 24 li) := by rw [eG_37]; exact gs_keep hc_33 hc_32 (by simp)
            have hc_42 : G_37 cW = some (aInt (k 0) 40 wi) := by rw [eG_37]; exact gs_keep hc_34 hc_32 (by simp)
            have hc_43 : G_37 cS = some (aInt (k 0) 72 (upd su (3 * j9) d1)) := by rw [eG_37]; exact gs_us _ _ _
            refine lv_aload_n hx hb d_Md_sun_69 rfl (lv_at hl 0 rfl) ?_
            refine gs_get E hK.1 hG hc_38 (C := R_Md) (T := F_Md) (N := 14) rfl i_Md 6 (by decide) w_469 (v := .ref cS) rfl d_Md_sun_70 ?_
            refine lv_iconst (v := 3) hx hb d_Md_sun_73 (by decide) ?_
            refine lv_iload_n hx hb d_Md_sun_74 rfl (lv_at hl 1 rfl) ?_
            refine lv_imul hx hb d_Md_sun_75 ?_
            refine lv_topE (show 3 * (nI j9) = nI (3 * j9) from pk_mul 3 j9) ?_
            refine lv_iconst (v := 1) hx hb d_Md_sun_76 (by decide) ?_
            refine lv_iadd hx hb d_Md_sun_77 ?_
            refine lv_topE (show (nI (3 * j9)) + 1 = nI (3 * j9 + 1) from nI_add (3 * j9) 1) ?_
            refine lv_iload_n hx hb d_Md_sun_78 rfl (lv_at hl 3 rfl) ?_
            refine gn_iast E hK.1 hG hS hc_43 0 rfl (j := (3 * j9 + 1)) (by omega) (by decide) d_Md_sun_79 (fun H locs hG hS => ?_)
            obtain ⟨G_44, eG_44⟩ : ∃ z, z = gs_u G_37 cS (aInt (k 0) 72 (upd (upd su (3 * j9) d1) (3 * j9 + 1) d2)) := ⟨_, rfl⟩
            have hG : gs_W D classes zb G_44 H := by rw [eG_44]; exact hG
            have hc_45 : G_44 mo = some (.inr (4, [.int 0, .int (nI wn), .int (nI hn), .int (nI nb), .ref cB, .ref cT, .ref cS, .ref cL, .int (nI nw), .ref cW, .long l1, .long l2, .long l3, .long l4])) := by rw [eG_44]; exact gs_keep hc_38 hc_43 (by simp)
            have hc_46 : G_44 cB = some (aInt (k 0) 66 bx) := by rw [eG_44]; exact gs_keep hc_39 hc_43 (by simp)
            have hc_47 : G_44 cT = some (aInt (k 2) 11 tr) := by rw [eG_44]; exact gs_keep hc_40 hc_43 (by simp)
            have hc_48 : G_44 cL = some (aInt (k 0) 24 li) := by rw [eG_44]; exact gs_keep hc_41 hc_43 (by simp)
            have hc_49 : G_44 cW = some (aInt (k 0) 40 wi) := by rw [eG_44]; exact gs_keep hc_42 hc_43 (by simp)
            have hc_50 : G_44 cS = some (aInt (k 0) 72 (upd (upd su (3 * j9) d1) (3 * j9 + 1) d2)) := by rw [eG_44]; exact gs_us _ _ _
            refine lv_aload_n hx hb d_Md_sun_80 rfl (lv_at hl 0 rfl) ?_
            refine gs_get E hK.1 hG hc_45 (C := R_Md) (T := F_Md) (N := 14) rfl i_Md 6 (by decide) w_469 (v := .ref cS) rfl d_Md_sun_81 ?_
            refine lv_iconst (v := 3) hx hb d_Md_sun_84 (by decide) ?_
            refine lv_iload_n hx hb d_Md_sun_85 rfl (lv_at hl 1 rfl) ?_
            refine lv_imul hx hb d_Md_sun_86 ?_
            refine lv_topE (show 3 * (nI j9) = nI (3 * j9) from pk_mul 3 j9) ?_
            refine lv_iconst (v := 2) hx hb d_Md_sun_87 (by decide) ?_
            refine lv_iadd hx hb d_Md_sun_88 ?_
            refine lv_topE (show (nI (3 * j9)) + 2 = nI (3 * j9 + 2) from nI_add (3 * j9) 2) ?_
            refine lv_iload hx hb d_Md_sun_89 (lv_at hl 4 rfl) ?_
            refine gn_iast E hK.1 hG hS hc_50 0 rfl (j := (3 * j9 + 2)) (by omega) (by decide) d_Md_sun_91 (fun H locs hG hS => ?_)
            obtain ⟨G_51, eG_51⟩ : ∃ z, z = gs_u G_44 cS (aInt (k 0) 72 (upd (upd (upd su (3 * j9) d1) (3 * j9 + 1) d2) (3 * j9 + 2) d3)) := ⟨_, rfl⟩
            have hG : gs_W D classes zb G_51 H := by rw [eG_51]; exact hG
            have hc_52 : G_51 mo = some (.inr (4, [.int 0, .int (nI wn), .int (nI hn), .int (nI nb), .ref cB, .ref cT, .ref cS, .ref cL, .int (nI nw), .ref cW, .long l1, .long l2, .long l3, .long l4])) := by rw [eG_51]; exact gs_keep hc_45 hc_50 (by simp)
            have hc_53 : G_51 cB = some (aInt (k 0) 66 bx) := by rw [eG_51]; exact gs_keep hc_46 hc_50 (by simp)
            have hc_54 : G_51 cT = some (aInt (k 2) 11 tr) := by rw [eG_51]; exact gs_keep hc_47 hc_50 (by simp)
            have hc_55 : G_51 cL = some (aInt (k 0) 24 li) := by rw [eG_51]; exact gs_keep hc_48 hc_50 (by simp)
            have hc_56 : G_51 cW = some (aInt (k 0) 40 wi) := by rw [eG_51]; exact gs_keep hc_49 hc_50 (by simp)
            have hc_57 : G_51 cS = some (aInt (k 0) 72 (upd (upd (upd su (3 * j9) d1) (3 * j9 + 1) d2) (3 * j9 + 2) d3)) := by rw [eG_51]; exact gs_us _ _ _
            refine W.vret hx hb hr (gs_end (Or.inr ⟨⟨c_1, c_10, c_19, c_28⟩, rfl, j9, hj9, htj, ?_⟩) hG hS) hS.2.2 d_Md_sun_92
            simp only [eG_51, eG_44, eG_37, eG_29, gs_uu, jm_sun]
        · refine lv_iconst (v := 1) hx hb d_Md_sun_45 (by decide) ?_
          refine lv_goto (tgt := 50) hx hb d_Md_sun_46 (by decide) ?_
          refine gs_put E hK.1 hG hS hM.1 (C := R_Md) (T := F_Md) (N := 14) rfl i_Md t_Md t_Md_ok n_Md 0 (by decide) w_463 rfl (v := .int 1) rfl rfl (Nat.le_of_ble_eq_true rfl) d_Md_sun_50 (fun H locs hG hS => ?_)
          obtain ⟨G_58, eG_58⟩ : ∃ z, z = gs_u G mo (.inr (4, [.int 1, .int (nI wn), .int (nI hn), .int (nI nb), .ref cB, .ref cT, .ref cS, .ref cL, .int (nI nw), .ref cW, .long l1, .long l2, .long l3, .long l4])) := ⟨_, rfl⟩
          have hG : gs_W D classes zb G_58 H := by rw [eG_58]; exact hG
          have hc_59 : G_58 cB = some (aInt (k 0) 66 bx) := by rw [eG_58]; exact gs_keep hM.2.1 hM.1 (by simp)
          have hc_60 : G_58 cT = some (aInt (k 2) 11 tr) := by rw [eG_58]; exact gs_keep hM.2.2.1 hM.1 (by simp)
          have hc_61 : G_58 cS = some (aInt (k 0) 72 su) := by rw [eG_58]; exact gs_keep hM.2.2.2.1 hM.1 (by simp)
          have hc_62 : G_58 cL = some (aInt (k 0) 24 li) := by rw [eG_58]; exact gs_keep hM.2.2.2.2.1 hM.1 (by simp)
          have hc_63 : G_58 cW = some (aInt (k 0) 40 wi) := by rw [eG_58]; exact gs_keep hM.2.2.2.2.2 hM.1 (by simp)
          have hc_64 : G_58 mo = some (.inr (4, [.int 1, .int (nI wn), .int (nI hn), .int (nI nb), .ref cB, .ref cT, .ref cS, .ref cL, .int (nI nw), .ref cW, .long l1, .long l2, .long l3, .long l4])) := by rw [eG_58]; exact gs_us _ _ _
          refine lv_aload_n hx hb d_Md_sun_53 rfl (lv_at hl 0 rfl) ?_
          refine gs_get E hK.1 hG hc_64 (C := R_Md) (T := F_Md) (N := 14) rfl i_Md 0 (by decide) w_463 (v := .int 1) rfl d_Md_sun_54 ?_
          refine lv_if_ne (tgt := 92) hx hb d_Md_sun_57 (by decide) (fun c_65 => ?_) (fun c_65 => ?_)
          · refine W.vret hx hb hr (gs_end (Or.inl ⟨fun q9 => q9.2.2.2 c_28, rfl, ?_⟩) hG hS) hS.2.2 d_Md_sun_92
            simp only [eG_58, gs_uu, jm_sun]
          · exact absurd c_65 (by decide)
set_option maxHeartbeats 4000000 in
set_option maxRecDepth 100000 in
theorem k_Md_light (l : Launch) (D : va_G) (k : Nat → ClassId) (zb : Nat) (G : Nat → Option va_E) (mo cB cT cS cL cW : Nat) (th : Int32) (wn hn nb nw : Nat) (bx tr su li wi : Nat → Int32) (l1 l2 l3 l4 : Int64) (t d1 : Int32) (hM : sM k G mo cB cT cS cL cW th wn hn nb nw bx tr su li wi l1 l2 l3 l4) (hnb : nb ≤ 10) (hnw : nw ≤ 10) (hwn : 1 ≤ wn ∧ wn ≤ 60) (hhn : 1 ≤ hn ∧ hn ≤ 60) : Met l y_Md_light (wM y_Md_light c_Md_light 4 (some .int)) ({ frames := 1, cells := 0, slots := 0, locals := 22 }) (gs_P D k zb G [.ref mo, .int t, .int d1]) (gs_Q D zb (fun v G1 => (¬ (jm_noH t = 0 ∧ ¬ jc_within d1 0 1000 = 0) ∧ v = some (.int 0) ∧ G1 = gs_u G mo (oMd 1 wn hn nb nw cB cT cS cL cW l1 l2 l3 l4)) ∨ ((jm_noH t = 0 ∧ ¬ jc_within d1 0 1000 = 0) ∧ ∃ j : Nat, j < 24 ∧ t = nI j ∧ v = some (.int (li j)) ∧ G1 = gs_u (gs_u G mo (oMd 0 wn hn nb nw cB cT cS cL cW l1 l2 l3 l4)) cL (aInt (k 0) 24 (upd li j d1))))) 0 0 (fun q : Nat => zb ≤ q) := by
  refine Met.ofW (cc := c_Md_light) (maxL := 4) (ret := (some .int)) (by decide) rfl ?_
  intro p e s m args below meth c s₁ B hml hv
  obtain ⟨rfl, hG, hK, hX⟩ := hv
  have hx := B.exec
  have hb := B.bytes
  have hr := B.returns
  have hts := atoms_spec (ws := wM y_Md_light c_Md_light 4 (some .int)) B.pre
  have hw : ∀ w9 ∈ wW, w9.before ([.ref mo, .int t, .int d1] : List Value).toArray s = true := fun w9 h9 => hts w9 (gi_in w9 h9)
  have hown : s.vm.findClass R_Md = some m.cls := findClass_of_methodNamed B.named
  have hlocks := B.notSynchronized
  have E : gs_E p s m ([.ref mo, .int t, .int d1] : List Value).toArray c c_Md_light wW R_Md := ⟨hx, hb, hw, hown⟩
  have hS : gs_S zb s.heap s.heap [] := va_S.rf
  have hl := lv_entry ([.ref mo, .int t, .int d1]) (n := 4) (Nat.le_of_ble_eq_true rfl)
  rw [lg_entry_eq]
  generalize (lg_sl ([.ref mo, .int t, .int d1]) ++ List.replicate (4 - (lg_sl ([.ref mo, .int t, .int d1])).length) Slot.unset).toArray = ls at hl ⊢
  have hl : lv_has ls 4 [(0, .ref mo), (1, .int t), (2, .int d1)] := hl
  refine lv_aload_n hx hb d_Md_light_0 rfl (lv_at hl 0 rfl) ?_
  refine lv_iload_n hx hb d_Md_light_1 rfl (lv_at hl 1 rfl) ?_
  refine gs_St (As := [.int t]) (rest := [.ref mo]) (k_Md_noHour l D k zb G t) E hml hl.1 (cg_S hw w_543 w_541 w_4 w_542 hd_Md_noHour ⟨by exact Nat.le_of_ble_eq_true rfl, by exact Nat.le_of_ble_eq_true rfl⟩) hG hK hX hS rfl rfl (by exact Nat.le_of_ble_eq_true rfl) d_Md_light_2 ⟨by exact Nat.le_of_ble_eq_true rfl, by exact Nat.le_of_ble_eq_true rfl⟩ (fun v G1 H locs hp hG hS => ?_)
  obtain ⟨hv1, hG1⟩ := hp
  subst hv1
  rw [hG1] at hG
  refine W.eq (g2 := F0 m 5 ls [.int (jm_noH t), .ref mo]) rfl ?_
  refine lv_if_ne (tgt := 19) hx hb d_Md_light_5 (by decide) (fun c_1 => ?_) (fun c_1 => ?_)
  · refine lv_iconst (v := 1) hx hb d_Md_light_19 (by decide) ?_
    refine lv_goto (tgt := 24) hx hb d_Md_light_20 (by decide) ?_
    refine gs_put E hK.1 hG hS hM.1 (C := R_Md) (T := F_Md) (N := 14) rfl i_Md t_Md t_Md_ok n_Md 0 (by decide) w_463 rfl (v := .int 1) rfl rfl (Nat.le_of_ble_eq_true rfl) d_Md_light_24 (fun H locs hG hS => ?_)
    obtain ⟨G_2, eG_2⟩ : ∃ z, z = gs_u G mo (.inr (4, [.int 1, .int (nI wn), .int (nI hn), .int (nI nb), .ref cB, .ref cT, .ref cS, .ref cL, .int (nI nw), .ref cW, .long l1, .long l2, .long l3, .long l4])) := ⟨_, rfl⟩
    have hG : gs_W D classes zb G_2 H := by rw [eG_2]; exact hG
    have hc_3 : G_2 cB = some (aInt (k 0) 66 bx) := by rw [eG_2]; exact gs_keep hM.2.1 hM.1 (by simp)
    have hc_4 : G_2 cT = some (aInt (k 2) 11 tr) := by rw [eG_2]; exact gs_keep hM.2.2.1 hM.1 (by simp)
    have hc_5 : G_2 cS = some (aInt (k 0) 72 su) := by rw [eG_2]; exact gs_keep hM.2.2.2.1 hM.1 (by simp)
    have hc_6 : G_2 cL = some (aInt (k 0) 24 li) := by rw [eG_2]; exact gs_keep hM.2.2.2.2.1 hM.1 (by simp)
    have hc_7 : G_2 cW = some (aInt (k 0) 40 wi) := by rw [eG_2]; exact gs_keep hM.2.2.2.2.2 hM.1 (by simp)
    have hc_8 : G_2 mo = some (.inr (4, [.int 1, .int (nI wn), .int (nI hn), .int (nI nb), .ref cB, .ref cT, .ref cS, .ref cL, .int (nI nw), .ref cW, .long l1, .long l2, .long l3, .long l4])) := by rw [eG_2]; exact gs_us _ _ _
    refine lv_aload_n hx hb d_Md_light_27 rfl (lv_at hl 0 rfl) ?_
    refine gs_get E hK.1 hG hc_8 (C := R_Md) (T := F_Md) (N := 14) rfl i_Md 0 (by decide) w_463 (v := .int 1) rfl d_Md_light_28 ?_
    refine lv_if_le (tgt := 36) hx hb d_Md_light_31 (by decide) (fun c_9 => ?_) (fun c_9 => ?_)
    · exact absurd c_9 (by decide)
    · refine lv_iconst (v := 0) hx hb d_Md_light_34 (by decide) ?_
      refine W.iret (v := 0) hx hb hr (gs_end (Or.inl ⟨fun q9 => c_1 q9.1, rfl, ?_⟩) hG hS) hS.2.2 d_Md_light_35
      simp only [eG_2, gs_uu]
  · obtain ⟨j9, hj9, htj⟩ := noH_1 c_1
    rw [htj] at hl
    refine lv_iload_n hx hb d_Md_light_8 rfl (lv_at hl 2 rfl) ?_
    refine lv_iconst (v := 0) hx hb d_Md_light_9 (by decide) ?_
    refine lv_sipush (v := 1000) hx hb d_Md_light_10 (by decide) ?_
    refine gs_St (As := [.int d1, .int 0, .int 1000]) (rest := [.ref mo]) (k_Md_isIn l D k zb G d1 0 1000) E hml hl.1 (cg_S hw w_520 w_518 w_4 w_519 hd_Md_isIn ⟨by exact Nat.le_of_ble_eq_true rfl, by exact Nat.le_of_ble_eq_true rfl⟩) hG hK hX hS rfl rfl (by exact Nat.le_of_ble_eq_true rfl) d_Md_light_13 ⟨by exact Nat.le_of_ble_eq_true rfl, by exact Nat.le_of_ble_eq_true rfl⟩ (fun v G1 H locs hp hG hS => ?_)
    obtain ⟨hv1, hG1⟩ := hp
    subst hv1
    rw [hG1] at hG
    refine W.eq (g2 := F0 m 16 ls [.int (jc_within d1 0 1000), .ref mo]) rfl ?_
    refine lv_if_ne (tgt := 23) hx hb d_Md_light_16 (by decide) (fun c_10 => ?_) (fun c_10 => ?_)
    · refine lv_iconst (v := 0) hx hb d_Md_light_23 (by decide) ?_
      refine gs_put E hK.1 hG hS hM.1 (C := R_Md) (T := F_Md) (N := 14) rfl i_Md t_Md t_Md_ok n_Md 0 (by decide) w_463 rfl (v := .int 0) rfl rfl (Nat.le_of_ble_eq_true rfl) d_Md_light_24 (fun H locs hG hS => ?_)
      obtain ⟨G_11, eG_11⟩ : ∃ z, z = gs_u G mo (.inr (4, [.int 0, .int (nI wn), .int (nI hn), .int (nI nb), .ref cB, .ref cT, .ref cS, .ref cL, .int (nI nw), .ref cW, .long l1, .long l2, .long l3, .long l4])) := ⟨_, rfl⟩
      have hG : gs_W D classes zb G_11 H := by rw [eG_11]; exact hG
      have hc_12 : G_11 cB = some (aInt (k 0) 66 bx) := by rw [eG_11]; exact gs_keep hM.2.1 hM.1 (by simp)
      have hc_13 : G_11 cT = some (aInt (k 2) 11 tr) := by rw [eG_11]; exact gs_keep hM.2.2.1 hM.1 (by simp)
      have hc_14 : G_11 cS = some (aInt (k 0) 72 su) := by rw [eG_11]; exact gs_keep hM.2.2.2.1 hM.1 (by simp)
      have hc_15 : G_11 cL = some (aInt (k 0) 24 li) := by rw [eG_11]; exact gs_keep hM.2.2.2.2.1 hM.1 (by simp)
      have hc_16 : G_11 cW = some (aInt (k 0) 40 wi) := by rw [eG_11]; exact gs_keep hM.2.2.2.2.2 hM.1 (by simp)
      have hc_17 : G_11 mo = some (.inr (4, [.int 0, .int (nI wn), .int (nI hn), .int (nI nb), .ref cB, .ref cT, .ref cS, .ref cL, .int (nI nw), .ref cW, .long l1, .long l2, .long l3, .long l4])) := by rw [eG_11]; exact gs_us _ _ _
      refine lv_aload_n hx hb d_Md_light_27 rfl (lv_at hl 0 rfl) ?_
      refine gs_get E hK.1 hG hc_17 (C := R_Md) (T := F_Md) (N := 14) rfl i_Md 0 (by decide) w_463 (v := .int 0) rfl d_Md_light_28 ?_
      refine lv_if_le (tgt := 36) hx hb d_Md_light_31 (by decide) (fun c_18 => ?_) (fun c_18 => ?_)
      · refine lv_aload_n hx hb d_Md_light_36 rfl (lv_at hl 0 rfl) ?_
        refine gs_get E hK.1 hG hc_17 (C := R_Md) (T := F_Md) (N := 14) rfl i_Md 7 (by decide) w_470 (v := .ref cL) rfl d_Md_light_37 ?_
        refine lv_iload_n hx hb d_Md_light_40 rfl (lv_at hl 1 rfl) ?_
        refine gn_iald E hK.1 hG hc_15 0 rfl (j := j9) (by omega) (by decide) d_Md_light_41 ?_
        refine lv_topi (fun v_19 ev_19 => ?_)
        refine lv_istore_n (lv' := [(3, .int v_19), (0, .ref mo), (1, .int (nI j9)), (2, .int d1)]) hx hb d_Md_light_42 rfl hl (by decide) rfl (fun ls hl => ?_)
        refine lv_aload_n hx hb d_Md_light_43 rfl (lv_at hl 1 rfl) ?_
        refine gs_get E hK.1 hG hc_17 (C := R_Md) (T := F_Md) (N := 14) rfl i_Md 7 (by decide) w_470 (v := .ref cL) rfl d_Md_light_44 ?_
        refine lv_iload_n hx hb d_Md_light_47 rfl (lv_at hl 2 rfl) ?_
        refine lv_iload_n hx hb d_Md_light_48 rfl (lv_at hl 3 rfl) ?_
        refine gn_iast E hK.1 hG hS hc_15 0 rfl (j := j9) (by omega) (by decide) d_Md_light_49 (fun H locs hG hS => ?_)
        obtain ⟨G_20, eG_20⟩ : ∃ z, z = gs_u G_11 cL (aInt (k 0) 24 (upd li j9 d1)) := ⟨_, rfl⟩
        have hG : gs_W D classes zb G_20 H := by rw [eG_20]; exact hG
        have hc_21 : G_20 mo = some (.inr (4, [.int 0, .int (nI wn), .int (nI hn), .int (nI nb), .ref cB, .ref cT, .ref cS, .ref cL, .int (nI nw), .ref cW, .long l1, .long l2, .long l3, .long l4])) := by rw [eG_20]; exact gs_keep hc_17 hc_15 (by simp)
        have hc_22 : G_20 cB = some (aInt (k 0) 66 bx) := by rw [eG_20]; exact gs_keep hc_12 hc_15 (by simp)
        have hc_23 : G_20 cT = some (aInt (k 2) 11 tr) := by rw [eG_20]; exact gs_keep hc_13 hc_15 (by simp)
        have hc_24 : G_20 cS = some (aInt (k 0) 72 su) := by rw [eG_20]; exact gs_keep hc_14 hc_15 (by simp)
        have hc_25 : G_20 cW = some (aInt (k 0) 40 wi) := by rw [eG_20]; exact gs_keep hc_16 hc_15 (by simp)
        have hc_26 : G_20 cL = some (aInt (k 0) 24 (upd li j9 d1)) := by rw [eG_20]; exact gs_us _ _ _
        refine lv_iload_n hx hb d_Md_light_50 rfl (lv_at hl 0 rfl) ?_
        refine W.iret (v := v_19) hx hb hr (gs_end (Or.inr ⟨⟨c_1, c_10⟩, j9, hj9, htj, by rw [ev_19], ?_⟩) hG hS) hS.2.2 d_Md_light_51
        subst ev_19; simp only [eG_20, eG_11, gs_uu]
      · exact absurd (by decide) c_18
    · refine lv_iconst (v := 1) hx hb d_Md_light_19 (by decide) ?_
      refine lv_goto (tgt := 24) hx hb d_Md_light_20 (by decide) ?_
      refine gs_put E hK.1 hG hS hM.1 (C := R_Md) (T := F_Md) (N := 14) rfl i_Md t_Md t_Md_ok n_Md 0 (by decide) w_463 rfl (v := .int 1) rfl rfl (Nat.le_of_ble_eq_true rfl) d_Md_light_24 (fun H locs hG hS => ?_)
      obtain ⟨G_27, eG_27⟩ : ∃ z, z = gs_u G mo (.inr (4, [.int 1, .int (nI wn), .int (nI hn), .int (nI nb), .ref cB, .ref cT, .ref cS, .ref cL, .int (nI nw), .ref cW, .long l1, .long l2, .long l3, .long l4])) := ⟨_, rfl⟩
      have hG : gs_W D classes zb G_27 H := by rw [eG_27]; exact hG
      have hc_28 : G_27 cB = some (aInt (k 0) 66 bx) := by rw [eG_27]; exact gs_keep hM.2.1 hM.1 (by simp)
      have hc_29 : G_27 cT = some (aInt (k 2) 11 tr) := by rw [eG_27]; exact gs_keep hM.2.2.1 hM.1 (by simp)
      have hc_30 : G_27 cS = some (aInt (k 0) 72 su) := by rw [eG_27]; exact gs_keep hM.2.2.2.1 hM.1 (by simp)
      have hc_31 : G_27 cL = some (aInt (k 0) 24 li) := by rw [eG_27]; exact gs_keep hM.2.2.2.2.1 hM.1 (by simp)
      have hc_32 : G_27 cW = some (aInt (k 0) 40 wi) := by rw [eG_27]; exact gs_keep hM.2.2.2.2.2 hM.1 (by simp)
      have hc_33 : G_27 mo = some (.inr (4, [.int 1, .int (nI wn), .int (nI hn), .int (nI nb), .ref cB, .ref cT, .ref cS, .ref cL, .int (nI nw), .ref cW, .long l1, .long l2, .long l3, .long l4])) := by rw [eG_27]; exact gs_us _ _ _
      refine lv_aload_n hx hb d_Md_light_27 rfl (lv_at hl 0 rfl) ?_
      refine gs_get E hK.1 hG hc_33 (C := R_Md) (T := F_Md) (N := 14) rfl i_Md 0 (by decide) w_463 (v := .int 1) rfl d_Md_light_28 ?_
      refine lv_if_le (tgt := 36) hx hb d_Md_light_31 (by decide) (fun c_34 => ?_) (fun c_34 => ?_)
      · exact absurd c_34 (by decide)
      · refine lv_iconst (v := 0) hx hb d_Md_light_34 (by decide) ?_
        refine W.iret (v := 0) hx hb hr (gs_end (Or.inl ⟨fun q9 => q9.2 c_10, rfl, ?_⟩) hG hS) hS.2.2 d_Md_light_35
        simp only [eG_27, gs_uu]
set_option maxHeartbeats 4000000 in
set_option maxRecDepth 100000 in
theorem k_Md_box (l : Launch) (D : va_G) (k : Nat → ClassId) (zb : Nat) (G : Nat → Option va_E) (mo cB cT cS cL cW : Nat) (th : Int32) (wn hn nb nw : Nat) (bx tr su li wi : Nat → Int32) (l1 l2 l3 l4 : Int64) (x0 y0 z0 x1 y1 z1 : Int32) (hM : sM k G mo cB cT cS cL cW th wn hn nb nw bx tr su li wi l1 l2 l3 l4) (hnb : nb ≤ 10) (hnw : nw ≤ 10) (hwn : 1 ≤ wn ∧ wn ≤ 60) (hhn : 1 ≤ hn ∧ hn ≤ 60) : Met l y_Md_box (wM y_Md_box c_Md_box 7 (some .int)) ({ frames := 2, cells := 0, slots := 0, locals := 47 }) (gs_P D k zb G [.ref mo, .int x0, .int y0, .int z0, .int x1, .int y1, .int z1]) (gs_Q D zb (fun v G1 => (jm_isBox x0 y0 z0 x1 y1 z1 = 0 ∧ v = some (.int 0) ∧ G1 = gs_u G mo (oMd 1 wn hn nb nw cB cT cS cL cW l1 l2 l3 l4)) ∨ (¬ jm_isBox x0 y0 z0 x1 y1 z1 = 0 ∧ nb = 10 ∧ v = some (.int 0) ∧ G1 = gs_u G mo (oMd 2 wn hn nb nw cB cT cS cL cW l1 l2 l3 l4)) ∨ (¬ jm_isBox x0 y0 z0 x1 y1 z1 = 0 ∧ nb < 10 ∧ v = some (.int (nI nb)) ∧ G1 = gM k G mo cB cT (jm_lay bx nb x0 y0 z0 x1 y1 z1) (upd tr nb 1) (oMd 0 wn hn (nb + 1) nw cB cT cS cL cW l1 l2 l3 l4)))) 0 0 (fun q : Nat => zb ≤ q) := by
  refine Met.ofW (cc := c_Md_box) (maxL := 7) (ret := (some .int)) (by decide) rfl ?_
  intro p e s m args below meth c s₁ B hml hv
  obtain ⟨rfl, hG, hK, hX⟩ := hv
  have hx := B.exec
  have hb := B.bytes
  have hr := B.returns
  have hts := atoms_spec (ws := wM y_Md_box c_Md_box 7 (some .int)) B.pre
  have hw : ∀ w9 ∈ wW, w9.before ([.ref mo, .int x0, .int y0, .int z0, .int x1, .int y1, .int z1] : List Value).toArray s = true := fun w9 h9 => hts w9 (gi_in w9 h9)
  have hown : s.vm.findClass R_Md = some m.cls := findClass_of_methodNamed B.named
  have hlocks := B.notSynchronized
  have E : gs_E p s m ([.ref mo, .int x0, .int y0, .int z0, .int x1, .int y1, .int z1] : List Value).toArray c c_Md_box wW R_Md := ⟨hx, hb, hw, hown⟩
  have hS : gs_S zb s.heap s.heap [] := va_S.rf
  have hl := lv_entry ([.ref mo, .int x0, .int y0, .int z0, .int x1, .int y1, .int z1]) (n := 7) (Nat.le_of_ble_eq_true rfl)
  rw [lg_entry_eq]
  generalize (lg_sl ([.ref mo, .int x0, .int y0, .int z0, .int x1, .int y1, .int z1]) ++ List.replicate (7 - (lg_sl ([.ref mo, .int x0, .int y0, .int z0, .int x1, .int y1, .int z1])).length) Slot.unset).toArray = ls at hl ⊢
  have hl : lv_has ls 7 [(0, .ref mo), (1, .int x0), (2, .int y0), (3, .int z0), (4, .int x1), (5, .int y1), (6, .int z1)] := hl
  refine lv_aload_n hx hb d_Md_box_0 rfl (lv_at hl 0 rfl) ?_
  refine lv_iload_n hx hb d_Md_box_1 rfl (lv_at hl 1 rfl) ?_
  refine lv_iload_n hx hb d_Md_box_2 rfl (lv_at hl 2 rfl) ?_
  refine lv_iload_n hx hb d_Md_box_3 rfl (lv_at hl 3 rfl) ?_
  refine lv_iload hx hb d_Md_box_4 (lv_at hl 4 rfl) ?_
  refine lv_iload hx hb d_Md_box_6 (lv_at hl 5 rfl) ?_
  refine lv_iload hx hb d_Md_box_8 (lv_at hl 6 rfl) ?_
  refine gs_St (As := [.int x0, .int y0, .int z0, .int x1, .int y1, .int z1]) (rest := [.ref mo]) (k_Md_isBox l D k zb G x0 y0 z0 x1 y1 z1) E hml hl.1 (cg_S hw w_517 w_515 w_4 w_516 hd_Md_isBox ⟨by exact Nat.le_of_ble_eq_true rfl, by exact Nat.le_of_ble_eq_true rfl⟩) hG hK hX hS rfl rfl (by exact Nat.le_of_ble_eq_true rfl) d_Md_box_10 ⟨by exact Nat.le_of_ble_eq_true rfl, by exact Nat.le_of_ble_eq_true rfl⟩ (fun v G1 H locs hp hG hS => ?_)
  obtain ⟨hv1, hG1⟩ := hp
  subst hv1
  rw [hG1] at hG
  refine W.eq (g2 := F0 m 13 ls [.int (jm_isBox x0 y0 z0 x1 y1 z1), .ref mo]) rfl ?_
  refine lv_if_ne (tgt := 20) hx hb d_Md_box_13 (by decide) (fun c_1 => ?_) (fun c_1 => ?_)
  · refine lv_aload_n hx hb d_Md_box_20 rfl (lv_at hl 0 rfl) ?_
    refine gs_get E hK.1 hG hM.1 (C := R_Md) (T := F_Md) (N := 14) rfl i_Md 3 (by decide) w_466 (v := .int (nI nb)) rfl d_Md_box_21 ?_
    refine lv_bipush (v := 10) hx hb d_Md_box_24 (by decide) ?_
    refine lv_icmp_ne (tgt := 33) hx hb d_Md_box_26 (by decide) (fun c_2 => ?_) (fun c_2 => ?_)
    · have h10 : nb < 10 := by rcases Nat.lt_or_ge nb 10 with q9 | q9; exact q9; exact absurd (show nI nb = 10 by rw [show nb = 10 by omega]; rfl) c_2
      refine lv_iconst (v := 0) hx hb d_Md_box_33 (by decide) ?_
      refine gs_put E hK.1 hG hS hM.1 (C := R_Md) (T := F_Md) (N := 14) rfl i_Md t_Md t_Md_ok n_Md 0 (by decide) w_463 rfl (v := .int 0) rfl rfl (Nat.le_of_ble_eq_true rfl) d_Md_box_34 (fun H locs hG hS => ?_)
      obtain ⟨G_3, eG_3⟩ : ∃ z, z = gs_u G mo (.inr (4, [.int 0, .int (nI wn), .int (nI hn), .int (nI nb), .ref cB, .ref cT, .ref cS, .ref cL, .int (nI nw), .ref cW, .long l1, .long l2, .long l3, .long l4])) := ⟨_, rfl⟩
      have hG : gs_W D classes zb G_3 H := by rw [eG_3]; exact hG
      have hc_4 : G_3 cB = some (aInt (k 0) 66 bx) := by rw [eG_3]; exact gs_keep hM.2.1 hM.1 (by simp)
      have hc_5 : G_3 cT = some (aInt (k 2) 11 tr) := by rw [eG_3]; exact gs_keep hM.2.2.1 hM.1 (by simp)
      have hc_6 : G_3 cS = some (aInt (k 0) 72 su) := by rw [eG_3]; exact gs_keep hM.2.2.2.1 hM.1 (by simp)
      have hc_7 : G_3 cL = some (aInt (k 0) 24 li) := by rw [eG_3]; exact gs_keep hM.2.2.2.2.1 hM.1 (by simp)
      have hc_8 : G_3 cW = some (aInt (k 0) 40 wi) := by rw [eG_3]; exact gs_keep hM.2.2.2.2.2 hM.1 (by simp)
      have hc_9 : G_3 mo = some (.inr (4, [.int 0, .int (nI wn), .int (nI hn), .int (nI nb), .ref cB, .ref cT, .ref cS, .ref cL, .int (nI nw), .ref cW, .long l1, .long l2, .long l3, .long l4])) := by rw [eG_3]; exact gs_us _ _ _
      refine lv_aload_n hx hb d_Md_box_37 rfl (lv_at hl 0 rfl) ?_
      refine gs_get E hK.1 hG hc_9 (C := R_Md) (T := F_Md) (N := 14) rfl i_Md 0 (by decide) w_463 (v := .int 0) rfl d_Md_box_38 ?_
      refine lv_if_le (tgt := 46) hx hb d_Md_box_41 (by decide) (fun c_10 => ?_) (fun c_10 => ?_)
      · refine lv_aload_n hx hb d_Md_box_46 rfl (lv_at hl 0 rfl) ?_
        refine lv_aload_n hx hb d_Md_box_47 rfl (lv_at hl 0 rfl) ?_
        refine gs_get E hK.1 hG hc_9 (C := R_Md) (T := F_Md) (N := 14) rfl i_Md 3 (by decide) w_466 (v := .int (nI nb)) rfl d_Md_box_48 ?_
        refine lv_iload_n hx hb d_Md_box_51 rfl (lv_at hl 1 rfl) ?_
        refine lv_iload_n hx hb d_Md_box_52 rfl (lv_at hl 2 rfl) ?_
        refine lv_iload_n hx hb d_Md_box_53 rfl (lv_at hl 3 rfl) ?_
        refine lv_iload hx hb d_Md_box_54 (lv_at hl 4 rfl) ?_
        refine lv_iload hx hb d_Md_box_56 (lv_at hl 5 rfl) ?_
        refine lv_iload hx hb d_Md_box_58 (lv_at hl 6 rfl) ?_
        refine gs_V (As := [.int (nI nb), .int x0, .int y0, .int z0, .int x1, .int y1, .int z1]) (rest := []) (k_Md_lay l D k zb G_3 mo cB cT cS cL cW 0 wn hn nb nw bx tr su li wi l1 l2 l3 l4 nb x0 y0 z0 x1 y1 z1 ⟨hc_9, hc_4, hc_5, hc_6, hc_7, hc_8⟩ (by omega)) E hml hl.1 (cg_V (C := R_Md) hw w_524 w_521 w_4 w_523 sel_Md_lay hd_Md_lay ⟨by exact Nat.le_of_ble_eq_true rfl, by exact Nat.le_of_ble_eq_true rfl⟩) hG hK hX hS hc_9 rfl rfl rfl rfl (by exact Nat.le_of_ble_eq_true rfl) d_Md_box_60 ⟨by exact Nat.le_of_ble_eq_true rfl, by exact Nat.le_of_ble_eq_true rfl⟩ (fun v G1 H locs hp hG hS => ?_)
        obtain ⟨hv1, hG1⟩ := hp
        subst hv1
        rw [hG1] at hG
        obtain ⟨G_11, eG_11⟩ : ∃ z, z = gs_u G_3 cB (aInt (k 0) 66 (jm_lay bx nb x0 y0 z0 x1 y1 z1)) := ⟨_, rfl⟩
        rw [← eG_11] at hG
        have hc_12 : G_11 mo = some (.inr (4, [.int 0, .int (nI wn), .int (nI hn), .int (nI nb), .ref cB, .ref cT, .ref cS, .ref cL, .int (nI nw), .ref cW, .long l1, .long l2, .long l3, .long l4])) := by rw [eG_11]; exact gs_keep hc_9 hc_4 (by simp)
        have hc_13 : G_11 cT = some (aInt (k 2) 11 tr) := by rw [eG_11]; exact gs_keep hc_5 hc_4 (by simp)
        have hc_14 : G_11 cS = some (aInt (k 0) 72 su) := by rw [eG_11]; exact gs_keep hc_6 hc_4 (by simp)
        have hc_15 : G_11 cL = some (aInt (k 0) 24 li) := by rw [eG_11]; exact gs_keep hc_7 hc_4 (by simp)
        have hc_16 : G_11 cW = some (aInt (k 0) 40 wi) := by rw [eG_11]; exact gs_keep hc_8 hc_4 (by simp)
        have hc_17 : G_11 cB = some (aInt (k 0) 66 (jm_lay bx nb x0 y0 z0 x1 y1 z1)) := by rw [eG_11]; exact gs_us _ _ _
        obtain ⟨G_18, eG_18⟩ : ∃ z, z = gs_u G_11 cT (aInt (k 2) 11 (upd tr nb 1)) := ⟨_, rfl⟩
        have hG : gs_W D classes zb G_18 H := by rw [eG_18]; exact hG
        have hc_19 : G_18 mo = some (.inr (4, [.int 0, .int (nI wn), .int (nI hn), .int (nI nb), .ref cB, .ref cT, .ref cS, .ref cL, .int (nI nw), .ref cW, .long l1, .long l2, .long l3, .long l4])) := by rw [eG_18]; exact gs_keep hc_12 hc_13 (by simp)
        have hc_20 : G_18 cB = some (aInt (k 0) 66 (jm_lay bx nb x0 y0 z0 x1 y1 z1)) := by rw [eG_18]; exact gs_keep hc_17 hc_13 (by simp)
        have hc_21 : G_18 cS = some (aInt (k 0) 72 su) := by rw [eG_18]; exact gs_keep hc_14 hc_13 (by simp)
        have hc_22 : G_18 cL = some (aInt (k 0) 24 li) := by rw [eG_18]; exact gs_keep hc_15 hc_13 (by simp)
        have hc_23 : G_18 cW = some (aInt (k 0) 40 wi) := by rw [eG_18]; exact gs_keep hc_16 hc_13 (by simp)
        have hc_24 : G_18 cT = some (aInt (k 2) 11 (upd tr nb 1)) := by rw [eG_18]; exact gs_us _ _ _
        refine W.eq (g2 := F0 m 63 ls []) rfl ?_
        refine lv_aload_n hx hb d_Md_box_63 rfl (lv_at hl 0 rfl) ?_
        refine lv_dup hx hb d_Md_box_64 rfl ?_
        refine gs_get E hK.1 hG hc_19 (C := R_Md) (T := F_Md) (N := 14) rfl i_Md 3 (by decide) w_466 (v := .int (nI nb)) rfl d_Md_box_65 ?_
        refine lv_iconst (v := 1) hx hb d_Md_box_68 (by decide) ?_
        refine lv_iadd hx hb d_Md_box_69 ?_
        refine lv_topE (show (nI nb) + 1 = nI (nb + 1) from nI_add nb 1) ?_
        refine gs_put E hK.1 hG hS hc_19 (C := R_Md) (T := F_Md) (N := 14) rfl i_Md t_Md t_Md_ok n_Md 3 (by decide) w_466 rfl (v := .int (nI (nb + 1))) rfl rfl (Nat.le_of_ble_eq_true rfl) d_Md_box_70 (fun H locs hG hS => ?_)
        obtain ⟨G_25, eG_25⟩ : ∃ z, z = gs_u G_18 mo (.inr (4, [.int 0, .int (nI wn), .int (nI hn), .int (nI (nb + 1)), .ref cB, .ref cT, .ref cS, .ref cL, .int (nI nw), .ref cW, .long l1, .long l2, .long l3, .long l4])) := ⟨_, rfl⟩
        have hG : gs_W D classes zb G_25 H := by rw [eG_25]; exact hG
        have hc_26 : G_25 cB = some (aInt (k 0) 66 (jm_lay bx nb x0 y0 z0 x1 y1 z1)) := by rw [eG_25]; exact gs_keep hc_20 hc_19 (by simp)
        have hc_27 : G_25 cT = some (aInt (k 2) 11 (upd tr nb 1)) := by rw [eG_25]; exact gs_keep hc_24 hc_19 (by simp)
        have hc_28 : G_25 cS = some (aInt (k 0) 72 su) := by rw [eG_25]; exact gs_keep hc_21 hc_19 (by simp)
        have hc_29 : G_25 cL = some (aInt (k 0) 24 li) := by rw [eG_25]; exact gs_keep hc_22 hc_19 (by simp)
        have hc_30 : G_25 cW = some (aInt (k 0) 40 wi) := by rw [eG_25]; exact gs_keep hc_23 hc_19 (by simp)
        have hc_31 : G_25 mo = some (.inr (4, [.int 0, .int (nI wn), .int (nI hn), .int (nI (nb + 1)), .ref cB, .ref cT, .ref cS, .ref cL, .int (nI nw), .ref cW, .long l1, .long l2, .long l3, .long l4])) := by rw [eG_25]; exact gs_us _ _ _
        refine lv_aload_n hx hb d_Md_box_73 rfl (lv_at hl 0 rfl) ?_
        refine gs_get E hK.1 hG hc_31 (C := R_Md) (T := F_Md) (N := 14) rfl i_Md 3 (by decide) w_466 (v := .int (nI (nb + 1))) rfl d_Md_box_74 ?_
        refine lv_iconst (v := 1) hx hb d_Md_box_77 (by decide) ?_
        refine lv_isub hx hb d_Md_box_78 ?_
        refine W.iret (v := ((nI (nb + 1)) - 1)) hx hb hr (gs_end (Or.inr (Or.inr ⟨c_1, h10, by rw [nI_s1], ?_⟩)) hG hS) hS.2.2 d_Md_box_79
        simp only [eG_25, eG_18, eG_11, eG_3, gs_uu]; exact gM_r _ _ _ _ _ _ _ _ _
      · exact absurd (by decide) c_10
    · have h10 : nb = 10 := eq_nI (b := 10) (by omega) (by decide) c_2
      refine lv_iconst (v := 2) hx hb d_Md_box_29 (by decide) ?_
      refine lv_goto (tgt := 34) hx hb d_Md_box_30 (by decide) ?_
      refine gs_put E hK.1 hG hS hM.1 (C := R_Md) (T := F_Md) (N := 14) rfl i_Md t_Md t_Md_ok n_Md 0 (by decide) w_463 rfl (v := .int 2) rfl rfl (Nat.le_of_ble_eq_true rfl) d_Md_box_34 (fun H locs hG hS => ?_)
      obtain ⟨G_32, eG_32⟩ : ∃ z, z = gs_u G mo (.inr (4, [.int 2, .int (nI wn), .int (nI hn), .int (nI nb), .ref cB, .ref cT, .ref cS, .ref cL, .int (nI nw), .ref cW, .long l1, .long l2, .long l3, .long l4])) := ⟨_, rfl⟩
      have hG : gs_W D classes zb G_32 H := by rw [eG_32]; exact hG
      have hc_33 : G_32 cB = some (aInt (k 0) 66 bx) := by rw [eG_32]; exact gs_keep hM.2.1 hM.1 (by simp)
      have hc_34 : G_32 cT = some (aInt (k 2) 11 tr) := by rw [eG_32]; exact gs_keep hM.2.2.1 hM.1 (by simp)
      have hc_35 : G_32 cS = some (aInt (k 0) 72 su) := by rw [eG_32]; exact gs_keep hM.2.2.2.1 hM.1 (by simp)
      have hc_36 : G_32 cL = some (aInt (k 0) 24 li) := by rw [eG_32]; exact gs_keep hM.2.2.2.2.1 hM.1 (by simp)
      have hc_37 : G_32 cW = some (aInt (k 0) 40 wi) := by rw [eG_32]; exact gs_keep hM.2.2.2.2.2 hM.1 (by simp)
      have hc_38 : G_32 mo = some (.inr (4, [.int 2, .int (nI wn), .int (nI hn), .int (nI nb), .ref cB, .ref cT, .ref cS, .ref cL, .int (nI nw), .ref cW, .long l1, .long l2, .long l3, .long l4])) := by rw [eG_32]; exact gs_us _ _ _
      refine lv_aload_n hx hb d_Md_box_37 rfl (lv_at hl 0 rfl) ?_
      refine gs_get E hK.1 hG hc_38 (C := R_Md) (T := F_Md) (N := 14) rfl i_Md 0 (by decide) w_463 (v := .int 2) rfl d_Md_box_38 ?_
      refine lv_if_le (tgt := 46) hx hb d_Md_box_41 (by decide) (fun c_39 => ?_) (fun c_39 => ?_)
      · exact absurd c_39 (by decide)
      · refine lv_iconst (v := 0) hx hb d_Md_box_44 (by decide) ?_
        refine W.iret (v := 0) hx hb hr (gs_end (Or.inr (Or.inl ⟨c_1, h10, rfl, ?_⟩)) hG hS) hS.2.2 d_Md_box_45
        simp only [eG_32, gs_uu]
  · refine lv_iconst (v := 1) hx hb d_Md_box_16 (by decide) ?_
    refine lv_goto (tgt := 34) hx hb d_Md_box_17 (by decide) ?_
    refine gs_put E hK.1 hG hS hM.1 (C := R_Md) (T := F_Md) (N := 14) rfl i_Md t_Md t_Md_ok n_Md 0 (by decide) w_463 rfl (v := .int 1) rfl rfl (Nat.le_of_ble_eq_true rfl) d_Md_box_34 (fun H locs hG hS => ?_)
    obtain ⟨G_40, eG_40⟩ : ∃ z, z = gs_u G mo (.inr (4, [.int 1, .int (nI wn), .int (nI hn), .int (nI nb), .ref cB, .ref cT, .ref cS, .ref cL, .int (nI nw), .ref cW, .long l1, .long l2, .long l3, .long l4])) := ⟨_, rfl⟩
    have hG : gs_W D classes zb G_40 H := by rw [eG_40]; exact hG
    have hc_41 : G_40 cB = some (aInt (k 0) 66 bx) := by rw [eG_40]; exact gs_keep hM.2.1 hM.1 (by simp)
    have hc_42 : G_40 cT = some (aInt (k 2) 11 tr) := by rw [eG_40]; exact gs_keep hM.2.2.1 hM.1 (by simp)
    have hc_43 : G_40 cS = some (aInt (k 0) 72 su) := by rw [eG_40]; exact gs_keep hM.2.2.2.1 hM.1 (by simp)
    have hc_44 : G_40 cL = some (aInt (k 0) 24 li) := by rw [eG_40]; exact gs_keep hM.2.2.2.2.1 hM.1 (by simp)
    have hc_45 : G_40 cW = some (aInt (k 0) 40 wi) := by rw [eG_40]; exact gs_keep hM.2.2.2.2.2 hM.1 (by simp)
    have hc_46 : G_40 mo = some (.inr (4, [.int 1, .int (nI wn), .int (nI hn), .int (nI nb), .ref cB, .ref cT, .ref cS, .ref cL, .int (nI nw), .ref cW, .long l1, .long l2, .long l3, .long l4])) := by rw [eG_40]; exact gs_us _ _ _
    refine lv_aload_n hx hb d_Md_box_37 rfl (lv_at hl 0 rfl) ?_
    refine gs_get E hK.1 hG hc_46 (C := R_Md) (T := F_Md) (N := 14) rfl i_Md 0 (by decide) w_463 (v := .int 1) rfl d_Md_box_38 ?_
    refine lv_if_le (tgt := 46) hx hb d_Md_box_41 (by decide) (fun c_47 => ?_) (fun c_47 => ?_)
    · exact absurd c_47 (by decide)
    · refine lv_iconst (v := 0) hx hb d_Md_box_44 (by decide) ?_
      refine W.iret (v := 0) hx hb hr (gs_end (Or.inl ⟨c_1, rfl, ?_⟩) hG hS) hS.2.2 d_Md_box_45
      simp only [eG_40, gs_uu]
set_option maxHeartbeats 4000000 in
set_option maxRecDepth 100000 in
theorem k_Md_window (l : Launch) (D : va_G) (k : Nat → ClassId) (zb : Nat) (G : Nat → Option va_E) (mo cB cT cS cL cW : Nat) (th : Int32) (wn hn nb nw : Nat) (bx tr su li wi : Nat → Int32) (l1 l2 l3 l4 : Int64) (u0 v0 u1 v1 : Int32) (hM : sM k G mo cB cT cS cL cW th wn hn nb nw bx tr su li wi l1 l2 l3 l4) (hnb : nb ≤ 10) (hnw : nw ≤ 10) (hwn : 1 ≤ wn ∧ wn ≤ 60) (hhn : 1 ≤ hn ∧ hn ≤ 60) : Met l y_Md_window (wM y_Md_window c_Md_window 6 (some .int)) ({ frames := 0, cells := 0, slots := 0, locals := 0 }) (gs_P D k zb G [.ref mo, .int u0, .int v0, .int u1, .int v1]) (gs_Q D zb (fun v G1 => (¬ (¬ u0 < 0 ∧ ¬ v0 < 0 ∧ u1 ≤ nI wn ∧ v1 ≤ nI hn ∧ u0 < u1 ∧ v0 < v1) ∧ v = some (.int 0) ∧ G1 = gs_u G mo (oMd 1 wn hn nb nw cB cT cS cL cW l1 l2 l3 l4)) ∨ ((¬ u0 < 0 ∧ ¬ v0 < 0 ∧ u1 ≤ nI wn ∧ v1 ≤ nI hn ∧ u0 < u1 ∧ v0 < v1) ∧ nw = 10 ∧ v = some (.int 0) ∧ G1 = gs_u G mo (oMd 2 wn hn nb nw cB cT cS cL cW l1 l2 l3 l4)) ∨ ((¬ u0 < 0 ∧ ¬ v0 < 0 ∧ u1 ≤ nI wn ∧ v1 ≤ nI hn ∧ u0 < u1 ∧ v0 < v1) ∧ nw < 10 ∧ v = some (.int (nI nw)) ∧ G1 = gs_u (gs_u (gs_u G mo (oMd 0 wn hn nb nw cB cT cS cL cW l1 l2 l3 l4)) cW (aInt (k 0) 40 (jm_win wi nw u0 v0 u1 v1))) mo (oMd 0 wn hn nb (nw + 1) cB cT cS cL cW l1 l2 l3 l4)))) 0 0 (fun q : Nat => zb ≤ q) := by
  refine Met.ofW (cc := c_Md_window) (maxL := 6) (ret := (some .int)) (by decide) rfl ?_
  intro p e s m args below meth c s₁ B hml hv
  obtain ⟨rfl, hG, hK, hX⟩ := hv
  have hx := B.exec
  have hb := B.bytes
  have hr := B.returns
  have hts := atoms_spec (ws := wM y_Md_window c_Md_window 6 (some .int)) B.pre
  have hw : ∀ w9 ∈ wW, w9.before ([.ref mo, .int u0, .int v0, .int u1, .int v1] : List Value).toArray s = true := fun w9 h9 => hts w9 (gi_in w9 h9)
  have hown : s.vm.findClass R_Md = some m.cls := findClass_of_methodNamed B.named
  have hlocks := B.notSynchronized
  have E : gs_E p s m ([.ref mo, .int u0, .int v0, .int u1, .int v1] : List Value).toArray c c_Md_window wW R_Md := ⟨hx, hb, hw, hown⟩
  have hS : gs_S zb s.heap s.heap [] := va_S.rf
  have hl := lv_entry ([.ref mo, .int u0, .int v0, .int u1, .int v1]) (n := 6) (Nat.le_of_ble_eq_true rfl)
  rw [lg_entry_eq]
  generalize (lg_sl ([.ref mo, .int u0, .int v0, .int u1, .int v1]) ++ List.replicate (6 - (lg_sl ([.ref mo, .int u0, .int v0, .int u1, .int v1])).length) Slot.unset).toArray = ls at hl ⊢
  have hl : lv_has ls 6 [(0, .ref mo), (1, .int u0), (2, .int v0), (3, .int u1), (4, .int v1)] := hl
  refine lv_iload_n hx hb d_Md_window_0 rfl (lv_at hl 1 rfl) ?_
  refine lv_if_lt (tgt := 40) hx hb d_Md_window_1 (by decide) (fun c_1 => ?_) (fun c_1 => ?_)
  · refine lv_iconst (v := 0) hx hb d_Md_window_40 (by decide) ?_
    refine lv_istore (lv' := [(5, .int 0), (0, .ref mo), (1, .int u0), (2, .int v0), (3, .int u1), (4, .int v1)]) hx hb d_Md_window_41 hl (by decide) rfl (fun ls hl => ?_)
    refine lv_aload_n hx hb d_Md_window_43 rfl (lv_at hl 1 rfl) ?_
    refine lv_iload hx hb d_Md_window_44 (lv_at hl 0 rfl) ?_
    refine lv_if_ne (tgt := 53) hx hb d_Md_window_46 (by decide) (fun c_2 => ?_) (fun c_2 => ?_)
    · exact absurd (by decide) c_2
    · refine lv_iconst (v := 1) hx hb d_Md_window_49 (by decide) ?_
      refine lv_goto (tgt := 67) hx hb d_Md_window_50 (by decide) ?_
      refine gs_put E hK.1 hG hS hM.1 (C := R_Md) (T := F_Md) (N := 14) rfl i_Md t_Md t_Md_ok n_Md 0 (by decide) w_463 rfl (v := .int 1) rfl rfl (Nat.le_of_ble_eq_true rfl) d_Md_window_67 (fun H locs hG hS => ?_)
      obtain ⟨G_3, eG_3⟩ : ∃ z, z = gs_u G mo (.inr (4, [.int 1, .int (nI wn), .int (nI hn), .int (nI nb), .ref cB, .ref cT, .ref cS, .ref cL, .int (nI nw), .ref cW, .long l1, .long l2, .long l3, .long l4])) := ⟨_, rfl⟩
      have hG : gs_W D classes zb G_3 H := by rw [eG_3]; exact hG
      have hc_4 : G_3 cB = some (aInt (k 0) 66 bx) := by rw [eG_3]; exact gs_keep hM.2.1 hM.1 (by simp)
      have hc_5 : G_3 cT = some (aInt (k 2) 11 tr) := by rw [eG_3]; exact gs_keep hM.2.2.1 hM.1 (by simp)
      have hc_6 : G_3 cS = some (aInt (k 0) 72 su) := by rw [eG_3]; exact gs_keep hM.2.2.2.1 hM.1 (by simp)
      have hc_7 : G_3 cL = some (aInt (k 0) 24 li) := by rw [eG_3]; exact gs_keep hM.2.2.2.2.1 hM.1 (by simp)
      have hc_8 : G_3 cW = some (aInt (k 0) 40 wi) := by rw [eG_3]; exact gs_keep hM.2.2.2.2.2 hM.1 (by simp)
      have hc_9 : G_3 mo = some (.inr (4, [.int 1, .int (nI wn), .int (nI hn), .int (nI nb), .ref cB, .ref cT, .ref cS, .ref cL, .int (nI nw), .ref cW, .long l1, .long l2, .long l3, .long l4])) := by rw [eG_3]; exact gs_us _ _ _
      refine lv_aload_n hx hb d_Md_window_70 rfl (lv_at hl 1 rfl) ?_
      refine gs_get E hK.1 hG hc_9 (C := R_Md) (T := F_Md) (N := 14) rfl i_Md 0 (by decide) w_463 (v := .int 1) rfl d_Md_window_71 ?_
      refine lv_if_le (tgt := 79) hx hb d_Md_window_74 (by decide) (fun c_10 => ?_) (fun c_10 => ?_)
      · exact absurd c_10 (by decide)
      · refine lv_iconst (v := 0) hx hb d_Md_window_77 (by decide) ?_
        refine W.iret (v := 0) hx hb hr (gs_end (Or.inl ⟨fun q9 => absurd q9 (by simp only [i_lt, i_le] at *; omega), rfl, ?_⟩) hG hS) hS.2.2 d_Md_window_78
        simp only [eG_3, gs_uu]
  · refine lv_iload_n hx hb d_Md_window_4 rfl (lv_at hl 2 rfl) ?_
    refine lv_if_lt (tgt := 40) hx hb d_Md_window_5 (by decide) (fun c_11 => ?_) (fun c_11 => ?_)
    · refine lv_iconst (v := 0) hx hb d_Md_window_40 (by decide) ?_
      refine lv_istore (lv' := [(5, .int 0), (0, .ref mo), (1, .int u0), (2, .int v0), (3, .int u1), (4, .int v1)]) hx hb d_Md_window_41 hl (by decide) rfl (fun ls hl => ?_)
      refine lv_aload_n hx hb d_Md_window_43 rfl (lv_at hl 1 rfl) ?_
      refine lv_iload hx hb d_Md_window_44 (lv_at hl 0 rfl) ?_
      refine lv_if_ne (tgt := 53) hx hb d_Md_window_46 (by decide) (fun c_12 => ?_) (fun c_12 => ?_)
      · exact absurd (by decide) c_12
      · refine lv_iconst (v := 1) hx hb d_Md_window_49 (by decide) ?_
        refine lv_goto (tgt := 67) hx hb d_Md_window_50 (by decide) ?_
        refine gs_put E hK.1 hG hS hM.1 (C := R_Md) (T := F_Md) (N := 14) rfl i_Md t_Md t_Md_ok n_Md 0 (by decide) w_463 rfl (v := .int 1) rfl rfl (Nat.le_of_ble_eq_true rfl) d_Md_window_67 (fun H locs hG hS => ?_)
        obtain ⟨G_13, eG_13⟩ : ∃ z, z = gs_u G mo (.inr (4, [.int 1, .int (nI wn), .int (nI hn), .int (nI nb), .ref cB, .ref cT, .ref cS, .ref cL, .int (nI nw), .ref cW, .long l1, .long l2, .long l3, .long l4])) := ⟨_, rfl⟩
        have hG : gs_W D classes zb G_13 H := by rw [eG_13]; exact hG
        have hc_14 : G_13 cB = some (aInt (k 0) 66 bx) := by rw [eG_13]; exact gs_keep hM.2.1 hM.1 (by simp)
        have hc_15 : G_13 cT = some (aInt (k 2) 11 tr) := by rw [eG_13]; exact gs_keep hM.2.2.1 hM.1 (by simp)
        have hc_16 : G_13 cS = some (aInt (k 0) 72 su) := by rw [eG_13]; exact gs_keep hM.2.2.2.1 hM.1 (by simp)
        have hc_17 : G_13 cL = some (aInt (k 0) 24 li) := by rw [eG_13]; exact gs_keep hM.2.2.2.2.1 hM.1 (by simp)
        have hc_18 : G_13 cW = some (aInt (k 0) 40 wi) := by rw [eG_13]; exact gs_keep hM.2.2.2.2.2 hM.1 (by simp)
        have hc_19 : G_13 mo = some (.inr (4, [.int 1, .int (nI wn), .int (nI hn), .int (nI nb), .ref cB, .ref cT, .ref cS, .ref cL, .int (nI nw), .ref cW, .long l1, .long l2, .long l3, .long l4])) := by rw [eG_13]; exact gs_us _ _ _
        refine lv_aload_n hx hb d_Md_window_70 rfl (lv_at hl 1 rfl) ?_
        refine gs_get E hK.1 hG hc_19 (C := R_Md) (T := F_Md) (N := 14) rfl i_Md 0 (by decide) w_463 (v := .int 1) rfl d_Md_window_71 ?_
        refine lv_if_le (tgt := 79) hx hb d_Md_window_74 (by decide) (fun c_20 => ?_) (fun c_20 => ?_)
        · exact absurd c_20 (by decide)
        · refine lv_iconst (v := 0) hx hb d_Md_window_77 (by decide) ?_
          refine W.iret (v := 0) hx hb hr (gs_end (Or.inl ⟨fun q9 => absurd q9 (by simp only [i_lt, i_le] at *; omega), rfl, ?_⟩) hG hS) hS.2.2 d_Md_window_78
          simp only [eG_13, gs_uu]
    · refine lv_iload_n hx hb d_Md_window_8 rfl (lv_at hl 3 rfl) ?_
      refine lv_aload_n hx hb d_Md_window_9 rfl (lv_at hl 0 rfl) ?_
      refine gs_get E hK.1 hG hM.1 (C := R_Md) (T := F_Md) (N := 14) rfl i_Md 1 (by decide) w_464 (v := .int (nI wn)) rfl d_Md_window_10 ?_
      refine lv_icmp_gt (tgt := 40) hx hb d_Md_window_13 (by decide) (fun c_21 => ?_) (fun c_21 => ?_)
      · refine lv_iconst (v := 0) hx hb d_Md_window_40 (by decide) ?_
        refine lv_istore (lv' := [(5, .int 0), (0, .ref mo), (1, .int u0), (2, .int v0), (3, .int u1), (4, .int v1)]) hx hb d_Md_window_41 hl (by decide) rfl (fun ls hl => ?_)
        refine lv_aload_n hx hb d_Md_window_43 rfl (lv_at hl 1 rfl) ?_
        refine lv_iload hx hb d_Md_window_44 (lv_at hl 0 rfl) ?_
        refine lv_if_ne (tgt := 53) hx hb d_Md_window_46 (by decide) (fun c_22 => ?_) (fun c_22 => ?_)
        · exact absurd (by decide) c_22
        · refine lv_iconst (v := 1) hx hb d_Md_window_49 (by decide) ?_
          refine lv_goto (tgt := 67) hx hb d_Md_window_50 (by decide) ?_
          refine gs_put E hK.1 hG hS hM.1 (C := R_Md) (T := F_Md) (N := 14) rfl i_Md t_Md t_Md_ok n_Md 0 (by decide) w_463 rfl (v := .int 1) rfl rfl (Nat.le_of_ble_eq_true rfl) d_Md_window_67 (fun H locs hG hS => ?_)
          obtain ⟨G_23, eG_23⟩ : ∃ z, z = gs_u G mo (.inr (4, [.int 1, .int (nI wn), .int (nI hn), .int (nI nb), .ref cB, .ref cT, .ref cS, .ref cL, .int (nI nw), .ref cW, .long l1, .long l2, .long l3, .long l4])) := ⟨_, rfl⟩
          have hG : gs_W D classes zb G_23 H := by rw [eG_23]; exact hG
          have hc_24 : G_23 cB = some (aInt (k 0) 66 bx) := by rw [eG_23]; exact gs_keep hM.2.1 hM.1 (by simp)
          have hc_25 : G_23 cT = some (aInt (k 2) 11 tr) := by rw [eG_23]; exact gs_keep hM.2.2.1 hM.1 (by simp)
          have hc_26 : G_23 cS = some (aInt (k 0) 72 su) := by rw [eG_23]; exact gs_keep hM.2.2.2.1 hM.1 (by simp)
          have hc_27 : G_23 cL = some (aInt (k 0) 24 li) := by rw [eG_23]; exact gs_keep hM.2.2.2.2.1 hM.1 (by simp)
          have hc_28 : G_23 cW = some (aInt (k 0) 40 wi) := by rw [eG_23]; exact gs_keep hM.2.2.2.2.2 hM.1 (by simp)
          have hc_29 : G_23 mo = some (.inr (4, [.int 1, .int (nI wn), .int (nI hn), .int (nI nb), .ref cB, .ref cT, .ref cS, .ref cL, .int (nI nw), .ref cW, .long l1, .long l2, .long l3, .long l4])) := by rw [eG_23]; exact gs_us _ _ _
          refine lv_aload_n hx hb d_Md_window_70 rfl (lv_at hl 1 rfl) ?_
          refine gs_get E hK.1 hG hc_29 (C := R_Md) (T := F_Md) (N := 14) rfl i_Md 0 (by decide) w_463 (v := .int 1) rfl d_Md_window_71 ?_
          refine lv_if_le (tgt := 79) hx hb d_Md_window_74 (by decide) (fun c_30 => ?_) (fun c_30 => ?_)
          · exact absurd c_30 (by decide)
          · refine lv_iconst (v := 0) hx hb d_Md_window_77 (by decide) ?_
            refine W.iret (v := 0) hx hb hr (gs_end (Or.inl ⟨fun q9 => absurd q9 (by simp only [i_lt, i_le] at *; omega), rfl, ?_⟩) hG hS) hS.2.2 d_Md_window_78
            simp only [eG_23, gs_uu]
      · refine lv_iload hx hb d_Md_window_16 (lv_at hl 4 rfl) ?_
        refine lv_aload_n hx hb d_Md_window_18 rfl (lv_at hl 0 rfl) ?_
        refine gs_get E hK.1 hG hM.1 (C := R_Md) (T := F_Md) (N := 14) rfl i_Md 2 (by decide) w_465 (v := .int (nI hn)) rfl d_Md_window_19 ?_
        refine lv_icmp_gt (tgt := 40) hx hb d_Md_window_22 (by decide) (fun c_31 => ?_) (fun c_31 => ?_)
        · refine lv_iconst (v := 0) hx hb d_Md_window_40 (by decide) ?_
          refine lv_istore (lv' := [(5, .int 0), (0, .ref mo), (1, .int u0), (2, .int v0), (3, .int u1), (4, .int v1)]) hx hb d_Md_window_41 hl (by decide) rfl (fun ls hl => ?_)
          refine lv_aload_n hx hb d_Md_window_43 rfl (lv_at hl 1 rfl) ?_
          refine lv_iload hx hb d_Md_window_44 (lv_at hl 0 rfl) ?_
          refine lv_if_ne (tgt := 53) hx hb d_Md_window_46 (by decide) (fun c_32 => ?_) (fun c_32 => ?_)
          · exact absurd (by decide) c_32
          · refine lv_iconst (v := 1) hx hb d_Md_window_49 (by decide) ?_
            refine lv_goto (tgt := 67) hx hb d_Md_window_50 (by decide) ?_
            refine gs_put E hK.1 hG hS hM.1 (C := R_Md) (T := F_Md) (N := 14) rfl i_Md t_Md t_Md_ok n_Md 0 (by decide) w_463 rfl (v := .int 1) rfl rfl (Nat.le_of_ble_eq_true rfl) d_Md_window_67 (fun H locs hG hS => ?_)
            obtain ⟨G_33, eG_33⟩ : ∃ z, z = gs_u G mo (.inr (4, [.int 1, .int (nI wn), .int (nI hn), .int (nI nb), .ref cB, .ref cT, .ref cS, .ref cL, .int (nI nw), .ref cW, .long l1, .long l2, .long l3, .long l4])) := ⟨_, rfl⟩
            have hG : gs_W D classes zb G_33 H := by rw [eG_33]; exact hG
            have hc_34 : G_33 cB = some (aInt (k 0) 66 bx) := by rw [eG_33]; exact gs_keep hM.2.1 hM.1 (by simp)
            have hc_35 : G_33 cT = some (aInt (k 2) 11 tr) := by rw [eG_33]; exact gs_keep hM.2.2.1 hM.1 (by simp)
            have hc_36 : G_33 cS = some (aInt (k 0) 72 su) := by rw [eG_33]; exact gs_keep hM.2.2.2.1 hM.1 (by simp)
            have hc_37 : G_33 cL = some (aInt (k 0) 24 li) := by rw [eG_33]; exact gs_keep hM.2.2.2.2.1 hM.1 (by simp)
            have hc_38 : G_33 cW = some (aInt (k 0) 40 wi) := by rw [eG_33]; exact gs_keep hM.2.2.2.2.2 hM.1 (by simp)
            have hc_39 : G_33 mo = some (.inr (4, [.int 1, .int (nI wn), .int (nI hn), .int (nI nb), .ref cB, .ref cT, .ref cS, .ref cL, .int (nI nw), .ref cW, .long l1, .long l2, .long l3, .long l4])) := by rw [eG_33]; exact gs_us _ _ _
            refine lv_aload_n hx hb d_Md_window_70 rfl (lv_at hl 1 rfl) ?_
            refine gs_get E hK.1 hG hc_39 (C := R_Md) (T := F_Md) (N := 14) rfl i_Md 0 (by decide) w_463 (v := .int 1) rfl d_Md_window_71 ?_
            refine lv_if_le (tgt := 79) hx hb d_Md_window_74 (by decide) (fun c_40 => ?_) (fun c_40 => ?_)
            · exact absurd c_40 (by decide)
            · refine lv_iconst (v := 0) hx hb d_Md_window_77 (by decide) ?_
              refine W.iret (v := 0) hx hb hr (gs_end (Or.inl ⟨fun q9 => absurd q9 (by simp only [i_lt, i_le] at *; omega), rfl, ?_⟩) hG hS) hS.2.2 d_Md_window_78
              simp only [eG_33, gs_uu]
        · refine lv_iload_n hx hb d_Md_window_25 rfl (lv_at hl 1 rfl) ?_
          refine lv_iload_n hx hb d_Md_window_26 rfl (lv_at hl 3 rfl) ?_
          refine lv_icmp_ge (tgt := 40) hx hb d_Md_window_27 (by decide) (fun c_41 => ?_) (fun c_41 => ?_)
          · refine lv_iconst (v := 0) hx hb d_Md_window_40 (by decide) ?_
            refine lv_istore (lv' := [(5, .int 0), (0, .ref mo), (1, .int u0), (2, .int v0), (3, .int u1), (4, .int v1)]) hx hb d_Md_window_41 hl (by decide) rfl (fun ls hl => ?_)
            refine lv_aload_n hx hb d_Md_window_43 rfl (lv_at hl 1 rfl) ?_
            refine lv_iload hx hb d_Md_window_44 (lv_at hl 0 rfl) ?_
            refine lv_if_ne (tgt := 53) hx hb d_Md_window_46 (by decide) (fun c_42 => ?_) (fun c_42 => ?_)
            · exact absurd (by decide) c_42
            · refine lv_iconst (v := 1) hx hb d_Md_window_49 (by decide) ?_
              refine lv_goto (tgt := 67) hx hb d_Md_window_50 (by decide) ?_
              refine gs_put E hK.1 hG hS hM.1 (C := R_Md) (T := F_Md) (N := 14) rfl i_Md t_Md t_Md_ok n_Md 0 (by decide) w_463 rfl (v := .int 1) rfl rfl (Nat.le_of_ble_eq_true rfl) d_Md_window_67 (fun H locs hG hS => ?_)
              obtain ⟨G_43, eG_43⟩ : ∃ z, z = gs_u G mo (.inr (4, [.int 1, .int (nI wn), .int (nI hn), .int (nI nb), .ref cB, .ref cT, .ref cS, .ref cL, .int (nI nw), .ref cW, .long l1, .long l2, .long l3, .long l4])) := ⟨_, rfl⟩
              have hG : gs_W D classes zb G_43 H := by rw [eG_43]; exact hG
              have hc_44 : G_43 cB = some (aInt (k 0) 66 bx) := by rw [eG_43]; exact gs_keep hM.2.1 hM.1 (by simp)
              have hc_45 : G_43 cT = some (aInt (k 2) 11 tr) := by rw [eG_43]; exact gs_keep hM.2.2.1 hM.1 (by simp)
              have hc_46 : G_43 cS = some (aInt (k 0) 72 su) := by rw [eG_43]; exact gs_keep hM.2.2.2.1 hM.1 (by simp)
              have hc_47 : G_43 cL = some (aInt (k 0) 24 li) := by rw [eG_43]; exact gs_keep hM.2.2.2.2.1 hM.1 (by simp)
              have hc_48 : G_43 cW = some (aInt (k 0) 40 wi) := by rw [eG_43]; exact gs_keep hM.2.2.2.2.2 hM.1 (by simp)
              have hc_49 : G_43 mo = some (.inr (4, [.int 1, .int (nI wn), .int (nI hn), .int (nI nb), .ref cB, .ref cT, .ref cS, .ref cL, .int (nI nw), .ref cW, .long l1, .long l2, .long l3, .long l4])) := by rw [eG_43]; exact gs_us _ _ _
              refine lv_aload_n hx hb d_Md_window_70 rfl (lv_at hl 1 rfl) ?_
              refine gs_get E hK.1 hG hc_49 (C := R_Md) (T := F_Md) (N := 14) rfl i_Md 0 (by decide) w_463 (v := .int 1) rfl d_Md_window_71 ?_
              refine lv_if_le (tgt := 79) hx hb d_Md_window_74 (by decide) (fun c_50 => ?_) (fun c_50 => ?_)
              · exact absurd c_50 (by decide)
              · refine lv_iconst (v := 0) hx hb d_Md_window_77 (by decide) ?_
                refine W.iret (v := 0) hx hb hr (gs_end (Or.inl ⟨fun q9 => absurd q9 (by simp only [i_lt, i_le] at *; omega), rfl, ?_⟩) hG hS) hS.2.2 d_Md_window_78
                simp only [eG_43, gs_uu]
          · refine lv_iload_n hx hb d_Md_window_30 rfl (lv_at hl 2 rfl) ?_
            refine lv_iload hx hb d_Md_window_31 (lv_at hl 4 rfl) ?_
            refine lv_icmp_ge (tgt := 40) hx hb d_Md_window_33 (by decide) (fun c_51 => ?_) (fun c_51 => ?_)
            · refine lv_iconst (v := 0) hx hb d_Md_window_40 (by decide) ?_
              refine lv_istore (lv' := [(5, .int 0), (0, .ref mo), (1, .int u0), (2, .int v0), (3, .int u1), (4, .int v1)]) hx hb d_Md_window_41 hl (by decide) rfl (fun ls hl => ?_)
              refine lv_aload_n hx hb d_Md_window_43 rfl (lv_at hl 1 rfl) ?_
              refine lv_iload hx hb d_Md_window_44 (lv_at hl 0 rfl) ?_
              refine lv_if_ne (tgt := 53) hx hb d_Md_window_46 (by decide) (fun c_52 => ?_) (fun c_52 => ?_)
              · exact absurd (by decide) c_52
              · refine lv_iconst (v := 1) hx hb d_Md_window_49 (by decide) ?_
                refine lv_goto (tgt := 67) hx hb d_Md_window_50 (by decide) ?_
                refine gs_put E hK.1 hG hS hM.1 (C := R_Md) (T := F_Md) (N := 14) rfl i_Md t_Md t_Md_ok n_Md 0 (by decide) w_463 rfl (v := .int 1) rfl rfl (Nat.le_of_ble_eq_true rfl) d_Md_window_67 (fun H locs hG hS => ?_)
                obtain ⟨G_53, eG_53⟩ : ∃ z, z = gs_u G mo (.inr (4, [.int 1, .int (nI wn), .int (nI hn), .int (nI nb), .ref cB, .ref cT, .ref cS, .ref cL, .int (nI nw), .ref cW, .long l1, .long l2, .long l3, .long l4])) := ⟨_, rfl⟩
                have hG : gs_W D classes zb G_53 H := by rw [eG_53]; exact hG
                have hc_54 : G_53 cB = some (aInt (k 0) 66 bx) := by rw [eG_53]; exact gs_keep hM.2.1 hM.1 (by simp)
                have hc_55 : G_53 cT = some (aInt (k 2) 11 tr) := by rw [eG_53]; exact gs_keep hM.2.2.1 hM.1 (by simp)
                have hc_56 : G_53 cS = some (aInt (k 0) 72 su) := by rw [eG_53]; exact gs_keep hM.2.2.2.1 hM.1 (by simp)
                have hc_57 : G_53 cL = some (aInt (k 0) 24 li) := by rw [eG_53]; exact gs_keep hM.2.2.2.2.1 hM.1 (by simp)
                have hc_58 : G_53 cW = some (aInt (k 0) 40 wi) := by rw [eG_53]; exact gs_keep hM.2.2.2.2.2 hM.1 (by simp)
                have hc_59 : G_53 mo = some (.inr (4, [.int 1, .int (nI wn), .int (nI hn), .int (nI nb), .ref cB, .ref cT, .ref cS, .ref cL, .int (nI nw), .ref cW, .long l1, .long l2, .long l3, .long l4])) := by rw [eG_53]; exact gs_us _ _ _
                refine lv_aload_n hx hb d_Md_window_70 rfl (lv_at hl 1 rfl) ?_
                refine gs_get E hK.1 hG hc_59 (C := R_Md) (T := F_Md) (N := 14) rfl i_Md 0 (by decide) w_463 (v := .int 1) rfl d_Md_window_71 ?_
                refine lv_if_le (tgt := 79) hx hb d_Md_window_74 (by decide) (fun c_60 => ?_) (fun c_60 => ?_)
                · exact absurd c_60 (by decide)
                · refine lv_iconst (v := 0) hx hb d_Md_window_77 (by decide) ?_
                  refine W.iret (v := 0) hx hb hr (gs_end (Or.inl ⟨fun q9 => absurd q9 (by simp only [i_lt, i_le] at *; omega), rfl, ?_⟩) hG hS) hS.2.2 d_Md_window_78
                  simp only [eG_53, gs_uu]
            · refine lv_iconst (v := 1) hx hb d_Md_window_36 (by decide) ?_
              refine lv_goto (tgt := 41) hx hb d_Md_window_37 (by decide) ?_
              refine lv_istore (lv' := [(5, .int 1), (0, .ref mo), (1, .int u0), (2, .int v0), (3, .int u1), (4, .int v1)]) hx hb d_Md_window_41 hl (by decide) rfl (fun ls hl => ?_)
              refine lv_aload_n hx hb d_Md_window_43 rfl (lv_at hl 1 rfl) ?_
              refine lv_iload hx hb d_Md_window_44 (lv_at hl 0 rfl) ?_
              refine lv_if_ne (tgt := 53) hx hb d_Md_window_46 (by decide) (fun c_61 => ?_) (fun c_61 => ?_)
              · refine lv_aload_n hx hb d_Md_window_53 rfl (lv_at hl 1 rfl) ?_
                refine gs_get E hK.1 hG hM.1 (C := R_Md) (T := F_Md) (N := 14) rfl i_Md 8 (by decide) w_471 (v := .int (nI nw)) rfl d_Md_window_54 ?_
                refine lv_bipush (v := 10) hx hb d_Md_window_57 (by decide) ?_
                refine lv_icmp_ne (tgt := 66) hx hb d_Md_window_59 (by decide) (fun c_62 => ?_) (fun c_62 => ?_)
                · have h10 : nw < 10 := by rcases Nat.lt_or_ge nw 10 with q9 | q9; exact q9; exact absurd (show nI nw = 10 by rw [show nw = 10 by omega]; rfl) c_62
                  refine lv_iconst (v := 0) hx hb d_Md_window_66 (by decide) ?_
                  refine gs_put E hK.1 hG hS hM.1 (C := R_Md) (T := F_Md) (N := 14) rfl i_Md t_Md t_Md_ok n_Md 0 (by decide) w_463 rfl (v := .int 0) rfl rfl (Nat.le_of_ble_eq_true rfl) d_Md_window_67 (fun H locs hG hS => ?_)
                  obtain ⟨G_63, eG_63⟩ : ∃ z, z = gs_u G mo (.inr (4, [.int 0, .int (nI wn), .int (nI hn), .int (nI nb), .ref cB, .ref cT, .ref cS, .ref cL, .int (nI nw), .ref cW, .long l1, .long l2, .long l3, .long l4])) := ⟨_, rfl⟩
                  have hG : gs_W D classes zb G_63 H := by rw [eG_63]; exact hG
                  have hc_64 : G_63 cB = some (aInt (k 0) 66 bx) := by rw [eG_63]; exact gs_keep hM.2.1 hM.1 (by simp)
                  have hc_65 : G_63 cT = some (aInt (k 2) 11 tr) := by rw [eG_63]; exact gs_keep hM.2.2.1 hM.1 (by simp)
                  have hc_66 : G_63 cS = some (aInt (k 0) 72 su) := by rw [eG_63]; exact gs_keep hM.2.2.2.1 hM.1 (by simp)
                  have hc_67 : G_63 cL = some (aInt (k 0) 24 li) := by rw [eG_63]; exact gs_keep hM.2.2.2.2.1 hM.1 (by simp)
                  have hc_68 : G_63 cW = some (aInt (k 0) 40 wi) := by rw [eG_63]; exact gs_keep hM.2.2.2.2.2 hM.1 (by simp)
                  have hc_69 : G_63 mo = some (.inr (4, [.int 0, .int (nI wn), .int (nI hn), .int (nI nb), .ref cB, .ref cT, .ref cS, .ref cL, .int (nI nw), .ref cW, .long l1, .long l2, .long l3, .long l4])) := by rw [eG_63]; exact gs_us _ _ _
                  refine lv_aload_n hx hb d_Md_window_70 rfl (lv_at hl 1 rfl) ?_
                  refine gs_get E hK.1 hG hc_69 (C := R_Md) (T := F_Md) (N := 14) rfl i_Md 0 (by decide) w_463 (v := .int 0) rfl d_Md_window_71 ?_
                  refine lv_if_le (tgt := 79) hx hb d_Md_window_74 (by decide) (fun c_70 => ?_) (fun c_70 => ?_)
                  · refine lv_aload_n hx hb d_Md_window_79 rfl (lv_at hl 1 rfl) ?_
                    refine gs_get E hK.1 hG hc_69 (C := R_Md) (T := F_Md) (N := 14) rfl i_Md 9 (by decide) w_472 (v := .ref cW) rfl d_Md_window_80 ?_
                    refine lv_iconst (v := 4) hx hb d_Md_window_83 (by decide) ?_
                    refine lv_aload_n hx hb d_Md_window_84 rfl (lv_at hl 1 rfl) ?_
                    refine gs_get E hK.1 hG hc_69 (C := R_Md) (T := F_Md) (N := 14) rfl i_Md 8 (by decide) w_471 (v := .int (nI nw)) rfl d_Md_window_85 ?_
                    refine lv_imul hx hb d_Md_window_88 ?_
                    refine lv_topE (show 4 * (nI nw) = nI (4 * nw) from pk_mul 4 nw) ?_
                    refine lv_iload_n hx hb d_Md_window_89 rfl (lv_at hl 2 rfl) ?_
                    refine gn_iast E hK.1 hG hS hc_68 0 rfl (j := (4 * nw)) (by omega) (by decide) d_Md_window_90 (fun H locs hG hS => ?_)
                    obtain ⟨G_71, eG_71⟩ : ∃ z, z = gs_u G_63 cW (aInt (k 0) 40 (upd wi (4 * nw) u0)) := ⟨_, rfl⟩
                    have hG : gs_W D classes zb G_71 H := by rw [eG_71]; exact hG
                    have hc_72 : G_71 mo = some (.inr (4, [.int 0, .int (nI wn), .int (nI hn), .int (nI nb), .ref cB, .ref cT, .ref cS, .ref cL, .int (nI nw), .ref cW, .long l1, .long l2, .long l3, .long l4])) := by rw [eG_71]; exact gs_keep hc_69 hc_68 (by simp)
                    have hc_73 : G_71 cB = some (aInt (k 0) 66 bx) := by rw [eG_71]; exact gs_keep hc_64 hc_68 (by simp)
                    have hc_74 : G_71 cT = some (aInt (k 2) 11 tr) := by rw [eG_71]; exact gs_keep hc_65 hc_68 (by simp)
                    have hc_75 : G_71 cS = some (aInt (k 0) 72 su) := by rw [eG_71]; exact gs_keep hc_66 hc_68 (by simp)
                    have hc_76 : G_71 cL = some (aInt (k 0) 24 li) := by rw [eG_71]; exact gs_keep hc_67 hc_68 (by simp)
                    have hc_77 : G_71 cW = some (aInt (k 0) 40 (upd wi (4 * nw) u0)) := by rw [eG_71]; exact gs_us _ _ _
                    refine lv_aload_n hx hb d_Md_window_91 rfl (lv_at hl 1 rfl) ?_
                    refine gs_get E hK.1 hG hc_72 (C := R_Md) (T := F_Md) (N := 14) rfl i_Md 9 (by decide) w_472 (v := .ref cW) rfl d_Md_window_92 ?_
                    refine lv_iconst (v := 4) hx hb d_Md_window_95 (by decide) ?_
                    refine lv_aload_n hx hb d_Md_window_96 rfl (lv_at hl 1 rfl) ?_
                    refine gs_get E hK.1 hG hc_72 (C := R_Md) (T := F_Md) (N := 14) rfl i_Md 8 (by decide) w_471 (v := .int (nI nw)) rfl d_Md_window_97 ?_
                    refine lv_imul hx hb d_Md_window_100 ?_
                    refine lv_topE (show 4 * (nI nw) = nI (4 * nw) from pk_mul 4 nw) ?_
                    refine lv_iconst (v := 1) hx hb d_Md_window_101 (by decide) ?_
                    refine lv_iadd hx hb d_Md_window_102 ?_
                    refine lv_topE (show (nI (4 * nw)) + 1 = nI (4 * nw + 1) from nI_add (4 * nw) 1) ?_
                    refine lv_iload_n hx hb d_Md_window_103 rfl (lv_at hl 3 rfl) ?_
                    refine gn_iast E hK.1 hG hS hc_77 0 rfl (j := (4 * nw + 1)) (by omega) (by decide) d_Md_window_104 (fun H locs hG hS => ?_)
                    obtain ⟨G_78, eG_78⟩ : ∃ z, z = gs_u G_71 cW (aInt (k 0) 40 (upd (upd wi (4 * nw) u0) (4 * nw + 1) v0)) := ⟨_, rfl⟩
                    have hG : gs_W D classes zb G_78 H := by rw [eG_78]; exact hG
                    have hc_79 : G_78 mo = some (.inr (4, [.int 0, .int (nI wn), .int (nI hn), .int (nI nb), .ref cB, .ref cT, .ref cS, .ref cL, .int (nI nw), .ref cW, .long l1, .long l2, .long l3, .long l4])) := by rw [eG_78]; exact gs_keep hc_72 hc_77 (by simp)
                    have hc_80 : G_78 cB = some (aInt (k 0) 66 bx) := by rw [eG_78]; exact gs_keep hc_73 hc_77 (by simp)
                    have hc_81 : G_78 cT = some (aInt (k 2) 11 tr) := by rw [eG_78]; exact gs_keep hc_74 hc_77 (by simp)
                    have hc_82 : G_78 cS = some (aInt (k 0) 72 su) := by rw [eG_78]; exact gs_keep hc_75 hc_77 (by simp)
                    have hc_83 : G_78 cL = some (aInt (k 0) 24 li) := by rw [eG_78]; exact gs_keep hc_76 hc_77 (by simp)
                    have hc_84 : G_78 cW = some (aInt (k 0) 40 (upd (upd wi (4 * nw) u0) (4 * nw + 1) v0)) := by rw [eG_78]; exact gs_us _ _ _
                    refine lv_aload_n hx hb d_Md_window_105 rfl (lv_at hl 1 rfl) ?_
                    refine gs_get E hK.1 hG hc_79 (C := R_Md) (T := F_Md) (N := 14) rfl i_Md 9 (by decide) w_472 (v := .ref cW) rfl d_Md_window_106 ?_
                    refine lv_iconst (v := 4) hx hb d_Md_window_109 (by decide) ?_
                    refine lv_aload_n hx hb d_Md_window_110 rfl (lv_at hl 1 rfl) ?_
                    refine gs_get E hK.1 hG hc_79 (C := R_Md) (T := F_Md) (N := 14) rfl i_Md 8 (by decide) w_471 (v := .int (nI nw)) rfl d_Md_window_111 ?_
                    refine lv_imul hx hb d_Md_window_114 ?_
                    refine lv_topE (show 4 * (nI nw) = nI (4 * nw) from pk_mul 4 nw) ?_
                    refine lv_iconst (v := 2) hx hb d_Md_window_115 (by decide) ?_
                    refine lv_iadd hx hb d_Md_window_116 ?_
                    refine lv_topE (show (nI (4 * nw)) + 2 = nI (4 * nw + 2) from nI_add (4 * nw) 2) ?_
                    refine lv_iload_n hx hb d_Md_window_117 rfl (lv_at hl 4 rfl) ?_
                    refine gn_iast E hK.1 hG hS hc_84 0 rfl (j := (4 * nw + 2)) (by omega) (by decide) d_Md_window_118 (fun H locs hG hS => ?_)
                    obtain ⟨G_85, eG_85⟩ : ∃ z, z = gs_u G_78 cW (aInt (k 0) 40 (upd (upd (upd wi (4 * nw) u0) (4 * nw + 1) v0) (4 * nw + 2) u1)) := ⟨_, rfl⟩
                    have hG : gs_W D classes zb G_85 H := by rw [eG_85]; exact hG
                    have hc_86 : G_85 mo = some (.inr (4, [.int 0, .int (nI wn), .int (nI hn), .int (nI nb), .ref cB, .ref cT, .ref cS, .ref cL, .int (nI nw), .ref cW, .long l1, .long l2, .long l3, .long l4])) := by rw [eG_85]; exact gs_keep hc_79 hc_84 (by simp)
                    have hc_87 : G_85 cB = some (aInt (k 0) 66 bx) := by rw [eG_85]; exact gs_keep hc_80 hc_84 (by simp)
                    have hc_88 : G_85 cT = some (aInt (k 2) 11 tr) := by rw [eG_85]; exact gs_keep hc_81 hc_84 (by simp)
                    have hc_89 : G_85 cS = some (aInt (k 0) 72 su) := by rw [eG_85]; exact gs_keep hc_82 hc_84 (by simp)
                    have hc_90 : G_85 cL = some (aInt (k 0) 24 li) := by rw [eG_85]; exact gs_keep hc_83 hc_84 (by simp)
                    have hc_91 : G_85 cW = some (aInt (k 0) 40 (upd (upd (upd wi (4 * nw) u0) (4 * nw + 1) v0) (4 * nw + 2) u1)) := by rw [eG_85]; exact gs_us _ _ _
                    refine lv_aload_n hx hb d_Md_window_119 rfl (lv_at hl 1 rfl) ?_
                    refine gs_get E hK.1 hG hc_86 (C := R_Md) (T := F_Md) (N := 14) rfl i_Md 9 (by decide) w_472 (v := .ref cW) rfl d_Md_window_120 ?_
                    refine lv_iconst (v := 4) hx hb d_Md_window_123 (by decide) ?_
                    refine lv_aload_n hx hb d_Md_window_124 rfl (lv_at hl 1 rfl) ?_
                    refine gs_get E hK.1 hG hc_86 (C := R_Md) (T := F_Md) (N := 14) rfl i_Md 8 (by decide) w_471 (v := .int (nI nw)) rfl d_Md_window_125 ?_
                    refine lv_imul hx hb d_Md_window_128 ?_
                    refine lv_topE (show 4 * (nI nw) = nI (4 * nw) from pk_mul 4 nw) ?_
                    refine lv_iconst (v := 3) hx hb d_Md_window_129 (by decide) ?_
                    refine lv_iadd hx hb d_Md_window_130 ?_
                    refine lv_topE (show (nI (4 * nw)) + 3 = nI (4 * nw + 3) from nI_add (4 * nw) 3) ?_
                    refine lv_iload hx hb d_Md_window_131 (lv_at hl 5 rfl) ?_
                    refine gn_iast E hK.1 hG hS hc_91 0 rfl (j := (4 * nw + 3)) (by omega) (by decide) d_Md_window_133 (fun H locs hG hS => ?_)
                    obtain ⟨G_92, eG_92⟩ : ∃ z, z = gs_u G_85 cW (aInt (k 0) 40 (upd (upd (upd (upd wi (4 * nw) u0) (4 * nw + 1) v0) (4 * nw + 2) u1) (4 * nw + 3) v1)) := ⟨_, rfl⟩
                    have hG : gs_W D classes zb G_92 H := by rw [eG_92]; exact hG
                    have hc_93 : G_92 mo = some (.inr (4, [.int 0, .int (nI wn), .int (nI hn), .int (nI nb), .ref cB, .ref cT, .ref cS, .ref cL, .int (nI nw), .ref cW, .long l1, .long l2, .long l3, .long l4])) := by rw [eG_92]; exact gs_keep hc_86 hc_91 (by simp)
                    have hc_94 : G_92 cB = some (aInt (k 0) 66 bx) := by rw [eG_92]; exact gs_keep hc_87 hc_91 (by simp)
                    have hc_95 : G_92 cT = some (aInt (k 2) 11 tr) := by rw [eG_92]; exact gs_keep hc_88 hc_91 (by simp)
                    have hc_96 : G_92 cS = some (aInt (k 0) 72 su) := by rw [eG_92]; exact gs_keep hc_89 hc_91 (by simp)
                    have hc_97 : G_92 cL = some (aInt (k 0) 24 li) := by rw [eG_92]; exact gs_keep hc_90 hc_91 (by simp)
                    have hc_98 : G_92 cW = some (aInt (k 0) 40 (upd (upd (upd (upd wi (4 * nw) u0) (4 * nw + 1) v0) (4 * nw + 2) u1) (4 * nw + 3) v1)) := by rw [eG_92]; exact gs_us _ _ _
                    refine lv_aload_n hx hb d_Md_window_134 rfl (lv_at hl 1 rfl) ?_
                    refine lv_dup hx hb d_Md_window_135 rfl ?_
                    refine gs_get E hK.1 hG hc_93 (C := R_Md) (T := F_Md) (N := 14) rfl i_Md 8 (by decide) w_471 (v := .int (nI nw)) rfl d_Md_window_136 ?_
                    refine lv_iconst (v := 1) hx hb d_Md_window_139 (by decide) ?_
                    refine lv_iadd hx hb d_Md_window_140 ?_
                    refine lv_topE (show (nI nw) + 1 = nI (nw + 1) from nI_add nw 1) ?_
                    refine gs_put E hK.1 hG hS hc_93 (C := R_Md) (T := F_Md) (N := 14) rfl i_Md t_Md t_Md_ok n_Md 8 (by decide) w_471 rfl (v := .int (nI (nw + 1))) rfl rfl (Nat.le_of_ble_eq_true rfl) d_Md_window_141 (fun H locs hG hS => ?_)
                    obtain ⟨G_99, eG_99⟩ : ∃ z, z = gs_u G_92 mo (.inr (4, [.int 0, .int (nI wn), .int (nI hn), .int (nI nb), .ref cB, .ref cT, .ref cS, .ref cL, .int (nI (nw + 1)), .ref cW, .long l1, .long l2, .long l3, .long l4])) := ⟨_, rfl⟩
                    have hG : gs_W D classes zb G_99 H := by rw [eG_99]; exact hG
                    have hc_100 : G_99 cB = some (aInt (k 0) 66 bx) := by rw [eG_99]; exact gs_keep hc_94 hc_93 (by simp)
                    have hc_101 : G_99 cT = some (aInt (k 2) 11 tr) := by rw [eG_99]; exact gs_keep hc_95 hc_93 (by simp)
                    have hc_102 : G_99 cS = some (aInt (k 0) 72 su) := by rw [eG_99]; exact gs_keep hc_96 hc_93 (by simp)
                    have hc_103 : G_99 cL = some (aInt (k 0) 24 li) := by rw [eG_99]; exact gs_keep hc_97 hc_93 (by simp)
                    have hc_104 : G_99 cW = some (aInt (k 0) 40 (upd (upd (upd (upd wi (4 * nw) u0) (4 * nw + 1) v0) (4 * nw + 2) u1) (4 * nw + 3) v1)) := by rw [eG_99]; exact gs_keep hc_98 hc_93 (by simp)
                    have hc_105 : G_99 mo = some (.inr (4, [.int 0, .int (nI wn), .int (nI hn), .int (nI nb), .ref cB, .ref cT, .ref cS, .ref cL, .int (nI (nw + 1)), .ref cW, .long l1, .long l2, .long l3, .long l4])) := by rw [eG_99]; exact gs_us _ _ _
                    refine lv_aload_n hx hb d_Md_window_144 rfl (lv_at hl 1 rfl) ?_
                    refine gs_get E hK.1 hG hc_105 (C := R_Md) (T := F_Md) (N := 14) rfl i_Md 8 (by decide) w_471 (v := .int (nI (nw + 1))) rfl d_Md_window_145 ?_
                    refine lv_iconst (v := 1) hx hb d_Md_window_148 (by decide) ?_
                    refine lv_isub hx hb d_Md_window_149 ?_
                    refine W.iret (v := ((nI (nw + 1)) - 1)) hx hb hr (gs_end (Or.inr (Or.inr ⟨(by simp only [i_lt, i_le] at *; omega), h10, by rw [nI_s1], ?_⟩)) hG hS) hS.2.2 d_Md_window_150
                    simp only [eG_99, eG_92, eG_85, eG_78, eG_71, eG_63, gs_uu, jm_win]
                  · exact absurd (by decide) c_70
                · have h10 : nw = 10 := eq_nI (b := 10) (by omega) (by decide) c_62
                  refine lv_iconst (v := 2) hx hb d_Md_window_62 (by decide) ?_
                  refine lv_goto (tgt := 67) hx hb d_Md_window_63 (by decide) ?_
                  refine gs_put E hK.1 hG hS hM.1 (C := R_Md) (T := F_Md) (N := 14) rfl i_Md t_Md t_Md_ok n_Md 0 (by decide) w_463 rfl (v := .int 2) rfl rfl (Nat.le_of_ble_eq_true rfl) d_Md_window_67 (fun H locs hG hS => ?_)
                  obtain ⟨G_106, eG_106⟩ : ∃ z, z = gs_u G mo (.inr (4, [.int 2, .int (nI wn), .int (nI hn), .int (nI nb), .ref cB, .ref cT, .ref cS, .ref cL, .int (nI nw), .ref cW, .long l1, .long l2, .long l3, .long l4])) := ⟨_, rfl⟩
                  have hG : gs_W D classes zb G_106 H := by rw [eG_106]; exact hG
                  have hc_107 : G_106 cB = some (aInt (k 0) 66 bx) := by rw [eG_106]; exact gs_keep hM.2.1 hM.1 (by simp)
                  have hc_108 : G_106 cT = some (aInt (k 2) 11 tr) := by rw [eG_106]; exact gs_keep hM.2.2.1 hM.1 (by simp)
                  have hc_109 : G_106 cS = some (aInt (k 0) 72 su) := by rw [eG_106]; exact gs_keep hM.2.2.2.1 hM.1 (by simp)
                  have hc_110 : G_106 cL = some (aInt (k 0) 24 li) := by rw [eG_106]; exact gs_keep hM.2.2.2.2.1 hM.1 (by simp)
                  have hc_111 : G_106 cW = some (aInt (k 0) 40 wi) := by rw [eG_106]; exact gs_keep hM.2.2.2.2.2 hM.1 (by simp)
                  have hc_112 : G_106 mo = some (.inr (4, [.int 2, .int (nI wn), .int (nI hn), .int (nI nb), .ref cB, .ref cT, .ref cS, .ref cL, .int (nI nw), .ref cW, .long l1, .long l2, .long l3, .long l4])) := by rw [eG_106]; exact gs_us _ _ _
                  refine lv_aload_n hx hb d_Md_window_70 rfl (lv_at hl 1 rfl) ?_
                  refine gs_get E hK.1 hG hc_112 (C := R_Md) (T := F_Md) (N := 14) rfl i_Md 0 (by decide) w_463 (v := .int 2) rfl d_Md_window_71 ?_
                  refine lv_if_le (tgt := 79) hx hb d_Md_window_74 (by decide) (fun c_113 => ?_) (fun c_113 => ?_)
                  · exact absurd c_113 (by decide)
                  · refine lv_iconst (v := 0) hx hb d_Md_window_77 (by decide) ?_
                    refine W.iret (v := 0) hx hb hr (gs_end (Or.inr (Or.inl ⟨(by simp only [i_lt, i_le] at *; omega), h10, rfl, ?_⟩)) hG hS) hS.2.2 d_Md_window_78
                    simp only [eG_106, gs_uu]
              · exact absurd c_61 (by decide)
set_option maxHeartbeats 4000000 in
set_option maxRecDepth 100000 in
theorem k_Md_move (l : Launch) (D : va_G) (k : Nat → ClassId) (zb : Nat) (G : Nat → Option va_E) (mo cB cT cS cL cW : Nat) (th : Int32) (wn hn nb nw : Nat) (bx tr su li wi : Nat → Int32) (l1 l2 l3 l4 : Int64) (b d1 d2 d3 : Int32) (hM : sM k G mo cB cT cS cL cW th wn hn nb nw bx tr su li wi l1 l2 l3 l4) (hnb : nb ≤ 10) (hnw : nw ≤ 10) (hwn : 1 ≤ wn ∧ wn ≤ 60) (hhn : 1 ≤ hn ∧ hn ≤ 60) (htr : ∀ i, i < nb → tr i = 0 ∨ tr i = 1) : Met l y_Md_move (wM y_Md_move c_Md_move 7 (some .boolean)) ({ frames := 2, cells := 0, slots := 0, locals := 47 }) (gs_P D k zb G [.ref mo, .int b, .int d1, .int d2, .int d3]) (gs_Q D zb (fun v G1 => (¬ (jm_noB b nb = 0 ∧ ¬ jc_within d1 (-300) 300 = 0 ∧ ¬ jc_within d2 (-300) 300 = 0 ∧ ¬ jc_within d3 (-300) 300 = 0) ∧ v = some (.int 0) ∧ G1 = gs_u G mo (oMd 1 wn hn nb nw cB cT cS cL cW l1 l2 l3 l4)) ∨ ((jm_noB b nb = 0 ∧ ¬ jc_within d1 (-300) 300 = 0 ∧ ¬ jc_within d2 (-300) 300 = 0 ∧ ¬ jc_within d3 (-300) 300 = 0) ∧ ∃ i : Nat, i < nb ∧ b = nI i ∧ ((jm_isBox (bx (6 * i) + d1) (bx (6 * i + 1) + d2) (bx (6 * i + 2) + d3) (bx (6 * i + 3) + d1) (bx (6 * i + 4) + d2) (bx (6 * i + 5) + d3) = 0 ∧ v = some (.int 0) ∧ G1 = gs_u G mo (oMd 0 wn hn nb nw cB cT cS cL cW l1 l2 l3 l4)) ∨ (¬ jm_isBox (bx (6 * i) + d1) (bx (6 * i + 1) + d2) (bx (6 * i + 2) + d3) (bx (6 * i + 3) + d1) (bx (6 * i + 4) + d2) (bx (6 * i + 5) + d3) = 0 ∧ v = some (.int 1) ∧ G1 = gs_u (gs_u (gs_u G mo (oMd 0 wn hn nb nw cB cT cS cL cW l1 l2 l3 l4)) cB (aInt (k 0) 66 (jm_lay bx i (bx (6 * i) + d1) (bx (6 * i + 1) + d2) (bx (6 * i + 2) + d3) (bx (6 * i + 3) + d1) (bx (6 * i + 4) + d2) (bx (6 * i + 5) + d3)))) cT (aInt (k 2) 11 (upd (upd tr i 1) i (tr i)))))))) 0 0 (fun q : Nat => zb ≤ q) := by
  refine Met.ofW (cc := c_Md_move) (maxL := 7) (ret := (some .boolean)) (by decide) rfl ?_
  intro p e s m args below meth c s₁ B hml hv
  obtain ⟨rfl, hG, hK, hX⟩ := hv
  have hx := B.exec
  have hb := B.bytes
  have hr := B.returns
  have hts := atoms_spec (ws := wM y_Md_move c_Md_move 7 (some .boolean)) B.pre
  have hw : ∀ w9 ∈ wW, w9.before ([.ref mo, .int b, .int d1, .int d2, .int d3] : List Value).toArray s = true := fun w9 h9 => hts w9 (gi_in w9 h9)
  have hown : s.vm.findClass R_Md = some m.cls := findClass_of_methodNamed B.named
  have hlocks := B.notSynchronized
  have E : gs_E p s m ([.ref mo, .int b, .int d1, .int d2, .int d3] : List Value).toArray c c_Md_move wW R_Md := ⟨hx, hb, hw, hown⟩
  have hS : gs_S zb s.heap s.heap [] := va_S.rf
  have hl := lv_entry ([.ref mo, .int b, .int d1, .int d2, .int d3]) (n := 7) (Nat.le_of_ble_eq_true rfl)
  rw [lg_entry_eq]
  generalize (lg_sl ([.ref mo, .int b, .int d1, .int d2, .int d3]) ++ List.replicate (7 - (lg_sl ([.ref mo, .int b, .int d1, .int d2, .int d3])).length) Slot.unset).toArray = ls at hl ⊢
  have hl : lv_has ls 7 [(0, .ref mo), (1, .int b), (2, .int d1), (3, .int d2), (4, .int d3)] := hl
  refine lv_aload_n hx hb d_Md_move_0 rfl (lv_at hl 0 rfl) ?_
  refine lv_aload_n hx hb d_Md_move_1 rfl (lv_at hl 0 rfl) ?_
  refine lv_iload_n hx hb d_Md_move_2 rfl (lv_at hl 1 rfl) ?_
  refine gs_V (As := [.int b]) (rest := [.ref mo]) (k_Md_noBox l D k zb G mo cB cT cS cL cW th wn hn nb nw bx tr su li wi l1 l2 l3 l4 b ⟨hM.1, hM.2.1, hM.2.2.1, hM.2.2.2.1, hM.2.2.2.2.1, hM.2.2.2.2.2⟩) E hml hl.1 (cg_V (C := R_Md) hw w_532 w_529 w_4 w_531 sel_Md_noBox hd_Md_noBox ⟨by exact Nat.le_of_ble_eq_true rfl, by exact Nat.le_of_ble_eq_true rfl⟩) hG hK hX hS hM.1 rfl rfl rfl rfl (by exact Nat.le_of_ble_eq_true rfl) d_Md_move_3 ⟨by exact Nat.le_of_ble_eq_true rfl, by exact Nat.le_of_ble_eq_true rfl⟩ (fun v G1 H locs hp hG hS => ?_)
  obtain ⟨hv1, hG1⟩ := hp
  subst hv1
  rw [hG1] at hG
  refine W.eq (g2 := F0 m 6 ls [.int (jm_noB b nb), .ref mo]) rfl ?_
  refine lv_if_ne (tgt := 49) hx hb d_Md_move_6 (by decide) (fun c_1 => ?_) (fun c_1 => ?_)
  · refine lv_iconst (v := 1) hx hb d_Md_move_49 (by decide) ?_
    refine lv_goto (tgt := 54) hx hb d_Md_move_50 (by decide) ?_
    refine gs_put E hK.1 hG hS hM.1 (C := R_Md) (T := F_Md) (N := 14) rfl i_Md t_Md t_Md_ok n_Md 0 (by decide) w_463 rfl (v := .int 1) rfl rfl (Nat.le_of_ble_eq_true rfl) d_Md_move_54 (fun H locs hG hS => ?_)
    obtain ⟨G_2, eG_2⟩ : ∃ z, z = gs_u G mo (.inr (4, [.int 1, .int (nI wn), .int (nI hn), .int (nI nb), .ref cB, .ref cT, .ref cS, .ref cL, .int (nI nw), .ref cW, .long l1, .long l2, .long l3, .long l4])) := ⟨_, rfl⟩
    have hG : gs_W D classes zb G_2 H := by rw [eG_2]; exact hG
    have hc_3 : G_2 cB = some (aInt (k 0) 66 bx) := by rw [eG_2]; exact gs_keep hM.2.1 hM.1 (by simp)
    have hc_4 : G_2 cT = some (aInt (k 2) 11 tr) := by rw [eG_2]; exact gs_keep hM.2.2.1 hM.1 (by simp)
    have hc_5 : G_2 cS = some (aInt (k 0) 72 su) := by rw [eG_2]; exact gs_keep hM.2.2.2.1 hM.1 (by simp)
    have hc_6 : G_2 cL = some (aInt (k 0) 24 li) := by rw [eG_2]; exact gs_keep hM.2.2.2.2.1 hM.1 (by simp)
    have hc_7 : G_2 cW = some (aInt (k 0) 40 wi) := by rw [eG_2]; exact gs_keep hM.2.2.2.2.2 hM.1 (by simp)
    have hc_8 : G_2 mo = some (.inr (4, [.int 1, .int (nI wn), .int (nI hn), .int (nI nb), .ref cB, .ref cT, .ref cS, .ref cL, .int (nI nw), .ref cW, .long l1, .long l2, .long l3, .long l4])) := by rw [eG_2]; exact gs_us _ _ _
    refine lv_aload_n hx hb d_Md_move_57 rfl (lv_at hl 0 rfl) ?_
    refine gs_get E hK.1 hG hc_8 (C := R_Md) (T := F_Md) (N := 14) rfl i_Md 0 (by decide) w_463 (v := .int 1) rfl d_Md_move_58 ?_
    refine lv_if_le (tgt := 66) hx hb d_Md_move_61 (by decide) (fun c_9 => ?_) (fun c_9 => ?_)
    · exact absurd c_9 (by decide)
    · refine lv_iconst (v := 0) hx hb d_Md_move_64 (by decide) ?_
      refine W.zret (v := 0) hx hb hr (by decide) (gs_end (Or.inl ⟨fun q9 => c_1 q9.1, rfl, ?_⟩) hG hS) hS.2.2 d_Md_move_65
      simp only [eG_2, gs_uu]
  · obtain ⟨ib, hib, hbi⟩ := noB_1 (by omega) c_1
    have hib10 : ib < 10 := by omega
    rw [hbi] at hl
    refine lv_iload_n hx hb d_Md_move_9 rfl (lv_at hl 2 rfl) ?_
    refine lv_sipush (v := (-300)) hx hb d_Md_move_10 (by decide) ?_
    refine lv_sipush (v := 300) hx hb d_Md_move_13 (by decide) ?_
    refine gs_St (As := [.int d1, .int (-300), .int 300]) (rest := [.ref mo]) (k_Md_isIn l D k zb G d1 (-300) 300) E hml hl.1 (cg_S hw w_520 w_518 w_4 w_519 hd_Md_isIn ⟨by exact Nat.le_of_ble_eq_true rfl, by exact Nat.le_of_ble_eq_true rfl⟩) hG hK hX hS rfl rfl (by exact Nat.le_of_ble_eq_true rfl) d_Md_move_16 ⟨by exact Nat.le_of_ble_eq_true rfl, by exact Nat.le_of_ble_eq_true rfl⟩ (fun v G1 H locs hp hG hS => ?_)
    obtain ⟨hv1, hG1⟩ := hp
    subst hv1
    rw [hG1] at hG
    refine W.eq (g2 := F0 m 19 ls [.int (jc_within d1 (-300) 300), .ref mo]) rfl ?_
    refine lv_if_eq (tgt := 49) hx hb d_Md_move_19 (by decide) (fun c_10 => ?_) (fun c_10 => ?_)
    · refine lv_iconst (v := 1) hx hb d_Md_move_49 (by decide) ?_
      refine lv_goto (tgt := 54) hx hb d_Md_move_50 (by decide) ?_
      refine gs_put E hK.1 hG hS hM.1 (C := R_Md) (T := F_Md) (N := 14) rfl i_Md t_Md t_Md_ok n_Md 0 (by decide) w_463 rfl (v := .int 1) rfl rfl (Nat.le_of_ble_eq_true rfl) d_Md_move_54 (fun H locs hG hS => ?_)
      obtain ⟨G_11, eG_11⟩ : ∃ z, z = gs_u G mo (.inr (4, [.int 1, .int (nI wn), .int (nI hn), .int (nI nb), .ref cB, .ref cT, .ref cS, .ref cL, .int (nI nw), .ref cW, .long l1, .long l2, .long l3, .long l4])) := ⟨_, rfl⟩
      have hG : gs_W D classes zb G_11 H := by rw [eG_11]; exact hG
      have hc_12 : G_11 cB = some (aInt (k 0) 66 bx) := by rw [eG_11]; exact gs_keep hM.2.1 hM.1 (by simp)
      have hc_13 : G_11 cT = some (aInt (k 2) 11 tr) := by rw [eG_11]; exact gs_keep hM.2.2.1 hM.1 (by simp)
      have hc_14 : G_11 cS = some (aInt (k 0) 72 su) := by rw [eG_11]; exact gs_keep hM.2.2.2.1 hM.1 (by simp)
      have hc_15 : G_11 cL = some (aInt (k 0) 24 li) := by rw [eG_11]; exact gs_keep hM.2.2.2.2.1 hM.1 (by simp)
      have hc_16 : G_11 cW = some (aInt (k 0) 40 wi) := by rw [eG_11]; exact gs_keep hM.2.2.2.2.2 hM.1 (by simp)
      have hc_17 : G_11 mo = some (.inr (4, [.int 1, .int (nI wn), .int (nI hn), .int (nI nb), .ref cB, .ref cT, .ref cS, .ref cL, .int (nI nw), .ref cW, .long l1, .long l2, .long l3, .long l4])) := by rw [eG_11]; exact gs_us _ _ _
      refine lv_aload_n hx hb d_Md_move_57 rfl (lv_at hl 0 rfl) ?_
      refine gs_get E hK.1 hG hc_17 (C := R_Md) (T := F_Md) (N := 14) rfl i_Md 0 (by decide) w_463 (v := .int 1) rfl d_Md_move_58 ?_
      refine lv_if_le (tgt := 66) hx hb d_Md_move_61 (by decide) (fun c_18 => ?_) (fun c_18 => ?_)
      · exact absurd c_18 (by decide)
      · refine lv_iconst (v := 0) hx hb d_Md_move_64 (by decide) ?_
        refine W.zret (v := 0) hx hb hr (by decide) (gs_end (Or.inl ⟨fun q9 => q9.2.1 c_10, rfl, ?_⟩) hG hS) hS.2.2 d_Md_move_65
        simp only [eG_11, gs_uu]
    · refine lv_iload_n hx hb d_Md_move_22 rfl (lv_at hl 3 rfl) ?_
      refine lv_sipush (v := (-300)) hx hb d_Md_move_23 (by decide) ?_
      refine lv_sipush (v := 300) hx hb d_Md_move_26 (by decide) ?_
      refine gs_St (As := [.int d2, .int (-300), .int 300]) (rest := [.ref mo]) (k_Md_isIn l D k zb G d2 (-300) 300) E hml hl.1 (cg_S hw w_520 w_518 w_4 w_519 hd_Md_isIn ⟨by exact Nat.le_of_ble_eq_true rfl, by exact Nat.le_of_ble_eq_true rfl⟩) hG hK hX hS rfl rfl (by exact Nat.le_of_ble_eq_true rfl) d_Md_move_29 ⟨by exact Nat.le_of_ble_eq_true rfl, by exact Nat.le_of_ble_eq_true rfl⟩ (fun v G1 H locs hp hG hS => ?_)
      obtain ⟨hv1, hG1⟩ := hp
      subst hv1
      rw [hG1] at hG
      refine W.eq (g2 := F0 m 32 ls [.int (jc_within d2 (-300) 300), .ref mo]) rfl ?_
      refine lv_if_eq (tgt := 49) hx hb d_Md_move_32 (by decide) (fun c_19 => ?_) (fun c_19 => ?_)
      · refine lv_iconst (v := 1) hx hb d_Md_move_49 (by decide) ?_
        refine lv_goto (tgt := 54) hx hb d_Md_move_50 (by decide) ?_
        refine gs_put E hK.1 hG hS hM.1 (C := R_Md) (T := F_Md) (N := 14) rfl i_Md t_Md t_Md_ok n_Md 0 (by decide) w_463 rfl (v := .int 1) rfl rfl (Nat.le_of_ble_eq_true rfl) d_Md_move_54 (fun H locs hG hS => ?_)
        obtain ⟨G_20, eG_20⟩ : ∃ z, z = gs_u G mo (.inr (4, [.int 1, .int (nI wn), .int (nI hn), .int (nI nb), .ref cB, .ref cT, .ref cS, .ref cL, .int (nI nw), .ref cW, .long l1, .long l2, .long l3, .long l4])) := ⟨_, rfl⟩
        have hG : gs_W D classes zb G_20 H := by rw [eG_20]; exact hG
        have hc_21 : G_20 cB = some (aInt (k 0) 66 bx) := by rw [eG_20]; exact gs_keep hM.2.1 hM.1 (by simp)
        have hc_22 : G_20 cT = some (aInt (k 2) 11 tr) := by rw [eG_20]; exact gs_keep hM.2.2.1 hM.1 (by simp)
        have hc_23 : G_20 cS = some (aInt (k 0) 72 su) := by rw [eG_20]; exact gs_keep hM.2.2.2.1 hM.1 (by simp)
        have hc_24 : G_20 cL = some (aInt (k 0) 24 li) := by rw [eG_20]; exact gs_keep hM.2.2.2.2.1 hM.1 (by simp)
        have hc_25 : G_20 cW = some (aInt (k 0) 40 wi) := by rw [eG_20]; exact gs_keep hM.2.2.2.2.2 hM.1 (by simp)
        have hc_26 : G_20 mo = some (.inr (4, [.int 1, .int (nI wn), .int (nI hn), .int (nI nb), .ref cB, .ref cT, .ref cS, .ref cL, .int (nI nw), .ref cW, .long l1, .long l2, .long l3, .long l4])) := by rw [eG_20]; exact gs_us _ _ _
        refine lv_aload_n hx hb d_Md_move_57 rfl (lv_at hl 0 rfl) ?_
        refine gs_get E hK.1 hG hc_26 (C := R_Md) (T := F_Md) (N := 14) rfl i_Md 0 (by decide) w_463 (v := .int 1) rfl d_Md_move_58 ?_
        refine lv_if_le (tgt := 66) hx hb d_Md_move_61 (by decide) (fun c_27 => ?_) (fun c_27 => ?_)
        · exact absurd c_27 (by decide)
        · refine lv_iconst (v := 0) hx hb d_Md_move_64 (by decide) ?_
          refine W.zret (v := 0) hx hb hr (by decide) (gs_end (Or.inl ⟨fun q9 => q9.2.2.1 c_19, rfl, ?_⟩) hG hS) hS.2.2 d_Md_move_65
          simp only [eG_20, gs_uu]
      · refine lv_iload hx hb d_Md_move_35 (lv_at hl 4 rfl) ?_
        refine lv_sipush (v := (-300)) hx hb d_Md_move_37 (by decide) ?_
        refine lv_sipush (v := 300) hx hb d_Md_move_40 (by decide) ?_
        refine gs_St (As := [.int d3, .int (-300), .int 300]) (rest := [.ref mo]) (k_Md_isIn l D k zb G d3 (-300) 300) E hml hl.1 (cg_S hw w_520 w_518 w_4 w_519 hd_Md_isIn ⟨by exact Nat.le_of_ble_eq_true rfl, by exact Nat.le_of_ble_eq_true rfl⟩) hG hK hX hS rfl rfl (by exact Nat.le_of_ble_eq_true rfl) d_Md_move_43 ⟨by exact Nat.le_of_ble_eq_true rfl, by exact Nat.le_of_ble_eq_true rfl⟩ (fun v G1 H locs hp hG hS => ?_)
        obtain ⟨hv1, hG1⟩ := hp
        subst hv1
        rw [hG1] at hG
        refine W.eq (g2 := F0 m 46 ls [.int (jc_within d3 (-300) 300), .ref mo]) rfl ?_
        refine lv_if_ne (tgt := 53) hx hb d_Md_move_46 (by decide) (fun c_28 => ?_) (fun c_28 => ?_)
        · refine lv_iconst (v := 0) hx hb d_Md_move_53 (by decide) ?_
          refine gs_put E hK.1 hG hS hM.1 (C := R_Md) (T := F_Md) (N := 14) rfl i_Md t_Md t_Md_ok n_Md 0 (by decide) w_463 rfl (v := .int 0) rfl rfl (Nat.le_of_ble_eq_true rfl) d_Md_move_54 (fun H locs hG hS => ?_)
          obtain ⟨G_29, eG_29⟩ : ∃ z, z = gs_u G mo (.inr (4, [.int 0, .int (nI wn), .int (nI hn), .int (nI nb), .ref cB, .ref cT, .ref cS, .ref cL, .int (nI nw), .ref cW, .long l1, .long l2, .long l3, .long l4])) := ⟨_, rfl⟩
          have hG : gs_W D classes zb G_29 H := by rw [eG_29]; exact hG
          have hc_30 : G_29 cB = some (aInt (k 0) 66 bx) := by rw [eG_29]; exact gs_keep hM.2.1 hM.1 (by simp)
          have hc_31 : G_29 cT = some (aInt (k 2) 11 tr) := by rw [eG_29]; exact gs_keep hM.2.2.1 hM.1 (by simp)
          have hc_32 : G_29 cS = some (aInt (k 0) 72 su) := by rw [eG_29]; exact gs_keep hM.2.2.2.1 hM.1 (by simp)
          have hc_33 : G_29 cL = some (aInt (k 0) 24 li) := by rw [eG_29]; exact gs_keep hM.2.2.2.2.1 hM.1 (by simp)
          have hc_34 : G_29 cW = some (aInt (k 0) 40 wi) := by rw [eG_29]; exact gs_keep hM.2.2.2.2.2 hM.1 (by simp)
          have hc_35 : G_29 mo = some (.inr (4, [.int 0, .int (nI wn), .int (nI hn), .int (nI nb), .ref cB, .ref cT, .ref cS, .ref cL, .int (nI nw), .ref cW, .long l1, .long l2, .long l3, .long l4])) := by rw [eG_29]; exact gs_us _ _ _
          refine lv_aload_n hx hb d_Md_move_57 rfl (lv_at hl 0 rfl) ?_
          refine gs_get E hK.1 hG hc_35 (C := R_Md) (T := F_Md) (N := 14) rfl i_Md 0 (by decide) w_463 (v := .int 0) rfl d_Md_move_58 ?_
          refine lv_if_le (tgt := 66) hx hb d_Md_move_61 (by decide) (fun c_36 => ?_) (fun c_36 => ?_)
          · refine lv_bipush (v := 6) hx hb d_Md_move_66 (by decide) ?_
            refine lv_iload_n hx hb d_Md_move_68 rfl (lv_at hl 1 rfl) ?_
            refine lv_imul hx hb d_Md_move_69 ?_
            refine lv_topE (show 6 * (nI ib) = nI (6 * ib) from pk_mul 6 ib) ?_
            refine lv_istore (lv' := [(5, .int (nI (6 * ib))), (0, .ref mo), (1, .int (nI ib)), (2, .int d1), (3, .int d2), (4, .int d3)]) hx hb d_Md_move_70 hl (by decide) rfl (fun ls hl => ?_)
            refine lv_aload_n hx hb d_Md_move_72 rfl (lv_at hl 1 rfl) ?_
            refine gs_get E hK.1 hG hc_35 (C := R_Md) (T := F_Md) (N := 14) rfl i_Md 4 (by decide) w_467 (v := .ref cB) rfl d_Md_move_73 ?_
            refine lv_iload hx hb d_Md_move_76 (lv_at hl 0 rfl) ?_
            refine gn_iald E hK.1 hG hc_30 0 rfl (j := (6 * ib)) (by omega) (by decide) d_Md_move_78 ?_
            refine lv_iload_n hx hb d_Md_move_79 rfl (lv_at hl 3 rfl) ?_
            refine lv_iadd hx hb d_Md_move_80 ?_
            refine lv_aload_n hx hb d_Md_move_81 rfl (lv_at hl 1 rfl) ?_
            refine gs_get E hK.1 hG hc_35 (C := R_Md) (T := F_Md) (N := 14) rfl i_Md 4 (by decide) w_467 (v := .ref cB) rfl d_Md_move_82 ?_
            refine lv_iload hx hb d_Md_move_85 (lv_at hl 0 rfl) ?_
            refine lv_iconst (v := 1) hx hb d_Md_move_87 (by decide) ?_
            refine lv_iadd hx hb d_Md_move_88 ?_
            refine lv_topE (show (nI (6 * ib)) + 1 = nI (6 * ib + 1) from nI_add (6 * ib) 1) ?_
            refine gn_iald E hK.1 hG hc_30 0 rfl (j := (6 * ib + 1)) (by omega) (by decide) d_Md_move_89 ?_
            refine lv_iload_n hx hb d_Md_move_90 rfl (lv_at hl 4 rfl) ?_
            refine lv_iadd hx hb d_Md_move_91 ?_
            refine lv_aload_n hx hb d_Md_move_92 rfl (lv_at hl 1 rfl) ?_
            refine gs_get E hK.1 hG hc_35 (C := R_Md) (T := F_Md) (N := 14) rfl i_Md 4 (by decide) w_467 (v := .ref cB) rfl d_Md_move_93 ?_
            refine lv_iload hx hb d_Md_move_96 (lv_at hl 0 rfl) ?_
            refine lv_iconst (v := 2) hx hb d_Md_move_98 (by decide) ?_
            refine lv_iadd hx hb d_Md_move_99 ?_
            refine lv_topE (show (nI (6 * ib)) + 2 = nI (6 * ib + 2) from nI_add (6 * ib) 2) ?_
            refine gn_iald E hK.1 hG hc_30 0 rfl (j := (6 * ib + 2)) (by omega) (by decide) d_Md_move_100 ?_
            refine lv_iload hx hb d_Md_move_101 (lv_at hl 5 rfl) ?_
            refine lv_iadd hx hb d_Md_move_103 ?_
            refine lv_aload_n hx hb d_Md_move_104 rfl (lv_at hl 1 rfl) ?_
            refine gs_get E hK.1 hG hc_35 (C := R_Md) (T := F_Md) (N := 14) rfl i_Md 4 (by decide) w_467 (v := .ref cB) rfl d_Md_move_105 ?_
            refine lv_iload hx hb d_Md_move_108 (lv_at hl 0 rfl) ?_
            refine lv_iconst (v := 3) hx hb d_Md_move_110 (by decide) ?_
            refine lv_iadd hx hb d_Md_move_111 ?_
            refine lv_topE (show (nI (6 * ib)) + 3 = nI (6 * ib + 3) from nI_add (6 * ib) 3) ?_
            refine gn_iald E hK.1 hG hc_30 0 rfl (j := (6 * ib + 3)) (by omega) (by decide) d_Md_move_112 ?_
            refine lv_iload_n hx hb d_Md_move_113 rfl (lv_at hl 3 rfl) ?_
            refine lv_iadd hx hb d_Md_move_114 ?_
            refine lv_aload_n hx hb d_Md_move_115 rfl (lv_at hl 1 rfl) ?_
            refine gs_get E hK.1 hG hc_35 (C := R_Md) (T := F_Md) (N := 14) rfl i_Md 4 (by decide) w_467 (v := .ref cB) rfl d_Md_move_116 ?_
            refine lv_iload hx hb d_Md_move_119 (lv_at hl 0 rfl) ?_
            refine lv_iconst (v := 4) hx hb d_Md_move_121 (by decide) ?_
            refine lv_iadd hx hb d_Md_move_122 ?_
            refine lv_topE (show (nI (6 * ib)) + 4 = nI (6 * ib + 4) from nI_add (6 * ib) 4) ?_
            refine gn_iald E hK.1 hG hc_30 0 rfl (j := (6 * ib + 4)) (by omega) (by decide) d_Md_move_123 ?_
            refine lv_iload_n hx hb d_Md_move_124 rfl (lv_at hl 4 rfl) ?_
            refine lv_iadd hx hb d_Md_move_125 ?_
            refine lv_aload_n hx hb d_Md_move_126 rfl (lv_at hl 1 rfl) ?_
            refine gs_get E hK.1 hG hc_35 (C := R_Md) (T := F_Md) (N := 14) rfl i_Md 4 (by decide) w_467 (v := .ref cB) rfl d_Md_move_127 ?_
            refine lv_iload hx hb d_Md_move_130 (lv_at hl 0 rfl) ?_
            refine lv_iconst (v := 5) hx hb d_Md_move_132 (by decide) ?_
            refine lv_iadd hx hb d_Md_move_133 ?_
            refine lv_topE (show (nI (6 * ib)) + 5 = nI (6 * ib + 5) from nI_add (6 * ib) 5) ?_
            refine gn_iald E hK.1 hG hc_30 0 rfl (j := (6 * ib + 5)) (by omega) (by decide) d_Md_move_134 ?_
            refine lv_iload hx hb d_Md_move_135 (lv_at hl 5 rfl) ?_
            refine lv_iadd hx hb d_Md_move_137 ?_
            refine gs_St (As := [.int ((bx (6 * ib)) + d1), .int ((bx (6 * ib + 1)) + d2), .int ((bx (6 * ib + 2)) + d3), .int ((bx (6 * ib + 3)) + d1), .int ((bx (6 * ib + 4)) + d2), .int ((bx (6 * ib + 5)) + d3)]) (rest := []) (k_Md_isBox l D k zb G_29 ((bx (6 * ib)) + d1) ((bx (6 * ib + 1)) + d2) ((bx (6 * ib + 2)) + d3) ((bx (6 * ib + 3)) + d1) ((bx (6 * ib + 4)) + d2) ((bx (6 * ib + 5)) + d3)) E hml hl.1 (cg_S hw w_517 w_515 w_4 w_516 hd_Md_isBox ⟨by exact Nat.le_of_ble_eq_true rfl, by exact Nat.le_of_ble_eq_true rfl⟩) hG hK hX hS rfl rfl (by exact Nat.le_of_ble_eq_true rfl) d_Md_move_138 ⟨by exact Nat.le_of_ble_eq_true rfl, by exact Nat.le_of_ble_eq_true rfl⟩ (fun v G1 H locs hp hG hS => ?_)
            obtain ⟨hv1, hG1⟩ := hp
            subst hv1
            rw [hG1] at hG
            refine W.eq (g2 := F0 m 141 ls [.int (jm_isBox ((bx (6 * ib)) + d1) ((bx (6 * ib + 1)) + d2) ((bx (6 * ib + 2)) + d3) ((bx (6 * ib + 3)) + d1) ((bx (6 * ib + 4)) + d2) ((bx (6 * ib + 5)) + d3))]) rfl ?_
            refine lv_if_ne (tgt := 146) hx hb d_Md_move_141 (by decide) (fun c_37 => ?_) (fun c_37 => ?_)
            · refine lv_aload_n hx hb d_Md_move_146 rfl (lv_at hl 1 rfl) ?_
              refine gs_get E hK.1 hG hc_35 (C := R_Md) (T := F_Md) (N := 14) rfl i_Md 5 (by decide) w_468 (v := .ref cT) rfl d_Md_move_147 ?_
              refine lv_iload_n hx hb d_Md_move_150 rfl (lv_at hl 2 rfl) ?_
              refine gn_zald E hK.1 hG hc_31 2 rfl (j := ib) (by omega) (by decide) d_Md_move_151 ?_
              refine lv_topi (fun v_38 ev_38 => ?_)
              refine lv_istore (lv' := [(6, .int v_38), (5, .int (nI (6 * ib))), (0, .ref mo), (1, .int (nI ib)), (2, .int d1), (3, .int d2), (4, .int d3)]) hx hb d_Md_move_152 hl (by decide) rfl (fun ls hl => ?_)
              refine lv_aload_n hx hb d_Md_move_154 rfl (lv_at hl 2 rfl) ?_
              refine lv_iload_n hx hb d_Md_move_155 rfl (lv_at hl 3 rfl) ?_
              refine lv_aload_n hx hb d_Md_move_156 rfl (lv_at hl 2 rfl) ?_
              refine gs_get E hK.1 hG hc_35 (C := R_Md) (T := F_Md) (N := 14) rfl i_Md 4 (by decide) w_467 (v := .ref cB) rfl d_Md_move_157 ?_
              refine lv_iload hx hb d_Md_move_160 (lv_at hl 1 rfl) ?_
              refine gn_iald E hK.1 hG hc_30 0 rfl (j := (6 * ib)) (by omega) (by decide) d_Md_move_162 ?_
              refine lv_iload_n hx hb d_Md_move_163 rfl (lv_at hl 4 rfl) ?_
              refine lv_iadd hx hb d_Md_move_164 ?_
              refine lv_aload_n hx hb d_Md_move_165 rfl (lv_at hl 2 rfl) ?_
              refine gs_get E hK.1 hG hc_35 (C := R_Md) (T := F_Md) (N := 14) rfl i_Md 4 (by decide) w_467 (v := .ref cB) rfl d_Md_move_166 ?_
              refine lv_iload hx hb d_Md_move_169 (lv_at hl 1 rfl) ?_
              refine lv_iconst (v := 1) hx hb d_Md_move_171 (by decide) ?_
              refine lv_iadd hx hb d_Md_move_172 ?_
              refine lv_topE (show (nI (6 * ib)) + 1 = nI (6 * ib + 1) from nI_add (6 * ib) 1) ?_
              refine gn_iald E hK.1 hG hc_30 0 rfl (j := (6 * ib + 1)) (by omega) (by decide) d_Md_move_173 ?_
              refine lv_iload_n hx hb d_Md_move_174 rfl (lv_at hl 5 rfl) ?_
              refine lv_iadd hx hb d_Md_move_175 ?_
              refine lv_aload_n hx hb d_Md_move_176 rfl (lv_at hl 2 rfl) ?_
              refine gs_get E hK.1 hG hc_35 (C := R_Md) (T := F_Md) (N := 14) rfl i_Md 4 (by decide) w_467 (v := .ref cB) rfl d_Md_move_177 ?_
              refine lv_iload hx hb d_Md_move_180 (lv_at hl 1 rfl) ?_
              refine lv_iconst (v := 2) hx hb d_Md_move_182 (by decide) ?_
              refine lv_iadd hx hb d_Md_move_183 ?_
              refine lv_topE (show (nI (6 * ib)) + 2 = nI (6 * ib + 2) from nI_add (6 * ib) 2) ?_
              refine gn_iald E hK.1 hG hc_30 0 rfl (j := (6 * ib + 2)) (by omega) (by decide) d_Md_move_184 ?_
              refine lv_iload hx hb d_Md_move_185 (lv_at hl 6 rfl) ?_
              refine lv_iadd hx hb d_Md_move_187 ?_
              refine lv_aload_n hx hb d_Md_move_188 rfl (lv_at hl 2 rfl) ?_
              refine gs_get E hK.1 hG hc_35 (C := R_Md) (T := F_Md) (N := 14) rfl i_Md 4 (by decide) w_467 (v := .ref cB) rfl d_Md_move_189 ?_
              refine lv_iload hx hb d_Md_move_192 (lv_at hl 1 rfl) ?_
              refine lv_iconst (v := 3) hx hb d_Md_move_194 (by decide) ?_
              refine lv_iadd hx hb d_Md_move_195 ?_
              refine lv_topE (show (nI (6 * ib)) + 3 = nI (6 * ib + 3) from nI_add (6 * ib) 3) ?_
              refine gn_iald E hK.1 hG hc_30 0 rfl (j := (6 * ib + 3)) (by omega) (by decide) d_Md_move_196 ?_
              refine lv_iload_n hx hb d_Md_move_197 rfl (lv_at hl 4 rfl) ?_
              refine lv_iadd hx hb d_Md_move_198 ?_
              refine lv_aload_n hx hb d_Md_move_199 rfl (lv_at hl 2 rfl) ?_
              refine gs_get E hK.1 hG hc_35 (C := R_Md) (T := F_Md) (N := 14) rfl i_Md 4 (by decide) w_467 (v := .ref cB) rfl d_Md_move_200 ?_
              refine lv_iload hx hb d_Md_move_203 (lv_at hl 1 rfl) ?_
              refine lv_iconst (v := 4) hx hb d_Md_move_205 (by decide) ?_
              refine lv_iadd hx hb d_Md_move_206 ?_
              refine lv_topE (show (nI (6 * ib)) + 4 = nI (6 * ib + 4) from nI_add (6 * ib) 4) ?_
              refine gn_iald E hK.1 hG hc_30 0 rfl (j := (6 * ib + 4)) (by omega) (by decide) d_Md_move_207 ?_
              refine lv_iload_n hx hb d_Md_move_208 rfl (lv_at hl 5 rfl) ?_
              refine lv_iadd hx hb d_Md_move_209 ?_
              refine lv_aload_n hx hb d_Md_move_210 rfl (lv_at hl 2 rfl) ?_
              refine gs_get E hK.1 hG hc_35 (C := R_Md) (T := F_Md) (N := 14) rfl i_Md 4 (by decide) w_467 (v := .ref cB) rfl d_Md_move_211 ?_
              refine lv_iload hx hb d_Md_move_214 (lv_at hl 1 rfl) ?_
              refine lv_iconst (v := 5) hx hb d_Md_move_216 (by decide) ?_
              refine lv_iadd hx hb d_Md_move_217 ?_
              refine lv_topE (show (nI (6 * ib)) + 5 = nI (6 * ib + 5) from nI_add (6 * ib) 5) ?_
              refine gn_iald E hK.1 hG hc_30 0 rfl (j := (6 * ib + 5)) (by omega) (by decide) d_Md_move_218 ?_
              refine lv_iload hx hb d_Md_move_219 (lv_at hl 6 rfl) ?_
              refine lv_iadd hx hb d_Md_move_221 ?_
              refine gs_V (As := [.int (nI ib), .int ((bx (6 * ib)) + d1), .int ((bx (6 * ib + 1)) + d2), .int ((bx (6 * ib + 2)) + d3), .int ((bx (6 * ib + 3)) + d1), .int ((bx (6 * ib + 4)) + d2), .int ((bx (6 * ib + 5)) + d3)]) (rest := []) (k_Md_lay l D k zb G_29 mo cB cT cS cL cW 0 wn hn nb nw bx tr su li wi l1 l2 l3 l4 ib ((bx (6 * ib)) + d1) ((bx (6 * ib + 1)) + d2) ((bx (6 * ib + 2)) + d3) ((bx (6 * ib + 3)) + d1) ((bx (6 * ib + 4)) + d2) ((bx (6 * ib + 5)) + d3) ⟨hc_35, hc_30, hc_31, hc_32, hc_33, hc_34⟩ (by omega)) E hml hl.1 (cg_V (C := R_Md) hw w_524 w_521 w_4 w_523 sel_Md_lay hd_Md_lay ⟨by exact Nat.le_of_ble_eq_true rfl, by exact Nat.le_of_ble_eq_true rfl⟩) hG hK hX hS hc_35 rfl rfl rfl rfl (by exact Nat.le_of_ble_eq_true rfl) d_Md_move_222 ⟨by exact Nat.le_of_ble_eq_true rfl, by exact Nat.le_of_ble_eq_true rfl⟩ (fun v G1 H locs hp hG hS => ?_)
              obtain ⟨hv1, hG1⟩ := hp
              subst hv1
              rw [hG1] at hG
              obtain ⟨G_39, eG_39⟩ : ∃ z, z = gs_u G_29 cB (aInt (k 0) 66 (jm_lay bx ib ((bx (6 * ib)) + d1) ((bx (6 * ib + 1)) + d2) ((bx (6 * ib + 2)) + d3) ((bx (6 * ib + 3)) + d1) ((bx (6 * ib + 4)) + d2) ((bx (6 * ib + 5)) + d3))) := ⟨_, rfl⟩
              rw [← eG_39] at hG
              have hc_40 : G_39 mo = some (.inr (4, [.int 0, .int (nI wn), .int (nI hn), .int (nI nb), .ref cB, .ref cT, .ref cS, .ref cL, .int (nI nw), .ref cW, .long l1, .long l2, .long l3, .long l4])) := by rw [eG_39]; exact gs_keep hc_35 hc_30 (by simp)
              have hc_41 : G_39 cT = some (aInt (k 2) 11 tr) := by rw [eG_39]; exact gs_keep hc_31 hc_30 (by simp)
              have hc_42 : G_39 cS = some (aInt (k 0) 72 su) := by rw [eG_39]; exact gs_keep hc_32 hc_30 (by simp)
              have hc_43 : G_39 cL = some (aInt (k 0) 24 li) := by rw [eG_39]; exact gs_keep hc_33 hc_30 (by simp)
              have hc_44 : G_39 cW = some (aInt (k 0) 40 wi) := by rw [eG_39]; exact gs_keep hc_34 hc_30 (by simp)
              have hc_45 : G_39 cB = some (aInt (k 0) 66 (jm_lay bx ib ((bx (6 * ib)) + d1) ((bx (6 * ib + 1)) + d2) ((bx (6 * ib + 2)) + d3) ((bx (6 * ib + 3)) + d1) ((bx (6 * ib + 4)) + d2) ((bx (6 * ib + 5)) + d3))) := by rw [eG_39]; exact gs_us _ _ _
              obtain ⟨G_46, eG_46⟩ : ∃ z, z = gs_u G_39 cT (aInt (k 2) 11 (upd tr ib 1)) := ⟨_, rfl⟩
              have hG : gs_W D classes zb G_46 H := by rw [eG_46]; exact hG
              have hc_47 : G_46 mo = some (.inr (4, [.int 0, .int (nI wn), .int (nI hn), .int (nI nb), .ref cB, .ref cT, .ref cS, .ref cL, .int (nI nw), .ref cW, .long l1, .long l2, .long l3, .long l4])) := by rw [eG_46]; exact gs_keep hc_40 hc_41 (by simp)
              have hc_48 : G_46 cB = some (aInt (k 0) 66 (jm_lay bx ib ((bx (6 * ib)) + d1) ((bx (6 * ib + 1)) + d2) ((bx (6 * ib + 2)) + d3) ((bx (6 * ib + 3)) + d1) ((bx (6 * ib + 4)) + d2) ((bx (6 * ib + 5)) + d3))) := by rw [eG_46]; exact gs_keep hc_45 hc_41 (by simp)
              have hc_49 : G_46 cS = some (aInt (k 0) 72 su) := by rw [eG_46]; exact gs_keep hc_42 hc_41 (by simp)
              have hc_50 : G_46 cL = some (aInt (k 0) 24 li) := by rw [eG_46]; exact gs_keep hc_43 hc_41 (by simp)
              have hc_51 : G_46 cW = some (aInt (k 0) 40 wi) := by rw [eG_46]; exact gs_keep hc_44 hc_41 (by simp)
              have hc_52 : G_46 cT = some (aInt (k 2) 11 (upd tr ib 1)) := by rw [eG_46]; exact gs_us _ _ _
              refine W.eq (g2 := F0 m 225 ls []) rfl ?_
              refine lv_aload_n hx hb d_Md_move_225 rfl (lv_at hl 2 rfl) ?_
              refine gs_get E hK.1 hG hc_47 (C := R_Md) (T := F_Md) (N := 14) rfl i_Md 5 (by decide) w_468 (v := .ref cT) rfl d_Md_move_226 ?_
              refine lv_iload_n hx hb d_Md_move_229 rfl (lv_at hl 3 rfl) ?_
              refine lv_iload hx hb d_Md_move_230 (lv_at hl 0 rfl) ?_
              refine gn_zast E hK.1 hG hS hc_52 2 rfl (vpn01 (by rw [ev_38]; exact htr ib hib)) (j := ib) (by omega) (by decide) d_Md_move_232 (fun H locs hG hS => ?_)
              obtain ⟨G_53, eG_53⟩ : ∃ z, z = gs_u G_46 cT (aInt (k 2) 11 (upd (upd tr ib 1) ib v_38)) := ⟨_, rfl⟩
              have hG : gs_W D classes zb G_53 H := by rw [eG_53]; exact hG
              have hc_54 : G_53 mo = some (.inr (4, [.int 0, .int (nI wn), .int (nI hn), .int (nI nb), .ref cB, .ref cT, .ref cS, .ref cL, .int (nI nw), .ref cW, .long l1, .long l2, .long l3, .long l4])) := by rw [eG_53]; exact gs_keep hc_47 hc_52 (by simp)
              have hc_55 : G_53 cB = some (aInt (k 0) 66 (jm_lay bx ib ((bx (6 * ib)) + d1) ((bx (6 * ib + 1)) + d2) ((bx (6 * ib + 2)) + d3) ((bx (6 * ib + 3)) + d1) ((bx (6 * ib + 4)) + d2) ((bx (6 * ib + 5)) + d3))) := by rw [eG_53]; exact gs_keep hc_48 hc_52 (by simp)
              have hc_56 : G_53 cS = some (aInt (k 0) 72 su) := by rw [eG_53]; exact gs_keep hc_49 hc_52 (by simp)
              have hc_57 : G_53 cL = some (aInt (k 0) 24 li) := by rw [eG_53]; exact gs_keep hc_50 hc_52 (by simp)
              have hc_58 : G_53 cW = some (aInt (k 0) 40 wi) := by rw [eG_53]; exact gs_keep hc_51 hc_52 (by simp)
              have hc_59 : G_53 cT = some (aInt (k 2) 11 (upd (upd tr ib 1) ib v_38)) := by rw [eG_53]; exact gs_us _ _ _
              refine lv_iconst (v := 1) hx hb d_Md_move_233 (by decide) ?_
              refine W.zret (v := 1) hx hb hr (by decide) (gs_end (Or.inr ⟨⟨c_1, c_10, c_19, c_28⟩, ib, hib, hbi, Or.inr ⟨c_37, rfl, ?_⟩⟩) hG hS) hS.2.2 d_Md_move_234
              subst ev_38; simp only [eG_53, eG_46, eG_39, eG_29, gs_uu]
            · refine lv_iconst (v := 0) hx hb d_Md_move_144 (by decide) ?_
              refine W.zret (v := 0) hx hb hr (by decide) (gs_end (Or.inr ⟨⟨c_1, c_10, c_19, c_28⟩, ib, hib, hbi, Or.inl ⟨c_37, rfl, ?_⟩⟩) hG hS) hS.2.2 d_Md_move_145
              simp only [eG_29, gs_uu]
          · exact absurd (by decide) c_36
        · refine lv_iconst (v := 1) hx hb d_Md_move_49 (by decide) ?_
          refine lv_goto (tgt := 54) hx hb d_Md_move_50 (by decide) ?_
          refine gs_put E hK.1 hG hS hM.1 (C := R_Md) (T := F_Md) (N := 14) rfl i_Md t_Md t_Md_ok n_Md 0 (by decide) w_463 rfl (v := .int 1) rfl rfl (Nat.le_of_ble_eq_true rfl) d_Md_move_54 (fun H locs hG hS => ?_)
          obtain ⟨G_60, eG_60⟩ : ∃ z, z = gs_u G mo (.inr (4, [.int 1, .int (nI wn), .int (nI hn), .int (nI nb), .ref cB, .ref cT, .ref cS, .ref cL, .int (nI nw), .ref cW, .long l1, .long l2, .long l3, .long l4])) := ⟨_, rfl⟩
          have hG : gs_W D classes zb G_60 H := by rw [eG_60]; exact hG
          have hc_61 : G_60 cB = some (aInt (k 0) 66 bx) := by rw [eG_60]; exact gs_keep hM.2.1 hM.1 (by simp)
          have hc_62 : G_60 cT = some (aInt (k 2) 11 tr) := by rw [eG_60]; exact gs_keep hM.2.2.1 hM.1 (by simp)
          have hc_63 : G_60 cS = some (aInt (k 0) 72 su) := by rw [eG_60]; exact gs_keep hM.2.2.2.1 hM.1 (by simp)
          have hc_64 : G_60 cL = some (aInt (k 0) 24 li) := by rw [eG_60]; exact gs_keep hM.2.2.2.2.1 hM.1 (by simp)
          have hc_65 : G_60 cW = some (aInt (k 0) 40 wi) := by rw [eG_60]; exact gs_keep hM.2.2.2.2.2 hM.1 (by simp)
          have hc_66 : G_60 mo = some (.inr (4, [.int 1, .int (nI wn), .int (nI hn), .int (nI nb), .ref cB, .ref cT, .ref cS, .ref cL, .int (nI nw), .ref cW, .long l1, .long l2, .long l3, .long l4])) := by rw [eG_60]; exact gs_us _ _ _
          refine lv_aload_n hx hb d_Md_move_57 rfl (lv_at hl 0 rfl) ?_
          refine gs_get E hK.1 hG hc_66 (C := R_Md) (T := F_Md) (N := 14) rfl i_Md 0 (by decide) w_463 (v := .int 1) rfl d_Md_move_58 ?_
          refine lv_if_le (tgt := 66) hx hb d_Md_move_61 (by decide) (fun c_67 => ?_) (fun c_67 => ?_)
          · exact absurd c_67 (by decide)
          · refine lv_iconst (v := 0) hx hb d_Md_move_64 (by decide) ?_
            refine W.zret (v := 0) hx hb hr (by decide) (gs_end (Or.inl ⟨fun q9 => q9.2.2.2 c_28, rfl, ?_⟩) hG hS) hS.2.2 d_Md_move_65
            simp only [eG_60, gs_uu]
