/-! contracts, by program -/
set_option maxHeartbeats 4000000 in
set_option maxRecDepth 100000 in
theorem k_Md_dark (l : Launch) (D : va_G) (k : Nat → ClassId) (zb : Nat) (G : Nat → Option va_E) (mo cB cT cS cL cW : Nat) (th : Int32) (wn hn nb nw : Nat) (bx tr su li wi : Nat → Int32) (l1 l2 l3 l4 : Int64) (wf : Nat → Nat → Nat) (q t : Int32) (hM : sM k G mo cB cT cS cL cW th wn hn nb nw bx tr su li wi l1 l2 l3 l4) (hnb : nb ≤ 10) (hnw : nw ≤ 10) (hwn : 1 ≤ wn ∧ wn ≤ 60) (hhn : 1 ≤ hn ∧ hn ≤ 60) (hwf : jm_Wf nw wi wf) : Met l y_Md_dark (wM y_Md_dark c_Md_dark 3 (some .int)) ({ frames := 5, cells := 0, slots := 0, locals := 137 }) (gs_P D k zb G [.ref mo, .int q, .int t]) (gs_Q D zb (fun v G1 => ∃ (c9 r : Int32) (j : Nat) (m1 m2 m3 m4 : Int64), jm_Ck (jm_noB q nw = 0) t su c9 j ∧ v = some (.int r) ∧ (c9 = 0 → ∃ i : Nat, i < nw ∧ q = nI i ∧ r = nI (jm_dark bx tr su nb (-1) 0 j (wf i 0) (wf i 1) (wf i 2) (wf i 3))) ∧ G1 = gs_u G mo (oMd c9 wn hn nb nw cB cT cS cL cW m1 m2 m3 m4))) 0 0 (fun q : Nat => zb ≤ q) := by
  refine Met.ofW (cc := c_Md_dark) (maxL := 3) (ret := (some .int)) (by decide) rfl ?_
  intro p e s m args below meth c s₁ B hml hv
  obtain ⟨rfl, hG, hK, hX⟩ := hv
  have hx := B.exec
  have hb := B.bytes
  have hr := B.returns
  have hts := atoms_spec (ws := wM y_Md_dark c_Md_dark 3 (some .int)) B.pre
  have hw : ∀ w9 ∈ wW, w9.before ([.ref mo, .int q, .int t] : List Value).toArray s = true := fun w9 h9 => hts w9 (gi_in w9 h9)
  have hown : s.vm.findClass R_Md = some m.cls := findClass_of_methodNamed B.named
  have hlocks := B.notSynchronized
  have E : gs_E p s m ([.ref mo, .int q, .int t] : List Value).toArray c c_Md_dark wW R_Md := ⟨hx, hb, hw, hown⟩
  have hS : gs_S zb s.heap s.heap [] := va_S.rf
  have hl := lv_entry ([.ref mo, .int q, .int t]) (n := 3) (Nat.le_of_ble_eq_true rfl)
  rw [lg_entry_eq]
  generalize (lg_sl ([.ref mo, .int q, .int t]) ++ List.replicate (3 - (lg_sl ([.ref mo, .int q, .int t])).length) Slot.unset).toArray = ls at hl ⊢
  have hl : lv_has ls 3 [(0, .ref mo), (1, .int q), (2, .int t)] := hl
  refine lv_aload_n hx hb d_Md_dark_0 rfl (lv_at hl 0 rfl) ?_
  refine lv_aload_n hx hb d_Md_dark_1 rfl (lv_at hl 0 rfl) ?_
  refine lv_aload_n hx hb d_Md_dark_2 rfl (lv_at hl 0 rfl) ?_
  refine lv_iload_n hx hb d_Md_dark_3 rfl (lv_at hl 1 rfl) ?_
  refine gs_V (As := [.int q]) (rest := [.ref mo, .ref mo]) (k_Md_noWindow l D k zb G mo cB cT cS cL cW th wn hn nb nw bx tr su li wi l1 l2 l3 l4 q ⟨hM.1, hM.2.1, hM.2.2.1, hM.2.2.2.1, hM.2.2.2.2.1, hM.2.2.2.2.2⟩) E hml hl.1 (cg_V (C := R_Md) hw w_592 w_589 w_4 w_591 sel_Md_noWindow hd_Md_noWindow ⟨by exact Nat.le_of_ble_eq_true rfl, by exact Nat.le_of_ble_eq_true rfl⟩) hG hK hX hS hM.1 rfl rfl rfl rfl (by exact Nat.le_of_ble_eq_true rfl) d_Md_dark_4 ⟨by exact Nat.le_of_ble_eq_true rfl, by exact Nat.le_of_ble_eq_true rfl⟩ (fun v G1 H locs hp hG hS => ?_)
  obtain ⟨hv1, hG1⟩ := hp
  subst hv1
  rw [hG1] at hG
  refine W.eq (g2 := F0 m 7 ls [.int (jm_noB q nw), .ref mo, .ref mo]) rfl ?_
  refine lv_if_ne (tgt := 14) hx hb d_Md_dark_7 (by decide) (fun c_1 => ?_) (fun c_1 => ?_)
  · refine lv_iconst (v := 0) hx hb d_Md_dark_14 (by decide) ?_
    refine lv_iload_n hx hb d_Md_dark_15 rfl (lv_at hl 2 rfl) ?_
    refine gs_V (As := [.int 0, .int t]) (rest := [.ref mo]) (k_Md_check l D k zb G mo cB cT cS cL cW th wn hn nb nw bx tr su li wi l1 l2 l3 l4 0 t ⟨hM.1, hM.2.1, hM.2.2.1, hM.2.2.2.1, hM.2.2.2.2.1, hM.2.2.2.2.2⟩) E hml hl.1 (cg_V (C := R_Md) hw w_559 w_556 w_4 w_558 sel_Md_check hd_Md_check ⟨by exact Nat.le_of_ble_eq_true rfl, by exact Nat.le_of_ble_eq_true rfl⟩) hG hK hX hS hM.1 rfl rfl rfl rfl (by exact Nat.le_of_ble_eq_true rfl) d_Md_dark_16 ⟨by exact Nat.le_of_ble_eq_true rfl, by exact Nat.le_of_ble_eq_true rfl⟩ (fun v G1 H locs hp hG hS => ?_)
    obtain ⟨⟨c9, j9, hck, hv1⟩, hG1⟩ := hp
    subst hv1
    rw [hG1] at hG
    have hPP : ¬ (jm_noB q nw = 0) := c_1
    have hck := Ck_congr (Q := jm_noB q nw = 0) (iff_of_false (fun q => q rfl) hPP) hck
    by_cases hc0 : c9 = 0
    · exact absurd (Ck_0 hck hc0).1 hPP
    · skip
      refine W.eq (g2 := F0 m 19 ls [.int c9, .ref mo]) rfl ?_
      refine gs_put E hK.1 hG hS hM.1 (C := R_Md) (T := F_Md) (N := 14) rfl i_Md t_Md t_Md_ok n_Md 0 (by decide) w_463 rfl (v := .int c9) rfl rfl (Nat.le_of_ble_eq_true rfl) d_Md_dark_19 (fun H locs hG hS => ?_)
      obtain ⟨G_2, eG_2⟩ : ∃ z, z = gs_u G mo (.inr (4, [.int c9, .int (nI wn), .int (nI hn), .int (nI nb), .ref cB, .ref cT, .ref cS, .ref cL, .int (nI nw), .ref cW, .long l1, .long l2, .long l3, .long l4])) := ⟨_, rfl⟩
      have hG : gs_W D classes zb G_2 H := by rw [eG_2]; exact hG
      have hc_3 : G_2 cB = some (aInt (k 0) 66 bx) := by rw [eG_2]; exact gs_keep hM.2.1 hM.1 (by simp)
      have hc_4 : G_2 cT = some (aInt (k 2) 11 tr) := by rw [eG_2]; exact gs_keep hM.2.2.1 hM.1 (by simp)
      have hc_5 : G_2 cS = some (aInt (k 0) 72 su) := by rw [eG_2]; exact gs_keep hM.2.2.2.1 hM.1 (by simp)
      have hc_6 : G_2 cL = some (aInt (k 0) 24 li) := by rw [eG_2]; exact gs_keep hM.2.2.2.2.1 hM.1 (by simp)
      have hc_7 : G_2 cW = some (aInt (k 0) 40 wi) := by rw [eG_2]; exact gs_keep hM.2.2.2.2.2 hM.1 (by simp)
      have hc_8 : G_2 mo = some (.inr (4, [.int c9, .int (nI wn), .int (nI hn), .int (nI nb), .ref cB, .ref cT, .ref cS, .ref cL, .int (nI nw), .ref cW, .long l1, .long l2, .long l3, .long l4])) := by rw [eG_2]; exact gs_us _ _ _
      refine lv_aload_n hx hb d_Md_dark_22 rfl (lv_at hl 0 rfl) ?_
      refine gs_get E hK.1 hG hc_8 (C := R_Md) (T := F_Md) (N := 14) rfl i_Md 0 (by decide) w_463 (v := .int c9) rfl d_Md_dark_23 ?_
      refine lv_if_le (tgt := 33) hx hb d_Md_dark_26 (by decide) (fun c_9 => ?_) (fun c_9 => ?_)
      · exact absurd (Ck_le hck c_9) hc0
      · refine lv_iconst (v := 0) hx hb d_Md_dark_29 (by decide) ?_
        refine lv_goto (tgt := 41) hx hb d_Md_dark_30 (by decide) ?_
        refine W.iret (v := 0) hx hb hr (gs_end ⟨c9, _, j9, l1, l2, l3, l4, hck, rfl, fun q => absurd q hc0, ?_⟩ hG hS) hS.2.2 d_Md_dark_41
        simp only [eG_2, gs_uu]
  · obtain ⟨iw, hiwn, hqi⟩ := noB_1 (by omega) c_1
    have hiw : iw < 10 := by omega
    obtain ⟨⟨hw0, hw1, hw2, hw3⟩, hu, hv, hu1, hv1⟩ := hwf iw hiwn
    rw [hqi] at hl
    refine lv_iconst (v := 1) hx hb d_Md_dark_10 (by decide) ?_
    refine lv_goto (tgt := 15) hx hb d_Md_dark_11 (by decide) ?_
    refine lv_iload_n hx hb d_Md_dark_15 rfl (lv_at hl 2 rfl) ?_
    refine gs_V (As := [.int 1, .int t]) (rest := [.ref mo]) (k_Md_check l D k zb G mo cB cT cS cL cW th wn hn nb nw bx tr su li wi l1 l2 l3 l4 1 t ⟨hM.1, hM.2.1, hM.2.2.1, hM.2.2.2.1, hM.2.2.2.2.1, hM.2.2.2.2.2⟩) E hml hl.1 (cg_V (C := R_Md) hw w_559 w_556 w_4 w_558 sel_Md_check hd_Md_check ⟨by exact Nat.le_of_ble_eq_true rfl, by exact Nat.le_of_ble_eq_true rfl⟩) hG hK hX hS hM.1 rfl rfl rfl rfl (by exact Nat.le_of_ble_eq_true rfl) d_Md_dark_16 ⟨by exact Nat.le_of_ble_eq_true rfl, by exact Nat.le_of_ble_eq_true rfl⟩ (fun v G1 H locs hp hG hS => ?_)
    obtain ⟨⟨c9, j9, hck, hv1⟩, hG1⟩ := hp
    subst hv1
    rw [hG1] at hG
    have hPP : jm_noB q nw = 0 := c_1
    have hck := Ck_congr (Q := jm_noB q nw = 0) (iff_of_true (by decide) hPP) hck
    by_cases hc0 : c9 = 0
    · subst hc0
      obtain ⟨-, hj9, htj, hsun⟩ := Ck_0 hck rfl
      rw [htj] at hl
      refine W.eq (g2 := F0 m 19 ls [.int 0, .ref mo]) rfl ?_
      refine gs_put E hK.1 hG hS hM.1 (C := R_Md) (T := F_Md) (N := 14) rfl i_Md t_Md t_Md_ok n_Md 0 (by decide) w_463 rfl (v := .int 0) rfl rfl (Nat.le_of_ble_eq_true rfl) d_Md_dark_19 (fun H locs hG hS => ?_)
      obtain ⟨G_10, eG_10⟩ : ∃ z, z = gs_u G mo (.inr (4, [.int 0, .int (nI wn), .int (nI hn), .int (nI nb), .ref cB, .ref cT, .ref cS, .ref cL, .int (nI nw), .ref cW, .long l1, .long l2, .long l3, .long l4])) := ⟨_, rfl⟩
      have hG : gs_W D classes zb G_10 H := by rw [eG_10]; exact hG
      have hc_11 : G_10 cB = some (aInt (k 0) 66 bx) := by rw [eG_10]; exact gs_keep hM.2.1 hM.1 (by simp)
      have hc_12 : G_10 cT = some (aInt (k 2) 11 tr) := by rw [eG_10]; exact gs_keep hM.2.2.1 hM.1 (by simp)
      have hc_13 : G_10 cS = some (aInt (k 0) 72 su) := by rw [eG_10]; exact gs_keep hM.2.2.2.1 hM.1 (by simp)
      have hc_14 : G_10 cL = some (aInt (k 0) 24 li) := by rw [eG_10]; exact gs_keep hM.2.2.2.2.1 hM.1 (by simp)
      have hc_15 : G_10 cW = some (aInt (k 0) 40 wi) := by rw [eG_10]; exact gs_keep hM.2.2.2.2.2 hM.1 (by simp)
      have hc_16 : G_10 mo = some (.inr (4, [.int 0, .int (nI wn), .int (nI hn), .int (nI nb), .ref cB, .ref cT, .ref cS, .ref cL, .int (nI nw), .ref cW, .long l1, .long l2, .long l3, .long l4])) := by rw [eG_10]; exact gs_us _ _ _
      refine lv_aload_n hx hb d_Md_dark_22 rfl (lv_at hl 0 rfl) ?_
      refine gs_get E hK.1 hG hc_16 (C := R_Md) (T := F_Md) (N := 14) rfl i_Md 0 (by decide) w_463 (v := .int 0) rfl d_Md_dark_23 ?_
      refine lv_if_le (tgt := 33) hx hb d_Md_dark_26 (by decide) (fun c_17 => ?_) (fun c_17 => ?_)
      · refine lv_aload_n hx hb d_Md_dark_33 rfl (lv_at hl 0 rfl) ?_
        refine lv_iload_n hx hb d_Md_dark_34 rfl (lv_at hl 1 rfl) ?_
        refine lv_iload_n hx hb d_Md_dark_35 rfl (lv_at hl 2 rfl) ?_
        refine lv_iconst (v := (-1)) hx hb d_Md_dark_36 (by decide) ?_
        refine lv_iconst (v := 0) hx hb d_Md_dark_37 (by decide) ?_
        refine gs_V (As := [.int (nI iw), .int (nI j9), .int (-1), .int 0]) (rest := []) (k_Md_darkOf l D k zb G_10 mo cB cT cS cL cW 0 wn hn nb nw bx tr su li wi l1 l2 l3 l4 iw (wf iw 0) (wf iw 1) (wf iw 2) (wf iw 3) j9 (-1) 0 ⟨hc_16, hc_11, hc_12, hc_13, hc_14, hc_15⟩ hnb hj9 hw0 hw1 hw2 hw3 hiw hu hv hu1 hv1) E hml hl.1 (cg_V (C := R_Md) hw w_596 w_593 w_4 w_595 sel_Md_darkOf hd_Md_darkOf ⟨by exact Nat.le_of_ble_eq_true rfl, by exact Nat.le_of_ble_eq_true rfl⟩) hG hK hX hS hc_16 rfl rfl rfl rfl (by exact Nat.le_of_ble_eq_true rfl) d_Md_dark_38 ⟨by exact Nat.le_of_ble_eq_true rfl, by exact Nat.le_of_ble_eq_true rfl⟩ (fun v G1 H locs hp hG hS => ?_)
        obtain ⟨hv1, n_18, n_19, n_20, n_21, hG1⟩ := hp
        subst hv1
        rw [hG1] at hG
        obtain ⟨G_22, eG_22⟩ : ∃ z, z = gs_u G_10 mo (.inr (4, [.int 0, .int (nI wn), .int (nI hn), .int (nI nb), .ref cB, .ref cT, .ref cS, .ref cL, .int (nI nw), .ref cW, .long n_18, .long n_19, .long n_20, .long n_21])) := ⟨_, rfl⟩
        have hG : gs_W D classes zb G_22 H := by rw [eG_22]; exact hG
        have hc_23 : G_22 cB = some (aInt (k 0) 66 bx) := by rw [eG_22]; exact gs_keep hc_11 hc_16 (by simp)
        have hc_24 : G_22 cT = some (aInt (k 2) 11 tr) := by rw [eG_22]; exact gs_keep hc_12 hc_16 (by simp)
        have hc_25 : G_22 cS = some (aInt (k 0) 72 su) := by rw [eG_22]; exact gs_keep hc_13 hc_16 (by simp)
        have hc_26 : G_22 cL = some (aInt (k 0) 24 li) := by rw [eG_22]; exact gs_keep hc_14 hc_16 (by simp)
        have hc_27 : G_22 cW = some (aInt (k 0) 40 wi) := by rw [eG_22]; exact gs_keep hc_15 hc_16 (by simp)
        have hc_28 : G_22 mo = some (.inr (4, [.int 0, .int (nI wn), .int (nI hn), .int (nI nb), .ref cB, .ref cT, .ref cS, .ref cL, .int (nI nw), .ref cW, .long n_18, .long n_19, .long n_20, .long n_21])) := by rw [eG_22]; exact gs_us _ _ _
        refine W.eq (g2 := F0 m 41 ls [.int (nI (jm_dark bx tr su nb (-1) 0 j9 (wf iw 0) (wf iw 1) (wf iw 2) (wf iw 3)))]) rfl ?_
        refine W.iret (v := (nI (jm_dark bx tr su nb (-1) 0 j9 (wf iw 0) (wf iw 1) (wf iw 2) (wf iw 3)))) hx hb hr (gs_end ⟨0, _, j9, n_18, n_19, n_20, n_21, hck, rfl, fun _ => ⟨iw, hiwn, hqi, rfl⟩, ?_⟩ hG hS) hS.2.2 d_Md_dark_41
        simp only [eG_22, eG_10, gs_uu]
      · exact absurd (by decide) c_17
    · skip
      refine W.eq (g2 := F0 m 19 ls [.int c9, .ref mo]) rfl ?_
      refine gs_put E hK.1 hG hS hM.1 (C := R_Md) (T := F_Md) (N := 14) rfl i_Md t_Md t_Md_ok n_Md 0 (by decide) w_463 rfl (v := .int c9) rfl rfl (Nat.le_of_ble_eq_true rfl) d_Md_dark_19 (fun H locs hG hS => ?_)
      obtain ⟨G_29, eG_29⟩ : ∃ z, z = gs_u G mo (.inr (4, [.int c9, .int (nI wn), .int (nI hn), .int (nI nb), .ref cB, .ref cT, .ref cS, .ref cL, .int (nI nw), .ref cW, .long l1, .long l2, .long l3, .long l4])) := ⟨_, rfl⟩
      have hG : gs_W D classes zb G_29 H := by rw [eG_29]; exact hG
      have hc_30 : G_29 cB = some (aInt (k 0) 66 bx) := by rw [eG_29]; exact gs_keep hM.2.1 hM.1 (by simp)
      have hc_31 : G_29 cT = some (aInt (k 2) 11 tr) := by rw [eG_29]; exact gs_keep hM.2.2.1 hM.1 (by simp)
      have hc_32 : G_29 cS = some (aInt (k 0) 72 su) := by rw [eG_29]; exact gs_keep hM.2.2.2.1 hM.1 (by simp)
      have hc_33 : G_29 cL = some (aInt (k 0) 24 li) := by rw [eG_29]; exact gs_keep hM.2.2.2.2.1 hM.1 (by simp)
      have hc_34 : G_29 cW = some (aInt (k 0) 40 wi) := by rw [eG_29]; exact gs_keep hM.2.2.2.2.2 hM.1 (by simp)
      have hc_35 : G_29 mo = some (.inr (4, [.int c9, .int (nI wn), .int (nI hn), .int (nI nb), .ref cB, .ref cT, .ref cS, .ref cL, .int (nI nw), .ref cW, .long l1, .long l2, .long l3, .long l4])) := by rw [eG_29]; exact gs_us _ _ _
      refine lv_aload_n hx hb d_Md_dark_22 rfl (lv_at hl 0 rfl) ?_
      refine gs_get E hK.1 hG hc_35 (C := R_Md) (T := F_Md) (N := 14) rfl i_Md 0 (by decide) w_463 (v := .int c9) rfl d_Md_dark_23 ?_
      refine lv_if_le (tgt := 33) hx hb d_Md_dark_26 (by decide) (fun c_36 => ?_) (fun c_36 => ?_)
      · exact absurd (Ck_le hck c_36) hc0
      · refine lv_iconst (v := 0) hx hb d_Md_dark_29 (by decide) ?_
        refine lv_goto (tgt := 41) hx hb d_Md_dark_30 (by decide) ?_
        refine W.iret (v := 0) hx hb hr (gs_end ⟨c9, _, j9, l1, l2, l3, l4, hck, rfl, fun q => absurd q hc0, ?_⟩ hG hS) hS.2.2 d_Md_dark_41
        simp only [eG_29, gs_uu]
set_option maxHeartbeats 4000000 in
set_option maxRecDepth 100000 in
theorem k_Md_shadow (l : Launch) (D : va_G) (k : Nat → ClassId) (zb : Nat) (G : Nat → Option va_E) (mo cB cT cS cL cW : Nat) (th : Int32) (wn hn nb nw : Nat) (bx tr su li wi : Nat → Int32) (l1 l2 l3 l4 : Int64) (x y t : Int32) (hM : sM k G mo cB cT cS cL cW th wn hn nb nw bx tr su li wi l1 l2 l3 l4) (hnb : nb ≤ 10) (hnw : nw ≤ 10) (hwn : 1 ≤ wn ∧ wn ≤ 60) (hhn : 1 ≤ hn ∧ hn ≤ 60) : Met l y_Md_shadow (wM y_Md_shadow c_Md_shadow 4 (some .boolean)) ({ frames := 4, cells := 0, slots := 0, locals := 110 }) (gs_P D k zb G [.ref mo, .int x, .int y, .int t]) (gs_Q D zb (fun v G1 => ∃ (c9 r : Int32) (j : Nat) (m1 m2 m3 m4 : Int64), jm_Ck (¬ jc_within x 0 (nI wn - 1) = 0 ∧ ¬ jc_within y 0 (nI hn - 1) = 0) t su c9 j ∧ v = some (.int r) ∧ (c9 = 0 → r = pI (jm_D bx tr su nb (-1) 0 j x y)) ∧ G1 = gs_u G mo (oMd c9 wn hn nb nw cB cT cS cL cW m1 m2 m3 m4))) 0 0 (fun q : Nat => zb ≤ q) := by
  refine Met.ofW (cc := c_Md_shadow) (maxL := 4) (ret := (some .boolean)) (by decide) rfl ?_
  intro p e s m args below meth c s₁ B hml hv
  obtain ⟨rfl, hG, hK, hX⟩ := hv
  have hx := B.exec
  have hb := B.bytes
  have hr := B.returns
  have hts := atoms_spec (ws := wM y_Md_shadow c_Md_shadow 4 (some .boolean)) B.pre
  have hw : ∀ w9 ∈ wW, w9.before ([.ref mo, .int x, .int y, .int t] : List Value).toArray s = true := fun w9 h9 => hts w9 (gi_in w9 h9)
  have hown : s.vm.findClass R_Md = some m.cls := findClass_of_methodNamed B.named
  have hlocks := B.notSynchronized
  have E : gs_E p s m ([.ref mo, .int x, .int y, .int t] : List Value).toArray c c_Md_shadow wW R_Md := ⟨hx, hb, hw, hown⟩
  have hS : gs_S zb s.heap s.heap [] := va_S.rf
  have hl := lv_entry ([.ref mo, .int x, .int y, .int t]) (n := 4) (Nat.le_of_ble_eq_true rfl)
  rw [lg_entry_eq]
  generalize (lg_sl ([.ref mo, .int x, .int y, .int t]) ++ List.replicate (4 - (lg_sl ([.ref mo, .int x, .int y, .int t])).length) Slot.unset).toArray = ls at hl ⊢
  have hl : lv_has ls 4 [(0, .ref mo), (1, .int x), (2, .int y), (3, .int t)] := hl
  refine lv_aload_n hx hb d_Md_shadow_0 rfl (lv_at hl 0 rfl) ?_
  refine lv_aload_n hx hb d_Md_shadow_1 rfl (lv_at hl 0 rfl) ?_
  refine lv_iload_n hx hb d_Md_shadow_2 rfl (lv_at hl 1 rfl) ?_
  refine lv_iconst (v := 0) hx hb d_Md_shadow_3 (by decide) ?_
  refine lv_aload_n hx hb d_Md_shadow_4 rfl (lv_at hl 0 rfl) ?_
  refine gs_get E hK.1 hG hM.1 (C := R_Md) (T := F_Md) (N := 14) rfl i_Md 1 (by decide) w_464 (v := .int (nI wn)) rfl d_Md_shadow_5 ?_
  refine lv_iconst (v := 1) hx hb d_Md_shadow_8 (by decide) ?_
  refine lv_isub hx hb d_Md_shadow_9 ?_
  refine gs_St (As := [.int x, .int 0, .int ((nI wn) - 1)]) (rest := [.ref mo, .ref mo]) (k_Md_isIn l D k zb G x 0 ((nI wn) - 1)) E hml hl.1 (cg_S hw w_520 w_518 w_4 w_519 hd_Md_isIn ⟨by exact Nat.le_of_ble_eq_true rfl, by exact Nat.le_of_ble_eq_true rfl⟩) hG hK hX hS rfl rfl (by exact Nat.le_of_ble_eq_true rfl) d_Md_shadow_10 ⟨by exact Nat.le_of_ble_eq_true rfl, by exact Nat.le_of_ble_eq_true rfl⟩ (fun v G1 H locs hp hG hS => ?_)
  obtain ⟨hv1, hG1⟩ := hp
  subst hv1
  rw [hG1] at hG
  refine W.eq (g2 := F0 m 13 ls [.int (jc_within x 0 ((nI wn) - 1)), .ref mo, .ref mo]) rfl ?_
  refine lv_if_eq (tgt := 34) hx hb d_Md_shadow_13 (by decide) (fun c_1 => ?_) (fun c_1 => ?_)
  · refine lv_iconst (v := 0) hx hb d_Md_shadow_34 (by decide) ?_
    refine lv_iload_n hx hb d_Md_shadow_35 rfl (lv_at hl 3 rfl) ?_
    refine gs_V (As := [.int 0, .int t]) (rest := [.ref mo]) (k_Md_check l D k zb G mo cB cT cS cL cW th wn hn nb nw bx tr su li wi l1 l2 l3 l4 0 t ⟨hM.1, hM.2.1, hM.2.2.1, hM.2.2.2.1, hM.2.2.2.2.1, hM.2.2.2.2.2⟩) E hml hl.1 (cg_V (C := R_Md) hw w_559 w_556 w_4 w_558 sel_Md_check hd_Md_check ⟨by exact Nat.le_of_ble_eq_true rfl, by exact Nat.le_of_ble_eq_true rfl⟩) hG hK hX hS hM.1 rfl rfl rfl rfl (by exact Nat.le_of_ble_eq_true rfl) d_Md_shadow_36 ⟨by exact Nat.le_of_ble_eq_true rfl, by exact Nat.le_of_ble_eq_true rfl⟩ (fun v G1 H locs hp hG hS => ?_)
    obtain ⟨⟨c9, j9, hck, hv1⟩, hG1⟩ := hp
    subst hv1
    rw [hG1] at hG
    have hPP : ¬ (¬ jc_within x 0 (nI wn - 1) = 0 ∧ ¬ jc_within y 0 (nI hn - 1) = 0) := fun q => q.1 c_1
    have hck := Ck_congr (Q := ¬ jc_within x 0 (nI wn - 1) = 0 ∧ ¬ jc_within y 0 (nI hn - 1) = 0) (iff_of_false (fun q => q rfl) hPP) hck
    by_cases hc0 : c9 = 0
    · exact absurd (Ck_0 hck hc0).1 hPP
    · skip
      refine W.eq (g2 := F0 m 39 ls [.int c9, .ref mo]) rfl ?_
      refine gs_put E hK.1 hG hS hM.1 (C := R_Md) (T := F_Md) (N := 14) rfl i_Md t_Md t_Md_ok n_Md 0 (by decide) w_463 rfl (v := .int c9) rfl rfl (Nat.le_of_ble_eq_true rfl) d_Md_shadow_39 (fun H locs hG hS => ?_)
      obtain ⟨G_2, eG_2⟩ : ∃ z, z = gs_u G mo (.inr (4, [.int c9, .int (nI wn), .int (nI hn), .int (nI nb), .ref cB, .ref cT, .ref cS, .ref cL, .int (nI nw), .ref cW, .long l1, .long l2, .long l3, .long l4])) := ⟨_, rfl⟩
      have hG : gs_W D classes zb G_2 H := by rw [eG_2]; exact hG
      have hc_3 : G_2 cB = some (aInt (k 0) 66 bx) := by rw [eG_2]; exact gs_keep hM.2.1 hM.1 (by simp)
      have hc_4 : G_2 cT = some (aInt (k 2) 11 tr) := by rw [eG_2]; exact gs_keep hM.2.2.1 hM.1 (by simp)
      have hc_5 : G_2 cS = some (aInt (k 0) 72 su) := by rw [eG_2]; exact gs_keep hM.2.2.2.1 hM.1 (by simp)
      have hc_6 : G_2 cL = some (aInt (k 0) 24 li) := by rw [eG_2]; exact gs_keep hM.2.2.2.2.1 hM.1 (by simp)
      have hc_7 : G_2 cW = some (aInt (k 0) 40 wi) := by rw [eG_2]; exact gs_keep hM.2.2.2.2.2 hM.1 (by simp)
      have hc_8 : G_2 mo = some (.inr (4, [.int c9, .int (nI wn), .int (nI hn), .int (nI nb), .ref cB, .ref cT, .ref cS, .ref cL, .int (nI nw), .ref cW, .long l1, .long l2, .long l3, .long l4])) := by rw [eG_2]; exact gs_us _ _ _
      refine lv_aload_n hx hb d_Md_shadow_42 rfl (lv_at hl 0 rfl) ?_
      refine gs_get E hK.1 hG hc_8 (C := R_Md) (T := F_Md) (N := 14) rfl i_Md 0 (by decide) w_463 (v := .int c9) rfl d_Md_shadow_43 ?_
      refine lv_if_ne (tgt := 65) hx hb d_Md_shadow_46 (by decide) (fun c_9 => ?_) (fun c_9 => ?_)
      · refine lv_iconst (v := 0) hx hb d_Md_shadow_65 (by decide) ?_
        refine W.zret (v := 0) hx hb hr (by decide) (gs_end ⟨c9, _, j9, l1, l2, l3, l4, hck, rfl, fun q => absurd q hc0, ?_⟩ hG hS) hS.2.2 d_Md_shadow_66
        simp only [eG_2, gs_uu]
      · exact absurd c_9 hc0
  · refine lv_iload_n hx hb d_Md_shadow_16 rfl (lv_at hl 2 rfl) ?_
    refine lv_iconst (v := 0) hx hb d_Md_shadow_17 (by decide) ?_
    refine lv_aload_n hx hb d_Md_shadow_18 rfl (lv_at hl 0 rfl) ?_
    refine gs_get E hK.1 hG hM.1 (C := R_Md) (T := F_Md) (N := 14) rfl i_Md 2 (by decide) w_465 (v := .int (nI hn)) rfl d_Md_shadow_19 ?_
    refine lv_iconst (v := 1) hx hb d_Md_shadow_22 (by decide) ?_
    refine lv_isub hx hb d_Md_shadow_23 ?_
    refine gs_St (As := [.int y, .int 0, .int ((nI hn) - 1)]) (rest := [.ref mo, .ref mo]) (k_Md_isIn l D k zb G y 0 ((nI hn) - 1)) E hml hl.1 (cg_S hw w_520 w_518 w_4 w_519 hd_Md_isIn ⟨by exact Nat.le_of_ble_eq_true rfl, by exact Nat.le_of_ble_eq_true rfl⟩) hG hK hX hS rfl rfl (by exact Nat.le_of_ble_eq_true rfl) d_Md_shadow_24 ⟨by exact Nat.le_of_ble_eq_true rfl, by exact Nat.le_of_ble_eq_true rfl⟩ (fun v G1 H locs hp hG hS => ?_)
    obtain ⟨hv1, hG1⟩ := hp
    subst hv1
    rw [hG1] at hG
    refine W.eq (g2 := F0 m 27 ls [.int (jc_within y 0 ((nI hn) - 1)), .ref mo, .ref mo]) rfl ?_
    refine lv_if_eq (tgt := 34) hx hb d_Md_shadow_27 (by decide) (fun c_10 => ?_) (fun c_10 => ?_)
    · refine lv_iconst (v := 0) hx hb d_Md_shadow_34 (by decide) ?_
      refine lv_iload_n hx hb d_Md_shadow_35 rfl (lv_at hl 3 rfl) ?_
      refine gs_V (As := [.int 0, .int t]) (rest := [.ref mo]) (k_Md_check l D k zb G mo cB cT cS cL cW th wn hn nb nw bx tr su li wi l1 l2 l3 l4 0 t ⟨hM.1, hM.2.1, hM.2.2.1, hM.2.2.2.1, hM.2.2.2.2.1, hM.2.2.2.2.2⟩) E hml hl.1 (cg_V (C := R_Md) hw w_559 w_556 w_4 w_558 sel_Md_check hd_Md_check ⟨by exact Nat.le_of_ble_eq_true rfl, by exact Nat.le_of_ble_eq_true rfl⟩) hG hK hX hS hM.1 rfl rfl rfl rfl (by exact Nat.le_of_ble_eq_true rfl) d_Md_shadow_36 ⟨by exact Nat.le_of_ble_eq_true rfl, by exact Nat.le_of_ble_eq_true rfl⟩ (fun v G1 H locs hp hG hS => ?_)
      obtain ⟨⟨c9, j9, hck, hv1⟩, hG1⟩ := hp
      subst hv1
      rw [hG1] at hG
      have hPP : ¬ (¬ jc_within x 0 (nI wn - 1) = 0 ∧ ¬ jc_within y 0 (nI hn - 1) = 0) := fun q => q.2 c_10
      have hck := Ck_congr (Q := ¬ jc_within x 0 (nI wn - 1) = 0 ∧ ¬ jc_within y 0 (nI hn - 1) = 0) (iff_of_false (fun q => q rfl) hPP) hck
      by_cases hc0 : c9 = 0
      · exact absurd (Ck_0 hck hc0).1 hPP
      · skip
        refine W.eq (g2 := F0 m 39 ls [.int c9, .ref mo]) rfl ?_
        refine gs_put E hK.1 hG hS hM.1 (C := R_Md) (T := F_Md) (N := 14) rfl i_Md t_Md t_Md_ok n_Md 0 (by decide) w_463 rfl (v := .int c9) rfl rfl (Nat.le_of_ble_eq_true rfl) d_Md_shadow_39 (fun H locs hG hS => ?_)
        obtain ⟨G_11, eG_11⟩ : ∃ z, z = gs_u G mo (.inr (4, [.int c9, .int (nI wn), .int (nI hn), .int (nI nb), .ref cB, .ref cT, .ref cS, .ref cL, .int (nI nw), .ref cW, .long l1, .long l2, .long l3, .long l4])) := ⟨_, rfl⟩
        have hG : gs_W D classes zb G_11 H := by rw [eG_11]; exact hG
        have hc_12 : G_11 cB = some (aInt (k 0) 66 bx) := by rw [eG_11]; exact gs_keep hM.2.1 hM.1 (by simp)
        have hc_13 : G_11 cT = some (aInt (k 2) 11 tr) := by rw [eG_11]; exact gs_keep hM.2.2.1 hM.1 (by simp)
        have hc_14 : G_11 cS = some (aInt (k 0) 72 su) := by rw [eG_11]; exact gs_keep hM.2.2.2.1 hM.1 (by simp)
        have hc_15 : G_11 cL = some (aInt (k 0) 24 li) := by rw [eG_11]; exact gs_keep hM.2.2.2.2.1 hM.1 (by simp)
        have hc_16 : G_11 cW = some (aInt (k 0) 40 wi) := by rw [eG_11]; exact gs_keep hM.2.2.2.2.2 hM.1 (by simp)
        have hc_17 : G_11 mo = some (.inr (4, [.int c9, .int (nI wn), .int (nI hn), .int (nI nb), .ref cB, .ref cT, .ref cS, .ref cL, .int (nI nw), .ref cW, .long l1, .long l2, .long l3, .long l4])) := by rw [eG_11]; exact gs_us _ _ _
        refine lv_aload_n hx hb d_Md_shadow_42 rfl (lv_at hl 0 rfl) ?_
        refine gs_get E hK.1 hG hc_17 (C := R_Md) (T := F_Md) (N := 14) rfl i_Md 0 (by decide) w_463 (v := .int c9) rfl d_Md_shadow_43 ?_
        refine lv_if_ne (tgt := 65) hx hb d_Md_shadow_46 (by decide) (fun c_18 => ?_) (fun c_18 => ?_)
        · refine lv_iconst (v := 0) hx hb d_Md_shadow_65 (by decide) ?_
          refine W.zret (v := 0) hx hb hr (by decide) (gs_end ⟨c9, _, j9, l1, l2, l3, l4, hck, rfl, fun q => absurd q hc0, ?_⟩ hG hS) hS.2.2 d_Md_shadow_66
          simp only [eG_11, gs_uu]
        · exact absurd c_18 hc0
    · refine lv_iconst (v := 1) hx hb d_Md_shadow_30 (by decide) ?_
      refine lv_goto (tgt := 35) hx hb d_Md_shadow_31 (by decide) ?_
      refine lv_iload_n hx hb d_Md_shadow_35 rfl (lv_at hl 3 rfl) ?_
      refine gs_V (As := [.int 1, .int t]) (rest := [.ref mo]) (k_Md_check l D k zb G mo cB cT cS cL cW th wn hn nb nw bx tr su li wi l1 l2 l3 l4 1 t ⟨hM.1, hM.2.1, hM.2.2.1, hM.2.2.2.1, hM.2.2.2.2.1, hM.2.2.2.2.2⟩) E hml hl.1 (cg_V (C := R_Md) hw w_559 w_556 w_4 w_558 sel_Md_check hd_Md_check ⟨by exact Nat.le_of_ble_eq_true rfl, by exact Nat.le_of_ble_eq_true rfl⟩) hG hK hX hS hM.1 rfl rfl rfl rfl (by exact Nat.le_of_ble_eq_true rfl) d_Md_shadow_36 ⟨by exact Nat.le_of_ble_eq_true rfl, by exact Nat.le_of_ble_eq_true rfl⟩ (fun v G1 H locs hp hG hS => ?_)
      obtain ⟨⟨c9, j9, hck, hv1⟩, hG1⟩ := hp
      subst hv1
      rw [hG1] at hG
      have hPP : ¬ jc_within x 0 (nI wn - 1) = 0 ∧ ¬ jc_within y 0 (nI hn - 1) = 0 := ⟨c_1, c_10⟩
      have hck := Ck_congr (Q := ¬ jc_within x 0 (nI wn - 1) = 0 ∧ ¬ jc_within y 0 (nI hn - 1) = 0) (iff_of_true (by decide) hPP) hck
      by_cases hc0 : c9 = 0
      · subst hc0
        obtain ⟨-, hj9, htj, hsun⟩ := Ck_0 hck rfl
        rw [htj] at hl
        refine W.eq (g2 := F0 m 39 ls [.int 0, .ref mo]) rfl ?_
        refine gs_put E hK.1 hG hS hM.1 (C := R_Md) (T := F_Md) (N := 14) rfl i_Md t_Md t_Md_ok n_Md 0 (by decide) w_463 rfl (v := .int 0) rfl rfl (Nat.le_of_ble_eq_true rfl) d_Md_shadow_39 (fun H locs hG hS => ?_)
        obtain ⟨G_19, eG_19⟩ : ∃ z, z = gs_u G mo (.inr (4, [.int 0, .int (nI wn), .int (nI hn), .int (nI nb), .ref cB, .ref cT, .ref cS, .ref cL, .int (nI nw), .ref cW, .long l1, .long l2, .long l3, .long l4])) := ⟨_, rfl⟩
        have hG : gs_W D classes zb G_19 H := by rw [eG_19]; exact hG
        have hc_20 : G_19 cB = some (aInt (k 0) 66 bx) := by rw [eG_19]; exact gs_keep hM.2.1 hM.1 (by simp)
        have hc_21 : G_19 cT = some (aInt (k 2) 11 tr) := by rw [eG_19]; exact gs_keep hM.2.2.1 hM.1 (by simp)
        have hc_22 : G_19 cS = some (aInt (k 0) 72 su) := by rw [eG_19]; exact gs_keep hM.2.2.2.1 hM.1 (by simp)
        have hc_23 : G_19 cL = some (aInt (k 0) 24 li) := by rw [eG_19]; exact gs_keep hM.2.2.2.2.1 hM.1 (by simp)
        have hc_24 : G_19 cW = some (aInt (k 0) 40 wi) := by rw [eG_19]; exact gs_keep hM.2.2.2.2.2 hM.1 (by simp)
        have hc_25 : G_19 mo = some (.inr (4, [.int 0, .int (nI wn), .int (nI hn), .int (nI nb), .ref cB, .ref cT, .ref cS, .ref cL, .int (nI nw), .ref cW, .long l1, .long l2, .long l3, .long l4])) := by rw [eG_19]; exact gs_us _ _ _
        refine lv_aload_n hx hb d_Md_shadow_42 rfl (lv_at hl 0 rfl) ?_
        refine gs_get E hK.1 hG hc_25 (C := R_Md) (T := F_Md) (N := 14) rfl i_Md 0 (by decide) w_463 (v := .int 0) rfl d_Md_shadow_43 ?_
        refine lv_if_ne (tgt := 65) hx hb d_Md_shadow_46 (by decide) (fun c_26 => ?_) (fun c_26 => ?_)
        · exact absurd (by decide) c_26
        · refine lv_aload_n hx hb d_Md_shadow_49 rfl (lv_at hl 0 rfl) ?_
          refine lv_iload_n hx hb d_Md_shadow_50 rfl (lv_at hl 1 rfl) ?_
          refine lv_iload_n hx hb d_Md_shadow_51 rfl (lv_at hl 2 rfl) ?_
          refine lv_iload_n hx hb d_Md_shadow_52 rfl (lv_at hl 3 rfl) ?_
          refine lv_iconst (v := (-1)) hx hb d_Md_shadow_53 (by decide) ?_
          refine lv_iconst (v := 0) hx hb d_Md_shadow_54 (by decide) ?_
          refine gs_V (As := [.int x, .int y, .int (nI j9), .int (-1), .int 0]) (rest := []) (k_Md_isDark l D k zb G_19 mo cB cT cS cL cW 0 wn hn nb nw bx tr su li wi l1 l2 l3 l4 j9 x y (-1) 0 ⟨hc_25, hc_20, hc_21, hc_22, hc_23, hc_24⟩ hnb hj9) E hml hl.1 (cg_V (C := R_Md) hw w_563 w_560 w_4 w_562 sel_Md_isDark hd_Md_isDark ⟨by exact Nat.le_of_ble_eq_true rfl, by exact Nat.le_of_ble_eq_true rfl⟩) hG hK hX hS hc_25 rfl rfl rfl rfl (by exact Nat.le_of_ble_eq_true rfl) d_Md_shadow_55 ⟨by exact Nat.le_of_ble_eq_true rfl, by exact Nat.le_of_ble_eq_true rfl⟩ (fun v G1 H locs hp hG hS => ?_)
          obtain ⟨hv1, n_27, n_28, n_29, n_30, hG1⟩ := hp
          subst hv1
          rw [hG1] at hG
          obtain ⟨G_31, eG_31⟩ : ∃ z, z = gs_u G_19 mo (.inr (4, [.int 0, .int (nI wn), .int (nI hn), .int (nI nb), .ref cB, .ref cT, .ref cS, .ref cL, .int (nI nw), .ref cW, .long n_27, .long n_28, .long n_29, .long n_30])) := ⟨_, rfl⟩
          have hG : gs_W D classes zb G_31 H := by rw [eG_31]; exact hG
          have hc_32 : G_31 cB = some (aInt (k 0) 66 bx) := by rw [eG_31]; exact gs_keep hc_20 hc_25 (by simp)
          have hc_33 : G_31 cT = some (aInt (k 2) 11 tr) := by rw [eG_31]; exact gs_keep hc_21 hc_25 (by simp)
          have hc_34 : G_31 cS = some (aInt (k 0) 72 su) := by rw [eG_31]; exact gs_keep hc_22 hc_25 (by simp)
          have hc_35 : G_31 cL = some (aInt (k 0) 24 li) := by rw [eG_31]; exact gs_keep hc_23 hc_25 (by simp)
          have hc_36 : G_31 cW = some (aInt (k 0) 40 wi) := by rw [eG_31]; exact gs_keep hc_24 hc_25 (by simp)
          have hc_37 : G_31 mo = some (.inr (4, [.int 0, .int (nI wn), .int (nI hn), .int (nI nb), .ref cB, .ref cT, .ref cS, .ref cL, .int (nI nw), .ref cW, .long n_27, .long n_28, .long n_29, .long n_30])) := by rw [eG_31]; exact gs_us _ _ _
          refine W.eq (g2 := F0 m 58 ls [.int (pI (jm_D bx tr su nb (-1) 0 j9 x y))]) rfl ?_
          refine lv_if_eq (tgt := 65) hx hb d_Md_shadow_58 (by decide) (fun c_38 => ?_) (fun c_38 => ?_)
          · refine lv_iconst (v := 0) hx hb d_Md_shadow_65 (by decide) ?_
            refine W.zret (v := 0) hx hb hr (by decide) (gs_end ⟨0, _, j9, n_27, n_28, n_29, n_30, hck, rfl, fun _ => (pI_f (pI_0.mp c_38)).symm, ?_⟩ hG hS) hS.2.2 d_Md_shadow_66
            simp only [eG_31, eG_19, gs_uu]
          · refine lv_iconst (v := 1) hx hb d_Md_shadow_61 (by decide) ?_
            refine lv_goto (tgt := 66) hx hb d_Md_shadow_62 (by decide) ?_
            refine W.zret (v := 1) hx hb hr (by decide) (gs_end ⟨0, _, j9, n_27, n_28, n_29, n_30, hck, rfl, fun _ => (pI_t (pI_ne c_38)).symm, ?_⟩ hG hS) hS.2.2 d_Md_shadow_66
            simp only [eG_31, eG_19, gs_uu]
      · skip
        refine W.eq (g2 := F0 m 39 ls [.int c9, .ref mo]) rfl ?_
        refine gs_put E hK.1 hG hS hM.1 (C := R_Md) (T := F_Md) (N := 14) rfl i_Md t_Md t_Md_ok n_Md 0 (by decide) w_463 rfl (v := .int c9) rfl rfl (Nat.le_of_ble_eq_true rfl) d_Md_shadow_39 (fun H locs hG hS => ?_)
        obtain ⟨G_39, eG_39⟩ : ∃ z, z = gs_u G mo (.inr (4, [.int c9, .int (nI wn), .int (nI hn), .int (nI nb), .ref cB, .ref cT, .ref cS, .ref cL, .int (nI nw), .ref cW, .long l1, .long l2, .long l3, .long l4])) := ⟨_, rfl⟩
        have hG : gs_W D classes zb G_39 H := by rw [eG_39]; exact hG
        have hc_40 : G_39 cB = some (aInt (k 0) 66 bx) := by rw [eG_39]; exact gs_keep hM.2.1 hM.1 (by simp)
        have hc_41 : G_39 cT = some (aInt (k 2) 11 tr) := by rw [eG_39]; exact gs_keep hM.2.2.1 hM.1 (by simp)
        have hc_42 : G_39 cS = some (aInt (k 0) 72 su) := by rw [eG_39]; exact gs_keep hM.2.2.2.1 hM.1 (by simp)
        have hc_43 : G_39 cL = some (aInt (k 0) 24 li) := by rw [eG_39]; exact gs_keep hM.2.2.2.2.1 hM.1 (by simp)
        have hc_44 : G_39 cW = some (aInt (k 0) 40 wi) := by rw [eG_39]; exact gs_keep hM.2.2.2.2.2 hM.1 (by simp)
        have hc_45 : G_39 mo = some (.inr (4, [.int c9, .int (nI wn), .int (nI hn), .int (nI nb), .ref cB, .ref cT, .ref cS, .ref cL, .int (nI nw), .ref cW, .long l1, .long l2, .long l3, .long l4])) := by rw [eG_39]; exact gs_us _ _ _
        refine lv_aload_n hx hb d_Md_shadow_42 rfl (lv_at hl 0 rfl) ?_
        refine gs_get E hK.1 hG hc_45 (C := R_Md) (T := F_Md) (N := 14) rfl i_Md 0 (by decide) w_463 (v := .int c9) rfl d_Md_shadow_43 ?_
        refine lv_if_ne (tgt := 65) hx hb d_Md_shadow_46 (by decide) (fun c_46 => ?_) (fun c_46 => ?_)
        · refine lv_iconst (v := 0) hx hb d_Md_shadow_65 (by decide) ?_
          refine W.zret (v := 0) hx hb hr (by decide) (gs_end ⟨c9, _, j9, l1, l2, l3, l4, hck, rfl, fun q => absurd q hc0, ?_⟩ hG hS) hS.2.2 d_Md_shadow_66
          simp only [eG_39, gs_uu]
        · exact absurd c_46 hc0
set_option maxHeartbeats 4000000 in
set_option maxRecDepth 100000 in
theorem k_Md_lit (l : Launch) (D : va_G) (k : Nat → ClassId) (zb : Nat) (G : Nat → Option va_E) (mo cB cT cS cL cW : Nat) (th : Int32) (wn hn nb nw : Nat) (bx tr su li wi : Nat → Int32) (l1 l2 l3 l4 : Int64) (wf : Nat → Nat → Nat) (q t : Int32) (hM : sM k G mo cB cT cS cL cW th wn hn nb nw bx tr su li wi l1 l2 l3 l4) (hnb : nb ≤ 10) (hnw : nw ≤ 10) (hwn : 1 ≤ wn ∧ wn ≤ 60) (hhn : 1 ≤ hn ∧ hn ≤ 60) (hwf : jm_Wf nw wi wf) : Met l y_Md_lit (wM y_Md_lit c_Md_lit 3 (some .int)) ({ frames := 7, cells := 0, slots := 0, locals := 185 }) (gs_P D k zb G [.ref mo, .int q, .int t]) (gs_Q D zb (fun v G1 => ∃ (c9 r : Int32) (m1 m2 m3 m4 : Int64), ((c9 = 1 ∧ ¬ (jm_noB q nw = 0 ∧ (t = (-1) ∨ jm_noH t = 0))) ∨ (c9 = 0 ∧ jm_noB q nw = 0 ∧ (t = (-1) ∨ jm_noH t = 0))) ∧ v = some (.int r) ∧ (c9 = 0 → ∃ i : Nat, i < nw ∧ q = nI i ∧ ((t = (-1) ∧ r = jm_day bx tr su li nb (-1) (wf i 0) (wf i 1) (wf i 2) (wf i 3)) ∨ (¬ t = (-1) ∧ ∃ j : Nat, j < 24 ∧ t = nI j ∧ r = jm_lit bx tr su li nb (-1) (wf i 0) (wf i 1) (wf i 2) (wf i 3) j))) ∧ G1 = gs_u G mo (oMd c9 wn hn nb nw cB cT cS cL cW m1 m2 m3 m4))) 0 0 (fun q : Nat => zb ≤ q) := by
  refine Met.ofW (cc := c_Md_lit) (maxL := 3) (ret := (some .int)) (by decide) rfl ?_
  intro p e s m args below meth c s₁ B hml hv
  obtain ⟨rfl, hG, hK, hX⟩ := hv
  have hx := B.exec
  have hb := B.bytes
  have hr := B.returns
  have hts := atoms_spec (ws := wM y_Md_lit c_Md_lit 3 (some .int)) B.pre
  have hw : ∀ w9 ∈ wW, w9.before ([.ref mo, .int q, .int t] : List Value).toArray s = true := fun w9 h9 => hts w9 (gi_in w9 h9)
  have hown : s.vm.findClass R_Md = some m.cls := findClass_of_methodNamed B.named
  have hlocks := B.notSynchronized
  have E : gs_E p s m ([.ref mo, .int q, .int t] : List Value).toArray c c_Md_lit wW R_Md := ⟨hx, hb, hw, hown⟩
  have hS : gs_S zb s.heap s.heap [] := va_S.rf
  have hl := lv_entry ([.ref mo, .int q, .int t]) (n := 3) (Nat.le_of_ble_eq_true rfl)
  rw [lg_entry_eq]
  generalize (lg_sl ([.ref mo, .int q, .int t]) ++ List.replicate (3 - (lg_sl ([.ref mo, .int q, .int t])).length) Slot.unset).toArray = ls at hl ⊢
  have hl : lv_has ls 3 [(0, .ref mo), (1, .int q), (2, .int t)] := hl
  refine lv_aload_n hx hb d_Md_lit_0 rfl (lv_at hl 0 rfl) ?_
  refine lv_aload_n hx hb d_Md_lit_1 rfl (lv_at hl 0 rfl) ?_
  refine lv_iload_n hx hb d_Md_lit_2 rfl (lv_at hl 1 rfl) ?_
  refine gs_V (As := [.int q]) (rest := [.ref mo]) (k_Md_noWindow l D k zb G mo cB cT cS cL cW th wn hn nb nw bx tr su li wi l1 l2 l3 l4 q ⟨hM.1, hM.2.1, hM.2.2.1, hM.2.2.2.1, hM.2.2.2.2.1, hM.2.2.2.2.2⟩) E hml hl.1 (cg_V (C := R_Md) hw w_592 w_589 w_4 w_591 sel_Md_noWindow hd_Md_noWindow ⟨by exact Nat.le_of_ble_eq_true rfl, by exact Nat.le_of_ble_eq_true rfl⟩) hG hK hX hS hM.1 rfl rfl rfl rfl (by exact Nat.le_of_ble_eq_true rfl) d_Md_lit_3 ⟨by exact Nat.le_of_ble_eq_true rfl, by exact Nat.le_of_ble_eq_true rfl⟩ (fun v G1 H locs hp hG hS => ?_)
  obtain ⟨hv1, hG1⟩ := hp
  subst hv1
  rw [hG1] at hG
  refine W.eq (g2 := F0 m 6 ls [.int (jm_noB q nw), .ref mo]) rfl ?_
  refine lv_if_ne (tgt := 21) hx hb d_Md_lit_6 (by decide) (fun c_1 => ?_) (fun c_1 => ?_)
  · refine lv_iconst (v := 1) hx hb d_Md_lit_21 (by decide) ?_
    refine lv_goto (tgt := 26) hx hb d_Md_lit_22 (by decide) ?_
    refine gs_put E hK.1 hG hS hM.1 (C := R_Md) (T := F_Md) (N := 14) rfl i_Md t_Md t_Md_ok n_Md 0 (by decide) w_463 rfl (v := .int 1) rfl rfl (Nat.le_of_ble_eq_true rfl) d_Md_lit_26 (fun H locs hG hS => ?_)
    obtain ⟨G_2, eG_2⟩ : ∃ z, z = gs_u G mo (.inr (4, [.int 1, .int (nI wn), .int (nI hn), .int (nI nb), .ref cB, .ref cT, .ref cS, .ref cL, .int (nI nw), .ref cW, .long l1, .long l2, .long l3, .long l4])) := ⟨_, rfl⟩
    have hG : gs_W D classes zb G_2 H := by rw [eG_2]; exact hG
    have hc_3 : G_2 cB = some (aInt (k 0) 66 bx) := by rw [eG_2]; exact gs_keep hM.2.1 hM.1 (by simp)
    have hc_4 : G_2 cT = some (aInt (k 2) 11 tr) := by rw [eG_2]; exact gs_keep hM.2.2.1 hM.1 (by simp)
    have hc_5 : G_2 cS = some (aInt (k 0) 72 su) := by rw [eG_2]; exact gs_keep hM.2.2.2.1 hM.1 (by simp)
    have hc_6 : G_2 cL = some (aInt (k 0) 24 li) := by rw [eG_2]; exact gs_keep hM.2.2.2.2.1 hM.1 (by simp)
    have hc_7 : G_2 cW = some (aInt (k 0) 40 wi) := by rw [eG_2]; exact gs_keep hM.2.2.2.2.2 hM.1 (by simp)
    have hc_8 : G_2 mo = some (.inr (4, [.int 1, .int (nI wn), .int (nI hn), .int (nI nb), .ref cB, .ref cT, .ref cS, .ref cL, .int (nI nw), .ref cW, .long l1, .long l2, .long l3, .long l4])) := by rw [eG_2]; exact gs_us _ _ _
    refine lv_aload_n hx hb d_Md_lit_29 rfl (lv_at hl 0 rfl) ?_
    refine gs_get E hK.1 hG hc_8 (C := R_Md) (T := F_Md) (N := 14) rfl i_Md 0 (by decide) w_463 (v := .int 1) rfl d_Md_lit_30 ?_
    refine lv_if_le (tgt := 40) hx hb d_Md_lit_33 (by decide) (fun c_9 => ?_) (fun c_9 => ?_)
    · exact absurd c_9 (by decide)
    · refine lv_iconst (v := 0) hx hb d_Md_lit_36 (by decide) ?_
      refine lv_goto (tgt := 61) hx hb d_Md_lit_37 (by decide) ?_
      refine W.iret (v := 0) hx hb hr (gs_end ⟨1, _, l1, l2, l3, l4, Or.inl ⟨rfl, fun q9 => c_1 q9.1⟩, rfl, fun q9 => absurd q9 (by decide), ?_⟩ hG hS) hS.2.2 d_Md_lit_61
      simp only [eG_2, gs_uu]
  · obtain ⟨iw, hiwn, hqi⟩ := noB_1 (by omega) c_1
    have hiw : iw < 10 := by omega
    obtain ⟨⟨hw0, hw1, hw2, hw3⟩, hu, hv, hu1, hv1⟩ := hwf iw hiwn
    rw [hqi] at hl
    refine lv_iload_n hx hb d_Md_lit_9 rfl (lv_at hl 2 rfl) ?_
    refine lv_iconst (v := (-1)) hx hb d_Md_lit_10 (by decide) ?_
    refine lv_icmp_eq (tgt := 25) hx hb d_Md_lit_11 (by decide) (fun c_10 => ?_) (fun c_10 => ?_)
    · refine lv_iconst (v := 0) hx hb d_Md_lit_25 (by decide) ?_
      refine gs_put E hK.1 hG hS hM.1 (C := R_Md) (T := F_Md) (N := 14) rfl i_Md t_Md t_Md_ok n_Md 0 (by decide) w_463 rfl (v := .int 0) rfl rfl (Nat.le_of_ble_eq_true rfl) d_Md_lit_26 (fun H locs hG hS => ?_)
      obtain ⟨G_11, eG_11⟩ : ∃ z, z = gs_u G mo (.inr (4, [.int 0, .int (nI wn), .int (nI hn), .int (nI nb), .ref cB, .ref cT, .ref cS, .ref cL, .int (nI nw), .ref cW, .long l1, .long l2, .long l3, .long l4])) := ⟨_, rfl⟩
      have hG : gs_W D classes zb G_11 H := by rw [eG_11]; exact hG
      have hc_12 : G_11 cB = some (aInt (k 0) 66 bx) := by rw [eG_11]; exact gs_keep hM.2.1 hM.1 (by simp)
      have hc_13 : G_11 cT = some (aInt (k 2) 11 tr) := by rw [eG_11]; exact gs_keep hM.2.2.1 hM.1 (by simp)
      have hc_14 : G_11 cS = some (aInt (k 0) 72 su) := by rw [eG_11]; exact gs_keep hM.2.2.2.1 hM.1 (by simp)
      have hc_15 : G_11 cL = some (aInt (k 0) 24 li) := by rw [eG_11]; exact gs_keep hM.2.2.2.2.1 hM.1 (by simp)
      have hc_16 : G_11 cW = some (aInt (k 0) 40 wi) := by rw [eG_11]; exact gs_keep hM.2.2.2.2.2 hM.1 (by simp)
      have hc_17 : G_11 mo = some (.inr (4, [.int 0, .int (nI wn), .int (nI hn), .int (nI nb), .ref cB, .ref cT, .ref cS, .ref cL, .int (nI nw), .ref cW, .long l1, .long l2, .long l3, .long l4])) := by rw [eG_11]; exact gs_us _ _ _
      refine lv_aload_n hx hb d_Md_lit_29 rfl (lv_at hl 0 rfl) ?_
      refine gs_get E hK.1 hG hc_17 (C := R_Md) (T := F_Md) (N := 14) rfl i_Md 0 (by decide) w_463 (v := .int 0) rfl d_Md_lit_30 ?_
      refine lv_if_le (tgt := 40) hx hb d_Md_lit_33 (by decide) (fun c_18 => ?_) (fun c_18 => ?_)
      · refine lv_iload_n hx hb d_Md_lit_40 rfl (lv_at hl 2 rfl) ?_
        refine lv_iconst (v := (-1)) hx hb d_Md_lit_41 (by decide) ?_
        refine lv_icmp_ne (tgt := 54) hx hb d_Md_lit_42 (by decide) (fun c_19 => ?_) (fun c_19 => ?_)
        · exact absurd c_10 c_19
        · refine lv_aload_n hx hb d_Md_lit_45 rfl (lv_at hl 0 rfl) ?_
          refine lv_iload_n hx hb d_Md_lit_46 rfl (lv_at hl 1 rfl) ?_
          refine lv_iconst (v := (-1)) hx hb d_Md_lit_47 (by decide) ?_
          refine gs_V (As := [.int (nI iw), .int (-1)]) (rest := []) (k_Md_day l D k zb G_11 mo cB cT cS cL cW 0 wn hn nb nw bx tr su li wi l1 l2 l3 l4 iw (wf iw 0) (wf iw 1) (wf iw 2) (wf iw 3) (-1) ⟨hc_17, hc_12, hc_13, hc_14, hc_15, hc_16⟩ hnb hw0 hw1 hw2 hw3 hiw hu hv hu1 hv1) E hml hl.1 (cg_V (C := R_Md) hw w_608 w_605 w_4 w_607 sel_Md_day hd_Md_day ⟨by exact Nat.le_of_ble_eq_true rfl, by exact Nat.le_of_ble_eq_true rfl⟩) hG hK hX hS hc_17 rfl rfl rfl rfl (by exact Nat.le_of_ble_eq_true rfl) d_Md_lit_48 ⟨by exact Nat.le_of_ble_eq_true rfl, by exact Nat.le_of_ble_eq_true rfl⟩ (fun v G1 H locs hp hG hS => ?_)
          obtain ⟨hv1, n_20, n_21, n_22, n_23, hG1⟩ := hp
          subst hv1
          rw [hG1] at hG
          obtain ⟨G_24, eG_24⟩ : ∃ z, z = gs_u G_11 mo (.inr (4, [.int 0, .int (nI wn), .int (nI hn), .int (nI nb), .ref cB, .ref cT, .ref cS, .ref cL, .int (nI nw), .ref cW, .long n_20, .long n_21, .long n_22, .long n_23])) := ⟨_, rfl⟩
          have hG : gs_W D classes zb G_24 H := by rw [eG_24]; exact hG
          have hc_25 : G_24 cB = some (aInt (k 0) 66 bx) := by rw [eG_24]; exact gs_keep hc_12 hc_17 (by simp)
          have hc_26 : G_24 cT = some (aInt (k 2) 11 tr) := by rw [eG_24]; exact gs_keep hc_13 hc_17 (by simp)
          have hc_27 : G_24 cS = some (aInt (k 0) 72 su) := by rw [eG_24]; exact gs_keep hc_14 hc_17 (by simp)
          have hc_28 : G_24 cL = some (aInt (k 0) 24 li) := by rw [eG_24]; exact gs_keep hc_15 hc_17 (by simp)
          have hc_29 : G_24 cW = some (aInt (k 0) 40 wi) := by rw [eG_24]; exact gs_keep hc_16 hc_17 (by simp)
          have hc_30 : G_24 mo = some (.inr (4, [.int 0, .int (nI wn), .int (nI hn), .int (nI nb), .ref cB, .ref cT, .ref cS, .ref cL, .int (nI nw), .ref cW, .long n_20, .long n_21, .long n_22, .long n_23])) := by rw [eG_24]; exact gs_us _ _ _
          refine W.eq (g2 := F0 m 51 ls [.int (jm_day bx tr su li nb (-1) (wf iw 0) (wf iw 1) (wf iw 2) (wf iw 3))]) rfl ?_
          refine lv_goto (tgt := 61) hx hb d_Md_lit_51 (by decide) ?_
          refine W.iret (v := (jm_day bx tr su li nb (-1) (wf iw 0) (wf iw 1) (wf iw 2) (wf iw 3))) hx hb hr (gs_end ⟨0, _, n_20, n_21, n_22, n_23, Or.inr ⟨rfl, c_1, Or.inl c_10⟩, rfl, fun _ => ⟨iw, hiwn, hqi, Or.inl ⟨c_10, rfl⟩⟩, ?_⟩ hG hS) hS.2.2 d_Md_lit_61
          simp only [eG_24, eG_11, gs_uu]
      · exact absurd (by decide) c_18
    · refine lv_iload_n hx hb d_Md_lit_14 rfl (lv_at hl 2 rfl) ?_
      refine gs_St (As := [.int t]) (rest := [.ref mo]) (k_Md_noHour l D k zb G t) E hml hl.1 (cg_S hw w_543 w_541 w_4 w_542 hd_Md_noHour ⟨by exact Nat.le_of_ble_eq_true rfl, by exact Nat.le_of_ble_eq_true rfl⟩) hG hK hX hS rfl rfl (by exact Nat.le_of_ble_eq_true rfl) d_Md_lit_15 ⟨by exact Nat.le_of_ble_eq_true rfl, by exact Nat.le_of_ble_eq_true rfl⟩ (fun v G1 H locs hp hG hS => ?_)
      obtain ⟨hv1, hG1⟩ := hp
      subst hv1
      rw [hG1] at hG
      refine W.eq (g2 := F0 m 18 ls [.int (jm_noH t), .ref mo]) rfl ?_
      refine lv_if_eq (tgt := 25) hx hb d_Md_lit_18 (by decide) (fun c_31 => ?_) (fun c_31 => ?_)
      · obtain ⟨j9, hj9, htj⟩ := noH_1 c_31
        rw [htj] at hl
        refine lv_iconst (v := 0) hx hb d_Md_lit_25 (by decide) ?_
        refine gs_put E hK.1 hG hS hM.1 (C := R_Md) (T := F_Md) (N := 14) rfl i_Md t_Md t_Md_ok n_Md 0 (by decide) w_463 rfl (v := .int 0) rfl rfl (Nat.le_of_ble_eq_true rfl) d_Md_lit_26 (fun H locs hG hS => ?_)
        obtain ⟨G_32, eG_32⟩ : ∃ z, z = gs_u G mo (.inr (4, [.int 0, .int (nI wn), .int (nI hn), .int (nI nb), .ref cB, .ref cT, .ref cS, .ref cL, .int (nI nw), .ref cW, .long l1, .long l2, .long l3, .long l4])) := ⟨_, rfl⟩
        have hG : gs_W D classes zb G_32 H := by rw [eG_32]; exact hG
        have hc_33 : G_32 cB = some (aInt (k 0) 66 bx) := by rw [eG_32]; exact gs_keep hM.2.1 hM.1 (by simp)
        have hc_34 : G_32 cT = some (aInt (k 2) 11 tr) := by rw [eG_32]; exact gs_keep hM.2.2.1 hM.1 (by simp)
        have hc_35 : G_32 cS = some (aInt (k 0) 72 su) := by rw [eG_32]; exact gs_keep hM.2.2.2.1 hM.1 (by simp)
        have hc_36 : G_32 cL = some (aInt (k 0) 24 li) := by rw [eG_32]; exact gs_keep hM.2.2.2.2.1 hM.1 (by simp)
        have hc_37 : G_32 cW = some (aInt (k 0) 40 wi) := by rw [eG_32]; exact gs_keep hM.2.2.2.2.2 hM.1 (by simp)
        have hc_38 : G_32 mo = some (.inr (4, [.int 0, .int (nI wn), .int (nI hn), .int (nI nb), .ref cB, .ref cT, .ref cS, .ref cL, .int (nI nw), .ref cW, .long l1, .long l2, .long l3, .long l4])) := by rw [eG_32]; exact gs_us _ _ _
        refine lv_aload_n hx hb d_Md_lit_29 rfl (lv_at hl 0 rfl) ?_
        refine gs_get E hK.1 hG hc_38 (C := R_Md) (T := F_Md) (N := 14) rfl i_Md 0 (by decide) w_463 (v := .int 0) rfl d_Md_lit_30 ?_
        refine lv_if_le (tgt := 40) hx hb d_Md_lit_33 (by decide) (fun c_39 => ?_) (fun c_39 => ?_)
        · refine lv_iload_n hx hb d_Md_lit_40 rfl (lv_at hl 2 rfl) ?_
          refine lv_iconst (v := (-1)) hx hb d_Md_lit_41 (by decide) ?_
          refine lv_icmp_ne (tgt := 54) hx hb d_Md_lit_42 (by decide) (fun c_40 => ?_) (fun c_40 => ?_)
          · refine lv_aload_n hx hb d_Md_lit_54 rfl (lv_at hl 0 rfl) ?_
            refine lv_iload_n hx hb d_Md_lit_55 rfl (lv_at hl 1 rfl) ?_
            refine lv_iload_n hx hb d_Md_lit_56 rfl (lv_at hl 2 rfl) ?_
            refine lv_iconst (v := (-1)) hx hb d_Md_lit_57 (by decide) ?_
            refine gs_V (As := [.int (nI iw), .int (nI j9), .int (-1)]) (rest := []) (k_Md_litIn l D k zb G_32 mo cB cT cS cL cW 0 wn hn nb nw bx tr su li wi l1 l2 l3 l4 iw (wf iw 0) (wf iw 1) (wf iw 2) (wf iw 3) j9 (-1) ⟨hc_38, hc_33, hc_34, hc_35, hc_36, hc_37⟩ hnb hj9 hw0 hw1 hw2 hw3 hiw hu hv hu1 hv1) E hml hl.1 (cg_V (C := R_Md) hw w_612 w_609 w_4 w_611 sel_Md_litIn hd_Md_litIn ⟨by exact Nat.le_of_ble_eq_true rfl, by exact Nat.le_of_ble_eq_true rfl⟩) hG hK hX hS hc_38 rfl rfl rfl rfl (by exact Nat.le_of_ble_eq_true rfl) d_Md_lit_58 ⟨by exact Nat.le_of_ble_eq_true rfl, by exact Nat.le_of_ble_eq_true rfl⟩ (fun v G1 H locs hp hG hS => ?_)
            obtain ⟨hv1, n_41, n_42, n_43, n_44, hG1⟩ := hp
            subst hv1
            rw [hG1] at hG
            obtain ⟨G_45, eG_45⟩ : ∃ z, z = gs_u G_32 mo (.inr (4, [.int 0, .int (nI wn), .int (nI hn), .int (nI nb), .ref cB, .ref cT, .ref cS, .ref cL, .int (nI nw), .ref cW, .long n_41, .long n_42, .long n_43, .long n_44])) := ⟨_, rfl⟩
            have hG : gs_W D classes zb G_45 H := by rw [eG_45]; exact hG
            have hc_46 : G_45 cB = some (aInt (k 0) 66 bx) := by rw [eG_45]; exact gs_keep hc_33 hc_38 (by simp)
            have hc_47 : G_45 cT = some (aInt (k 2) 11 tr) := by rw [eG_45]; exact gs_keep hc_34 hc_38 (by simp)
            have hc_48 : G_45 cS = some (aInt (k 0) 72 su) := by rw [eG_45]; exact gs_keep hc_35 hc_38 (by simp)
            have hc_49 : G_45 cL = some (aInt (k 0) 24 li) := by rw [eG_45]; exact gs_keep hc_36 hc_38 (by simp)
            have hc_50 : G_45 cW = some (aInt (k 0) 40 wi) := by rw [eG_45]; exact gs_keep hc_37 hc_38 (by simp)
            have hc_51 : G_45 mo = some (.inr (4, [.int 0, .int (nI wn), .int (nI hn), .int (nI nb), .ref cB, .ref cT, .ref cS, .ref cL, .int (nI nw), .ref cW, .long n_41, .long n_42, .long n_43, .long n_44])) := by rw [eG_45]; exact gs_us _ _ _
            refine W.eq (g2 := F0 m 61 ls [.int (jm_lit bx tr su li nb (-1) (wf iw 0) (wf iw 1) (wf iw 2) (wf iw 3) j9)]) rfl ?_
            refine W.iret (v := (jm_lit bx tr su li nb (-1) (wf iw 0) (wf iw 1) (wf iw 2) (wf iw 3) j9)) hx hb hr (gs_end ⟨0, _, n_41, n_42, n_43, n_44, Or.inr ⟨rfl, c_1, Or.inr c_31⟩, rfl, fun _ => ⟨iw, hiwn, hqi, Or.inr ⟨c_10, j9, hj9, htj, rfl⟩⟩, ?_⟩ hG hS) hS.2.2 d_Md_lit_61
            simp only [eG_45, eG_32, gs_uu]
          · exact absurd (htj.trans c_40) c_10
        · exact absurd (by decide) c_39
      · refine lv_iconst (v := 1) hx hb d_Md_lit_21 (by decide) ?_
        refine lv_goto (tgt := 26) hx hb d_Md_lit_22 (by decide) ?_
        refine gs_put E hK.1 hG hS hM.1 (C := R_Md) (T := F_Md) (N := 14) rfl i_Md t_Md t_Md_ok n_Md 0 (by decide) w_463 rfl (v := .int 1) rfl rfl (Nat.le_of_ble_eq_true rfl) d_Md_lit_26 (fun H locs hG hS => ?_)
        obtain ⟨G_52, eG_52⟩ : ∃ z, z = gs_u G mo (.inr (4, [.int 1, .int (nI wn), .int (nI hn), .int (nI nb), .ref cB, .ref cT, .ref cS, .ref cL, .int (nI nw), .ref cW, .long l1, .long l2, .long l3, .long l4])) := ⟨_, rfl⟩
        have hG : gs_W D classes zb G_52 H := by rw [eG_52]; exact hG
        have hc_53 : G_52 cB = some (aInt (k 0) 66 bx) := by rw [eG_52]; exact gs_keep hM.2.1 hM.1 (by simp)
        have hc_54 : G_52 cT = some (aInt (k 2) 11 tr) := by rw [eG_52]; exact gs_keep hM.2.2.1 hM.1 (by simp)
        have hc_55 : G_52 cS = some (aInt (k 0) 72 su) := by rw [eG_52]; exact gs_keep hM.2.2.2.1 hM.1 (by simp)
        have hc_56 : G_52 cL = some (aInt (k 0) 24 li) := by rw [eG_52]; exact gs_keep hM.2.2.2.2.1 hM.1 (by simp)
        have hc_57 : G_52 cW = some (aInt (k 0) 40 wi) := by rw [eG_52]; exact gs_keep hM.2.2.2.2.2 hM.1 (by simp)
        have hc_58 : G_52 mo = some (.inr (4, [.int 1, .int (nI wn), .int (nI hn), .int (nI nb), .ref cB, .ref cT, .ref cS, .ref cL, .int (nI nw), .ref cW, .long l1, .long l2, .long l3, .long l4])) := by rw [eG_52]; exact gs_us _ _ _
        refine lv_aload_n hx hb d_Md_lit_29 rfl (lv_at hl 0 rfl) ?_
        refine gs_get E hK.1 hG hc_58 (C := R_Md) (T := F_Md) (N := 14) rfl i_Md 0 (by decide) w_463 (v := .int 1) rfl d_Md_lit_30 ?_
        refine lv_if_le (tgt := 40) hx hb d_Md_lit_33 (by decide) (fun c_59 => ?_) (fun c_59 => ?_)
        · exact absurd c_59 (by decide)
        · refine lv_iconst (v := 0) hx hb d_Md_lit_36 (by decide) ?_
          refine lv_goto (tgt := 61) hx hb d_Md_lit_37 (by decide) ?_
          refine W.iret (v := 0) hx hb hr (gs_end ⟨1, _, l1, l2, l3, l4, Or.inl ⟨rfl, fun q9 => q9.2.elim c_10 c_31⟩, rfl, fun q9 => absurd q9 (by decide), ?_⟩ hG hS) hS.2.2 d_Md_lit_61
          simp only [eG_52, gs_uu]
