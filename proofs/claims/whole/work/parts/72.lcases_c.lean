/-! the law's cases, by program -/
set_option maxHeartbeats 4000000 in
set_option maxRecDepth 100000 in
theorem lc_lit {p : Program} {l : Launch} {e : Env} {s : State} {m : MethodId} {below : List Frame} {meth : Method} {c : Code} {Q : State → Prop} {D : va_G} {k : Nat → ClassId} {zb b L : Nat} {xs : Nat → Int32} (hnt : l.stackTraces = false) (E : gs_E p s m #[Value.ref b] c c_Lw_law wW R_Lw) (hml : c.maxLocals = 7) (hK : gs_K D k s) (hX : gs_X zb s s.heap) (hXs : va_X b L xs s s.heap) (hbl : b < s.heap.size) (hbz : b < zb) (hL : L ≤ 3586) {i o mo out : Nat} (hi : i + 7 ≤ L) {C9 S9 : Nat} (hC9 : C9 + 4 ≤ 659066) (hS9 : S9 + 25 ≤ 7118872) {G : Nat → Option va_E} {th : Int32} {ou : Nat → Int64} {H : Heap} {locs : List Loc} {ls : Array Slot} (hI : InvT k G o mo out th ou) (hG : gs_W D classes zb G H) (hS : gs_S zb s.heap H locs) (hl : lv_has ls 7 [(0, .ref b), (1, .ref o), (2, .ref mo), (3, .ref out), (4, .int (nI i))]) (hnext : ∀ (G2 : Nat → Option va_E) (th2 : Int32) (ou2 : Nat → Int64) (H2 : Heap) (locs2 : List Loc) (ls2 : Array Slot), InvT k G2 o mo out th2 ou2 → gs_W D classes zb G2 H2 → gs_S zb s.heap H2 locs2 → lv_has ls2 7 [(0, .ref b), (1, .ref o), (2, .ref mo), (3, .ref out), (4, .int (nI i))] → W p l e room_1 s m #[Value.ref b] below meth c H2 locs2 (C9 + 4) (S9 + 25) Q (F0 m 1307 ls2 [])) : W p l e room_1 s m #[Value.ref b] below meth c H locs C9 S9 Q (F0 m 967 ls []) := by
  obtain ⟨hx, hb, hw, hown⟩ := id E
  obtain ⟨aB, aW, aH, aS, aT, wn, hn, nb, nw, ba, wa, ha, bf, hf, wf, sh, tk, cB, cT, cS, cL, cW, bx, tr, su, li, wi, l1, l2, l3, l4, hC, hM, hv, hh, hwf, ho⟩ := hI
  refine lv_aload_n hx hb d_Lw_law_967 rfl (lv_at hl 1 rfl) ?_
  refine lv_aload_n hx hb d_Lw_law_968 rfl (lv_at hl 0 rfl) ?_
  refine lv_iload hx hb d_Lw_law_969 (lv_at hl 4 rfl) ?_
  refine lv_iconst (v := 1) hx hb d_Lw_law_971 (by decide) ?_
  refine lv_iadd hx hb d_Lw_law_972 ?_
  refine lv_topE (show (nI i) + 1 = nI (i + 1) from nI_add i 1) ?_
  refine va_sld hx hb hXs hbl (Nat.not_le.mpr hbz) hS (vp_in_nI (n := (i + 1)) (by omega) (by omega)) d_Lw_law_973 ?_
  refine lv_topE (show xs (nI (i + 1)).toNatClampNeg = xs (i + 1) from by rw [nI_clamp (by omega)]) ?_
  refine lv_aload_n hx hb d_Lw_law_974 rfl (lv_at hl 0 rfl) ?_
  refine lv_iload hx hb d_Lw_law_975 (lv_at hl 4 rfl) ?_
  refine lv_iconst (v := 2) hx hb d_Lw_law_977 (by decide) ?_
  refine lv_iadd hx hb d_Lw_law_978 ?_
  refine lv_topE (show (nI i) + 2 = nI (i + 2) from nI_add i 2) ?_
  refine va_sld hx hb hXs hbl (Nat.not_le.mpr hbz) hS (vp_in_nI (n := (i + 2)) (by omega) (by omega)) d_Lw_law_979 ?_
  refine lv_topE (show xs (nI (i + 2)).toNatClampNeg = xs (i + 2) from by rw [nI_clamp (by omega)]) ?_
  refine lv_aload_n hx hb d_Lw_law_980 rfl (lv_at hl 3 rfl) ?_
  refine gs_StW (As := [.ref o, .int (xs (i + 1)), .int (xs (i + 2)), .ref out]) (rest := []) (k_Lw_lit l hnt D k zb G o aB aW aH aS aT wn hn nb nw ba wa ha bf hf wf sh tk out ou (xs (i + 1)) (xs (i + 2)) hC ho) E hml hl.1 (cg_SW hw w_395 w_393 w_0 w_394 hd_Lw_lit ⟨by exact Nat.le_of_ble_eq_true rfl, by exact Nat.le_of_ble_eq_true rfl⟩) hG hK hX hS rfl rfl (by exact Nat.le_of_ble_eq_true rfl) d_Lw_law_981 ⟨Nat.le_trans (show C9 + 0 + 2 ≤ 659066 by omega) (by exact Nat.le_of_ble_eq_true rfl), Nat.le_trans (show S9 + 0 + 12 ≤ 7118872 by omega) (by exact Nat.le_of_ble_eq_true rfl)⟩ (fun v G1 H locs hp hG hS => ?_)
  obtain ⟨kk, hv1, hM1, hmid⟩ := mid_lit hC hM hv hh hwf ho hp
  subst hv1
  refine W.eq (g2 := F0 m 984 ls [.int kk]) rfl ?_
  refine lv_istore (lv' := [(5, .int kk), (0, .ref b), (1, .ref o), (2, .ref mo), (3, .ref out), (4, .int (nI i))]) hx hb d_Lw_law_984 hl (by decide) rfl (fun ls hl => ?_)
  refine lv_aload_n hx hb d_Lw_law_986 rfl (lv_at hl 3 rfl) ?_
  refine lv_aload_n hx hb d_Lw_law_987 rfl (lv_at hl 1 rfl) ?_
  refine lv_iload hx hb d_Lw_law_988 (lv_at hl 5 rfl) ?_
  refine lv_iconst (v := 1) hx hb d_Lw_law_990 (by decide) ?_
  refine lv_iadd hx hb d_Lw_law_991 ?_
  refine lv_topE (show (nI i) + 1 = nI (i + 1) from nI_add i 1) ?_
  refine va_sld hx hb hXs hbl (Nat.not_le.mpr hbz) hS (vp_in_nI (n := (i + 1)) (by omega) (by omega)) d_Lw_law_992 ?_
  refine lv_topE (show xs (nI (i + 1)).toNatClampNeg = xs (i + 1) from by rw [nI_clamp (by omega)]) ?_
  refine lv_aload_n hx hb d_Lw_law_993 rfl (lv_at hl 1 rfl) ?_
  refine lv_iload hx hb d_Lw_law_994 (lv_at hl 5 rfl) ?_
  refine lv_iconst (v := 2) hx hb d_Lw_law_996 (by decide) ?_
  refine lv_iadd hx hb d_Lw_law_997 ?_
  refine lv_topE (show (nI i) + 2 = nI (i + 2) from nI_add i 2) ?_
  refine va_sld hx hb hXs hbl (Nat.not_le.mpr hbz) hS (vp_in_nI (n := (i + 2)) (by omega) (by omega)) d_Lw_law_998 ?_
  refine lv_topE (show xs (nI (i + 2)).toNatClampNeg = xs (i + 2) from by rw [nI_clamp (by omega)]) ?_
  refine gs_V (As := [.int (xs (i + 1)), .int (xs (i + 2))]) (rest := []) (k_Md_lit l D k zb G1 mo cB cT cS cL cW th wn hn nb nw bx tr su li wi l1 l2 l3 l4 wf (xs (i + 1)) (xs (i + 2)) hM1 hC.2.1.1 hC.2.1.2.1 ⟨hC.2.1.2.2.1, hC.2.1.2.2.2.1⟩ ⟨hC.2.1.2.2.2.2.1, hC.2.1.2.2.2.2.2⟩ hwf) E hml hl.1 (cg_V (C := R_Md) hw w_604 w_601 w_4 w_602 sel_Md_lit hd_Md_lit ⟨by exact Nat.le_of_ble_eq_true rfl, by exact Nat.le_of_ble_eq_true rfl⟩) hG hK hX hS hM1.1 rfl rfl rfl rfl (by exact Nat.le_of_ble_eq_true rfl) d_Lw_law_999 ⟨Nat.le_trans (show C9 + 2 + 0 ≤ 659066 by omega) (by exact Nat.le_of_ble_eq_true rfl), Nat.le_trans (show S9 + 12 + 0 ≤ 7118872 by omega) (by exact Nat.le_of_ble_eq_true rfl)⟩ (fun v G1 H locs hp hG hS => ?_)
  obtain ⟨r, ou2, hv2, hI2, hval⟩ := hmid _ _ hp
  subst hv2
  have hI3 := hI2
  obtain ⟨aB, aW, aH, aS, aT, wn, hn, nb, nw, ba, wa, ha, bf, hf, wf, sh, tk, cB, cT, cS, cL, cW, bx, tr, su, li, wi, l1, l2, l3, l4, hC, hM, hv, hh, hwf, ho⟩ := hI2
  refine W.eq (g2 := F0 m 1002 ls [.int r]) rfl ?_
  refine lv_istore (lv' := [(6, .int r), (5, .int kk), (0, .ref b), (1, .ref o), (2, .ref mo), (3, .ref out), (4, .int (nI i))]) hx hb d_Lw_law_1002 hl (by decide) rfl (fun ls hl => ?_)
  refine lv_aload_n hx hb d_Lw_law_1004 rfl (lv_at hl 4 rfl) ?_
  refine gs_V (As := []) (rest := []) (k_Md_thrown l D k zb G1 mo cB cT cS cL cW kk wn hn nb nw bx tr su li wi l1 l2 l3 l4 hM) E hml hl.1 (cg_V (C := R_Md) hw w_510 w_507 w_4 w_508 sel_Md_thrown hd_Md_thrown ⟨by exact Nat.le_of_ble_eq_true rfl, by exact Nat.le_of_ble_eq_true rfl⟩) hG hK hX hS hM.1 rfl rfl rfl rfl (by exact Nat.le_of_ble_eq_true rfl) d_Lw_law_1005 ⟨Nat.le_trans (show C9 + 2 + 0 ≤ 659066 by omega) (by exact Nat.le_of_ble_eq_true rfl), Nat.le_trans (show S9 + 12 + 0 ≤ 7118872 by omega) (by exact Nat.le_of_ble_eq_true rfl)⟩ (fun v G1 H locs hp hG hS => ?_)
  obtain ⟨hv1, hG1⟩ := hp
  subst hv1
  rw [hG1] at hG
  refine W.eq (g2 := F0 m 1008 ls [.int kk]) rfl ?_
  refine lv_iload hx hb d_Lw_law_1008 (lv_at hl 1 rfl) ?_
  refine lv_icmp_eq (tgt := 1015) hx hb d_Lw_law_1010 (by decide) (fun c_1 => ?_) (fun c_1 => ?_)
  · refine lv_iload hx hb d_Lw_law_1015 (lv_at hl 1 rfl) ?_
    refine lv_if_ne (tgt := 1032) hx hb d_Lw_law_1017 (by decide) (fun c_2 => ?_) (fun c_2 => ?_)
    · refine lv_goto (tgt := 1307) hx hb d_Lw_law_1032 (by decide) ?_
      refine W.widen (k := C9 + 4) (n := S9 + 25) (by show C9 + 2 ≤ C9 + 4; omega) (by show S9 + 12 ≤ S9 + 25; omega) ?_
      exact hnext _ kk ou2 _ _ ls hI3 hG hS (lv_sub hl [2, 3, 4, 5, 6] rfl)
    · refine lv_aload_n hx hb d_Lw_law_1020 rfl (lv_at hl 5 rfl) ?_
      refine lv_iconst (v := 0) hx hb d_Lw_law_1021 (by decide) ?_
      refine gn_lald E hK.1 hG ho 1 rfl (j := 0) (by decide) (by decide) d_Lw_law_1022 ?_
      refine lv_iload hx hb d_Lw_law_1023 (lv_at hl 0 rfl) ?_
      refine lv_i2l hx hb d_Lw_law_1025 rfl ?_
      refine W.lcmp hx hb d_Lw_law_1026 ?_
      refine lv_if_eq (tgt := 1032) hx hb d_Lw_law_1027 (by decide) (fun c_3 => ?_) (fun c_3 => ?_)
      · rw [lg_cmp_eq] at c_3
        refine lv_goto (tgt := 1307) hx hb d_Lw_law_1032 (by decide) ?_
        refine W.widen (k := C9 + 4) (n := S9 + 25) (by show C9 + 2 ≤ C9 + 4; omega) (by show S9 + 12 ≤ S9 + 25; omega) ?_
        exact hnext _ kk ou2 _ _ ls hI3 hG hS (lv_sub hl [2, 3, 4, 5, 6] rfl)
      · rw [lg_cmp_eq] at c_3
        exact absurd (hval c_2) c_3
  · exact absurd rfl c_1
set_option maxHeartbeats 4000000 in
set_option maxRecDepth 100000 in
theorem lc_brightest {p : Program} {l : Launch} {e : Env} {s : State} {m : MethodId} {below : List Frame} {meth : Method} {c : Code} {Q : State → Prop} {D : va_G} {k : Nat → ClassId} {zb b L : Nat} {xs : Nat → Int32} (hnt : l.stackTraces = false) (E : gs_E p s m #[Value.ref b] c c_Lw_law wW R_Lw) (hml : c.maxLocals = 7) (hK : gs_K D k s) (hX : gs_X zb s s.heap) (hXs : va_X b L xs s s.heap) (hbl : b < s.heap.size) (hbz : b < zb) (hL : L ≤ 3586) {i o mo out : Nat} (hi : i + 7 ≤ L) {C9 S9 : Nat} (hC9 : C9 + 4 ≤ 659066) (hS9 : S9 + 25 ≤ 7118872) {G : Nat → Option va_E} {th : Int32} {ou : Nat → Int64} {H : Heap} {locs : List Loc} {ls : Array Slot} (hI : InvT k G o mo out th ou) (hG : gs_W D classes zb G H) (hS : gs_S zb s.heap H locs) (hl : lv_has ls 7 [(0, .ref b), (1, .ref o), (2, .ref mo), (3, .ref out), (4, .int (nI i))]) (hnext : ∀ (G2 : Nat → Option va_E) (th2 : Int32) (ou2 : Nat → Int64) (H2 : Heap) (locs2 : List Loc) (ls2 : Array Slot), InvT k G2 o mo out th2 ou2 → gs_W D classes zb G2 H2 → gs_S zb s.heap H2 locs2 → lv_has ls2 7 [(0, .ref b), (1, .ref o), (2, .ref mo), (3, .ref out), (4, .int (nI i))] → W p l e room_1 s m #[Value.ref b] below meth c H2 locs2 (C9 + 4) (S9 + 25) Q (F0 m 1307 ls2 [])) : W p l e room_1 s m #[Value.ref b] below meth c H locs C9 S9 Q (F0 m 1035 ls []) := by
  obtain ⟨hx, hb, hw, hown⟩ := id E
  obtain ⟨aB, aW, aH, aS, aT, wn, hn, nb, nw, ba, wa, ha, bf, hf, wf, sh, tk, cB, cT, cS, cL, cW, bx, tr, su, li, wi, l1, l2, l3, l4, hC, hM, hv, hh, hwf, ho⟩ := hI
  refine lv_aload_n hx hb d_Lw_law_1035 rfl (lv_at hl 1 rfl) ?_
  refine lv_aload_n hx hb d_Lw_law_1036 rfl (lv_at hl 0 rfl) ?_
  refine lv_iload hx hb d_Lw_law_1037 (lv_at hl 4 rfl) ?_
  refine lv_iconst (v := 1) hx hb d_Lw_law_1039 (by decide) ?_
  refine lv_iadd hx hb d_Lw_law_1040 ?_
  refine lv_topE (show (nI i) + 1 = nI (i + 1) from nI_add i 1) ?_
  refine va_sld hx hb hXs hbl (Nat.not_le.mpr hbz) hS (vp_in_nI (n := (i + 1)) (by omega) (by omega)) d_Lw_law_1041 ?_
  refine lv_topE (show xs (nI (i + 1)).toNatClampNeg = xs (i + 1) from by rw [nI_clamp (by omega)]) ?_
  refine lv_aload_n hx hb d_Lw_law_1042 rfl (lv_at hl 3 rfl) ?_
  refine gs_StW (As := [.ref o, .int (xs (i + 1)), .ref out]) (rest := []) (k_Lw_brightest l hnt D k zb G o aB aW aH aS aT wn hn nb nw ba wa ha bf hf wf sh tk out ou (xs (i + 1)) hC ho) E hml hl.1 (cg_SW hw w_410 w_408 w_0 w_409 hd_Lw_brightest ⟨by exact Nat.le_of_ble_eq_true rfl, by exact Nat.le_of_ble_eq_true rfl⟩) hG hK hX hS rfl rfl (by exact Nat.le_of_ble_eq_true rfl) d_Lw_law_1043 ⟨Nat.le_trans (show C9 + 0 + 1 ≤ 659066 by omega) (by exact Nat.le_of_ble_eq_true rfl), Nat.le_trans (show S9 + 0 + 6 ≤ 7118872 by omega) (by exact Nat.le_of_ble_eq_true rfl)⟩ (fun v G1 H locs hp hG hS => ?_)
  obtain ⟨kk, hv1, hM1, hmid⟩ := mid_brightest hC hM hv hh hwf ho hp
  subst hv1
  refine W.eq (g2 := F0 m 1046 ls [.int kk]) rfl ?_
  refine lv_istore (lv' := [(5, .int kk), (0, .ref b), (1, .ref o), (2, .ref mo), (3, .ref out), (4, .int (nI i))]) hx hb d_Lw_law_1046 hl (by decide) rfl (fun ls hl => ?_)
  refine lv_aload_n hx hb d_Lw_law_1048 rfl (lv_at hl 3 rfl) ?_
  refine lv_aload_n hx hb d_Lw_law_1049 rfl (lv_at hl 1 rfl) ?_
  refine lv_iload hx hb d_Lw_law_1050 (lv_at hl 5 rfl) ?_
  refine lv_iconst (v := 1) hx hb d_Lw_law_1052 (by decide) ?_
  refine lv_iadd hx hb d_Lw_law_1053 ?_
  refine lv_topE (show (nI i) + 1 = nI (i + 1) from nI_add i 1) ?_
  refine va_sld hx hb hXs hbl (Nat.not_le.mpr hbz) hS (vp_in_nI (n := (i + 1)) (by omega) (by omega)) d_Lw_law_1054 ?_
  refine lv_topE (show xs (nI (i + 1)).toNatClampNeg = xs (i + 1) from by rw [nI_clamp (by omega)]) ?_
  refine gs_V (As := [.int (xs (i + 1))]) (rest := []) (k_Md_brightest l D k zb G1 mo cB cT cS cL cW th wn hn nb nw bx tr su li wi l1 l2 l3 l4 wf (xs (i + 1)) hM1 hC.2.1.1 hC.2.1.2.1 ⟨hC.2.1.2.2.1, hC.2.1.2.2.2.1⟩ ⟨hC.2.1.2.2.2.2.1, hC.2.1.2.2.2.2.2⟩ hwf) E hml hl.1 (cg_V (C := R_Md) hw w_616 w_613 w_4 w_614 sel_Md_brightest hd_Md_brightest ⟨by exact Nat.le_of_ble_eq_true rfl, by exact Nat.le_of_ble_eq_true rfl⟩) hG hK hX hS hM1.1 rfl rfl rfl rfl (by exact Nat.le_of_ble_eq_true rfl) d_Lw_law_1055 ⟨Nat.le_trans (show C9 + 1 + 0 ≤ 659066 by omega) (by exact Nat.le_of_ble_eq_true rfl), Nat.le_trans (show S9 + 6 + 0 ≤ 7118872 by omega) (by exact Nat.le_of_ble_eq_true rfl)⟩ (fun v G1 H locs hp hG hS => ?_)
  obtain ⟨r, ou2, hv2, hI2, hval⟩ := hmid _ _ hp
  subst hv2
  have hI3 := hI2
  obtain ⟨aB, aW, aH, aS, aT, wn, hn, nb, nw, ba, wa, ha, bf, hf, wf, sh, tk, cB, cT, cS, cL, cW, bx, tr, su, li, wi, l1, l2, l3, l4, hC, hM, hv, hh, hwf, ho⟩ := hI2
  refine W.eq (g2 := F0 m 1058 ls [.int r]) rfl ?_
  refine lv_istore (lv' := [(6, .int r), (5, .int kk), (0, .ref b), (1, .ref o), (2, .ref mo), (3, .ref out), (4, .int (nI i))]) hx hb d_Lw_law_1058 hl (by decide) rfl (fun ls hl => ?_)
  refine lv_aload_n hx hb d_Lw_law_1060 rfl (lv_at hl 4 rfl) ?_
  refine gs_V (As := []) (rest := []) (k_Md_thrown l D k zb G1 mo cB cT cS cL cW kk wn hn nb nw bx tr su li wi l1 l2 l3 l4 hM) E hml hl.1 (cg_V (C := R_Md) hw w_510 w_507 w_4 w_508 sel_Md_thrown hd_Md_thrown ⟨by exact Nat.le_of_ble_eq_true rfl, by exact Nat.le_of_ble_eq_true rfl⟩) hG hK hX hS hM.1 rfl rfl rfl rfl (by exact Nat.le_of_ble_eq_true rfl) d_Lw_law_1061 ⟨Nat.le_trans (show C9 + 1 + 0 ≤ 659066 by omega) (by exact Nat.le_of_ble_eq_true rfl), Nat.le_trans (show S9 + 6 + 0 ≤ 7118872 by omega) (by exact Nat.le_of_ble_eq_true rfl)⟩ (fun v G1 H locs hp hG hS => ?_)
  obtain ⟨hv1, hG1⟩ := hp
  subst hv1
  rw [hG1] at hG
  refine W.eq (g2 := F0 m 1064 ls [.int kk]) rfl ?_
  refine lv_iload hx hb d_Lw_law_1064 (lv_at hl 1 rfl) ?_
  refine lv_icmp_eq (tgt := 1071) hx hb d_Lw_law_1066 (by decide) (fun c_1 => ?_) (fun c_1 => ?_)
  · refine lv_iload hx hb d_Lw_law_1071 (lv_at hl 1 rfl) ?_
    refine lv_if_ne (tgt := 1088) hx hb d_Lw_law_1073 (by decide) (fun c_2 => ?_) (fun c_2 => ?_)
    · refine lv_goto (tgt := 1307) hx hb d_Lw_law_1088 (by decide) ?_
      refine W.widen (k := C9 + 4) (n := S9 + 25) (by show C9 + 1 ≤ C9 + 4; omega) (by show S9 + 6 ≤ S9 + 25; omega) ?_
      exact hnext _ kk ou2 _ _ ls hI3 hG hS (lv_sub hl [2, 3, 4, 5, 6] rfl)
    · refine lv_aload_n hx hb d_Lw_law_1076 rfl (lv_at hl 5 rfl) ?_
      refine lv_iconst (v := 0) hx hb d_Lw_law_1077 (by decide) ?_
      refine gn_lald E hK.1 hG ho 1 rfl (j := 0) (by decide) (by decide) d_Lw_law_1078 ?_
      refine lv_iload hx hb d_Lw_law_1079 (lv_at hl 0 rfl) ?_
      refine lv_i2l hx hb d_Lw_law_1081 rfl ?_
      refine W.lcmp hx hb d_Lw_law_1082 ?_
      refine lv_if_eq (tgt := 1088) hx hb d_Lw_law_1083 (by decide) (fun c_3 => ?_) (fun c_3 => ?_)
      · rw [lg_cmp_eq] at c_3
        refine lv_goto (tgt := 1307) hx hb d_Lw_law_1088 (by decide) ?_
        refine W.widen (k := C9 + 4) (n := S9 + 25) (by show C9 + 1 ≤ C9 + 4; omega) (by show S9 + 6 ≤ S9 + 25; omega) ?_
        exact hnext _ kk ou2 _ _ ls hI3 hG hS (lv_sub hl [2, 3, 4, 5, 6] rfl)
      · rw [lg_cmp_eq] at c_3
        exact absurd (hval c_2) c_3
  · exact absurd rfl c_1
set_option maxHeartbeats 4000000 in
set_option maxRecDepth 100000 in
theorem lc_ledge {p : Program} {l : Launch} {e : Env} {s : State} {m : MethodId} {below : List Frame} {meth : Method} {c : Code} {Q : State → Prop} {D : va_G} {k : Nat → ClassId} {zb b L : Nat} {xs : Nat → Int32} (hnt : l.stackTraces = false) (E : gs_E p s m #[Value.ref b] c c_Lw_law wW R_Lw) (hml : c.maxLocals = 7) (hK : gs_K D k s) (hX : gs_X zb s s.heap) (hXs : va_X b L xs s s.heap) (hbl : b < s.heap.size) (hbz : b < zb) (hL : L ≤ 3586) {i o mo out : Nat} (hi : i + 7 ≤ L) {C9 S9 : Nat} (hC9 : C9 + 4 ≤ 659066) (hS9 : S9 + 25 ≤ 7118872) {G : Nat → Option va_E} {th : Int32} {ou : Nat → Int64} {H : Heap} {locs : List Loc} {ls : Array Slot} (hI : InvT k G o mo out th ou) (hG : gs_W D classes zb G H) (hS : gs_S zb s.heap H locs) (hl : lv_has ls 7 [(0, .ref b), (1, .ref o), (2, .ref mo), (3, .ref out), (4, .int (nI i))]) (hnext : ∀ (G2 : Nat → Option va_E) (th2 : Int32) (ou2 : Nat → Int64) (H2 : Heap) (locs2 : List Loc) (ls2 : Array Slot), InvT k G2 o mo out th2 ou2 → gs_W D classes zb G2 H2 → gs_S zb s.heap H2 locs2 → lv_has ls2 7 [(0, .ref b), (1, .ref o), (2, .ref mo), (3, .ref out), (4, .int (nI i))] → W p l e room_1 s m #[Value.ref b] below meth c H2 locs2 (C9 + 4) (S9 + 25) Q (F0 m 1307 ls2 [])) : W p l e room_1 s m #[Value.ref b] below meth c H locs C9 S9 Q (F0 m 1091 ls []) := by
  obtain ⟨hx, hb, hw, hown⟩ := id E
  obtain ⟨aB, aW, aH, aS, aT, wn, hn, nb, nw, ba, wa, ha, bf, hf, wf, sh, tk, cB, cT, cS, cL, cW, bx, tr, su, li, wi, l1, l2, l3, l4, hC, hM, hv, hh, hwf, ho⟩ := hI
  refine lv_aload_n hx hb d_Lw_law_1091 rfl (lv_at hl 1 rfl) ?_
  refine lv_aload_n hx hb d_Lw_law_1092 rfl (lv_at hl 0 rfl) ?_
  refine lv_iload hx hb d_Lw_law_1093 (lv_at hl 4 rfl) ?_
  refine lv_iconst (v := 1) hx hb d_Lw_law_1095 (by decide) ?_
  refine lv_iadd hx hb d_Lw_law_1096 ?_
  refine lv_topE (show (nI i) + 1 = nI (i + 1) from nI_add i 1) ?_
  refine va_sld hx hb hXs hbl (Nat.not_le.mpr hbz) hS (vp_in_nI (n := (i + 1)) (by omega) (by omega)) d_Lw_law_1097 ?_
  refine lv_topE (show xs (nI (i + 1)).toNatClampNeg = xs (i + 1) from by rw [nI_clamp (by omega)]) ?_
  refine lv_aload_n hx hb d_Lw_law_1098 rfl (lv_at hl 0 rfl) ?_
  refine lv_iload hx hb d_Lw_law_1099 (lv_at hl 4 rfl) ?_
  refine lv_iconst (v := 2) hx hb d_Lw_law_1101 (by decide) ?_
  refine lv_iadd hx hb d_Lw_law_1102 ?_
  refine lv_topE (show (nI i) + 2 = nI (i + 2) from nI_add i 2) ?_
  refine va_sld hx hb hXs hbl (Nat.not_le.mpr hbz) hS (vp_in_nI (n := (i + 2)) (by omega) (by omega)) d_Lw_law_1103 ?_
  refine lv_topE (show xs (nI (i + 2)).toNatClampNeg = xs (i + 2) from by rw [nI_clamp (by omega)]) ?_
  refine lv_aload_n hx hb d_Lw_law_1104 rfl (lv_at hl 0 rfl) ?_
  refine lv_iload hx hb d_Lw_law_1105 (lv_at hl 4 rfl) ?_
  refine lv_iconst (v := 3) hx hb d_Lw_law_1107 (by decide) ?_
  refine lv_iadd hx hb d_Lw_law_1108 ?_
  refine lv_topE (show (nI i) + 3 = nI (i + 3) from nI_add i 3) ?_
  refine va_sld hx hb hXs hbl (Nat.not_le.mpr hbz) hS (vp_in_nI (n := (i + 3)) (by omega) (by omega)) d_Lw_law_1109 ?_
  refine lv_topE (show xs (nI (i + 3)).toNatClampNeg = xs (i + 3) from by rw [nI_clamp (by omega)]) ?_
  refine lv_aload_n hx hb d_Lw_law_1110 rfl (lv_at hl 3 rfl) ?_
  refine gs_StW (As := [.ref o, .int (xs (i + 1)), .int (xs (i + 2)), .int (xs (i + 3)), .ref out]) (rest := []) (k_Lw_ledge l hnt D k zb G o aB aW aH aS aT wn hn nb nw ba wa ha bf hf wf sh tk out ou (xs (i + 1)) (xs (i + 2)) (xs (i + 3)) hC ho) E hml hl.1 (cg_SW hw w_417 w_415 w_0 w_416 hd_Lw_ledge ⟨by exact Nat.le_of_ble_eq_true rfl, by exact Nat.le_of_ble_eq_true rfl⟩) hG hK hX hS rfl rfl (by exact Nat.le_of_ble_eq_true rfl) d_Lw_law_1111 ⟨Nat.le_trans (show C9 + 0 + 4 ≤ 659066 by omega) (by exact Nat.le_of_ble_eq_true rfl), Nat.le_trans (show S9 + 0 + 25 ≤ 7118872 by omega) (by exact Nat.le_of_ble_eq_true rfl)⟩ (fun v G1 H locs hp hG hS => ?_)
  obtain ⟨kk, hv1, hM1, hmid⟩ := mid_ledge hC hM hv hh hwf ho hp
  subst hv1
  refine W.eq (g2 := F0 m 1114 ls [.int kk]) rfl ?_
  refine lv_istore (lv' := [(5, .int kk), (0, .ref b), (1, .ref o), (2, .ref mo), (3, .ref out), (4, .int (nI i))]) hx hb d_Lw_law_1114 hl (by decide) rfl (fun ls hl => ?_)
  refine lv_aload_n hx hb d_Lw_law_1116 rfl (lv_at hl 3 rfl) ?_
  refine lv_aload_n hx hb d_Lw_law_1117 rfl (lv_at hl 1 rfl) ?_
  refine lv_iload hx hb d_Lw_law_1118 (lv_at hl 5 rfl) ?_
  refine lv_iconst (v := 1) hx hb d_Lw_law_1120 (by decide) ?_
  refine lv_iadd hx hb d_Lw_law_1121 ?_
  refine lv_topE (show (nI i) + 1 = nI (i + 1) from nI_add i 1) ?_
  refine va_sld hx hb hXs hbl (Nat.not_le.mpr hbz) hS (vp_in_nI (n := (i + 1)) (by omega) (by omega)) d_Lw_law_1122 ?_
  refine lv_topE (show xs (nI (i + 1)).toNatClampNeg = xs (i + 1) from by rw [nI_clamp (by omega)]) ?_
  refine lv_aload_n hx hb d_Lw_law_1123 rfl (lv_at hl 1 rfl) ?_
  refine lv_iload hx hb d_Lw_law_1124 (lv_at hl 5 rfl) ?_
  refine lv_iconst (v := 2) hx hb d_Lw_law_1126 (by decide) ?_
  refine lv_iadd hx hb d_Lw_law_1127 ?_
  refine lv_topE (show (nI i) + 2 = nI (i + 2) from nI_add i 2) ?_
  refine va_sld hx hb hXs hbl (Nat.not_le.mpr hbz) hS (vp_in_nI (n := (i + 2)) (by omega) (by omega)) d_Lw_law_1128 ?_
  refine lv_topE (show xs (nI (i + 2)).toNatClampNeg = xs (i + 2) from by rw [nI_clamp (by omega)]) ?_
  refine lv_aload_n hx hb d_Lw_law_1129 rfl (lv_at hl 1 rfl) ?_
  refine lv_iload hx hb d_Lw_law_1130 (lv_at hl 5 rfl) ?_
  refine lv_iconst (v := 3) hx hb d_Lw_law_1132 (by decide) ?_
  refine lv_iadd hx hb d_Lw_law_1133 ?_
  refine lv_topE (show (nI i) + 3 = nI (i + 3) from nI_add i 3) ?_
  refine va_sld hx hb hXs hbl (Nat.not_le.mpr hbz) hS (vp_in_nI (n := (i + 3)) (by omega) (by omega)) d_Lw_law_1134 ?_
  refine lv_topE (show xs (nI (i + 3)).toNatClampNeg = xs (i + 3) from by rw [nI_clamp (by omega)]) ?_
  refine gs_V (As := [.int (xs (i + 1)), .int (xs (i + 2)), .int (xs (i + 3))]) (rest := []) (k_Md_ledge l D k zb G1 mo cB cT cS cL cW th wn hn nb nw bx tr su li wi l1 l2 l3 l4 wf (xs (i + 1)) (xs (i + 2)) (xs (i + 3)) hM1 hC.2.1.1 hC.2.1.2.1 ⟨hC.2.1.2.2.1, hC.2.1.2.2.2.1⟩ ⟨hC.2.1.2.2.2.2.1, hC.2.1.2.2.2.2.2⟩ hwf) E hml hl.1 (cg_V (C := R_Md) hw w_620 w_617 w_4 w_618 sel_Md_ledge hd_Md_ledge ⟨by exact Nat.le_of_ble_eq_true rfl, by exact Nat.le_of_ble_eq_true rfl⟩) hG hK hX hS hM1.1 rfl rfl rfl rfl (by exact Nat.le_of_ble_eq_true rfl) d_Lw_law_1135 ⟨Nat.le_trans (show C9 + 4 + 0 ≤ 659066 by omega) (by exact Nat.le_of_ble_eq_true rfl), Nat.le_trans (show S9 + 25 + 0 ≤ 7118872 by omega) (by exact Nat.le_of_ble_eq_true rfl)⟩ (fun v G1 H locs hp hG hS => ?_)
  obtain ⟨r, ou2, hv2, hI2, hval⟩ := hmid _ _ hp
  subst hv2
  have hI3 := hI2
  obtain ⟨aB, aW, aH, aS, aT, wn, hn, nb, nw, ba, wa, ha, bf, hf, wf, sh, tk, cB, cT, cS, cL, cW, bx, tr, su, li, wi, l1, l2, l3, l4, hC, hM, hv, hh, hwf, ho⟩ := hI2
  refine W.eq (g2 := F0 m 1138 ls [.int r]) rfl ?_
  refine lv_istore (lv' := [(6, .int r), (5, .int kk), (0, .ref b), (1, .ref o), (2, .ref mo), (3, .ref out), (4, .int (nI i))]) hx hb d_Lw_law_1138 hl (by decide) rfl (fun ls hl => ?_)
  refine lv_aload_n hx hb d_Lw_law_1140 rfl (lv_at hl 4 rfl) ?_
  refine gs_V (As := []) (rest := []) (k_Md_thrown l D k zb G1 mo cB cT cS cL cW kk wn hn nb nw bx tr su li wi l1 l2 l3 l4 hM) E hml hl.1 (cg_V (C := R_Md) hw w_510 w_507 w_4 w_508 sel_Md_thrown hd_Md_thrown ⟨by exact Nat.le_of_ble_eq_true rfl, by exact Nat.le_of_ble_eq_true rfl⟩) hG hK hX hS hM.1 rfl rfl rfl rfl (by exact Nat.le_of_ble_eq_true rfl) d_Lw_law_1141 ⟨Nat.le_trans (show C9 + 4 + 0 ≤ 659066 by omega) (by exact Nat.le_of_ble_eq_true rfl), Nat.le_trans (show S9 + 25 + 0 ≤ 7118872 by omega) (by exact Nat.le_of_ble_eq_true rfl)⟩ (fun v G1 H locs hp hG hS => ?_)
  obtain ⟨hv1, hG1⟩ := hp
  subst hv1
  rw [hG1] at hG
  refine W.eq (g2 := F0 m 1144 ls [.int kk]) rfl ?_
  refine lv_iload hx hb d_Lw_law_1144 (lv_at hl 1 rfl) ?_
  refine lv_icmp_eq (tgt := 1151) hx hb d_Lw_law_1146 (by decide) (fun c_1 => ?_) (fun c_1 => ?_)
  · refine lv_iload hx hb d_Lw_law_1151 (lv_at hl 1 rfl) ?_
    refine lv_if_ne (tgt := 1168) hx hb d_Lw_law_1153 (by decide) (fun c_2 => ?_) (fun c_2 => ?_)
    · refine lv_goto (tgt := 1307) hx hb d_Lw_law_1168 (by decide) ?_
      refine W.widen (k := C9 + 4) (n := S9 + 25) (by show C9 + 4 ≤ C9 + 4; omega) (by show S9 + 25 ≤ S9 + 25; omega) ?_
      exact hnext _ kk ou2 _ _ ls hI3 hG hS (lv_sub hl [2, 3, 4, 5, 6] rfl)
    · refine lv_aload_n hx hb d_Lw_law_1156 rfl (lv_at hl 5 rfl) ?_
      refine lv_iconst (v := 0) hx hb d_Lw_law_1157 (by decide) ?_
      refine gn_lald E hK.1 hG ho 1 rfl (j := 0) (by decide) (by decide) d_Lw_law_1158 ?_
      refine lv_iload hx hb d_Lw_law_1159 (lv_at hl 0 rfl) ?_
      refine lv_i2l hx hb d_Lw_law_1161 rfl ?_
      refine W.lcmp hx hb d_Lw_law_1162 ?_
      refine lv_if_eq (tgt := 1168) hx hb d_Lw_law_1163 (by decide) (fun c_3 => ?_) (fun c_3 => ?_)
      · rw [lg_cmp_eq] at c_3
        refine lv_goto (tgt := 1307) hx hb d_Lw_law_1168 (by decide) ?_
        refine W.widen (k := C9 + 4) (n := S9 + 25) (by show C9 + 4 ≤ C9 + 4; omega) (by show S9 + 25 ≤ S9 + 25; omega) ?_
        exact hnext _ kk ou2 _ _ ls hI3 hG hS (lv_sub hl [2, 3, 4, 5, 6] rfl)
      · rw [lg_cmp_eq] at c_3
        exact absurd (hval c_2) c_3
  · exact absurd rfl c_1
set_option maxHeartbeats 4000000 in
set_option maxRecDepth 100000 in
theorem lc_deep {p : Program} {l : Launch} {e : Env} {s : State} {m : MethodId} {below : List Frame} {meth : Method} {c : Code} {Q : State → Prop} {D : va_G} {k : Nat → ClassId} {zb b L : Nat} {xs : Nat → Int32} (hnt : l.stackTraces = false) (E : gs_E p s m #[Value.ref b] c c_Lw_law wW R_Lw) (hml : c.maxLocals = 7) (hK : gs_K D k s) (hX : gs_X zb s s.heap) (hXs : va_X b L xs s s.heap) (hbl : b < s.heap.size) (hbz : b < zb) (hL : L ≤ 3586) {i o mo out : Nat} (hi : i + 7 ≤ L) {C9 S9 : Nat} (hC9 : C9 + 4 ≤ 659066) (hS9 : S9 + 25 ≤ 7118872) {G : Nat → Option va_E} {th : Int32} {ou : Nat → Int64} {H : Heap} {locs : List Loc} {ls : Array Slot} (hI : InvT k G o mo out th ou) (hG : gs_W D classes zb G H) (hS : gs_S zb s.heap H locs) (hl : lv_has ls 7 [(0, .ref b), (1, .ref o), (2, .ref mo), (3, .ref out), (4, .int (nI i))]) (hnext : ∀ (G2 : Nat → Option va_E) (th2 : Int32) (ou2 : Nat → Int64) (H2 : Heap) (locs2 : List Loc) (ls2 : Array Slot), InvT k G2 o mo out th2 ou2 → gs_W D classes zb G2 H2 → gs_S zb s.heap H2 locs2 → lv_has ls2 7 [(0, .ref b), (1, .ref o), (2, .ref mo), (3, .ref out), (4, .int (nI i))] → W p l e room_1 s m #[Value.ref b] below meth c H2 locs2 (C9 + 4) (S9 + 25) Q (F0 m 1307 ls2 [])) : W p l e room_1 s m #[Value.ref b] below meth c H locs C9 S9 Q (F0 m 1171 ls []) := by
  obtain ⟨hx, hb, hw, hown⟩ := id E
  obtain ⟨aB, aW, aH, aS, aT, wn, hn, nb, nw, ba, wa, ha, bf, hf, wf, sh, tk, cB, cT, cS, cL, cW, bx, tr, su, li, wi, l1, l2, l3, l4, hC, hM, hv, hh, hwf, ho⟩ := hI
  refine lv_aload_n hx hb d_Lw_law_1171 rfl (lv_at hl 1 rfl) ?_
  refine lv_aload_n hx hb d_Lw_law_1172 rfl (lv_at hl 0 rfl) ?_
  refine lv_iload hx hb d_Lw_law_1173 (lv_at hl 4 rfl) ?_
  refine lv_iconst (v := 1) hx hb d_Lw_law_1175 (by decide) ?_
  refine lv_iadd hx hb d_Lw_law_1176 ?_
  refine lv_topE (show (nI i) + 1 = nI (i + 1) from nI_add i 1) ?_
  refine va_sld hx hb hXs hbl (Nat.not_le.mpr hbz) hS (vp_in_nI (n := (i + 1)) (by omega) (by omega)) d_Lw_law_1177 ?_
  refine lv_topE (show xs (nI (i + 1)).toNatClampNeg = xs (i + 1) from by rw [nI_clamp (by omega)]) ?_
  refine lv_aload_n hx hb d_Lw_law_1178 rfl (lv_at hl 0 rfl) ?_
  refine lv_iload hx hb d_Lw_law_1179 (lv_at hl 4 rfl) ?_
  refine lv_iconst (v := 2) hx hb d_Lw_law_1181 (by decide) ?_
  refine lv_iadd hx hb d_Lw_law_1182 ?_
  refine lv_topE (show (nI i) + 2 = nI (i + 2) from nI_add i 2) ?_
  refine va_sld hx hb hXs hbl (Nat.not_le.mpr hbz) hS (vp_in_nI (n := (i + 2)) (by omega) (by omega)) d_Lw_law_1183 ?_
  refine lv_topE (show xs (nI (i + 2)).toNatClampNeg = xs (i + 2) from by rw [nI_clamp (by omega)]) ?_
  refine lv_aload_n hx hb d_Lw_law_1184 rfl (lv_at hl 0 rfl) ?_
  refine lv_iload hx hb d_Lw_law_1185 (lv_at hl 4 rfl) ?_
  refine lv_iconst (v := 3) hx hb d_Lw_law_1187 (by decide) ?_
  refine lv_iadd hx hb d_Lw_law_1188 ?_
  refine lv_topE (show (nI i) + 3 = nI (i + 3) from nI_add i 3) ?_
  refine va_sld hx hb hXs hbl (Nat.not_le.mpr hbz) hS (vp_in_nI (n := (i + 3)) (by omega) (by omega)) d_Lw_law_1189 ?_
  refine lv_topE (show xs (nI (i + 3)).toNatClampNeg = xs (i + 3) from by rw [nI_clamp (by omega)]) ?_
  refine lv_aload_n hx hb d_Lw_law_1190 rfl (lv_at hl 3 rfl) ?_
  refine gs_StW (As := [.ref o, .int (xs (i + 1)), .int (xs (i + 2)), .int (xs (i + 3)), .ref out]) (rest := []) (k_Lw_deep l hnt D k zb G o aB aW aH aS aT wn hn nb nw ba wa ha bf hf wf sh tk out ou (xs (i + 1)) (xs (i + 2)) (xs (i + 3)) hC ho) E hml hl.1 (cg_SW hw w_431 w_429 w_0 w_430 hd_Lw_deep ⟨by exact Nat.le_of_ble_eq_true rfl, by exact Nat.le_of_ble_eq_true rfl⟩) hG hK hX hS rfl rfl (by exact Nat.le_of_ble_eq_true rfl) d_Lw_law_1191 ⟨Nat.le_trans (show C9 + 0 + 4 ≤ 659066 by omega) (by exact Nat.le_of_ble_eq_true rfl), Nat.le_trans (show S9 + 0 + 25 ≤ 7118872 by omega) (by exact Nat.le_of_ble_eq_true rfl)⟩ (fun v G1 H locs hp hG hS => ?_)
  obtain ⟨kk, hv1, hM1, hmid⟩ := mid_deep hC hM hv hh hwf ho hp
  subst hv1
  refine W.eq (g2 := F0 m 1194 ls [.int kk]) rfl ?_
  refine lv_istore (lv' := [(5, .int kk), (0, .ref b), (1, .ref o), (2, .ref mo), (3, .ref out), (4, .int (nI i))]) hx hb d_Lw_law_1194 hl (by decide) rfl (fun ls hl => ?_)
  refine lv_aload_n hx hb d_Lw_law_1196 rfl (lv_at hl 3 rfl) ?_
  refine lv_aload_n hx hb d_Lw_law_1197 rfl (lv_at hl 1 rfl) ?_
  refine lv_iload hx hb d_Lw_law_1198 (lv_at hl 5 rfl) ?_
  refine lv_iconst (v := 1) hx hb d_Lw_law_1200 (by decide) ?_
  refine lv_iadd hx hb d_Lw_law_1201 ?_
  refine lv_topE (show (nI i) + 1 = nI (i + 1) from nI_add i 1) ?_
  refine va_sld hx hb hXs hbl (Nat.not_le.mpr hbz) hS (vp_in_nI (n := (i + 1)) (by omega) (by omega)) d_Lw_law_1202 ?_
  refine lv_topE (show xs (nI (i + 1)).toNatClampNeg = xs (i + 1) from by rw [nI_clamp (by omega)]) ?_
  refine lv_aload_n hx hb d_Lw_law_1203 rfl (lv_at hl 1 rfl) ?_
  refine lv_iload hx hb d_Lw_law_1204 (lv_at hl 5 rfl) ?_
  refine lv_iconst (v := 2) hx hb d_Lw_law_1206 (by decide) ?_
  refine lv_iadd hx hb d_Lw_law_1207 ?_
  refine lv_topE (show (nI i) + 2 = nI (i + 2) from nI_add i 2) ?_
  refine va_sld hx hb hXs hbl (Nat.not_le.mpr hbz) hS (vp_in_nI (n := (i + 2)) (by omega) (by omega)) d_Lw_law_1208 ?_
  refine lv_topE (show xs (nI (i + 2)).toNatClampNeg = xs (i + 2) from by rw [nI_clamp (by omega)]) ?_
  refine lv_aload_n hx hb d_Lw_law_1209 rfl (lv_at hl 1 rfl) ?_
  refine lv_iload hx hb d_Lw_law_1210 (lv_at hl 5 rfl) ?_
  refine lv_iconst (v := 3) hx hb d_Lw_law_1212 (by decide) ?_
  refine lv_iadd hx hb d_Lw_law_1213 ?_
  refine lv_topE (show (nI i) + 3 = nI (i + 3) from nI_add i 3) ?_
  refine va_sld hx hb hXs hbl (Nat.not_le.mpr hbz) hS (vp_in_nI (n := (i + 3)) (by omega) (by omega)) d_Lw_law_1214 ?_
  refine lv_topE (show xs (nI (i + 3)).toNatClampNeg = xs (i + 3) from by rw [nI_clamp (by omega)]) ?_
  refine gs_V (As := [.int (xs (i + 1)), .int (xs (i + 2)), .int (xs (i + 3))]) (rest := []) (k_Md_deep l D k zb G1 mo cB cT cS cL cW th wn hn nb nw bx tr su li wi l1 l2 l3 l4 wf (xs (i + 1)) (xs (i + 2)) (xs (i + 3)) hM1 hC.2.1.1 hC.2.1.2.1 ⟨hC.2.1.2.2.1, hC.2.1.2.2.2.1⟩ ⟨hC.2.1.2.2.2.2.1, hC.2.1.2.2.2.2.2⟩ hwf) E hml hl.1 (cg_V (C := R_Md) hw w_628 w_625 w_4 w_626 sel_Md_deep hd_Md_deep ⟨by exact Nat.le_of_ble_eq_true rfl, by exact Nat.le_of_ble_eq_true rfl⟩) hG hK hX hS hM1.1 rfl rfl rfl rfl (by exact Nat.le_of_ble_eq_true rfl) d_Lw_law_1215 ⟨Nat.le_trans (show C9 + 4 + 0 ≤ 659066 by omega) (by exact Nat.le_of_ble_eq_true rfl), Nat.le_trans (show S9 + 25 + 0 ≤ 7118872 by omega) (by exact Nat.le_of_ble_eq_true rfl)⟩ (fun v G1 H locs hp hG hS => ?_)
  obtain ⟨r, ou2, hv2, hI2, hval⟩ := hmid _ _ hp
  subst hv2
  have hI3 := hI2
  obtain ⟨aB, aW, aH, aS, aT, wn, hn, nb, nw, ba, wa, ha, bf, hf, wf, sh, tk, cB, cT, cS, cL, cW, bx, tr, su, li, wi, l1, l2, l3, l4, hC, hM, hv, hh, hwf, ho⟩ := hI2
  refine W.eq (g2 := F0 m 1218 ls [.int r]) rfl ?_
  refine lv_istore (lv' := [(6, .int r), (5, .int kk), (0, .ref b), (1, .ref o), (2, .ref mo), (3, .ref out), (4, .int (nI i))]) hx hb d_Lw_law_1218 hl (by decide) rfl (fun ls hl => ?_)
  refine lv_aload_n hx hb d_Lw_law_1220 rfl (lv_at hl 4 rfl) ?_
  refine gs_V (As := []) (rest := []) (k_Md_thrown l D k zb G1 mo cB cT cS cL cW kk wn hn nb nw bx tr su li wi l1 l2 l3 l4 hM) E hml hl.1 (cg_V (C := R_Md) hw w_510 w_507 w_4 w_508 sel_Md_thrown hd_Md_thrown ⟨by exact Nat.le_of_ble_eq_true rfl, by exact Nat.le_of_ble_eq_true rfl⟩) hG hK hX hS hM.1 rfl rfl rfl rfl (by exact Nat.le_of_ble_eq_true rfl) d_Lw_law_1221 ⟨Nat.le_trans (show C9 + 4 + 0 ≤ 659066 by omega) (by exact Nat.le_of_ble_eq_true rfl), Nat.le_trans (show S9 + 25 + 0 ≤ 7118872 by omega) (by exact Nat.le_of_ble_eq_true rfl)⟩ (fun v G1 H locs hp hG hS => ?_)
  obtain ⟨hv1, hG1⟩ := hp
  subst hv1
  rw [hG1] at hG
  refine W.eq (g2 := F0 m 1224 ls [.int kk]) rfl ?_
  refine lv_iload hx hb d_Lw_law_1224 (lv_at hl 1 rfl) ?_
  refine lv_icmp_eq (tgt := 1231) hx hb d_Lw_law_1226 (by decide) (fun c_1 => ?_) (fun c_1 => ?_)
  · refine lv_iload hx hb d_Lw_law_1231 (lv_at hl 1 rfl) ?_
    refine lv_if_ne (tgt := 1248) hx hb d_Lw_law_1233 (by decide) (fun c_2 => ?_) (fun c_2 => ?_)
    · refine lv_goto (tgt := 1307) hx hb d_Lw_law_1248 (by decide) ?_
      refine W.widen (k := C9 + 4) (n := S9 + 25) (by show C9 + 4 ≤ C9 + 4; omega) (by show S9 + 25 ≤ S9 + 25; omega) ?_
      exact hnext _ kk ou2 _ _ ls hI3 hG hS (lv_sub hl [2, 3, 4, 5, 6] rfl)
    · refine lv_aload_n hx hb d_Lw_law_1236 rfl (lv_at hl 5 rfl) ?_
      refine lv_iconst (v := 0) hx hb d_Lw_law_1237 (by decide) ?_
      refine gn_lald E hK.1 hG ho 1 rfl (j := 0) (by decide) (by decide) d_Lw_law_1238 ?_
      refine lv_iload hx hb d_Lw_law_1239 (lv_at hl 0 rfl) ?_
      refine lv_i2l hx hb d_Lw_law_1241 rfl ?_
      refine W.lcmp hx hb d_Lw_law_1242 ?_
      refine lv_if_eq (tgt := 1248) hx hb d_Lw_law_1243 (by decide) (fun c_3 => ?_) (fun c_3 => ?_)
      · rw [lg_cmp_eq] at c_3
        refine lv_goto (tgt := 1307) hx hb d_Lw_law_1248 (by decide) ?_
        refine W.widen (k := C9 + 4) (n := S9 + 25) (by show C9 + 4 ≤ C9 + 4; omega) (by show S9 + 25 ≤ S9 + 25; omega) ?_
        exact hnext _ kk ou2 _ _ ls hI3 hG hS (lv_sub hl [2, 3, 4, 5, 6] rfl)
      · rw [lg_cmp_eq] at c_3
        exact absurd (hval c_2) c_3
  · exact absurd rfl c_1
set_option maxHeartbeats 4000000 in
set_option maxRecDepth 100000 in
theorem lc_worst {p : Program} {l : Launch} {e : Env} {s : State} {m : MethodId} {below : List Frame} {meth : Method} {c : Code} {Q : State → Prop} {D : va_G} {k : Nat → ClassId} {zb b L : Nat} {xs : Nat → Int32} (hnt : l.stackTraces = false) (E : gs_E p s m #[Value.ref b] c c_Lw_law wW R_Lw) (hml : c.maxLocals = 7) (hK : gs_K D k s) (hX : gs_X zb s s.heap) (hXs : va_X b L xs s s.heap) (hbl : b < s.heap.size) (hbz : b < zb) (hL : L ≤ 3586) {i o mo out : Nat} (hi : i + 7 ≤ L) {C9 S9 : Nat} (hC9 : C9 + 4 ≤ 659066) (hS9 : S9 + 25 ≤ 7118872) {G : Nat → Option va_E} {th : Int32} {ou : Nat → Int64} {H : Heap} {locs : List Loc} {ls : Array Slot} (hI : InvT k G o mo out th ou) (hG : gs_W D classes zb G H) (hS : gs_S zb s.heap H locs) (hl : lv_has ls 7 [(0, .ref b), (1, .ref o), (2, .ref mo), (3, .ref out), (4, .int (nI i))]) (hnext : ∀ (G2 : Nat → Option va_E) (th2 : Int32) (ou2 : Nat → Int64) (H2 : Heap) (locs2 : List Loc) (ls2 : Array Slot), InvT k G2 o mo out th2 ou2 → gs_W D classes zb G2 H2 → gs_S zb s.heap H2 locs2 → lv_has ls2 7 [(0, .ref b), (1, .ref o), (2, .ref mo), (3, .ref out), (4, .int (nI i))] → W p l e room_1 s m #[Value.ref b] below meth c H2 locs2 (C9 + 4) (S9 + 25) Q (F0 m 1307 ls2 [])) : W p l e room_1 s m #[Value.ref b] below meth c H locs C9 S9 Q (F0 m 1251 ls []) := by
  obtain ⟨hx, hb, hw, hown⟩ := id E
  obtain ⟨aB, aW, aH, aS, aT, wn, hn, nb, nw, ba, wa, ha, bf, hf, wf, sh, tk, cB, cT, cS, cL, cW, bx, tr, su, li, wi, l1, l2, l3, l4, hC, hM, hv, hh, hwf, ho⟩ := hI
  refine lv_aload_n hx hb d_Lw_law_1251 rfl (lv_at hl 1 rfl) ?_
  refine lv_aload_n hx hb d_Lw_law_1252 rfl (lv_at hl 0 rfl) ?_
  refine lv_iload hx hb d_Lw_law_1253 (lv_at hl 4 rfl) ?_
  refine lv_iconst (v := 1) hx hb d_Lw_law_1255 (by decide) ?_
  refine lv_iadd hx hb d_Lw_law_1256 ?_
  refine lv_topE (show (nI i) + 1 = nI (i + 1) from nI_add i 1) ?_
  refine va_sld hx hb hXs hbl (Nat.not_le.mpr hbz) hS (vp_in_nI (n := (i + 1)) (by omega) (by omega)) d_Lw_law_1257 ?_
  refine lv_topE (show xs (nI (i + 1)).toNatClampNeg = xs (i + 1) from by rw [nI_clamp (by omega)]) ?_
  refine lv_aload_n hx hb d_Lw_law_1258 rfl (lv_at hl 3 rfl) ?_
  refine gs_StW (As := [.ref o, .int (xs (i + 1)), .ref out]) (rest := []) (k_Lw_worst l hnt D k zb G o aB aW aH aS aT wn hn nb nw ba wa ha bf hf wf sh tk out ou (xs (i + 1)) hC ho) E hml hl.1 (cg_SW hw w_443 w_441 w_0 w_442 hd_Lw_worst ⟨by exact Nat.le_of_ble_eq_true rfl, by exact Nat.le_of_ble_eq_true rfl⟩) hG hK hX hS rfl rfl (by exact Nat.le_of_ble_eq_true rfl) d_Lw_law_1259 ⟨Nat.le_trans (show C9 + 0 + 1 ≤ 659066 by omega) (by exact Nat.le_of_ble_eq_true rfl), Nat.le_trans (show S9 + 0 + 6 ≤ 7118872 by omega) (by exact Nat.le_of_ble_eq_true rfl)⟩ (fun v G1 H locs hp hG hS => ?_)
  obtain ⟨kk, hv1, hM1, hmid⟩ := mid_worst hC hM hv hh hwf ho hp
  subst hv1
  refine W.eq (g2 := F0 m 1262 ls [.int kk]) rfl ?_
  refine lv_istore (lv' := [(5, .int kk), (0, .ref b), (1, .ref o), (2, .ref mo), (3, .ref out), (4, .int (nI i))]) hx hb d_Lw_law_1262 hl (by decide) rfl (fun ls hl => ?_)
  refine lv_aload_n hx hb d_Lw_law_1264 rfl (lv_at hl 3 rfl) ?_
  refine lv_aload_n hx hb d_Lw_law_1265 rfl (lv_at hl 1 rfl) ?_
  refine lv_iload hx hb d_Lw_law_1266 (lv_at hl 5 rfl) ?_
  refine lv_iconst (v := 1) hx hb d_Lw_law_1268 (by decide) ?_
  refine lv_iadd hx hb d_Lw_law_1269 ?_
  refine lv_topE (show (nI i) + 1 = nI (i + 1) from nI_add i 1) ?_
  refine va_sld hx hb hXs hbl (Nat.not_le.mpr hbz) hS (vp_in_nI (n := (i + 1)) (by omega) (by omega)) d_Lw_law_1270 ?_
  refine lv_topE (show xs (nI (i + 1)).toNatClampNeg = xs (i + 1) from by rw [nI_clamp (by omega)]) ?_
  refine gs_V (As := [.int (xs (i + 1))]) (rest := []) (k_Md_worst l D k zb G1 mo cB cT cS cL cW th wn hn nb nw bx tr su li wi l1 l2 l3 l4 wf (xs (i + 1)) hM1 hC.2.1.1 hC.2.1.2.1 ⟨hC.2.1.2.2.1, hC.2.1.2.2.2.1⟩ ⟨hC.2.1.2.2.2.2.1, hC.2.1.2.2.2.2.2⟩ hwf) E hml hl.1 (cg_V (C := R_Md) hw w_632 w_629 w_4 w_630 sel_Md_worst hd_Md_worst ⟨by exact Nat.le_of_ble_eq_true rfl, by exact Nat.le_of_ble_eq_true rfl⟩) hG hK hX hS hM1.1 rfl rfl rfl rfl (by exact Nat.le_of_ble_eq_true rfl) d_Lw_law_1271 ⟨Nat.le_trans (show C9 + 1 + 0 ≤ 659066 by omega) (by exact Nat.le_of_ble_eq_true rfl), Nat.le_trans (show S9 + 6 + 0 ≤ 7118872 by omega) (by exact Nat.le_of_ble_eq_true rfl)⟩ (fun v G1 H locs hp hG hS => ?_)
  obtain ⟨r, ou2, hv2, hI2, hval⟩ := hmid _ _ hp
  subst hv2
  have hI3 := hI2
  obtain ⟨aB, aW, aH, aS, aT, wn, hn, nb, nw, ba, wa, ha, bf, hf, wf, sh, tk, cB, cT, cS, cL, cW, bx, tr, su, li, wi, l1, l2, l3, l4, hC, hM, hv, hh, hwf, ho⟩ := hI2
  refine W.eq (g2 := F0 m 1274 ls [.int r]) rfl ?_
  refine lv_istore (lv' := [(6, .int r), (5, .int kk), (0, .ref b), (1, .ref o), (2, .ref mo), (3, .ref out), (4, .int (nI i))]) hx hb d_Lw_law_1274 hl (by decide) rfl (fun ls hl => ?_)
  refine lv_aload_n hx hb d_Lw_law_1276 rfl (lv_at hl 4 rfl) ?_
  refine gs_V (As := []) (rest := []) (k_Md_thrown l D k zb G1 mo cB cT cS cL cW kk wn hn nb nw bx tr su li wi l1 l2 l3 l4 hM) E hml hl.1 (cg_V (C := R_Md) hw w_510 w_507 w_4 w_508 sel_Md_thrown hd_Md_thrown ⟨by exact Nat.le_of_ble_eq_true rfl, by exact Nat.le_of_ble_eq_true rfl⟩) hG hK hX hS hM.1 rfl rfl rfl rfl (by exact Nat.le_of_ble_eq_true rfl) d_Lw_law_1277 ⟨Nat.le_trans (show C9 + 1 + 0 ≤ 659066 by omega) (by exact Nat.le_of_ble_eq_true rfl), Nat.le_trans (show S9 + 6 + 0 ≤ 7118872 by omega) (by exact Nat.le_of_ble_eq_true rfl)⟩ (fun v G1 H locs hp hG hS => ?_)
  obtain ⟨hv1, hG1⟩ := hp
  subst hv1
  rw [hG1] at hG
  refine W.eq (g2 := F0 m 1280 ls [.int kk]) rfl ?_
  refine lv_iload hx hb d_Lw_law_1280 (lv_at hl 1 rfl) ?_
  refine lv_icmp_eq (tgt := 1287) hx hb d_Lw_law_1282 (by decide) (fun c_1 => ?_) (fun c_1 => ?_)
  · refine lv_iload hx hb d_Lw_law_1287 (lv_at hl 1 rfl) ?_
    refine lv_if_ne (tgt := 1304) hx hb d_Lw_law_1289 (by decide) (fun c_2 => ?_) (fun c_2 => ?_)
    · refine lv_goto (tgt := 1307) hx hb d_Lw_law_1304 (by decide) ?_
      refine W.widen (k := C9 + 4) (n := S9 + 25) (by show C9 + 1 ≤ C9 + 4; omega) (by show S9 + 6 ≤ S9 + 25; omega) ?_
      exact hnext _ kk ou2 _ _ ls hI3 hG hS (lv_sub hl [2, 3, 4, 5, 6] rfl)
    · refine lv_aload_n hx hb d_Lw_law_1292 rfl (lv_at hl 5 rfl) ?_
      refine lv_iconst (v := 0) hx hb d_Lw_law_1293 (by decide) ?_
      refine gn_lald E hK.1 hG ho 1 rfl (j := 0) (by decide) (by decide) d_Lw_law_1294 ?_
      refine lv_iload hx hb d_Lw_law_1295 (lv_at hl 0 rfl) ?_
      refine lv_i2l hx hb d_Lw_law_1297 rfl ?_
      refine W.lcmp hx hb d_Lw_law_1298 ?_
      refine lv_if_eq (tgt := 1304) hx hb d_Lw_law_1299 (by decide) (fun c_3 => ?_) (fun c_3 => ?_)
      · rw [lg_cmp_eq] at c_3
        refine lv_goto (tgt := 1307) hx hb d_Lw_law_1304 (by decide) ?_
        refine W.widen (k := C9 + 4) (n := S9 + 25) (by show C9 + 1 ≤ C9 + 4; omega) (by show S9 + 6 ≤ S9 + 25; omega) ?_
        exact hnext _ kk ou2 _ _ ls hI3 hG hS (lv_sub hl [2, 3, 4, 5, 6] rfl)
      · rw [lg_cmp_eq] at c_3
        exact absurd (hval c_2) c_3
  · exact absurd rfl c_1
