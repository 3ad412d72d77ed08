/-! the law's cases, by program -/
set_option maxHeartbeats 4000000 in
set_option maxRecDepth 100000 in
theorem lc_window {p : Program} {l : Launch} {e : Env} {s : State} {m : MethodId} {below : List Frame} {meth : Method} {c : Code} {Q : State → Prop} {D : va_G} {k : Nat → ClassId} {zb b L : Nat} {xs : Nat → Int32} (hnt : l.stackTraces = false) (E : gs_E p s m #[Value.ref b] c c_Lw_law wW R_Lw) (hml : c.maxLocals = 7) (hK : gs_K D k s) (hX : gs_X zb s s.heap) (hXs : va_X b L xs s s.heap) (hbl : b < s.heap.size) (hbz : b < zb) (hL : L ≤ 3586) {i o mo out : Nat} (hi : i + 7 ≤ L) {C9 S9 : Nat} (hC9 : C9 + 4 ≤ 659066) (hS9 : S9 + 25 ≤ 7118872) {G : Nat → Option va_E} {th : Int32} {ou : Nat → Int64} {H : Heap} {locs : List Loc} {ls : Array Slot} (hI : InvT k G o mo out th ou) (hG : gs_W D classes zb G H) (hS : gs_S zb s.heap H locs) (hl : lv_has ls 7 [(0, .ref b), (1, .ref o), (2, .ref mo), (3, .ref out), (4, .int (nI i))]) (hnext : ∀ (G2 : Nat → Option va_E) (th2 : Int32) (ou2 : Nat → Int64) (H2 : Heap) (locs2 : List Loc) (ls2 : Array Slot), InvT k G2 o mo out th2 ou2 → gs_W D classes zb G2 H2 → gs_S zb s.heap H2 locs2 → lv_has ls2 7 [(0, .ref b), (1, .ref o), (2, .ref mo), (3, .ref out), (4, .int (nI i))] → W p l e room_1 s m #[Value.ref b] below meth c H2 locs2 (C9 + 4) (S9 + 25) Q (F0 m 1307 ls2 [])) : W p l e room_1 s m #[Value.ref b] below meth c H locs C9 S9 Q (F0 m 584 ls []) := by
  obtain ⟨hx, hb, hw, hown⟩ := id E
  obtain ⟨aB, aW, aH, aS, aT, wn, hn, nb, nw, ba, wa, ha, bf, hf, wf, sh, tk, cB, cT, cS, cL, cW, bx, tr, su, li, wi, l1, l2, l3, l4, hC, hM, hv, hh, hwf, ho⟩ := hI
  refine lv_aload_n hx hb d_Lw_law_584 rfl (lv_at hl 1 rfl) ?_
  refine lv_aload_n hx hb d_Lw_law_585 rfl (lv_at hl 0 rfl) ?_
  refine lv_iload hx hb d_Lw_law_586 (lv_at hl 4 rfl) ?_
  refine lv_iconst (v := 1) hx hb d_Lw_law_588 (by decide) ?_
  refine lv_iadd hx hb d_Lw_law_589 ?_
  refine lv_topE (show (nI i) + 1 = nI (i + 1) from nI_add i 1) ?_
  refine va_sld hx hb hXs hbl (Nat.not_le.mpr hbz) hS (vp_in_nI (n := (i + 1)) (by omega) (by omega)) d_Lw_law_590 ?_
  refine lv_topE (show xs (nI (i + 1)).toNatClampNeg = xs (i + 1) from by rw [nI_clamp (by omega)]) ?_
  refine lv_aload_n hx hb d_Lw_law_591 rfl (lv_at hl 0 rfl) ?_
  refine lv_iload hx hb d_Lw_law_592 (lv_at hl 4 rfl) ?_
  refine lv_iconst (v := 2) hx hb d_Lw_law_594 (by decide) ?_
  refine lv_iadd hx hb d_Lw_law_595 ?_
  refine lv_topE (show (nI i) + 2 = nI (i + 2) from nI_add i 2) ?_
  refine va_sld hx hb hXs hbl (Nat.not_le.mpr hbz) hS (vp_in_nI (n := (i + 2)) (by omega) (by omega)) d_Lw_law_596 ?_
  refine lv_topE (show xs (nI (i + 2)).toNatClampNeg = xs (i + 2) from by rw [nI_clamp (by omega)]) ?_
  refine lv_aload_n hx hb d_Lw_law_597 rfl (lv_at hl 0 rfl) ?_
  refine lv_iload hx hb d_Lw_law_598 (lv_at hl 4 rfl) ?_
  refine lv_iconst (v := 3) hx hb d_Lw_law_600 (by decide) ?_
  refine lv_iadd hx hb d_Lw_law_601 ?_
  refine lv_topE (show (nI i) + 3 = nI (i + 3) from nI_add i 3) ?_
  refine va_sld hx hb hXs hbl (Nat.not_le.mpr hbz) hS (vp_in_nI (n := (i + 3)) (by omega) (by omega)) d_Lw_law_602 ?_
  refine lv_topE (show xs (nI (i + 3)).toNatClampNeg = xs (i + 3) from by rw [nI_clamp (by omega)]) ?_
  refine lv_aload_n hx hb d_Lw_law_603 rfl (lv_at hl 0 rfl) ?_
  refine lv_iload hx hb d_Lw_law_604 (lv_at hl 4 rfl) ?_
  refine lv_iconst (v := 4) hx hb d_Lw_law_606 (by decide) ?_
  refine lv_iadd hx hb d_Lw_law_607 ?_
  refine lv_topE (show (nI i) + 4 = nI (i + 4) from nI_add i 4) ?_
  refine va_sld hx hb hXs hbl (Nat.not_le.mpr hbz) hS (vp_in_nI (n := (i + 4)) (by omega) (by omega)) d_Lw_law_608 ?_
  refine lv_topE (show xs (nI (i + 4)).toNatClampNeg = xs (i + 4) from by rw [nI_clamp (by omega)]) ?_
  refine lv_aload_n hx hb d_Lw_law_609 rfl (lv_at hl 3 rfl) ?_
  refine gs_StW (As := [.ref o, .int (xs (i + 1)), .int (xs (i + 2)), .int (xs (i + 3)), .int (xs (i + 4)), .ref out]) (rest := []) (k_Lw_window l hnt D k zb G o aB aW aH aS aT wn hn nb nw ba wa ha bf hf wf sh tk out ou (xs (i + 1)) (xs (i + 2)) (xs (i + 3)) (xs (i + 4)) hC ho) E hml hl.1 (cg_SW hw w_266 w_264 w_0 w_265 hd_Lw_window ⟨by exact Nat.le_of_ble_eq_true rfl, by exact Nat.le_of_ble_eq_true rfl⟩) hG hK hX hS rfl rfl (by exact Nat.le_of_ble_eq_true rfl) d_Lw_law_610 ⟨Nat.le_trans (show C9 + 0 + 1 ≤ 659066 by omega) (by exact Nat.le_of_ble_eq_true rfl), Nat.le_trans (show S9 + 0 + 6 ≤ 7118872 by omega) (by exact Nat.le_of_ble_eq_true rfl)⟩ (fun v G1 H locs hp hG hS => ?_)
  obtain ⟨kk, hv1, hM1, hmid⟩ := mid_window hC hM hv hh hwf ho (k34 hK) hp
  subst hv1
  refine W.eq (g2 := F0 m 613 ls [.int kk]) rfl ?_
  refine lv_istore (lv' := [(5, .int kk), (0, .ref b), (1, .ref o), (2, .ref mo), (3, .ref out), (4, .int (nI i))]) hx hb d_Lw_law_613 hl (by decide) rfl (fun ls hl => ?_)
  refine lv_aload_n hx hb d_Lw_law_615 rfl (lv_at hl 3 rfl) ?_
  refine lv_aload_n hx hb d_Lw_law_616 rfl (lv_at hl 1 rfl) ?_
  refine lv_iload hx hb d_Lw_law_617 (lv_at hl 5 rfl) ?_
  refine lv_iconst (v := 1) hx hb d_Lw_law_619 (by decide) ?_
  refine lv_iadd hx hb d_Lw_law_620 ?_
  refine lv_topE (show (nI i) + 1 = nI (i + 1) from nI_add i 1) ?_
  refine va_sld hx hb hXs hbl (Nat.not_le.mpr hbz) hS (vp_in_nI (n := (i + 1)) (by omega) (by omega)) d_Lw_law_621 ?_
  refine lv_topE (show xs (nI (i + 1)).toNatClampNeg = xs (i + 1) from by rw [nI_clamp (by omega)]) ?_
  refine lv_aload_n hx hb d_Lw_law_622 rfl (lv_at hl 1 rfl) ?_
  refine lv_iload hx hb d_Lw_law_623 (lv_at hl 5 rfl) ?_
  refine lv_iconst (v := 2) hx hb d_Lw_law_625 (by decide) ?_
  refine lv_iadd hx hb d_Lw_law_626 ?_
  refine lv_topE (show (nI i) + 2 = nI (i + 2) from nI_add i 2) ?_
  refine va_sld hx hb hXs hbl (Nat.not_le.mpr hbz) hS (vp_in_nI (n := (i + 2)) (by omega) (by omega)) d_Lw_law_627 ?_
  refine lv_topE (show xs (nI (i + 2)).toNatClampNeg = xs (i + 2) from by rw [nI_clamp (by omega)]) ?_
  refine lv_aload_n hx hb d_Lw_law_628 rfl (lv_at hl 1 rfl) ?_
  refine lv_iload hx hb d_Lw_law_629 (lv_at hl 5 rfl) ?_
  refine lv_iconst (v := 3) hx hb d_Lw_law_631 (by decide) ?_
  refine lv_iadd hx hb d_Lw_law_632 ?_
  refine lv_topE (show (nI i) + 3 = nI (i + 3) from nI_add i 3) ?_
  refine va_sld hx hb hXs hbl (Nat.not_le.mpr hbz) hS (vp_in_nI (n := (i + 3)) (by omega) (by omega)) d_Lw_law_633 ?_
  refine lv_topE (show xs (nI (i + 3)).toNatClampNeg = xs (i + 3) from by rw [nI_clamp (by omega)]) ?_
  refine lv_aload_n hx hb d_Lw_law_634 rfl (lv_at hl 1 rfl) ?_
  refine lv_iload hx hb d_Lw_law_635 (lv_at hl 5 rfl) ?_
  refine lv_iconst (v := 4) hx hb d_Lw_law_637 (by decide) ?_
  refine lv_iadd hx hb d_Lw_law_638 ?_
  refine lv_topE (show (nI i) + 4 = nI (i + 4) from nI_add i 4) ?_
  refine va_sld hx hb hXs hbl (Nat.not_le.mpr hbz) hS (vp_in_nI (n := (i + 4)) (by omega) (by omega)) d_Lw_law_639 ?_
  refine lv_topE (show xs (nI (i + 4)).toNatClampNeg = xs (i + 4) from by rw [nI_clamp (by omega)]) ?_
  refine gs_V (As := [.int (xs (i + 1)), .int (xs (i + 2)), .int (xs (i + 3)), .int (xs (i + 4))]) (rest := []) (k_Md_window l D k zb G1 mo cB cT cS cL cW th wn hn nb nw bx tr su li wi l1 l2 l3 l4 (xs (i + 1)) (xs (i + 2)) (xs (i + 3)) (xs (i + 4)) hM1 hC.2.1.1 hC.2.1.2.1 ⟨hC.2.1.2.2.1, hC.2.1.2.2.2.1⟩ ⟨hC.2.1.2.2.2.2.1, hC.2.1.2.2.2.2.2⟩) E hml hl.1 (cg_V (C := R_Md) hw w_551 w_548 w_4 w_549 sel_Md_window hd_Md_window ⟨by exact Nat.le_of_ble_eq_true rfl, by exact Nat.le_of_ble_eq_true rfl⟩) hG hK hX hS hM1.1 rfl rfl rfl rfl (by exact Nat.le_of_ble_eq_true rfl) d_Lw_law_640 ⟨Nat.le_trans (show C9 + 1 + 0 ≤ 659066 by omega) (by exact Nat.le_of_ble_eq_true rfl), Nat.le_trans (show S9 + 6 + 0 ≤ 7118872 by omega) (by exact Nat.le_of_ble_eq_true rfl)⟩ (fun v G1 H locs hp hG hS => ?_)
  obtain ⟨r, ou2, hv2, hI2, hval⟩ := hmid _ _ hp
  subst hv2
  have hI3 := hI2
  obtain ⟨aB, aW, aH, aS, aT, wn, hn, nb, nw, ba, wa, ha, bf, hf, wf, sh, tk, cB, cT, cS, cL, cW, bx, tr, su, li, wi, l1, l2, l3, l4, hC, hM, hv, hh, hwf, ho⟩ := hI2
  refine W.eq (g2 := F0 m 643 ls [.int r]) rfl ?_
  refine lv_istore (lv' := [(6, .int r), (5, .int kk), (0, .ref b), (1, .ref o), (2, .ref mo), (3, .ref out), (4, .int (nI i))]) hx hb d_Lw_law_643 hl (by decide) rfl (fun ls hl => ?_)
  refine lv_aload_n hx hb d_Lw_law_645 rfl (lv_at hl 4 rfl) ?_
  refine gs_V (As := []) (rest := []) (k_Md_thrown l D k zb G1 mo cB cT cS cL cW kk wn hn nb nw bx tr su li wi l1 l2 l3 l4 hM) E hml hl.1 (cg_V (C := R_Md) hw w_510 w_507 w_4 w_508 sel_Md_thrown hd_Md_thrown ⟨by exact Nat.le_of_ble_eq_true rfl, by exact Nat.le_of_ble_eq_true rfl⟩) hG hK hX hS hM.1 rfl rfl rfl rfl (by exact Nat.le_of_ble_eq_true rfl) d_Lw_law_646 ⟨Nat.le_trans (show C9 + 1 + 0 ≤ 659066 by omega) (by exact Nat.le_of_ble_eq_true rfl), Nat.le_trans (show S9 + 6 + 0 ≤ 7118872 by omega) (by exact Nat.le_of_ble_eq_true rfl)⟩ (fun v G1 H locs hp hG hS => ?_)
  obtain ⟨hv1, hG1⟩ := hp
  subst hv1
  rw [hG1] at hG
  refine W.eq (g2 := F0 m 649 ls [.int kk]) rfl ?_
  refine lv_iload hx hb d_Lw_law_649 (lv_at hl 1 rfl) ?_
  refine lv_icmp_eq (tgt := 656) hx hb d_Lw_law_651 (by decide) (fun c_1 => ?_) (fun c_1 => ?_)
  · refine lv_iload hx hb d_Lw_law_656 (lv_at hl 1 rfl) ?_
    refine lv_if_ne (tgt := 673) hx hb d_Lw_law_658 (by decide) (fun c_2 => ?_) (fun c_2 => ?_)
    · refine lv_goto (tgt := 1307) hx hb d_Lw_law_673 (by decide) ?_
      refine W.widen (k := C9 + 4) (n := S9 + 25) (by show C9 + 1 ≤ C9 + 4; omega) (by show S9 + 6 ≤ S9 + 25; omega) ?_
      exact hnext _ kk ou2 _ _ ls hI3 hG hS (lv_sub hl [2, 3, 4, 5, 6] rfl)
    · refine lv_aload_n hx hb d_Lw_law_661 rfl (lv_at hl 5 rfl) ?_
      refine lv_iconst (v := 0) hx hb d_Lw_law_662 (by decide) ?_
      refine gn_lald E hK.1 hG ho 1 rfl (j := 0) (by decide) (by decide) d_Lw_law_663 ?_
      refine lv_iload hx hb d_Lw_law_664 (lv_at hl 0 rfl) ?_
      refine lv_i2l hx hb d_Lw_law_666 rfl ?_
      refine W.lcmp hx hb d_Lw_law_667 ?_
      refine lv_if_eq (tgt := 673) hx hb d_Lw_law_668 (by decide) (fun c_3 => ?_) (fun c_3 => ?_)
      · rw [lg_cmp_eq] at c_3
        refine lv_goto (tgt := 1307) hx hb d_Lw_law_673 (by decide) ?_
        refine W.widen (k := C9 + 4) (n := S9 + 25) (by show C9 + 1 ≤ C9 + 4; omega) (by show S9 + 6 ≤ S9 + 25; omega) ?_
        exact hnext _ kk ou2 _ _ ls hI3 hG hS (lv_sub hl [2, 3, 4, 5, 6] rfl)
      · rw [lg_cmp_eq] at c_3
        exact absurd (hval c_2) c_3
  · exact absurd rfl c_1
set_option maxHeartbeats 4000000 in
set_option maxRecDepth 100000 in
theorem lc_shadow {p : Program} {l : Launch} {e : Env} {s : State} {m : MethodId} {below : List Frame} {meth : Method} {c : Code} {Q : State → Prop} {D : va_G} {k : Nat → ClassId} {zb b L : Nat} {xs : Nat → Int32} (hnt : l.stackTraces = false) (E : gs_E p s m #[Value.ref b] c c_Lw_law wW R_Lw) (hml : c.maxLocals = 7) (hK : gs_K D k s) (hX : gs_X zb s s.heap) (hXs : va_X b L xs s s.heap) (hbl : b < s.heap.size) (hbz : b < zb) (hL : L ≤ 3586) {i o mo out : Nat} (hi : i + 7 ≤ L) {C9 S9 : Nat} (hC9 : C9 + 4 ≤ 659066) (hS9 : S9 + 25 ≤ 7118872) {G : Nat → Option va_E} {th : Int32} {ou : Nat → Int64} {H : Heap} {locs : List Loc} {ls : Array Slot} (hI : InvT k G o mo out th ou) (hG : gs_W D classes zb G H) (hS : gs_S zb s.heap H locs) (hl : lv_has ls 7 [(0, .ref b), (1, .ref o), (2, .ref mo), (3, .ref out), (4, .int (nI i))]) (hnext : ∀ (G2 : Nat → Option va_E) (th2 : Int32) (ou2 : Nat → Int64) (H2 : Heap) (locs2 : List Loc) (ls2 : Array Slot), InvT k G2 o mo out th2 ou2 → gs_W D classes zb G2 H2 → gs_S zb s.heap H2 locs2 → lv_has ls2 7 [(0, .ref b), (1, .ref o), (2, .ref mo), (3, .ref out), (4, .int (nI i))] → W p l e room_1 s m #[Value.ref b] below meth c H2 locs2 (C9 + 4) (S9 + 25) Q (F0 m 1307 ls2 [])) : W p l e room_1 s m #[Value.ref b] below meth c H locs C9 S9 Q (F0 m 676 ls []) := by
  obtain ⟨hx, hb, hw, hown⟩ := id E
  obtain ⟨aB, aW, aH, aS, aT, wn, hn, nb, nw, ba, wa, ha, bf, hf, wf, sh, tk, cB, cT, cS, cL, cW, bx, tr, su, li, wi, l1, l2, l3, l4, hC, hM, hv, hh, hwf, ho⟩ := hI
  refine lv_aload_n hx hb d_Lw_law_676 rfl (lv_at hl 1 rfl) ?_
  refine lv_aload_n hx hb d_Lw_law_677 rfl (lv_at hl 0 rfl) ?_
  refine lv_iload hx hb d_Lw_law_678 (lv_at hl 4 rfl) ?_
  refine lv_iconst (v := 1) hx hb d_Lw_law_680 (by decide) ?_
  refine lv_iadd hx hb d_Lw_law_681 ?_
  refine lv_topE (show (nI i) + 1 = nI (i + 1) from nI_add i 1) ?_
  refine va_sld hx hb hXs hbl (Nat.not_le.mpr hbz) hS (vp_in_nI (n := (i + 1)) (by omega) (by omega)) d_Lw_law_682 ?_
  refine lv_topE (show xs (nI (i + 1)).toNatClampNeg = xs (i + 1) from by rw [nI_clamp (by omega)]) ?_
  refine lv_aload_n hx hb d_Lw_law_683 rfl (lv_at hl 0 rfl) ?_
  refine lv_iload hx hb d_Lw_law_684 (lv_at hl 4 rfl) ?_
  refine lv_iconst (v := 2) hx hb d_Lw_law_686 (by decide) ?_
  refine lv_iadd hx hb d_Lw_law_687 ?_
  refine lv_topE (show (nI i) + 2 = nI (i + 2) from nI_add i 2) ?_
  refine va_sld hx hb hXs hbl (Nat.not_le.mpr hbz) hS (vp_in_nI (n := (i + 2)) (by omega) (by omega)) d_Lw_law_688 ?_
  refine lv_topE (show xs (nI (i + 2)).toNatClampNeg = xs (i + 2) from by rw [nI_clamp (by omega)]) ?_
  refine lv_aload_n hx hb d_Lw_law_689 rfl (lv_at hl 0 rfl) ?_
  refine lv_iload hx hb d_Lw_law_690 (lv_at hl 4 rfl) ?_
  refine lv_iconst (v := 3) hx hb d_Lw_law_692 (by decide) ?_
  refine lv_iadd hx hb d_Lw_law_693 ?_
  refine lv_topE (show (nI i) + 3 = nI (i + 3) from nI_add i 3) ?_
  refine va_sld hx hb hXs hbl (Nat.not_le.mpr hbz) hS (vp_in_nI (n := (i + 3)) (by omega) (by omega)) d_Lw_law_694 ?_
  refine lv_topE (show xs (nI (i + 3)).toNatClampNeg = xs (i + 3) from by rw [nI_clamp (by omega)]) ?_
  refine lv_aload_n hx hb d_Lw_law_695 rfl (lv_at hl 3 rfl) ?_
  refine gs_StW (As := [.ref o, .int (xs (i + 1)), .int (xs (i + 2)), .int (xs (i + 3)), .ref out]) (rest := []) (k_Lw_shadow l hnt D k zb G o aB aW aH aS aT wn hn nb nw ba wa ha bf hf wf sh tk out ou (xs (i + 1)) (xs (i + 2)) (xs (i + 3)) hC ho) E hml hl.1 (cg_SW hw w_295 w_293 w_0 w_294 hd_Lw_shadow ⟨by exact Nat.le_of_ble_eq_true rfl, by exact Nat.le_of_ble_eq_true rfl⟩) hG hK hX hS rfl rfl (by exact Nat.le_of_ble_eq_true rfl) d_Lw_law_696 ⟨Nat.le_trans (show C9 + 0 + 2 ≤ 659066 by omega) (by exact Nat.le_of_ble_eq_true rfl), Nat.le_trans (show S9 + 0 + 12 ≤ 7118872 by omega) (by exact Nat.le_of_ble_eq_true rfl)⟩ (fun v G1 H locs hp hG hS => ?_)
  obtain ⟨kk, hv1, hM1, hmid⟩ := mid_shadow hC hM hv hh hwf ho hp
  subst hv1
  refine W.eq (g2 := F0 m 699 ls [.int kk]) rfl ?_
  refine lv_istore (lv' := [(5, .int kk), (0, .ref b), (1, .ref o), (2, .ref mo), (3, .ref out), (4, .int (nI i))]) hx hb d_Lw_law_699 hl (by decide) rfl (fun ls hl => ?_)
  refine lv_aload_n hx hb d_Lw_law_701 rfl (lv_at hl 3 rfl) ?_
  refine lv_aload_n hx hb d_Lw_law_702 rfl (lv_at hl 1 rfl) ?_
  refine lv_iload hx hb d_Lw_law_703 (lv_at hl 5 rfl) ?_
  refine lv_iconst (v := 1) hx hb d_Lw_law_705 (by decide) ?_
  refine lv_iadd hx hb d_Lw_law_706 ?_
  refine lv_topE (show (nI i) + 1 = nI (i + 1) from nI_add i 1) ?_
  refine va_sld hx hb hXs hbl (Nat.not_le.mpr hbz) hS (vp_in_nI (n := (i + 1)) (by omega) (by omega)) d_Lw_law_707 ?_
  refine lv_topE (show xs (nI (i + 1)).toNatClampNeg = xs (i + 1) from by rw [nI_clamp (by omega)]) ?_
  refine lv_aload_n hx hb d_Lw_law_708 rfl (lv_at hl 1 rfl) ?_
  refine lv_iload hx hb d_Lw_law_709 (lv_at hl 5 rfl) ?_
  refine lv_iconst (v := 2) hx hb d_Lw_law_711 (by decide) ?_
  refine lv_iadd hx hb d_Lw_law_712 ?_
  refine lv_topE (show (nI i) + 2 = nI (i + 2) from nI_add i 2) ?_
  refine va_sld hx hb hXs hbl (Nat.not_le.mpr hbz) hS (vp_in_nI (n := (i + 2)) (by omega) (by omega)) d_Lw_law_713 ?_
  refine lv_topE (show xs (nI (i + 2)).toNatClampNeg = xs (i + 2) from by rw [nI_clamp (by omega)]) ?_
  refine lv_aload_n hx hb d_Lw_law_714 rfl (lv_at hl 1 rfl) ?_
  refine lv_iload hx hb d_Lw_law_715 (lv_at hl 5 rfl) ?_
  refine lv_iconst (v := 3) hx hb d_Lw_law_717 (by decide) ?_
  refine lv_iadd hx hb d_Lw_law_718 ?_
  refine lv_topE (show (nI i) + 3 = nI (i + 3) from nI_add i 3) ?_
  refine va_sld hx hb hXs hbl (Nat.not_le.mpr hbz) hS (vp_in_nI (n := (i + 3)) (by omega) (by omega)) d_Lw_law_719 ?_
  refine lv_topE (show xs (nI (i + 3)).toNatClampNeg = xs (i + 3) from by rw [nI_clamp (by omega)]) ?_
  refine gs_V (As := [.int (xs (i + 1)), .int (xs (i + 2)), .int (xs (i + 3))]) (rest := []) (k_Md_shadow l D k zb G1 mo cB cT cS cL cW th wn hn nb nw bx tr su li wi l1 l2 l3 l4 (xs (i + 1)) (xs (i + 2)) (xs (i + 3)) hM1 hC.2.1.1 hC.2.1.2.1 ⟨hC.2.1.2.2.1, hC.2.1.2.2.2.1⟩ ⟨hC.2.1.2.2.2.2.1, hC.2.1.2.2.2.2.2⟩) E hml hl.1 (cg_V (C := R_Md) hw w_555 w_552 w_4 w_553 sel_Md_shadow hd_Md_shadow ⟨by exact Nat.le_of_ble_eq_true rfl, by exact Nat.le_of_ble_eq_true rfl⟩) hG hK hX hS hM1.1 rfl rfl rfl rfl (by exact Nat.le_of_ble_eq_true rfl) d_Lw_law_720 ⟨Nat.le_trans (show C9 + 2 + 0 ≤ 659066 by omega) (by exact Nat.le_of_ble_eq_true rfl), Nat.le_trans (show S9 + 12 + 0 ≤ 7118872 by omega) (by exact Nat.le_of_ble_eq_true rfl)⟩ (fun v G1 H locs hp hG hS => ?_)
  obtain ⟨r, ou2, hv2, hI2, hval⟩ := hmid _ _ hp
  subst hv2
  have hI3 := hI2
  obtain ⟨aB, aW, aH, aS, aT, wn, hn, nb, nw, ba, wa, ha, bf, hf, wf, sh, tk, cB, cT, cS, cL, cW, bx, tr, su, li, wi, l1, l2, l3, l4, hC, hM, hv, hh, hwf, ho⟩ := hI2
  refine W.eq (g2 := F0 m 723 ls [.int r]) rfl ?_
  refine lv_istore (lv' := [(6, .int r), (5, .int kk), (0, .ref b), (1, .ref o), (2, .ref mo), (3, .ref out), (4, .int (nI i))]) hx hb d_Lw_law_723 hl (by decide) rfl (fun ls hl => ?_)
  refine lv_aload_n hx hb d_Lw_law_725 rfl (lv_at hl 4 rfl) ?_
  refine gs_V (As := []) (rest := []) (k_Md_thrown l D k zb G1 mo cB cT cS cL cW kk wn hn nb nw bx tr su li wi l1 l2 l3 l4 hM) E hml hl.1 (cg_V (C := R_Md) hw w_510 w_507 w_4 w_508 sel_Md_thrown hd_Md_thrown ⟨by exact Nat.le_of_ble_eq_true rfl, by exact Nat.le_of_ble_eq_true rfl⟩) hG hK hX hS hM.1 rfl rfl rfl rfl (by exact Nat.le_of_ble_eq_true rfl) d_Lw_law_726 ⟨Nat.le_trans (show C9 + 2 + 0 ≤ 659066 by omega) (by exact Nat.le_of_ble_eq_true rfl), Nat.le_trans (show S9 + 12 + 0 ≤ 7118872 by omega) (by exact Nat.le_of_ble_eq_true rfl)⟩ (fun v G1 H locs hp hG hS => ?_)
  obtain ⟨hv1, hG1⟩ := hp
  subst hv1
  rw [hG1] at hG
  refine W.eq (g2 := F0 m 729 ls [.int kk]) rfl ?_
  refine lv_iload hx hb d_Lw_law_729 (lv_at hl 1 rfl) ?_
  refine lv_icmp_eq (tgt := 736) hx hb d_Lw_law_731 (by decide) (fun c_1 => ?_) (fun c_1 => ?_)
  · refine lv_iload hx hb d_Lw_law_736 (lv_at hl 1 rfl) ?_
    refine lv_if_ne (tgt := 760) hx hb d_Lw_law_738 (by decide) (fun c_2 => ?_) (fun c_2 => ?_)
    · refine lv_goto (tgt := 1307) hx hb d_Lw_law_760 (by decide) ?_
      refine W.widen (k := C9 + 4) (n := S9 + 25) (by show C9 + 2 ≤ C9 + 4; omega) (by show S9 + 12 ≤ S9 + 25; omega) ?_
      exact hnext _ kk ou2 _ _ ls hI3 hG hS (lv_sub hl [2, 3, 4, 5, 6] rfl)
    · refine lv_aload_n hx hb d_Lw_law_741 rfl (lv_at hl 5 rfl) ?_
      refine lv_iconst (v := 0) hx hb d_Lw_law_742 (by decide) ?_
      refine gn_lald E hK.1 hG ho 1 rfl (j := 0) (by decide) (by decide) d_Lw_law_743 ?_
      refine lv_iload hx hb d_Lw_law_744 (lv_at hl 0 rfl) ?_
      refine lv_if_eq (tgt := 753) hx hb d_Lw_law_746 (by decide) (fun c_3 => ?_) (fun c_3 => ?_)
      · refine lv_lconst (v := 0) hx hb d_Lw_law_753 (by decide) ?_
        refine W.lcmp hx hb d_Lw_law_754 ?_
        refine lv_if_eq (tgt := 760) hx hb d_Lw_law_755 (by decide) (fun c_4 => ?_) (fun c_4 => ?_)
        · rw [lg_cmp_eq] at c_4
          refine lv_goto (tgt := 1307) hx hb d_Lw_law_760 (by decide) ?_
          refine W.widen (k := C9 + 4) (n := S9 + 25) (by show C9 + 2 ≤ C9 + 4; omega) (by show S9 + 12 ≤ S9 + 25; omega) ?_
          exact hnext _ kk ou2 _ _ ls hI3 hG hS (lv_sub hl [2, 3, 4, 5, 6] rfl)
        · rw [lg_cmp_eq] at c_4
          exact absurd ((hval c_2).trans (if_pos c_3)) c_4
      · refine lv_lconst (v := 1) hx hb d_Lw_law_749 (by decide) ?_
        refine lv_goto (tgt := 754) hx hb d_Lw_law_750 (by decide) ?_
        refine W.lcmp hx hb d_Lw_law_754 ?_
        refine lv_if_eq (tgt := 760) hx hb d_Lw_law_755 (by decide) (fun c_5 => ?_) (fun c_5 => ?_)
        · rw [lg_cmp_eq] at c_5
          refine lv_goto (tgt := 1307) hx hb d_Lw_law_760 (by decide) ?_
          refine W.widen (k := C9 + 4) (n := S9 + 25) (by show C9 + 2 ≤ C9 + 4; omega) (by show S9 + 12 ≤ S9 + 25; omega) ?_
          exact hnext _ kk ou2 _ _ ls hI3 hG hS (lv_sub hl [2, 3, 4, 5, 6] rfl)
        · rw [lg_cmp_eq] at c_5
          exact absurd ((hval c_2).trans (if_neg c_3)) c_5
  · exact absurd rfl c_1
set_option maxHeartbeats 4000000 in
set_option maxRecDepth 100000 in
theorem lc_shadows {p : Program} {l : Launch} {e : Env} {s : State} {m : MethodId} {below : List Frame} {meth : Method} {c : Code} {Q : State → Prop} {D : va_G} {k : Nat → ClassId} {zb b L : Nat} {xs : Nat → Int32} (hnt : l.stackTraces = false) (E : gs_E p s m #[Value.ref b] c c_Lw_law wW R_Lw) (hml : c.maxLocals = 7) (hK : gs_K D k s) (hX : gs_X zb s s.heap) (hXs : va_X b L xs s s.heap) (hbl : b < s.heap.size) (hbz : b < zb) (hL : L ≤ 3586) {i o mo out : Nat} (hi : i + 7 ≤ L) {C9 S9 : Nat} (hC9 : C9 + 4 ≤ 659066) (hS9 : S9 + 25 ≤ 7118872) {G : Nat → Option va_E} {th : Int32} {ou : Nat → Int64} {H : Heap} {locs : List Loc} {ls : Array Slot} (hI : InvT k G o mo out th ou) (hG : gs_W D classes zb G H) (hS : gs_S zb s.heap H locs) (hl : lv_has ls 7 [(0, .ref b), (1, .ref o), (2, .ref mo), (3, .ref out), (4, .int (nI i))]) (hnext : ∀ (G2 : Nat → Option va_E) (th2 : Int32) (ou2 : Nat → Int64) (H2 : Heap) (locs2 : List Loc) (ls2 : Array Slot), InvT k G2 o mo out th2 ou2 → gs_W D classes zb G2 H2 → gs_S zb s.heap H2 locs2 → lv_has ls2 7 [(0, .ref b), (1, .ref o), (2, .ref mo), (3, .ref out), (4, .int (nI i))] → W p l e room_1 s m #[Value.ref b] below meth c H2 locs2 (C9 + 4) (S9 + 25) Q (F0 m 1307 ls2 [])) : W p l e room_1 s m #[Value.ref b] below meth c H locs C9 S9 Q (F0 m 763 ls []) := by
  obtain ⟨hx, hb, hw, hown⟩ := id E
  obtain ⟨aB, aW, aH, aS, aT, wn, hn, nb, nw, ba, wa, ha, bf, hf, wf, sh, tk, cB, cT, cS, cL, cW, bx, tr, su, li, wi, l1, l2, l3, l4, hC, hM, hv, hh, hwf, ho⟩ := hI
  refine lv_aload_n hx hb d_Lw_law_763 rfl (lv_at hl 1 rfl) ?_
  refine lv_aload_n hx hb d_Lw_law_764 rfl (lv_at hl 0 rfl) ?_
  refine lv_iload hx hb d_Lw_law_765 (lv_at hl 4 rfl) ?_
  refine lv_iconst (v := 1) hx hb d_Lw_law_767 (by decide) ?_
  refine lv_iadd hx hb d_Lw_law_768 ?_
  refine lv_topE (show (nI i) + 1 = nI (i + 1) from nI_add i 1) ?_
  refine va_sld hx hb hXs hbl (Nat.not_le.mpr hbz) hS (vp_in_nI (n := (i + 1)) (by omega) (by omega)) d_Lw_law_769 ?_
  refine lv_topE (show xs (nI (i + 1)).toNatClampNeg = xs (i + 1) from by rw [nI_clamp (by omega)]) ?_
  refine lv_aload_n hx hb d_Lw_law_770 rfl (lv_at hl 0 rfl) ?_
  refine lv_iload hx hb d_Lw_law_771 (lv_at hl 4 rfl) ?_
  refine lv_iconst (v := 2) hx hb d_Lw_law_773 (by decide) ?_
  refine lv_iadd hx hb d_Lw_law_774 ?_
  refine lv_topE (show (nI i) + 2 = nI (i + 2) from nI_add i 2) ?_
  refine va_sld hx hb hXs hbl (Nat.not_le.mpr hbz) hS (vp_in_nI (n := (i + 2)) (by omega) (by omega)) d_Lw_law_775 ?_
  refine lv_topE (show xs (nI (i + 2)).toNatClampNeg = xs (i + 2) from by rw [nI_clamp (by omega)]) ?_
  refine lv_aload_n hx hb d_Lw_law_776 rfl (lv_at hl 3 rfl) ?_
  refine gs_StW (As := [.ref o, .int (xs (i + 1)), .int (xs (i + 2)), .ref out]) (rest := []) (k_Lw_shadows l hnt D k zb G o aB aW aH aS aT wn hn nb nw ba wa ha bf hf wf sh tk out ou (xs (i + 1)) (xs (i + 2)) hC ho) E hml hl.1 (cg_SW hw w_350 w_348 w_0 w_349 hd_Lw_shadows ⟨by exact Nat.le_of_ble_eq_true rfl, by exact Nat.le_of_ble_eq_true rfl⟩) hG hK hX hS rfl rfl (by exact Nat.le_of_ble_eq_true rfl) d_Lw_law_777 ⟨Nat.le_trans (show C9 + 0 + 3 ≤ 659066 by omega) (by exact Nat.le_of_ble_eq_true rfl), Nat.le_trans (show S9 + 0 + 18 ≤ 7118872 by omega) (by exact Nat.le_of_ble_eq_true rfl)⟩ (fun v G1 H locs hp hG hS => ?_)
  obtain ⟨kk, hv1, hM1, hmid⟩ := mid_shadows hC hM hv hh hwf ho hp
  subst hv1
  refine W.eq (g2 := F0 m 780 ls [.int kk]) rfl ?_
  refine lv_istore (lv' := [(5, .int kk), (0, .ref b), (1, .ref o), (2, .ref mo), (3, .ref out), (4, .int (nI i))]) hx hb d_Lw_law_780 hl (by decide) rfl (fun ls hl => ?_)
  refine lv_aload_n hx hb d_Lw_law_782 rfl (lv_at hl 3 rfl) ?_
  refine lv_aload_n hx hb d_Lw_law_783 rfl (lv_at hl 1 rfl) ?_
  refine lv_iload hx hb d_Lw_law_784 (lv_at hl 5 rfl) ?_
  refine lv_iconst (v := 1) hx hb d_Lw_law_786 (by decide) ?_
  refine lv_iadd hx hb d_Lw_law_787 ?_
  refine lv_topE (show (nI i) + 1 = nI (i + 1) from nI_add i 1) ?_
  refine va_sld hx hb hXs hbl (Nat.not_le.mpr hbz) hS (vp_in_nI (n := (i + 1)) (by omega) (by omega)) d_Lw_law_788 ?_
  refine lv_topE (show xs (nI (i + 1)).toNatClampNeg = xs (i + 1) from by rw [nI_clamp (by omega)]) ?_
  refine lv_aload_n hx hb d_Lw_law_789 rfl (lv_at hl 1 rfl) ?_
  refine lv_iload hx hb d_Lw_law_790 (lv_at hl 5 rfl) ?_
  refine lv_iconst (v := 2) hx hb d_Lw_law_792 (by decide) ?_
  refine lv_iadd hx hb d_Lw_law_793 ?_
  refine lv_topE (show (nI i) + 2 = nI (i + 2) from nI_add i 2) ?_
  refine va_sld hx hb hXs hbl (Nat.not_le.mpr hbz) hS (vp_in_nI (n := (i + 2)) (by omega) (by omega)) d_Lw_law_794 ?_
  refine lv_topE (show xs (nI (i + 2)).toNatClampNeg = xs (i + 2) from by rw [nI_clamp (by omega)]) ?_
  refine gs_V (As := [.int (xs (i + 1)), .int (xs (i + 2))]) (rest := []) (k_Md_shadows l D k zb G1 mo cB cT cS cL cW th wn hn nb nw bx tr su li wi l1 l2 l3 l4 (xs (i + 1)) (xs (i + 2)) hM1 hC.2.1.1 hC.2.1.2.1 ⟨hC.2.1.2.2.1, hC.2.1.2.2.2.1⟩ ⟨hC.2.1.2.2.2.2.1, hC.2.1.2.2.2.2.2⟩) E hml hl.1 (cg_V (C := R_Md) hw w_584 w_581 w_4 w_582 sel_Md_shadows hd_Md_shadows ⟨by exact Nat.le_of_ble_eq_true rfl, by exact Nat.le_of_ble_eq_true rfl⟩) hG hK hX hS hM1.1 rfl rfl rfl rfl (by exact Nat.le_of_ble_eq_true rfl) d_Lw_law_795 ⟨Nat.le_trans (show C9 + 3 + 0 ≤ 659066 by omega) (by exact Nat.le_of_ble_eq_true rfl), Nat.le_trans (show S9 + 18 + 0 ≤ 7118872 by omega) (by exact Nat.le_of_ble_eq_true rfl)⟩ (fun v G1 H locs hp hG hS => ?_)
  obtain ⟨r, ou2, hv2, hI2, hval⟩ := hmid _ _ hp
  subst hv2
  have hI3 := hI2
  obtain ⟨aB, aW, aH, aS, aT, wn, hn, nb, nw, ba, wa, ha, bf, hf, wf, sh, tk, cB, cT, cS, cL, cW, bx, tr, su, li, wi, l1, l2, l3, l4, hC, hM, hv, hh, hwf, ho⟩ := hI2
  refine W.eq (g2 := F0 m 798 ls [.int r]) rfl ?_
  refine lv_istore (lv' := [(6, .int r), (5, .int kk), (0, .ref b), (1, .ref o), (2, .ref mo), (3, .ref out), (4, .int (nI i))]) hx hb d_Lw_law_798 hl (by decide) rfl (fun ls hl => ?_)
  refine lv_aload_n hx hb d_Lw_law_800 rfl (lv_at hl 4 rfl) ?_
  refine gs_V (As := []) (rest := []) (k_Md_thrown l D k zb G1 mo cB cT cS cL cW kk wn hn nb nw bx tr su li wi l1 l2 l3 l4 hM) E hml hl.1 (cg_V (C := R_Md) hw w_510 w_507 w_4 w_508 sel_Md_thrown hd_Md_thrown ⟨by exact Nat.le_of_ble_eq_true rfl, by exact Nat.le_of_ble_eq_true rfl⟩) hG hK hX hS hM.1 rfl rfl rfl rfl (by exact Nat.le_of_ble_eq_true rfl) d_Lw_law_801 ⟨Nat.le_trans (show C9 + 3 + 0 ≤ 659066 by omega) (by exact Nat.le_of_ble_eq_true rfl), Nat.le_trans (show S9 + 18 + 0 ≤ 7118872 by omega) (by exact Nat.le_of_ble_eq_true rfl)⟩ (fun v G1 H locs hp hG hS => ?_)
  obtain ⟨hv1, hG1⟩ := hp
  subst hv1
  rw [hG1] at hG
  refine W.eq (g2 := F0 m 804 ls [.int kk]) rfl ?_
  refine lv_iload hx hb d_Lw_law_804 (lv_at hl 1 rfl) ?_
  refine lv_icmp_eq (tgt := 811) hx hb d_Lw_law_806 (by decide) (fun c_1 => ?_) (fun c_1 => ?_)
  · refine lv_iload hx hb d_Lw_law_811 (lv_at hl 1 rfl) ?_
    refine lv_if_ne (tgt := 828) hx hb d_Lw_law_813 (by decide) (fun c_2 => ?_) (fun c_2 => ?_)
    · refine lv_goto (tgt := 1307) hx hb d_Lw_law_828 (by decide) ?_
      refine W.widen (k := C9 + 4) (n := S9 + 25) (by show C9 + 3 ≤ C9 + 4; omega) (by show S9 + 18 ≤ S9 + 25; omega) ?_
      exact hnext _ kk ou2 _ _ ls hI3 hG hS (lv_sub hl [2, 3, 4, 5, 6] rfl)
    · refine lv_aload_n hx hb d_Lw_law_816 rfl (lv_at hl 5 rfl) ?_
      refine lv_iconst (v := 0) hx hb d_Lw_law_817 (by decide) ?_
      refine gn_lald E hK.1 hG ho 1 rfl (j := 0) (by decide) (by decide) d_Lw_law_818 ?_
      refine lv_iload hx hb d_Lw_law_819 (lv_at hl 0 rfl) ?_
      refine lv_i2l hx hb d_Lw_law_821 rfl ?_
      refine W.lcmp hx hb d_Lw_law_822 ?_
      refine lv_if_eq (tgt := 828) hx hb d_Lw_law_823 (by decide) (fun c_3 => ?_) (fun c_3 => ?_)
      · rw [lg_cmp_eq] at c_3
        refine lv_goto (tgt := 1307) hx hb d_Lw_law_828 (by decide) ?_
        refine W.widen (k := C9 + 4) (n := S9 + 25) (by show C9 + 3 ≤ C9 + 4; omega) (by show S9 + 18 ≤ S9 + 25; omega) ?_
        exact hnext _ kk ou2 _ _ ls hI3 hG hS (lv_sub hl [2, 3, 4, 5, 6] rfl)
      · rw [lg_cmp_eq] at c_3
        exact absurd (hval c_2) c_3
  · exact absurd rfl c_1
set_option maxHeartbeats 4000000 in
set_option maxRecDepth 100000 in
theorem lc_dark {p : Program} {l : Launch} {e : Env} {s : State} {m : MethodId} {below : List Frame} {meth : Method} {c : Code} {Q : State → Prop} {D : va_G} {k : Nat → ClassId} {zb b L : Nat} {xs : Nat → Int32} (hnt : l.stackTraces = false) (E : gs_E p s m #[Value.ref b] c c_Lw_law wW R_Lw) (hml : c.maxLocals = 7) (hK : gs_K D k s) (hX : gs_X zb s s.heap) (hXs : va_X b L xs s s.heap) (hbl : b < s.heap.size) (hbz : b < zb) (hL : L ≤ 3586) {i o mo out : Nat} (hi : i + 7 ≤ L) {C9 S9 : Nat} (hC9 : C9 + 4 ≤ 659066) (hS9 : S9 + 25 ≤ 7118872) {G : Nat → Option va_E} {th : Int32} {ou : Nat → Int64} {H : Heap} {locs : List Loc} {ls : Array Slot} (hI : InvT k G o mo out th ou) (hG : gs_W D classes zb G H) (hS : gs_S zb s.heap H locs) (hl : lv_has ls 7 [(0, .ref b), (1, .ref o), (2, .ref mo), (3, .ref out), (4, .int (nI i))]) (hnext : ∀ (G2 : Nat → Option va_E) (th2 : Int32) (ou2 : Nat → Int64) (H2 : Heap) (locs2 : List Loc) (ls2 : Array Slot), InvT k G2 o mo out th2 ou2 → gs_W D classes zb G2 H2 → gs_S zb s.heap H2 locs2 → lv_has ls2 7 [(0, .ref b), (1, .ref o), (2, .ref mo), (3, .ref out), (4, .int (nI i))] → W p l e room_1 s m #[Value.ref b] below meth c H2 locs2 (C9 + 4) (S9 + 25) Q (F0 m 1307 ls2 [])) : W p l e room_1 s m #[Value.ref b] below meth c H locs C9 S9 Q (F0 m 831 ls []) := by
  obtain ⟨hx, hb, hw, hown⟩ := id E
  obtain ⟨aB, aW, aH, aS, aT, wn, hn, nb, nw, ba, wa, ha, bf, hf, wf, sh, tk, cB, cT, cS, cL, cW, bx, tr, su, li, wi, l1, l2, l3, l4, hC, hM, hv, hh, hwf, ho⟩ := hI
  refine lv_aload_n hx hb d_Lw_law_831 rfl (lv_at hl 1 rfl) ?_
  refine lv_aload_n hx hb d_Lw_law_832 rfl (lv_at hl 0 rfl) ?_
  refine lv_iload hx hb d_Lw_law_833 (lv_at hl 4 rfl) ?_
  refine lv_iconst (v := 1) hx hb d_Lw_law_835 (by decide) ?_
  refine lv_iadd hx hb d_Lw_law_836 ?_
  refine lv_topE (show (nI i) + 1 = nI (i + 1) from nI_add i 1) ?_
  refine va_sld hx hb hXs hbl (Nat.not_le.mpr hbz) hS (vp_in_nI (n := (i + 1)) (by omega) (by omega)) d_Lw_law_837 ?_
  refine lv_topE (show xs (nI (i + 1)).toNatClampNeg = xs (i + 1) from by rw [nI_clamp (by omega)]) ?_
  refine lv_aload_n hx hb d_Lw_law_838 rfl (lv_at hl 0 rfl) ?_
  refine lv_iload hx hb d_Lw_law_839 (lv_at hl 4 rfl) ?_
  refine lv_iconst (v := 2) hx hb d_Lw_law_841 (by decide) ?_
  refine lv_iadd hx hb d_Lw_law_842 ?_
  refine lv_topE (show (nI i) + 2 = nI (i + 2) from nI_add i 2) ?_
  refine va_sld hx hb hXs hbl (Nat.not_le.mpr hbz) hS (vp_in_nI (n := (i + 2)) (by omega) (by omega)) d_Lw_law_843 ?_
  refine lv_topE (show xs (nI (i + 2)).toNatClampNeg = xs (i + 2) from by rw [nI_clamp (by omega)]) ?_
  refine lv_aload_n hx hb d_Lw_law_844 rfl (lv_at hl 3 rfl) ?_
  refine gs_StW (As := [.ref o, .int (xs (i + 1)), .int (xs (i + 2)), .ref out]) (rest := []) (k_Lw_dark l hnt D k zb G o aB aW aH aS aT wn hn nb nw ba wa ha bf hf wf sh tk out ou (xs (i + 1)) (xs (i + 2)) hC ho) E hml hl.1 (cg_SW hw w_363 w_361 w_0 w_362 hd_Lw_dark ⟨by exact Nat.le_of_ble_eq_true rfl, by exact Nat.le_of_ble_eq_true rfl⟩) hG hK hX hS rfl rfl (by exact Nat.le_of_ble_eq_true rfl) d_Lw_law_845 ⟨Nat.le_trans (show C9 + 0 + 3 ≤ 659066 by omega) (by exact Nat.le_of_ble_eq_true rfl), Nat.le_trans (show S9 + 0 + 18 ≤ 7118872 by omega) (by exact Nat.le_of_ble_eq_true rfl)⟩ (fun v G1 H locs hp hG hS => ?_)
  obtain ⟨kk, hv1, hM1, hmid⟩ := mid_dark hC hM hv hh hwf ho hp
  subst hv1
  refine W.eq (g2 := F0 m 848 ls [.int kk]) rfl ?_
  refine lv_istore (lv' := [(5, .int kk), (0, .ref b), (1, .ref o), (2, .ref mo), (3, .ref out), (4, .int (nI i))]) hx hb d_Lw_law_848 hl (by decide) rfl (fun ls hl => ?_)
  refine lv_aload_n hx hb d_Lw_law_850 rfl (lv_at hl 3 rfl) ?_
  refine lv_aload_n hx hb d_Lw_law_851 rfl (lv_at hl 1 rfl) ?_
  refine lv_iload hx hb d_Lw_law_852 (lv_at hl 5 rfl) ?_
  refine lv_iconst (v := 1) hx hb d_Lw_law_854 (by decide) ?_
  refine lv_iadd hx hb d_Lw_law_855 ?_
  refine lv_topE (show (nI i) + 1 = nI (i + 1) from nI_add i 1) ?_
  refine va_sld hx hb hXs hbl (Nat.not_le.mpr hbz) hS (vp_in_nI (n := (i + 1)) (by omega) (by omega)) d_Lw_law_856 ?_
  refine lv_topE (show xs (nI (i + 1)).toNatClampNeg = xs (i + 1) from by rw [nI_clamp (by omega)]) ?_
  refine lv_aload_n hx hb d_Lw_law_857 rfl (lv_at hl 1 rfl) ?_
  refine lv_iload hx hb d_Lw_law_858 (lv_at hl 5 rfl) ?_
  refine lv_iconst (v := 2) hx hb d_Lw_law_860 (by decide) ?_
  refine lv_iadd hx hb d_Lw_law_861 ?_
  refine lv_topE (show (nI i) + 2 = nI (i + 2) from nI_add i 2) ?_
  refine va_sld hx hb hXs hbl (Nat.not_le.mpr hbz) hS (vp_in_nI (n := (i + 2)) (by omega) (by omega)) d_Lw_law_862 ?_
  refine lv_topE (show xs (nI (i + 2)).toNatClampNeg = xs (i + 2) from by rw [nI_clamp (by omega)]) ?_
  refine gs_V (As := [.int (xs (i + 1)), .int (xs (i + 2))]) (rest := []) (k_Md_dark l D k zb G1 mo cB cT cS cL cW th wn hn nb nw bx tr su li wi l1 l2 l3 l4 wf (xs (i + 1)) (xs (i + 2)) hM1 hC.2.1.1 hC.2.1.2.1 ⟨hC.2.1.2.2.1, hC.2.1.2.2.2.1⟩ ⟨hC.2.1.2.2.2.2.1, hC.2.1.2.2.2.2.2⟩ hwf) E hml hl.1 (cg_V (C := R_Md) hw w_588 w_585 w_4 w_586 sel_Md_dark hd_Md_dark ⟨by exact Nat.le_of_ble_eq_true rfl, by exact Nat.le_of_ble_eq_true rfl⟩) hG hK hX hS hM1.1 rfl rfl rfl rfl (by exact Nat.le_of_ble_eq_true rfl) d_Lw_law_863 ⟨Nat.le_trans (show C9 + 3 + 0 ≤ 659066 by omega) (by exact Nat.le_of_ble_eq_true rfl), Nat.le_trans (show S9 + 18 + 0 ≤ 7118872 by omega) (by exact Nat.le_of_ble_eq_true rfl)⟩ (fun v G1 H locs hp hG hS => ?_)
  obtain ⟨r, ou2, hv2, hI2, hval⟩ := hmid _ _ hp
  subst hv2
  have hI3 := hI2
  obtain ⟨aB, aW, aH, aS, aT, wn, hn, nb, nw, ba, wa, ha, bf, hf, wf, sh, tk, cB, cT, cS, cL, cW, bx, tr, su, li, wi, l1, l2, l3, l4, hC, hM, hv, hh, hwf, ho⟩ := hI2
  refine W.eq (g2 := F0 m 866 ls [.int r]) rfl ?_
  refine lv_istore (lv' := [(6, .int r), (5, .int kk), (0, .ref b), (1, .ref o), (2, .ref mo), (3, .ref out), (4, .int (nI i))]) hx hb d_Lw_law_866 hl (by decide) rfl (fun ls hl => ?_)
  refine lv_aload_n hx hb d_Lw_law_868 rfl (lv_at hl 4 rfl) ?_
  refine gs_V (As := []) (rest := []) (k_Md_thrown l D k zb G1 mo cB cT cS cL cW kk wn hn nb nw bx tr su li wi l1 l2 l3 l4 hM) E hml hl.1 (cg_V (C := R_Md) hw w_510 w_507 w_4 w_508 sel_Md_thrown hd_Md_thrown ⟨by exact Nat.le_of_ble_eq_true rfl, by exact Nat.le_of_ble_eq_true rfl⟩) hG hK hX hS hM.1 rfl rfl rfl rfl (by exact Nat.le_of_ble_eq_true rfl) d_Lw_law_869 ⟨Nat.le_trans (show C9 + 3 + 0 ≤ 659066 by omega) (by exact Nat.le_of_ble_eq_true rfl), Nat.le_trans (show S9 + 18 + 0 ≤ 7118872 by omega) (by exact Nat.le_of_ble_eq_true rfl)⟩ (fun v G1 H locs hp hG hS => ?_)
  obtain ⟨hv1, hG1⟩ := hp
  subst hv1
  rw [hG1] at hG
  refine W.eq (g2 := F0 m 872 ls [.int kk]) rfl ?_
  refine lv_iload hx hb d_Lw_law_872 (lv_at hl 1 rfl) ?_
  refine lv_icmp_eq (tgt := 879) hx hb d_Lw_law_874 (by decide) (fun c_1 => ?_) (fun c_1 => ?_)
  · refine lv_iload hx hb d_Lw_law_879 (lv_at hl 1 rfl) ?_
    refine lv_if_ne (tgt := 896) hx hb d_Lw_law_881 (by decide) (fun c_2 => ?_) (fun c_2 => ?_)
    · refine lv_goto (tgt := 1307) hx hb d_Lw_law_896 (by decide) ?_
      refine W.widen (k := C9 + 4) (n := S9 + 25) (by show C9 + 3 ≤ C9 + 4; omega) (by show S9 + 18 ≤ S9 + 25; omega) ?_
      exact hnext _ kk ou2 _ _ ls hI3 hG hS (lv_sub hl [2, 3, 4, 5, 6] rfl)
    · refine lv_aload_n hx hb d_Lw_law_884 rfl (lv_at hl 5 rfl) ?_
      refine lv_iconst (v := 0) hx hb d_Lw_law_885 (by decide) ?_
      refine gn_lald E hK.1 hG ho 1 rfl (j := 0) (by decide) (by decide) d_Lw_law_886 ?_
      refine lv_iload hx hb d_Lw_law_887 (lv_at hl 0 rfl) ?_
      refine lv_i2l hx hb d_Lw_law_889 rfl ?_
      refine W.lcmp hx hb d_Lw_law_890 ?_
      refine lv_if_eq (tgt := 896) hx hb d_Lw_law_891 (by decide) (fun c_3 => ?_) (fun c_3 => ?_)
      · rw [lg_cmp_eq] at c_3
        refine lv_goto (tgt := 1307) hx hb d_Lw_law_896 (by decide) ?_
        refine W.widen (k := C9 + 4) (n := S9 + 25) (by show C9 + 3 ≤ C9 + 4; omega) (by show S9 + 18 ≤ S9 + 25; omega) ?_
        exact hnext _ kk ou2 _ _ ls hI3 hG hS (lv_sub hl [2, 3, 4, 5, 6] rfl)
      · rw [lg_cmp_eq] at c_3
        exact absurd (hval c_2) c_3
  · exact absurd rfl c_1
set_option maxHeartbeats 4000000 in
set_option maxRecDepth 100000 in
theorem lc_cell {p : Program} {l : Launch} {e : Env} {s : State} {m : MethodId} {below : List Frame} {meth : Method} {c : Code} {Q : State → Prop} {D : va_G} {k : Nat → ClassId} {zb b L : Nat} {xs : Nat → Int32} (hnt : l.stackTraces = false) (E : gs_E p s m #[Value.ref b] c c_Lw_law wW R_Lw) (hml : c.maxLocals = 7) (hK : gs_K D k s) (hX : gs_X zb s s.heap) (hXs : va_X b L xs s s.heap) (hbl : b < s.heap.size) (hbz : b < zb) (hL : L ≤ 3586) {i o mo out : Nat} (hi : i + 7 ≤ L) {C9 S9 : Nat} (hC9 : C9 + 4 ≤ 659066) (hS9 : S9 + 25 ≤ 7118872) {G : Nat → Option va_E} {th : Int32} {ou : Nat → Int64} {H : Heap} {locs : List Loc} {ls : Array Slot} (hI : InvT k G o mo out th ou) (hG : gs_W D classes zb G H) (hS : gs_S zb s.heap H locs) (hl : lv_has ls 7 [(0, .ref b), (1, .ref o), (2, .ref mo), (3, .ref out), (4, .int (nI i))]) (hnext : ∀ (G2 : Nat → Option va_E) (th2 : Int32) (ou2 : Nat → Int64) (H2 : Heap) (locs2 : List Loc) (ls2 : Array Slot), InvT k G2 o mo out th2 ou2 → gs_W D classes zb G2 H2 → gs_S zb s.heap H2 locs2 → lv_has ls2 7 [(0, .ref b), (1, .ref o), (2, .ref mo), (3, .ref out), (4, .int (nI i))] → W p l e room_1 s m #[Value.ref b] below meth c H2 locs2 (C9 + 4) (S9 + 25) Q (F0 m 1307 ls2 [])) : W p l e room_1 s m #[Value.ref b] below meth c H locs C9 S9 Q (F0 m 899 ls []) := by
  obtain ⟨hx, hb, hw, hown⟩ := id E
  obtain ⟨aB, aW, aH, aS, aT, wn, hn, nb, nw, ba, wa, ha, bf, hf, wf, sh, tk, cB, cT, cS, cL, cW, bx, tr, su, li, wi, l1, l2, l3, l4, hC, hM, hv, hh, hwf, ho⟩ := hI
  refine lv_aload_n hx hb d_Lw_law_899 rfl (lv_at hl 1 rfl) ?_
  refine lv_aload_n hx hb d_Lw_law_900 rfl (lv_at hl 0 rfl) ?_
  refine lv_iload hx hb d_Lw_law_901 (lv_at hl 4 rfl) ?_
  refine lv_iconst (v := 1) hx hb d_Lw_law_903 (by decide) ?_
  refine lv_iadd hx hb d_Lw_law_904 ?_
  refine lv_topE (show (nI i) + 1 = nI (i + 1) from nI_add i 1) ?_
  refine va_sld hx hb hXs hbl (Nat.not_le.mpr hbz) hS (vp_in_nI (n := (i + 1)) (by omega) (by omega)) d_Lw_law_905 ?_
  refine lv_topE (show xs (nI (i + 1)).toNatClampNeg = xs (i + 1) from by rw [nI_clamp (by omega)]) ?_
  refine lv_aload_n hx hb d_Lw_law_906 rfl (lv_at hl 0 rfl) ?_
  refine lv_iload hx hb d_Lw_law_907 (lv_at hl 4 rfl) ?_
  refine lv_iconst (v := 2) hx hb d_Lw_law_909 (by decide) ?_
  refine lv_iadd hx hb d_Lw_law_910 ?_
  refine lv_topE (show (nI i) + 2 = nI (i + 2) from nI_add i 2) ?_
  refine va_sld hx hb hXs hbl (Nat.not_le.mpr hbz) hS (vp_in_nI (n := (i + 2)) (by omega) (by omega)) d_Lw_law_911 ?_
  refine lv_topE (show xs (nI (i + 2)).toNatClampNeg = xs (i + 2) from by rw [nI_clamp (by omega)]) ?_
  refine lv_aload_n hx hb d_Lw_law_912 rfl (lv_at hl 3 rfl) ?_
  refine gs_StW (As := [.ref o, .int (xs (i + 1)), .int (xs (i + 2)), .ref out]) (rest := []) (k_Lw_cell_c l hnt D k zb G o aB aW aH aS aT wn hn nb nw ba wa ha bf hf wf sh tk out ou (xs (i + 1)) (xs (i + 2)) hC ho) E hml hl.1 (cg_SW hw w_384 w_382 w_0 w_383 hd_Lw_cell_c ⟨by exact Nat.le_of_ble_eq_true rfl, by exact Nat.le_of_ble_eq_true rfl⟩) hG hK hX hS rfl rfl (by exact Nat.le_of_ble_eq_true rfl) d_Lw_law_913 ⟨Nat.le_trans (show C9 + 0 + 2 ≤ 659066 by omega) (by exact Nat.le_of_ble_eq_true rfl), Nat.le_trans (show S9 + 0 + 12 ≤ 7118872 by omega) (by exact Nat.le_of_ble_eq_true rfl)⟩ (fun v G1 H locs hp hG hS => ?_)
  obtain ⟨kk, hv1, hM1, hmid⟩ := mid_cell hC hM hv hh hwf ho hp
  subst hv1
  refine W.eq (g2 := F0 m 916 ls [.int kk]) rfl ?_
  refine lv_istore (lv' := [(5, .int kk), (0, .ref b), (1, .ref o), (2, .ref mo), (3, .ref out), (4, .int (nI i))]) hx hb d_Lw_law_916 hl (by decide) rfl (fun ls hl => ?_)
  refine lv_aload_n hx hb d_Lw_law_918 rfl (lv_at hl 3 rfl) ?_
  refine lv_aload_n hx hb d_Lw_law_919 rfl (lv_at hl 1 rfl) ?_
  refine lv_iload hx hb d_Lw_law_920 (lv_at hl 5 rfl) ?_
  refine lv_iconst (v := 1) hx hb d_Lw_law_922 (by decide) ?_
  refine lv_iadd hx hb d_Lw_law_923 ?_
  refine lv_topE (show (nI i) + 1 = nI (i + 1) from nI_add i 1) ?_
  refine va_sld hx hb hXs hbl (Nat.not_le.mpr hbz) hS (vp_in_nI (n := (i + 1)) (by omega) (by omega)) d_Lw_law_924 ?_
  refine lv_topE (show xs (nI (i + 1)).toNatClampNeg = xs (i + 1) from by rw [nI_clamp (by omega)]) ?_
  refine lv_aload_n hx hb d_Lw_law_925 rfl (lv_at hl 1 rfl) ?_
  refine lv_iload hx hb d_Lw_law_926 (lv_at hl 5 rfl) ?_
  refine lv_iconst (v := 2) hx hb d_Lw_law_928 (by decide) ?_
  refine lv_iadd hx hb d_Lw_law_929 ?_
  refine lv_topE (show (nI i) + 2 = nI (i + 2) from nI_add i 2) ?_
  refine va_sld hx hb hXs hbl (Nat.not_le.mpr hbz) hS (vp_in_nI (n := (i + 2)) (by omega) (by omega)) d_Lw_law_930 ?_
  refine lv_topE (show xs (nI (i + 2)).toNatClampNeg = xs (i + 2) from by rw [nI_clamp (by omega)]) ?_
  refine gs_V (As := [.int (xs (i + 1)), .int (xs (i + 2))]) (rest := []) (k_Md_cell l D k zb G1 mo cB cT cS cL cW th wn hn nb nw bx tr su li wi l1 l2 l3 l4 (xs (i + 1)) (xs (i + 2)) hM1 hC.2.1.1 hC.2.1.2.1 ⟨hC.2.1.2.2.1, hC.2.1.2.2.2.1⟩ ⟨hC.2.1.2.2.2.2.1, hC.2.1.2.2.2.2.2⟩) E hml hl.1 (cg_V (C := R_Md) hw w_600 w_597 w_4 w_598 sel_Md_cell hd_Md_cell ⟨by exact Nat.le_of_ble_eq_true rfl, by exact Nat.le_of_ble_eq_true rfl⟩) hG hK hX hS hM1.1 rfl rfl rfl rfl (by exact Nat.le_of_ble_eq_true rfl) d_Lw_law_931 ⟨Nat.le_trans (show C9 + 2 + 0 ≤ 659066 by omega) (by exact Nat.le_of_ble_eq_true rfl), Nat.le_trans (show S9 + 12 + 0 ≤ 7118872 by omega) (by exact Nat.le_of_ble_eq_true rfl)⟩ (fun v G1 H locs hp hG hS => ?_)
  obtain ⟨r, ou2, hv2, hI2, hval⟩ := hmid _ _ hp
  subst hv2
  have hI3 := hI2
  obtain ⟨aB, aW, aH, aS, aT, wn, hn, nb, nw, ba, wa, ha, bf, hf, wf, sh, tk, cB, cT, cS, cL, cW, bx, tr, su, li, wi, l1, l2, l3, l4, hC, hM, hv, hh, hwf, ho⟩ := hI2
  refine W.eq (g2 := F0 m 934 ls [.int r]) rfl ?_
  refine lv_istore (lv' := [(6, .int r), (5, .int kk), (0, .ref b), (1, .ref o), (2, .ref mo), (3, .ref out), (4, .int (nI i))]) hx hb d_Lw_law_934 hl (by decide) rfl (fun ls hl => ?_)
  refine lv_aload_n hx hb d_Lw_law_936 rfl (lv_at hl 4 rfl) ?_
  refine gs_V (As := []) (rest := []) (k_Md_thrown l D k zb G1 mo cB cT cS cL cW kk wn hn nb nw bx tr su li wi l1 l2 l3 l4 hM) E hml hl.1 (cg_V (C := R_Md) hw w_510 w_507 w_4 w_508 sel_Md_thrown hd_Md_thrown ⟨by exact Nat.le_of_ble_eq_true rfl, by exact Nat.le_of_ble_eq_true rfl⟩) hG hK hX hS hM.1 rfl rfl rfl rfl (by exact Nat.le_of_ble_eq_true rfl) d_Lw_law_937 ⟨Nat.le_trans (show C9 + 2 + 0 ≤ 659066 by omega) (by exact Nat.le_of_ble_eq_true rfl), Nat.le_trans (show S9 + 12 + 0 ≤ 7118872 by omega) (by exact Nat.le_of_ble_eq_true rfl)⟩ (fun v G1 H locs hp hG hS => ?_)
  obtain ⟨hv1, hG1⟩ := hp
  subst hv1
  rw [hG1] at hG
  refine W.eq (g2 := F0 m 940 ls [.int kk]) rfl ?_
  refine lv_iload hx hb d_Lw_law_940 (lv_at hl 1 rfl) ?_
  refine lv_icmp_eq (tgt := 947) hx hb d_Lw_law_942 (by decide) (fun c_1 => ?_) (fun c_1 => ?_)
  · refine lv_iload hx hb d_Lw_law_947 (lv_at hl 1 rfl) ?_
    refine lv_if_ne (tgt := 964) hx hb d_Lw_law_949 (by decide) (fun c_2 => ?_) (fun c_2 => ?_)
    · refine lv_goto (tgt := 1307) hx hb d_Lw_law_964 (by decide) ?_
      refine W.widen (k := C9 + 4) (n := S9 + 25) (by show C9 + 2 ≤ C9 + 4; omega) (by show S9 + 12 ≤ S9 + 25; omega) ?_
      exact hnext _ kk ou2 _ _ ls hI3 hG hS (lv_sub hl [2, 3, 4, 5, 6] rfl)
    · refine lv_aload_n hx hb d_Lw_law_952 rfl (lv_at hl 5 rfl) ?_
      refine lv_iconst (v := 0) hx hb d_Lw_law_953 (by decide) ?_
      refine gn_lald E hK.1 hG ho 1 rfl (j := 0) (by decide) (by decide) d_Lw_law_954 ?_
      refine lv_iload hx hb d_Lw_law_955 (lv_at hl 0 rfl) ?_
      refine lv_i2l hx hb d_Lw_law_957 rfl ?_
      refine W.lcmp hx hb d_Lw_law_958 ?_
      refine lv_if_eq (tgt := 964) hx hb d_Lw_law_959 (by decide) (fun c_3 => ?_) (fun c_3 => ?_)
      · rw [lg_cmp_eq] at c_3
        refine lv_goto (tgt := 1307) hx hb d_Lw_law_964 (by decide) ?_
        refine W.widen (k := C9 + 4) (n := S9 + 25) (by show C9 + 2 ≤ C9 + 4; omega) (by show S9 + 12 ≤ S9 + 25; omega) ?_
        exact hnext _ kk ou2 _ _ ls hI3 hG hS (lv_sub hl [2, 3, 4, 5, 6] rfl)
      · rw [lg_cmp_eq] at c_3
        exact absurd (hval c_2) c_3
  · exact absurd rfl c_1
