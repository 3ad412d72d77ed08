/-! contracts, by program -/
set_option maxHeartbeats 4000000 in
set_option maxRecDepth 100000 in
theorem k_Wn_columns (l : Launch) (D : va_G) (k : Nat → ClassId) (zb : Nat) (G : Nat → Option va_E) (a2 : Nat) (u0 v0 u1 v1 : Int32) (hb2 : G a2 = some (.inr (2, [.int u0, .int v0, .int u1, .int v1]))) : Met l y_Wn_columns (wM y_Wn_columns c_Wn_columns 1 (some .long)) ({ frames := 1, cells := 0, slots := 0, locals := 21 }) (gs_P D k zb G [.ref a2]) (gs_Q D zb (fun v G1 => v = some (.long (jc_cells u0 (u1 - 1))) ∧ G1 = G)) 0 0 (fun q : Nat => zb ≤ q) := by
  refine Met.ofW (cc := c_Wn_columns) (maxL := 1) (ret := (some .long)) (by decide) rfl ?_
  intro p e s m args below meth c s₁ B hml hv
  obtain ⟨rfl, hG, hK, hX⟩ := hv
  have hx := B.exec
  have hb := B.bytes
  have hr := B.returns
  have hts := atoms_spec (ws := wM y_Wn_columns c_Wn_columns 1 (some .long)) B.pre
  have hw : ∀ w9 ∈ wW, w9.before ([.ref a2] : List Value).toArray s = true := fun w9 h9 => hts w9 (gi_in w9 h9)
  have hown : s.vm.findClass R_Wn = some m.cls := findClass_of_methodNamed B.named
  have hlocks := B.notSynchronized
  have E : gs_E p s m ([.ref a2] : List Value).toArray c c_Wn_columns wW R_Wn := ⟨hx, hb, hw, hown⟩
  have hS : gs_S zb s.heap s.heap [] := va_S.rf
  have hl := lv_entry ([.ref a2]) (n := 1) (Nat.le_of_ble_eq_true rfl)
  rw [lg_entry_eq]
  generalize (lg_sl ([.ref a2]) ++ List.replicate (1 - (lg_sl ([.ref a2])).length) Slot.unset).toArray = ls at hl ⊢
  have hl : lv_has ls 1 [(0, .ref a2)] := hl
  refine lv_aload_n hx hb d_Wn_columns_0 rfl (lv_at hl 0 rfl) ?_
  refine gs_get E hK.1 hG hb2 (C := R_Wn) (T := F_Wn) (N := 4) rfl i_Wn 0 (by decide) w_278 (v := .int u0) rfl d_Wn_columns_1 ?_
  refine lv_aload_n hx hb d_Wn_columns_4 rfl (lv_at hl 0 rfl) ?_
  refine gs_get E hK.1 hG hb2 (C := R_Wn) (T := F_Wn) (N := 4) rfl i_Wn 2 (by decide) w_281 (v := .int u1) rfl d_Wn_columns_5 ?_
  refine lv_iconst (v := 1) hx hb d_Wn_columns_8 (by decide) ?_
  refine lv_isub hx hb d_Wn_columns_9 ?_
  refine gs_SN (As := [.int u0, .int (u1 - 1)]) (rest := []) (k_Ss_cellsBetween l D k zb G u0 (u1 - 1)) E hml hl.1 (cg_N hw w_344 hK.2.1.2.2 w_1 hd_Ss_cellsBetween ⟨by exact Nat.le_of_ble_eq_true rfl, by exact Nat.le_of_ble_eq_true rfl⟩) w_343 hG hK hX hS rfl rfl (by exact Nat.le_of_ble_eq_true rfl) d_Wn_columns_10 ⟨by exact Nat.le_of_ble_eq_true rfl, by exact Nat.le_of_ble_eq_true rfl⟩ (fun v G1 H locs hp hG hS => ?_)
  obtain ⟨hv1, hG1⟩ := hp
  subst hv1
  rw [hG1] at hG
  refine W.eq (g2 := F0 m 13 ls [.long (jc_cells u0 (u1 - 1))]) rfl ?_
  refine W.lret (v := (jc_cells u0 (u1 - 1))) hx hb hr (gs_end ⟨?_, rfl⟩ hG hS) hS.2.2 d_Wn_columns_13
  rfl
set_option maxHeartbeats 4000000 in
set_option maxRecDepth 100000 in
theorem k_Wn_cellCount (l : Launch) (D : va_G) (k : Nat → ClassId) (zb : Nat) (G : Nat → Option va_E) (a2 : Nat) (u0 v0 u1 v1 : Int32) (hb2 : G a2 = some (.inr (2, [.int u0, .int v0, .int u1, .int v1]))) : Met l y_Wn_cellCount (wM y_Wn_cellCount c_Wn_cellCount 1 (some .int)) ({ frames := 0, cells := 0, slots := 0, locals := 0 }) (gs_P D k zb G [.ref a2]) (gs_Q D zb (fun v G1 => v = some (.int ((u1 - u0) * (v1 - v0))) ∧ G1 = G)) 0 0 (fun q : Nat => zb ≤ q) := by
  refine Met.ofW (cc := c_Wn_cellCount) (maxL := 1) (ret := (some .int)) (by decide) rfl ?_
  intro p e s m args below meth c s₁ B hml hv
  obtain ⟨rfl, hG, hK, hX⟩ := hv
  have hx := B.exec
  have hb := B.bytes
  have hr := B.returns
  have hts := atoms_spec (ws := wM y_Wn_cellCount c_Wn_cellCount 1 (some .int)) B.pre
  have hw : ∀ w9 ∈ wW, w9.before ([.ref a2] : List Value).toArray s = true := fun w9 h9 => hts w9 (gi_in w9 h9)
  have hown : s.vm.findClass R_Wn = some m.cls := findClass_of_methodNamed B.named
  have hlocks := B.notSynchronized
  have E : gs_E p s m ([.ref a2] : List Value).toArray c c_Wn_cellCount wW R_Wn := ⟨hx, hb, hw, hown⟩
  have hS : gs_S zb s.heap s.heap [] := va_S.rf
  have hl := lv_entry ([.ref a2]) (n := 1) (Nat.le_of_ble_eq_true rfl)
  rw [lg_entry_eq]
  generalize (lg_sl ([.ref a2]) ++ List.replicate (1 - (lg_sl ([.ref a2])).length) Slot.unset).toArray = ls at hl ⊢
  have hl : lv_has ls 1 [(0, .ref a2)] := hl
  refine lv_aload_n hx hb d_Wn_cellCount_0 rfl (lv_at hl 0 rfl) ?_
  refine gs_get E hK.1 hG hb2 (C := R_Wn) (T := F_Wn) (N := 4) rfl i_Wn 2 (by decide) w_281 (v := .int u1) rfl d_Wn_cellCount_1 ?_
  refine lv_aload_n hx hb d_Wn_cellCount_4 rfl (lv_at hl 0 rfl) ?_
  refine gs_get E hK.1 hG hb2 (C := R_Wn) (T := F_Wn) (N := 4) rfl i_Wn 0 (by decide) w_278 (v := .int u0) rfl d_Wn_cellCount_5 ?_
  refine lv_isub hx hb d_Wn_cellCount_8 ?_
  refine lv_aload_n hx hb d_Wn_cellCount_9 rfl (lv_at hl 0 rfl) ?_
  refine gs_get E hK.1 hG hb2 (C := R_Wn) (T := F_Wn) (N := 4) rfl i_Wn 3 (by decide) w_282 (v := .int v1) rfl d_Wn_cellCount_10 ?_
  refine lv_aload_n hx hb d_Wn_cellCount_13 rfl (lv_at hl 0 rfl) ?_
  refine gs_get E hK.1 hG hb2 (C := R_Wn) (T := F_Wn) (N := 4) rfl i_Wn 1 (by decide) w_279 (v := .int v0) rfl d_Wn_cellCount_14 ?_
  refine lv_isub hx hb d_Wn_cellCount_17 ?_
  refine lv_imul hx hb d_Wn_cellCount_18 ?_
  refine W.iret (v := ((u1 - u0) * (v1 - v0))) hx hb hr (gs_end ⟨?_, rfl⟩ hG hS) hS.2.2 d_Wn_cellCount_19
  rfl
set_option maxHeartbeats 4000000 in
set_option maxRecDepth 100000 in
theorem k_dark0 (l : Launch) (D : va_G) (k : Nat → ClassId) (zb : Nat) (G : Nat → Option va_E) (o aB aW aH aS aT : Nat) (wn hn nb nw : Nat) (ba wa ha : Nat → Nat) (bf hf : Nat → Nat → Int32) (wf : Nat → Nat → Nat) (sh : Nat → Int64) (tk : Nat → Int32) (a2 m0 m1 m2 m3 : Nat) (a1 : Nat) (X Y Z am : Int32) (hC : sC k G o aB aW aH aS aT wn hn nb nw ba wa ha bf hf wf sh tk) (hb2 : G a2 = some (.inr (2, [.int (nI m0), .int (nI m1), .int (nI m2), .int (nI m3)]))) (hm : m1 ≤ m3) (hm3 : m3 ≤ 60) (hb1 : G a1 = some (.inr (1, [.int X, .int Y, .int Z, .int am]))) : Met l y_Ss_darkCells (wM y_Ss_darkCells c_Ss_darkCells 10 (some .int)) ({ frames := 4, cells := 0, slots := 0, locals := 105 }) (gs_P D k zb G [.ref o, .ref a2, .ref a1, .null]) (gs_Q D zb (fun v G1 => v = some (.int (jc_dark nb bf X Y Z (nI wn) ld_no m0 m1 m2 m3)) ∧ G1 = G)) 0 0 (fun q : Nat => zb ≤ q) := by
  refine Met.ofW (cc := c_Ss_darkCells) (maxL := 10) (ret := (some .int)) (by decide) rfl ?_
  intro p e s m args below meth c s₁ B hml hv
  obtain ⟨rfl, hG, hK, hX⟩ := hv
  have hx := B.exec
  have hb := B.bytes
  have hr := B.returns
  have hts := atoms_spec (ws := wM y_Ss_darkCells c_Ss_darkCells 10 (some .int)) B.pre
  have hw : ∀ w9 ∈ wW, w9.before ([.ref o, .ref a2, .ref a1, .null] : List Value).toArray s = true := fun w9 h9 => hts w9 (gi_in w9 h9)
  have hown : s.vm.findClass R_Ss = some m.cls := findClass_of_methodNamed B.named
  have hlocks := B.notSynchronized
  have E : gs_E p s m ([.ref o, .ref a2, .ref a1, .null] : List Value).toArray c c_Ss_darkCells wW R_Ss := ⟨hx, hb, hw, hown⟩
  have hS : gs_S zb s.heap s.heap [] := va_S.rf
  have hl := lv_entry ([.ref o, .ref a2, .ref a1, .null]) (n := 10) (Nat.le_of_ble_eq_true rfl)
  rw [lg_entry_eq]
  generalize (lg_sl ([.ref o, .ref a2, .ref a1, .null]) ++ List.replicate (10 - (lg_sl ([.ref o, .ref a2, .ref a1, .null])).length) Slot.unset).toArray = ls at hl ⊢
  have hl : lv_has ls 10 [(0, .ref o), (1, .ref a2), (2, .ref a1), (3, .null)] := hl
  refine lv_aload_n hx hb d_Ss_darkCells_0 rfl (lv_at hl 1 rfl) ?_
  refine gs_V (As := []) (rest := []) (k_Wn_columns l D k zb G a2 (nI m0) (nI m1) (nI m2) (nI m3) hb2) E hml hl.1 (cg_V (C := R_Wn) hw w_380 w_377 w_11 w_378 sel_Wn_columns hd_Wn_columns ⟨by exact Nat.le_of_ble_eq_true rfl, by exact Nat.le_of_ble_eq_true rfl⟩) hG hK hX hS hb2 rfl rfl rfl rfl (by exact Nat.le_of_ble_eq_true rfl) d_Ss_darkCells_1 ⟨by exact Nat.le_of_ble_eq_true rfl, by exact Nat.le_of_ble_eq_true rfl⟩ (fun v G1 H locs hp hG hS => ?_)
  obtain ⟨hv1, hG1⟩ := hp
  subst hv1
  rw [hG1] at hG
  refine W.eq (g2 := F0 m 4 ls [.long (jc_cells (nI m0) ((nI m2) - 1))]) rfl ?_
  refine lv_topl (fun v_1 ev_1 => ?_)
  refine lv_lstore (lv' := [(4, .long v_1), (0, .ref o), (1, .ref a2), (2, .ref a1), (3, .null)]) hx hb d_Ss_darkCells_4 hl (by decide) rfl (fun ls hl => ?_)
  refine lv_iconst (v := 0) hx hb d_Ss_darkCells_6 (by decide) ?_
  refine lv_istore (lv' := [(6, .int 0), (4, .long v_1), (0, .ref o), (1, .ref a2), (2, .ref a1), (3, .null)]) hx hb d_Ss_darkCells_7 hl (by decide) rfl (fun ls hl => ?_)
  refine lv_aload_n hx hb d_Ss_darkCells_9 rfl (lv_at hl 3 rfl) ?_
  refine gs_get E hK.1 hG hb2 (C := R_Wn) (T := F_Wn) (N := 4) rfl i_Wn 1 (by decide) w_280 (v := .int (nI m1)) rfl d_Ss_darkCells_10 ?_
  refine lv_topi (fun v_2 ev_2 => ?_)
  refine lv_istore (lv' := [(7, .int v_2), (6, .int 0), (4, .long v_1), (0, .ref o), (1, .ref a2), (2, .ref a1), (3, .null)]) hx hb d_Ss_darkCells_13 hl (by decide) rfl (fun ls hl => ?_)
  subst ev_2
  subst ev_1
  have lp : ∀ (fu : Nat) (j : Nat) (acc : Int32), m1 + j ≤ m3 → m3 + 1 ≤ m1 + j + fu → (hacc : acc = jc_sum (jc_dk nb bf X Y Z (nI wn) ld_no (jc_cells (nI m0) (nI m2 - 1)) m1) j) → ∀ (H : Heap) (locs : List Loc), gs_W D classes zb G H → gs_S zb s.heap H locs → ∀ (ls : Array Slot), lv_has ls 10 [(0, .ref o), (1, .ref a2), (2, .ref a1), (3, .null), (4, .long (jc_cells (nI m0) (nI m2 - 1))), (6, .int acc), (7, .int (nI (m1 + j)))] → W p l e (headSpec (wM y_Ss_darkCells c_Ss_darkCells 10 (some .int)) ({ frames := 4, cells := 0, slots := 0, locals := 105 })).room s m ([.ref o, .ref a2, .ref a1, .null] : List Value).toArray below meth c H locs 0 0 (MQ below (gs_Q D zb (fun v G1 => v = some (.int (jc_dark nb bf X Y Z (nI wn) ld_no m0 m1 m2 m3)) ∧ G1 = G)) ([.ref o, .ref a2, .ref a1, .null] : List Value).toArray s 0 0 (fun q : Nat => zb ≤ q)) (F0 m 15 ls []) := by
    intro fu
    induction fu with
    | zero => intro j acc hle hfu; exact absurd hfu (by omega)
    | succ fu IH =>
      intro j acc hle hfu hacc H locs hG hS ls hl
      refine lv_iload hx hb d_Ss_darkCells_15 (lv_at hl 6 rfl) ?_
      refine lv_aload_n hx hb d_Ss_darkCells_17 rfl (lv_at hl 1 rfl) ?_
      refine gs_get E hK.1 hG hb2 (C := R_Wn) (T := F_Wn) (N := 4) rfl i_Wn 3 (by decide) w_283 (v := .int (nI m3)) rfl d_Ss_darkCells_18 ?_
      refine lv_icmp_ge (tgt := 72) hx hb d_Ss_darkCells_21 (by decide) (fun c_3 => ?_) (fun c_3 => ?_)
      · have hend : (m1 + j) = m3 := cl_eq (by have := hC.2.1; omega) hle c_3
        refine lv_iload hx hb d_Ss_darkCells_72 (lv_at hl 5 rfl) ?_
        refine W.iret (v := acc) hx hb hr (gs_end ⟨?_, rfl⟩ hG hS) hS.2.2 d_Ss_darkCells_74
        rw [hacc, jc_dark, ← hend, Nat.add_sub_cancel_left]
      · have hlt : (m1 + j) < m3 := cl_lt (by have := hC.2.1; omega) hle c_3
        refine lv_aload_n hx hb d_Ss_darkCells_24 rfl (lv_at hl 0 rfl) ?_
        refine lv_iload hx hb d_Ss_darkCells_25 (lv_at hl 6 rfl) ?_
        refine lv_aload_n hx hb d_Ss_darkCells_27 rfl (lv_at hl 2 rfl) ?_
        refine gs_V (As := [.int (nI (m1 + j)), .ref a1]) (rest := []) (k_Ss_shadeOfRow l D k zb G o aB aW aH aS aT wn hn nb nw ba wa ha bf hf wf sh tk a1 X Y Z am (nI (m1 + j)) hC hb1) E hml hl.1 (cg_V (C := R_Ss) hw w_313 w_310 w_1 w_312 sel_Ss_shadeOfRow hd_Ss_shadeOfRow ⟨by exact Nat.le_of_ble_eq_true rfl, by exact Nat.le_of_ble_eq_true rfl⟩) hG hK hX hS hC.1.1 rfl rfl rfl rfl (by exact Nat.le_of_ble_eq_true rfl) d_Ss_darkCells_28 ⟨by exact Nat.le_of_ble_eq_true rfl, by exact Nat.le_of_ble_eq_true rfl⟩ (fun v G1 H locs hp hG hS => ?_)
        obtain ⟨hv1, hG1⟩ := hp
        subst hv1
        rw [hG1] at hG
        refine W.eq (g2 := F0 m 31 ls [.long (jc_row nb bf X Y Z (nI (m1 + j)) (nI wn) 10)]) rfl ?_
        refine lv_topl (fun v_4 ev_4 => ?_)
        refine lv_lstore (lv' := [(8, .long v_4), (0, .ref o), (1, .ref a2), (2, .ref a1), (3, .null), (4, .long (jc_cells (nI m0) (nI m2 - 1))), (6, .int acc), (7, .int (nI (m1 + j)))]) hx hb d_Ss_darkCells_31 hl (by decide) rfl (fun ls hl => ?_)
        refine lv_aload_nN hx hb d_Ss_darkCells_33 rfl (lv_at hl 4 rfl) ?_
        refine lv_ifnullN (tgt := 53) hx hb d_Ss_darkCells_34 (by decide) ?_
        refine lv_iload hx hb d_Ss_darkCells_53 (lv_at hl 6 rfl) ?_
        refine lv_lload hx hb d_Ss_darkCells_55 (lv_at hl 0 rfl) ?_
        refine lv_lload hx hb d_Ss_darkCells_57 (lv_at hl 5 rfl) ?_
        refine lv_land hx hb d_Ss_darkCells_59 ?_
        refine gs_St (As := [.long (v_4 &&& (jc_cells (nI m0) (nI m2 - 1)))]) (rest := [.int acc]) (k_Lo_bitCount l D k zb G (v_4 &&& (jc_cells (nI m0) (nI m2 - 1)))) E hml hl.1 (cg_S hw w_357 w_355 w_12 w_356 hd_Lo_bitCount ⟨by exact Nat.le_of_ble_eq_true rfl, by exact Nat.le_of_ble_eq_true rfl⟩) hG hK hX hS rfl rfl (by exact Nat.le_of_ble_eq_true rfl) d_Ss_darkCells_60 ⟨by exact Nat.le_of_ble_eq_true rfl, by exact Nat.le_of_ble_eq_true rfl⟩ (fun v G1 H locs hp hG hS => ?_)
        obtain ⟨hv1, hG1⟩ := hp
        subst hv1
        rw [hG1] at hG
        refine W.eq (g2 := F0 m 63 ls [.int (jc_bits (v_4 &&& (jc_cells (nI m0) (nI m2 - 1)))), .int acc]) rfl ?_
        refine lv_iadd hx hb d_Ss_darkCells_63 ?_
        refine lv_topi (fun v_5 ev_5 => ?_)
        refine lv_istore (lv' := [(6, .int v_5), (8, .long v_4), (0, .ref o), (1, .ref a2), (2, .ref a1), (3, .null), (4, .long (jc_cells (nI m0) (nI m2 - 1))), (7, .int (nI (m1 + j)))]) hx hb d_Ss_darkCells_64 hl (by decide) rfl (fun ls hl => ?_)
        refine lv_iinc (v := nI ((m1 + j) + 1)) (lv' := [(7, .int (nI ((m1 + j) + 1))), (6, .int v_5), (8, .long v_4), (0, .ref o), (1, .ref a2), (2, .ref a1), (3, .null), (4, .long (jc_cells (nI m0) (nI m2 - 1)))]) hx hb d_Ss_darkCells_66 hl (k := 7) rfl (nI_1 _) (by decide) rfl (fun ls hl => ?_)
        refine lv_goto (tgt := 15) hx hb d_Ss_darkCells_69 (by decide) ?_
        exact IH (j + 1) v_5 (by omega) (by omega) (by subst ev_5 ev_4; rw [hacc]; rfl) _ _ hG hS ls (lv_sub hl [3, 4, 5, 6, 7, 1, 0] rfl)
  exact lp (m3 + 1) 0 0 (by omega) (by omega) rfl _ _ hG hS ls (lv_sub hl [3, 4, 5, 6, 2, 1, 0] rfl)
set_option maxHeartbeats 4000000 in
set_option maxRecDepth 100000 in
theorem k_dark1 (l : Launch) (D : va_G) (k : Nat → ClassId) (zb : Nat) (G : Nat → Option va_E) (o aB aW aH aS aT : Nat) (wn hn nb nw : Nat) (ba wa ha : Nat → Nat) (bf hf : Nat → Nat → Int32) (wf : Nat → Nat → Nat) (sh : Nat → Int64) (tk : Nat → Int32) (a2 m0 m1 m2 m3 : Nat) (a1 : Nat) (X Y Z am : Int32) (a0 : Nat) (x0 y0 z0 x1 y1 z1 pr : Int32) (hC : sC k G o aB aW aH aS aT wn hn nb nw ba wa ha bf hf wf sh tk) (hb2 : G a2 = some (.inr (2, [.int (nI m0), .int (nI m1), .int (nI m2), .int (nI m3)]))) (hm : m1 ≤ m3) (hm3 : m3 ≤ 60) (hb1 : G a1 = some (.inr (1, [.int X, .int Y, .int Z, .int am]))) (hb0 : G a0 = some (.inr (0, [.int x0, .int y0, .int z0, .int x1, .int y1, .int z1, .int pr]))) : Met l y_Ss_darkCells (wM y_Ss_darkCells c_Ss_darkCells 10 (some .int)) ({ frames := 4, cells := 0, slots := 0, locals := 105 }) (gs_P D k zb G [.ref o, .ref a2, .ref a1, .ref a0]) (gs_Q D zb (fun v G1 => v = some (.int (jc_dark nb bf X Y Z (nI wn) (ld_box pr x0 y0 z0 x1 y1 z1 X Y Z (nI wn)) m0 m1 m2 m3)) ∧ G1 = G)) 0 0 (fun q : Nat => zb ≤ q) := by
  refine Met.ofW (cc := c_Ss_darkCells) (maxL := 10) (ret := (some .int)) (by decide) rfl ?_
  intro p e s m args below meth c s₁ B hml hv
  obtain ⟨rfl, hG, hK, hX⟩ := hv
  have hx := B.exec
  have hb := B.bytes
  have hr := B.returns
  have hts := atoms_spec (ws := wM y_Ss_darkCells c_Ss_darkCells 10 (some .int)) B.pre
  have hw : ∀ w9 ∈ wW, w9.before ([.ref o, .ref a2, .ref a1, .ref a0] : List Value).toArray s = true := fun w9 h9 => hts w9 (gi_in w9 h9)
  have hown : s.vm.findClass R_Ss = some m.cls := findClass_of_methodNamed B.named
  have hlocks := B.notSynchronized
  have E : gs_E p s m ([.ref o, .ref a2, .ref a1, .ref a0] : List Value).toArray c c_Ss_darkCells wW R_Ss := ⟨hx, hb, hw, hown⟩
  have hS : gs_S zb s.heap s.heap [] := va_S.rf
  have hl := lv_entry ([.ref o, .ref a2, .ref a1, .ref a0]) (n := 10) (Nat.le_of_ble_eq_true rfl)
  rw [lg_entry_eq]
  generalize (lg_sl ([.ref o, .ref a2, .ref a1, .ref a0]) ++ List.replicate (10 - (lg_sl ([.ref o, .ref a2, .ref a1, .ref a0])).length) Slot.unset).toArray = ls at hl ⊢
  have hl : lv_has ls 10 [(0, .ref o), (1, .ref a2), (2, .ref a1), (3, .ref a0)] := hl
  refine lv_aload_n hx hb d_Ss_darkCells_0 rfl (lv_at hl 1 rfl) ?_
  refine gs_V (As := []) (rest := []) (k_Wn_columns l D k zb G a2 (nI m0) (nI m1) (nI m2) (nI m3) hb2) E hml hl.1 (cg_V (C := R_Wn) hw w_380 w_377 w_11 w_378 sel_Wn_columns hd_Wn_columns ⟨by exact Nat.le_of_ble_eq_true rfl, by exact Nat.le_of_ble_eq_true rfl⟩) hG hK hX hS hb2 rfl rfl rfl rfl (by exact Nat.le_of_ble_eq_true rfl) d_Ss_darkCells_1 ⟨by exact Nat.le_of_ble_eq_true rfl, by exact Nat.le_of_ble_eq_true rfl⟩ (fun v G1 H locs hp hG hS => ?_)
  obtain ⟨hv1, hG1⟩ := hp
  subst hv1
  rw [hG1] at hG
  refine W.eq (g2 := F0 m 4 ls [.long (jc_cells (nI m0) ((nI m2) - 1))]) rfl ?_
  refine lv_topl (fun v_1 ev_1 => ?_)
  refine lv_lstore (lv' := [(4, .long v_1), (0, .ref o), (1, .ref a2), (2, .ref a1), (3, .ref a0)]) hx hb d_Ss_darkCells_4 hl (by decide) rfl (fun ls hl => ?_)
  refine lv_iconst (v := 0) hx hb d_Ss_darkCells_6 (by decide) ?_
  refine lv_istore (lv' := [(6, .int 0), (4, .long v_1), (0, .ref o), (1, .ref a2), (2, .ref a1), (3, .ref a0)]) hx hb d_Ss_darkCells_7 hl (by decide) rfl (fun ls hl => ?_)
  refine lv_aload_n hx hb d_Ss_darkCells_9 rfl (lv_at hl 3 rfl) ?_
  refine gs_get E hK.1 hG hb2 (C := R_Wn) (T := F_Wn) (N := 4) rfl i_Wn 1 (by decide) w_280 (v := .int (nI m1)) rfl d_Ss_darkCells_10 ?_
  refine lv_topi (fun v_2 ev_2 => ?_)
  refine lv_istore (lv' := [(7, .int v_2), (6, .int 0), (4, .long v_1), (0, .ref o), (1, .ref a2), (2, .ref a1), (3, .ref a0)]) hx hb d_Ss_darkCells_13 hl (by decide) rfl (fun ls hl => ?_)
  subst ev_2
  subst ev_1
  have lp : ∀ (fu : Nat) (j : Nat) (acc : Int32), m1 + j ≤ m3 → m3 + 1 ≤ m1 + j + fu → (hacc : acc = jc_sum (jc_dk nb bf X Y Z (nI wn) (ld_box pr x0 y0 z0 x1 y1 z1 X Y Z (nI wn)) (jc_cells (nI m0) (nI m2 - 1)) m1) j) → ∀ (H : Heap) (locs : List Loc), gs_W D classes zb G H → gs_S zb s.heap H locs → ∀ (ls : Array Slot), lv_has ls 10 [(0, .ref o), (1, .ref a2), (2, .ref a1), (3, .ref a0), (4, .long (jc_cells (nI m0) (nI m2 - 1))), (6, .int acc), (7, .int (nI (m1 + j)))] → W p l e (headSpec (wM y_Ss_darkCells c_Ss_darkCells 10 (some .int)) ({ frames := 4, cells := 0, slots := 0, locals := 105 })).room s m ([.ref o, .ref a2, .ref a1, .ref a0] : List Value).toArray below meth c H locs 0 0 (MQ below (gs_Q D zb (fun v G1 => v = some (.int (jc_dark nb bf X Y Z (nI wn) (ld_box pr x0 y0 z0 x1 y1 z1 X Y Z (nI wn)) m0 m1 m2 m3)) ∧ G1 = G)) ([.ref o, .ref a2, .ref a1, .ref a0] : List Value).toArray s 0 0 (fun q : Nat => zb ≤ q)) (F0 m 15 ls []) := by
    intro fu
    induction fu with
    | zero => intro j acc hle hfu; exact absurd hfu (by omega)
    | succ fu IH =>
      intro j acc hle hfu hacc H locs hG hS ls hl
      refine lv_iload hx hb d_Ss_darkCells_15 (lv_at hl 6 rfl) ?_
      refine lv_aload_n hx hb d_Ss_darkCells_17 rfl (lv_at hl 1 rfl) ?_
      refine gs_get E hK.1 hG hb2 (C := R_Wn) (T := F_Wn) (N := 4) rfl i_Wn 3 (by decide) w_283 (v := .int (nI m3)) rfl d_Ss_darkCells_18 ?_
      refine lv_icmp_ge (tgt := 72) hx hb d_Ss_darkCells_21 (by decide) (fun c_3 => ?_) (fun c_3 => ?_)
      · have hend : (m1 + j) = m3 := cl_eq (by have := hC.2.1; omega) hle c_3
        refine lv_iload hx hb d_Ss_darkCells_72 (lv_at hl 5 rfl) ?_
        refine W.iret (v := acc) hx hb hr (gs_end ⟨?_, rfl⟩ hG hS) hS.2.2 d_Ss_darkCells_74
        rw [hacc, jc_dark, ← hend, Nat.add_sub_cancel_left]
      · have hlt : (m1 + j) < m3 := cl_lt (by have := hC.2.1; omega) hle c_3
        refine lv_aload_n hx hb d_Ss_darkCells_24 rfl (lv_at hl 0 rfl) ?_
        refine lv_iload hx hb d_Ss_darkCells_25 (lv_at hl 6 rfl) ?_
        refine lv_aload_n hx hb d_Ss_darkCells_27 rfl (lv_at hl 2 rfl) ?_
        refine gs_V (As := [.int (nI (m1 + j)), .ref a1]) (rest := []) (k_Ss_shadeOfRow l D k zb G o aB aW aH aS aT wn hn nb nw ba wa ha bf hf wf sh tk a1 X Y Z am (nI (m1 + j)) hC hb1) E hml hl.1 (cg_V (C := R_Ss) hw w_313 w_310 w_1 w_312 sel_Ss_shadeOfRow hd_Ss_shadeOfRow ⟨by exact Nat.le_of_ble_eq_true rfl, by exact Nat.le_of_ble_eq_true rfl⟩) hG hK hX hS hC.1.1 rfl rfl rfl rfl (by exact Nat.le_of_ble_eq_true rfl) d_Ss_darkCells_28 ⟨by exact Nat.le_of_ble_eq_true rfl, by exact Nat.le_of_ble_eq_true rfl⟩ (fun v G1 H locs hp hG hS => ?_)
        obtain ⟨hv1, hG1⟩ := hp
        subst hv1
        rw [hG1] at hG
        refine W.eq (g2 := F0 m 31 ls [.long (jc_row nb bf X Y Z (nI (m1 + j)) (nI wn) 10)]) rfl ?_
        refine lv_topl (fun v_4 ev_4 => ?_)
        refine lv_lstore (lv' := [(8, .long v_4), (0, .ref o), (1, .ref a2), (2, .ref a1), (3, .ref a0), (4, .long (jc_cells (nI m0) (nI m2 - 1))), (6, .int acc), (7, .int (nI (m1 + j)))]) hx hb d_Ss_darkCells_31 hl (by decide) rfl (fun ls hl => ?_)
        refine lv_aload_n hx hb d_Ss_darkCells_33 rfl (lv_at hl 4 rfl) ?_
        refine lv_ifnull hx hb d_Ss_darkCells_34 ?_
        refine lv_lload hx hb d_Ss_darkCells_37 (lv_at hl 0 rfl) ?_
        refine lv_aload_n hx hb d_Ss_darkCells_39 rfl (lv_at hl 4 rfl) ?_
        refine lv_iload hx hb d_Ss_darkCells_40 (lv_at hl 7 rfl) ?_
        refine lv_aload_n hx hb d_Ss_darkCells_42 rfl (lv_at hl 3 rfl) ?_
        refine lv_aload_n hx hb d_Ss_darkCells_43 rfl (lv_at hl 1 rfl) ?_
        refine gs_get E hK.1 hG hC.1.1 (C := R_Ss) (T := F_Ss) (N := 9) rfl i_Ss 0 (by decide) w_60 (v := .int (nI wn)) rfl d_Ss_darkCells_44 ?_
        refine gs_V (As := [.int (nI (m1 + j)), .ref a1, .int (nI wn)]) (rest := [.long v_4]) (k_Bx_shadeThrownOnRow l D k zb G a0 x0 y0 z0 x1 y1 z1 pr a1 X Y Z am (nI (m1 + j)) (nI wn) hb0 hb1) E hml hl.1 (cg_V (C := R_Bx) hw w_317 w_314 w_5 w_315 sel_Bx_shadeThrownOnRow hd_Bx_shadeThrownOnRow ⟨by exact Nat.le_of_ble_eq_true rfl, by exact Nat.le_of_ble_eq_true rfl⟩) hG hK hX hS hb0 rfl rfl rfl rfl (by exact Nat.le_of_ble_eq_true rfl) d_Ss_darkCells_47 ⟨by exact Nat.le_of_ble_eq_true rfl, by exact Nat.le_of_ble_eq_true rfl⟩ (fun v G1 H locs hp hG hS => ?_)
        obtain ⟨hv1, hG1⟩ := hp
        subst hv1
        rw [hG1] at hG
        refine W.eq (g2 := F0 m 50 ls [.long (jc_shade pr x0 y0 z0 x1 y1 z1 X Y Z (nI (m1 + j)) (nI wn)), .long v_4]) rfl ?_
        refine lv_lor hx hb d_Ss_darkCells_50 ?_
        refine lv_topl (fun v_5 ev_5 => ?_)
        refine lv_lstore (lv' := [(8, .long v_5), (0, .ref o), (1, .ref a2), (2, .ref a1), (3, .ref a0), (4, .long (jc_cells (nI m0) (nI m2 - 1))), (6, .int acc), (7, .int (nI (m1 + j)))]) hx hb d_Ss_darkCells_51 hl (by decide) rfl (fun ls hl => ?_)
        refine lv_iload hx hb d_Ss_darkCells_53 (lv_at hl 6 rfl) ?_
        refine lv_lload hx hb d_Ss_darkCells_55 (lv_at hl 0 rfl) ?_
        refine lv_lload hx hb d_Ss_darkCells_57 (lv_at hl 5 rfl) ?_
        refine lv_land hx hb d_Ss_darkCells_59 ?_
        refine gs_St (As := [.long (v_5 &&& (jc_cells (nI m0) (nI m2 - 1)))]) (rest := [.int acc]) (k_Lo_bitCount l D k zb G (v_5 &&& (jc_cells (nI m0) (nI m2 - 1)))) E hml hl.1 (cg_S hw w_357 w_355 w_12 w_356 hd_Lo_bitCount ⟨by exact Nat.le_of_ble_eq_true rfl, by exact Nat.le_of_ble_eq_true rfl⟩) hG hK hX hS rfl rfl (by exact Nat.le_of_ble_eq_true rfl) d_Ss_darkCells_60 ⟨by exact Nat.le_of_ble_eq_true rfl, by exact Nat.le_of_ble_eq_true rfl⟩ (fun v G1 H locs hp hG hS => ?_)
        obtain ⟨hv1, hG1⟩ := hp
        subst hv1
        rw [hG1] at hG
        refine W.eq (g2 := F0 m 63 ls [.int (jc_bits (v_5 &&& (jc_cells (nI m0) (nI m2 - 1)))), .int acc]) rfl ?_
        refine lv_iadd hx hb d_Ss_darkCells_63 ?_
        refine lv_topi (fun v_6 ev_6 => ?_)
        refine lv_istore (lv' := [(6, .int v_6), (8, .long v_5), (0, .ref o), (1, .ref a2), (2, .ref a1), (3, .ref a0), (4, .long (jc_cells (nI m0) (nI m2 - 1))), (7, .int (nI (m1 + j)))]) hx hb d_Ss_darkCells_64 hl (by decide) rfl (fun ls hl => ?_)
        refine lv_iinc (v := nI ((m1 + j) + 1)) (lv' := [(7, .int (nI ((m1 + j) + 1))), (6, .int v_6), (8, .long v_5), (0, .ref o), (1, .ref a2), (2, .ref a1), (3, .ref a0), (4, .long (jc_cells (nI m0) (nI m2 - 1)))]) hx hb d_Ss_darkCells_66 hl (k := 7) rfl (nI_1 _) (by decide) rfl (fun ls hl => ?_)
        refine lv_goto (tgt := 15) hx hb d_Ss_darkCells_69 (by decide) ?_
        exact IH (j + 1) v_6 (by omega) (by omega) (by subst ev_6 ev_5 ev_4; rw [hacc]; rfl) _ _ hG hS ls (lv_sub hl [3, 4, 5, 6, 7, 1, 0] rfl)
  exact lp (m3 + 1) 0 0 (by omega) (by omega) rfl _ _ hG hS ls (lv_sub hl [3, 4, 5, 6, 2, 1, 0] rfl)
set_option maxHeartbeats 4000000 in
set_option maxRecDepth 100000 in
theorem k_Ss_lightOfHour (l : Launch) (D : va_G) (k : Nat → ClassId) (zb : Nat) (G : Nat → Option va_E) (o aB aW aH aS aT : Nat) (wn hn nb nw : Nat) (ba wa ha : Nat → Nat) (bf hf : Nat → Nat → Int32) (wf : Nat → Nat → Nat) (sh : Nat → Int64) (tk : Nat → Int32) (a2 m0 m1 m2 m3 : Nat) (a1 : Nat) (X Y Z am : Int32) (hC : sC k G o aB aW aH aS aT wn hn nb nw ba wa ha bf hf wf sh tk) (hb2 : G a2 = some (.inr (2, [.int (nI m0), .int (nI m1), .int (nI m2), .int (nI m3)]))) (hm : m1 ≤ m3) (hm3 : m3 ≤ 60) (hb1 : G a1 = some (.inr (1, [.int X, .int Y, .int Z, .int am]))) : Met l y_Ss_lightOfHour (wM y_Ss_lightOfHour c_Ss_lightOfHour 3 (some .int)) ({ frames := 5, cells := 0, slots := 0, locals := 134 }) (gs_P D k zb G [.ref o, .ref a2, .ref a1]) (gs_Q D zb (fun v G1 => v = some (.int (jc_lightOf nb bf X Y Z am (nI wn) m0 m1 m2 m3)) ∧ G1 = G)) 0 0 (fun q : Nat => zb ≤ q) := by
  refine Met.ofW (cc := c_Ss_lightOfHour) (maxL := 3) (ret := (some .int)) (by decide) rfl ?_
  intro p e s m args below meth c s₁ B hml hv
  obtain ⟨rfl, hG, hK, hX⟩ := hv
  have hx := B.exec
  have hb := B.bytes
  have hr := B.returns
  have hts := atoms_spec (ws := wM y_Ss_lightOfHour c_Ss_lightOfHour 3 (some .int)) B.pre
  have hw : ∀ w9 ∈ wW, w9.before ([.ref o, .ref a2, .ref a1] : List Value).toArray s = true := fun w9 h9 => hts w9 (gi_in w9 h9)
  have hown : s.vm.findClass R_Ss = some m.cls := findClass_of_methodNamed B.named
  have hlocks := B.notSynchronized
  have E : gs_E p s m ([.ref o, .ref a2, .ref a1] : List Value).toArray c c_Ss_lightOfHour wW R_Ss := ⟨hx, hb, hw, hown⟩
  have hS : gs_S zb s.heap s.heap [] := va_S.rf
  have hl := lv_entry ([.ref o, .ref a2, .ref a1]) (n := 3) (Nat.le_of_ble_eq_true rfl)
  rw [lg_entry_eq]
  generalize (lg_sl ([.ref o, .ref a2, .ref a1]) ++ List.replicate (3 - (lg_sl ([.ref o, .ref a2, .ref a1])).length) Slot.unset).toArray = ls at hl ⊢
  have hl : lv_has ls 3 [(0, .ref o), (1, .ref a2), (2, .ref a1)] := hl
  refine lv_aload_n hx hb d_Ss_lightOfHour_0 rfl (lv_at hl 2 rfl) ?_
  refine lv_ifnull hx hb d_Ss_lightOfHour_1 ?_
  refine lv_aload_n hx hb d_Ss_lightOfHour_4 rfl (lv_at hl 2 rfl) ?_
  refine gs_V (As := []) (rest := []) (k_Hr_hasSun l D k zb G a1 X Y Z am hb1) E hml hl.1 (cg_V (C := R_Hr) hw w_308 w_305 w_3 w_306 sel_Hr_hasSun hd_Hr_hasSun ⟨by exact Nat.le_of_ble_eq_true rfl, by exact Nat.le_of_ble_eq_true rfl⟩) hG hK hX hS hb1 rfl rfl rfl rfl (by exact Nat.le_of_ble_eq_true rfl) d_Ss_lightOfHour_5 ⟨by exact Nat.le_of_ble_eq_true rfl, by exact Nat.le_of_ble_eq_true rfl⟩ (fun v G1 H locs hp hG hS => ?_)
  obtain ⟨hv1, hG1⟩ := hp
  subst hv1
  rw [hG1] at hG
  refine W.eq (g2 := F0 m 8 ls [.int (jc_hasSun Z)]) rfl ?_
  refine lv_if_eq (tgt := 18) hx hb d_Ss_lightOfHour_8 (by decide) (fun c_1 => ?_) (fun c_1 => ?_)
  · refine lv_iconst (v := 0) hx hb d_Ss_lightOfHour_18 (by decide) ?_
    refine W.iret (v := 0) hx hb hr (gs_end ⟨?_, rfl⟩ hG hS) hS.2.2 d_Ss_lightOfHour_19
    simp only [jc_lightOf, if_pos c_1]
  · refine lv_aload_n hx hb d_Ss_lightOfHour_11 rfl (lv_at hl 2 rfl) ?_
    refine gs_get E hK.1 hG hb1 (C := R_Hr) (T := F_Hr) (N := 4) rfl i_Hr 3 (by decide) w_48 (v := .int am) rfl d_Ss_lightOfHour_12 ?_
    refine lv_if_ne (tgt := 20) hx hb d_Ss_lightOfHour_15 (by decide) (fun c_2 => ?_) (fun c_2 => ?_)
    · refine lv_aload_n hx hb d_Ss_lightOfHour_20 rfl (lv_at hl 2 rfl) ?_
      refine gs_get E hK.1 hG hb1 (C := R_Hr) (T := F_Hr) (N := 4) rfl i_Hr 3 (by decide) w_48 (v := .int am) rfl d_Ss_lightOfHour_21 ?_
      refine lv_aload_n hx hb d_Ss_lightOfHour_24 rfl (lv_at hl 1 rfl) ?_
      refine gs_V (As := []) (rest := [.int am]) (k_Wn_cellCount l D k zb G a2 (nI m0) (nI m1) (nI m2) (nI m3) hb2) E hml hl.1 (cg_V (C := R_Wn) hw w_407 w_404 w_11 w_405 sel_Wn_cellCount hd_Wn_cellCount ⟨by exact Nat.le_of_ble_eq_true rfl, by exact Nat.le_of_ble_eq_true rfl⟩) hG hK hX hS hb2 rfl rfl rfl rfl (by exact Nat.le_of_ble_eq_true rfl) d_Ss_lightOfHour_25 ⟨by exact Nat.le_of_ble_eq_true rfl, by exact Nat.le_of_ble_eq_true rfl⟩ (fun v G1 H locs hp hG hS => ?_)
      obtain ⟨hv1, hG1⟩ := hp
      subst hv1
      rw [hG1] at hG
      refine W.eq (g2 := F0 m 28 ls [.int (((nI m2) - (nI m0)) * ((nI m3) - (nI m1))), .int am]) rfl ?_
      refine lv_aload_n hx hb d_Ss_lightOfHour_28 rfl (lv_at hl 0 rfl) ?_
      refine lv_aload_n hx hb d_Ss_lightOfHour_29 rfl (lv_at hl 1 rfl) ?_
      refine lv_aload_n hx hb d_Ss_lightOfHour_30 rfl (lv_at hl 2 rfl) ?_
      refine lv_null hx hb d_Ss_lightOfHour_31 ?_
      refine gs_V (As := [.ref a2, .ref a1, .null]) (rest := [.int (((nI m2) - (nI m0)) * ((nI m3) - (nI m1))), .int am]) (k_dark0 l D k zb G o aB aW aH aS aT wn hn nb nw ba wa ha bf hf wf sh tk a2 m0 m1 m2 m3 a1 X Y Z am hC hb2 hm hm3 hb1) E hml hl.1 (cg_V (C := R_Ss) hw w_376 w_373 w_1 w_375 sel_Ss_darkCells hd_Ss_darkCells ⟨by exact Nat.le_of_ble_eq_true rfl, by exact Nat.le_of_ble_eq_true rfl⟩) hG hK hX hS hC.1.1 rfl rfl rfl rfl (by exact Nat.le_of_ble_eq_true rfl) d_Ss_lightOfHour_32 ⟨by exact Nat.le_of_ble_eq_true rfl, by exact Nat.le_of_ble_eq_true rfl⟩ (fun v G1 H locs hp hG hS => ?_)
      obtain ⟨hv1, hG1⟩ := hp
      subst hv1
      rw [hG1] at hG
      refine W.eq (g2 := F0 m 35 ls [.int (jc_dark nb bf X Y Z (nI wn) ld_no m0 m1 m2 m3), .int (((nI m2) - (nI m0)) * ((nI m3) - (nI m1))), .int am]) rfl ?_
      refine lv_isub hx hb d_Ss_lightOfHour_35 ?_
      refine lv_imul hx hb d_Ss_lightOfHour_36 ?_
      refine W.iret (v := (am * ((((nI m2) - (nI m0)) * ((nI m3) - (nI m1))) - (jc_dark nb bf X Y Z (nI wn) ld_no m0 m1 m2 m3)))) hx hb hr (gs_end ⟨?_, rfl⟩ hG hS) hS.2.2 d_Ss_lightOfHour_37
      simp only [jc_lightOf, if_neg c_1, if_neg c_2]
    · refine lv_iconst (v := 0) hx hb d_Ss_lightOfHour_18 (by decide) ?_
      refine W.iret (v := 0) hx hb hr (gs_end ⟨?_, rfl⟩ hG hS) hS.2.2 d_Ss_lightOfHour_19
      simp only [jc_lightOf, if_neg c_1, if_pos c_2]
set_option maxHeartbeats 4000000 in
set_option maxRecDepth 100000 in
theorem k_Ss_cellWithBefore (l : Launch) (D : va_G) (k : Nat → ClassId) (zb : Nat) (G : Nat → Option va_E) (cs : Int64) (b : Int32) : Met l y_Ss_cellWithBefore (wM y_Ss_cellWithBefore c_Ss_cellWithBefore 5 (some .int)) ({ frames := 1, cells := 0, slots := 0, locals := 22 }) (gs_P D k zb G [.long cs, .int b]) (gs_Q D zb (fun v G1 => v = some (.int (jc_with cs 60 0 b)) ∧ G1 = G)) 0 0 (fun q : Nat => zb ≤ q) := by
  refine Met.ofW (cc := c_Ss_cellWithBefore) (maxL := 5) (ret := (some .int)) (by decide) rfl ?_
  intro p e s m args below meth c s₁ B hml hv
  obtain ⟨rfl, hG, hK, hX⟩ := hv
  have hx := B.exec
  have hb := B.bytes
  have hr := B.returns
  have hts := atoms_spec (ws := wM y_Ss_cellWithBefore c_Ss_cellWithBefore 5 (some .int)) B.pre
  have hw : ∀ w9 ∈ wW, w9.before ([.long cs, .int b] : List Value).toArray s = true := fun w9 h9 => hts w9 (gi_in w9 h9)
  have hown : s.vm.findClass R_Ss = some m.cls := findClass_of_methodNamed B.named
  have hlocks := B.notSynchronized
  have E : gs_E p s m ([.long cs, .int b] : List Value).toArray c c_Ss_cellWithBefore wW R_Ss := ⟨hx, hb, hw, hown⟩
  have hS : gs_S zb s.heap s.heap [] := va_S.rf
  have hl := lv_entry ([.long cs, .int b]) (n := 5) (Nat.le_of_ble_eq_true rfl)
  rw [lg_entry_eq]
  generalize (lg_sl ([.long cs, .int b]) ++ List.replicate (5 - (lg_sl ([.long cs, .int b])).length) Slot.unset).toArray = ls at hl ⊢
  have hl : lv_has ls 5 [(0, .long cs), (2, .int b)] := hl
  refine lv_iload_n hx hb d_Ss_cellWithBefore_0 rfl (lv_at hl 1 rfl) ?_
  refine lv_istore_n (lv' := [(3, .int b), (0, .long cs), (2, .int b)]) hx hb d_Ss_cellWithBefore_1 rfl hl (by decide) rfl (fun ls hl => ?_)
  refine lv_iconst (v := 0) hx hb d_Ss_cellWithBefore_2 (by decide) ?_
  refine lv_istore (lv' := [(4, .int 0), (3, .int b), (0, .long cs), (2, .int b)]) hx hb d_Ss_cellWithBefore_3 hl (by decide) rfl (fun ls hl => ?_)
  have lp : ∀ (fu : Nat) (x : Nat) (n : Nat) (l9 : Int32), x ≤ 60 → 60 + 1 ≤ x + fu → (hn : x + n = 60) → (hinv : jc_with cs 60 0 b = jc_with cs n x l9) → ∀ (H : Heap) (locs : List Loc), gs_W D classes zb G H → gs_S zb s.heap H locs → ∀ (ls : Array Slot), lv_has ls 5 [(0, .long cs), (2, .int b), (3, .int l9), (4, .int (nI x))] → W p l e (headSpec (wM y_Ss_cellWithBefore c_Ss_cellWithBefore 5 (some .int)) ({ frames := 1, cells := 0, slots := 0, locals := 22 })).room s m ([.long cs, .int b] : List Value).toArray below meth c H locs 0 0 (MQ below (gs_Q D zb (fun v G1 => v = some (.int (jc_with cs 60 0 b)) ∧ G1 = G)) ([.long cs, .int b] : List Value).toArray s 0 0 (fun q : Nat => zb ≤ q)) (F0 m 5 ls []) := by
    intro fu
    induction fu with
    | zero => intro x n l9 hle hfu; exact absurd hfu (by omega)
    | succ fu IH =>
      intro x n l9 hle hfu hn hinv H locs hG hS ls hl
      refine lv_iload hx hb d_Ss_cellWithBefore_5 (lv_at hl 3 rfl) ?_
      refine lv_bipush (v := 60) hx hb d_Ss_cellWithBefore_7 (by decide) ?_
      refine lv_icmp_ge (tgt := 37) hx hb d_Ss_cellWithBefore_9 (by decide) (fun c_1 => ?_) (fun c_1 => ?_)
      · have hend : x = 60 := cl_eq (N := 60) (by decide) hle c_1
        refine lv_iconst (v := (-1)) hx hb d_Ss_cellWithBefore_37 (by decide) ?_
        refine W.iret (v := (-1)) hx hb hr (gs_end ⟨?_, rfl⟩ hG hS) hS.2.2 d_Ss_cellWithBefore_38
        have h0 : n = 0 := by omega
        rw [hinv, h0]; rfl
      · have hlt : x < 60 := cl_lt (N := 60) (by decide) hle c_1
        obtain ⟨n9, hn9⟩ : ∃ z, n = z + 1 := ⟨n - 1, by omega⟩
        subst hn9
        refine lv_lload_n hx hb d_Ss_cellWithBefore_12 rfl (lv_at hl 0 rfl) ?_
        refine lv_iload hx hb d_Ss_cellWithBefore_13 (lv_at hl 3 rfl) ?_
        refine gs_St (As := [.long cs, .int (nI x)]) (rest := []) (k_Ss_hasCell l D k zb G cs (nI x)) E hml hl.1 (cg_S hw w_347 w_345 w_1 w_346 hd_Ss_hasCell ⟨by exact Nat.le_of_ble_eq_true rfl, by exact Nat.le_of_ble_eq_true rfl⟩) hG hK hX hS rfl rfl (by exact Nat.le_of_ble_eq_true rfl) d_Ss_cellWithBefore_15 ⟨by exact Nat.le_of_ble_eq_true rfl, by exact Nat.le_of_ble_eq_true rfl⟩ (fun v G1 H locs hp hG hS => ?_)
        obtain ⟨hv1, hG1⟩ := hp
        subst hv1
        rw [hG1] at hG
        refine W.eq (g2 := F0 m 18 ls [.int (jc_hasCell cs (nI x))]) rfl ?_
        refine lv_if_eq (tgt := 31) hx hb d_Ss_cellWithBefore_18 (by decide) (fun c_2 => ?_) (fun c_2 => ?_)
        · refine lv_iinc (v := nI (x + 1)) (lv' := [(4, .int (nI (x + 1))), (0, .long cs), (2, .int b), (3, .int l9)]) hx hb d_Ss_cellWithBefore_31 hl (k := 3) rfl (nI_1 _) (by decide) rfl (fun ls hl => ?_)
          refine lv_goto (tgt := 5) hx hb d_Ss_cellWithBefore_34 (by decide) ?_
          exact IH (x + 1) n9 l9 (by omega) (by omega) (by omega) (by rw [hinv, jc_with_s, if_pos c_2]) _ _ hG hS ls (lv_sub hl [1, 2, 3, 0] rfl)
        · refine lv_iload_n hx hb d_Ss_cellWithBefore_21 rfl (lv_at hl 2 rfl) ?_
          refine lv_if_ne (tgt := 28) hx hb d_Ss_cellWithBefore_22 (by decide) (fun c_3 => ?_) (fun c_3 => ?_)
          · obtain ⟨x_4, ex_4⟩ : ∃ y : Int32, y = l9 + (-1) := ⟨_, rfl⟩
            refine lv_iinc (v := x_4) (lv' := [(3, .int x_4), (0, .long cs), (2, .int b), (4, .int (nI x))]) hx hb d_Ss_cellWithBefore_28 hl (k := 2) rfl (by rw [ex_4]; rfl) (by decide) rfl (fun ls hl => ?_)
            refine lv_iinc (v := nI (x + 1)) (lv' := [(4, .int (nI (x + 1))), (3, .int x_4), (0, .long cs), (2, .int b)]) hx hb d_Ss_cellWithBefore_31 hl (k := 3) rfl (nI_1 _) (by decide) rfl (fun ls hl => ?_)
            refine lv_goto (tgt := 5) hx hb d_Ss_cellWithBefore_34 (by decide) ?_
            exact IH (x + 1) n9 x_4 (by omega) (by omega) (by omega) (by rw [hinv, jc_with_s, if_neg c_2, if_neg c_3, ex_4]) _ _ hG hS ls (lv_sub hl [2, 3, 1, 0] rfl)
          · refine lv_iload hx hb d_Ss_cellWithBefore_25 (lv_at hl 3 rfl) ?_
            refine W.iret (v := (nI x)) hx hb hr (gs_end ⟨?_, rfl⟩ hG hS) hS.2.2 d_Ss_cellWithBefore_27
            rw [hinv, jc_with_s, if_neg c_2, if_pos c_3]
  exact lp (60 + 1) 0 60 b (by omega) (by omega) rfl rfl _ _ hG hS ls (lv_sub hl [2, 3, 1, 0] rfl)
