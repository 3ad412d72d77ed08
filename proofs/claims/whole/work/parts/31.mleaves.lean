/-! contracts, by program -/
set_option maxHeartbeats 4000000 in
set_option maxRecDepth 100000 in
theorem k_Md_isIn (l : Launch) (D : va_G) (k : Nat → ClassId) (zb : Nat) (G : Nat → Option va_E) (n a b : Int32) : Met l y_Md_isIn (wM y_Md_isIn c_Md_isIn 3 (some .boolean)) ({ frames := 0, cells := 0, slots := 0, locals := 0 }) (gs_P D k zb G [.int n, .int a, .int b]) (gs_Q D zb (fun v G1 => v = some (.int (jc_within n a b)) ∧ G1 = G)) 0 0 (fun q : Nat => zb ≤ q) := by
  refine Met.ofW (cc := c_Md_isIn) (maxL := 3) (ret := (some .boolean)) (by decide) rfl ?_
  intro p e s m args below meth c s₁ B hml hv
  obtain ⟨rfl, hG, hK, hX⟩ := hv
  have hx := B.exec
  have hb := B.bytes
  have hr := B.returns
  have hts := atoms_spec (ws := wM y_Md_isIn c_Md_isIn 3 (some .boolean)) B.pre
  have hw : ∀ w9 ∈ wW, w9.before ([.int n, .int a, .int b] : List Value).toArray s = true := fun w9 h9 => hts w9 (gi_in w9 h9)
  have hown : s.vm.findClass R_Md = some m.cls := findClass_of_methodNamed B.named
  have hlocks := B.notSynchronized
  have E : gs_E p s m ([.int n, .int a, .int b] : List Value).toArray c c_Md_isIn wW R_Md := ⟨hx, hb, hw, hown⟩
  have hS : gs_S zb s.heap s.heap [] := va_S.rf
  have hl := lv_entry ([.int n, .int a, .int b]) (n := 3) (Nat.le_of_ble_eq_true rfl)
  rw [lg_entry_eq]
  generalize (lg_sl ([.int n, .int a, .int b]) ++ List.replicate (3 - (lg_sl ([.int n, .int a, .int b])).length) Slot.unset).toArray = ls at hl ⊢
  have hl : lv_has ls 3 [(0, .int n), (1, .int a), (2, .int b)] := hl
  refine lv_iload_n hx hb d_Md_isIn_0 rfl (lv_at hl 0 rfl) ?_
  refine lv_iload_n hx hb d_Md_isIn_1 rfl (lv_at hl 1 rfl) ?_
  refine lv_icmp_lt (tgt := 14) hx hb d_Md_isIn_2 (by decide) (fun c_1 => ?_) (fun c_1 => ?_)
  · refine lv_iconst (v := 0) hx hb d_Md_isIn_14 (by decide) ?_
    refine W.zret (v := 0) hx hb hr (by decide) (gs_end ⟨?_, rfl⟩ hG hS) hS.2.2 d_Md_isIn_15
    simp only [jc_within, if_pos c_1]
  · refine lv_iload_n hx hb d_Md_isIn_5 rfl (lv_at hl 0 rfl) ?_
    refine lv_iload_n hx hb d_Md_isIn_6 rfl (lv_at hl 2 rfl) ?_
    refine lv_icmp_gt (tgt := 14) hx hb d_Md_isIn_7 (by decide) (fun c_2 => ?_) (fun c_2 => ?_)
    · refine lv_iconst (v := 0) hx hb d_Md_isIn_14 (by decide) ?_
      refine W.zret (v := 0) hx hb hr (by decide) (gs_end ⟨?_, rfl⟩ hG hS) hS.2.2 d_Md_isIn_15
      simp only [jc_within, if_neg c_1, if_pos c_2]
    · refine lv_iconst (v := 1) hx hb d_Md_isIn_10 (by decide) ?_
      refine lv_goto (tgt := 15) hx hb d_Md_isIn_11 (by decide) ?_
      refine W.zret (v := 1) hx hb hr (by decide) (gs_end ⟨?_, rfl⟩ hG hS) hS.2.2 d_Md_isIn_15
      simp only [jc_within, if_neg c_1, if_neg c_2]
set_option maxHeartbeats 4000000 in
set_option maxRecDepth 100000 in
theorem k_Md_noBox (l : Launch) (D : va_G) (k : Nat → ClassId) (zb : Nat) (G : Nat → Option va_E) (mo cB cT cS cL cW : Nat) (th : Int32) (wn hn nb nw : Nat) (bx tr su li wi : Nat → Int32) (l1 l2 l3 l4 : Int64) (b : Int32) (hM : sM k G mo cB cT cS cL cW th wn hn nb nw bx tr su li wi l1 l2 l3 l4) : Met l y_Md_noBox (wM y_Md_noBox c_Md_noBox 2 (some .boolean)) ({ frames := 0, cells := 0, slots := 0, locals := 0 }) (gs_P D k zb G [.ref mo, .int b]) (gs_Q D zb (fun v G1 => v = some (.int (jm_noB b nb)) ∧ G1 = G)) 0 0 (fun q : Nat => zb ≤ q) := by
  refine Met.ofW (cc := c_Md_noBox) (maxL := 2) (ret := (some .boolean)) (by decide) rfl ?_
  intro p e s m args below meth c s₁ B hml hv
  obtain ⟨rfl, hG, hK, hX⟩ := hv
  have hx := B.exec
  have hb := B.bytes
  have hr := B.returns
  have hts := atoms_spec (ws := wM y_Md_noBox c_Md_noBox 2 (some .boolean)) B.pre
  have hw : ∀ w9 ∈ wW, w9.before ([.ref mo, .int b] : List Value).toArray s = true := fun w9 h9 => hts w9 (gi_in w9 h9)
  have hown : s.vm.findClass R_Md = some m.cls := findClass_of_methodNamed B.named
  have hlocks := B.notSynchronized
  have E : gs_E p s m ([.ref mo, .int b] : List Value).toArray c c_Md_noBox wW R_Md := ⟨hx, hb, hw, hown⟩
  have hS : gs_S zb s.heap s.heap [] := va_S.rf
  have hl := lv_entry ([.ref mo, .int b]) (n := 2) (Nat.le_of_ble_eq_true rfl)
  rw [lg_entry_eq]
  generalize (lg_sl ([.ref mo, .int b]) ++ List.replicate (2 - (lg_sl ([.ref mo, .int b])).length) Slot.unset).toArray = ls at hl ⊢
  have hl : lv_has ls 2 [(0, .ref mo), (1, .int b)] := hl
  refine lv_iload_n hx hb d_Md_noBox_0 rfl (lv_at hl 1 rfl) ?_
  refine lv_if_lt (tgt := 12) hx hb d_Md_noBox_1 (by decide) (fun c_1 => ?_) (fun c_1 => ?_)
  · refine lv_iconst (v := 1) hx hb d_Md_noBox_12 (by decide) ?_
    refine lv_goto (tgt := 17) hx hb d_Md_noBox_13 (by decide) ?_
    refine W.zret (v := 1) hx hb hr (by decide) (gs_end ⟨?_, rfl⟩ hG hS) hS.2.2 d_Md_noBox_17
    simp only [jm_noB, if_pos c_1]
  · refine lv_iload_n hx hb d_Md_noBox_4 rfl (lv_at hl 1 rfl) ?_
    refine lv_aload_n hx hb d_Md_noBox_5 rfl (lv_at hl 0 rfl) ?_
    refine gs_get E hK.1 hG hM.1 (C := R_Md) (T := F_Md) (N := 14) rfl i_Md 3 (by decide) w_466 (v := .int (nI nb)) rfl d_Md_noBox_6 ?_
    refine lv_icmp_lt (tgt := 16) hx hb d_Md_noBox_9 (by decide) (fun c_2 => ?_) (fun c_2 => ?_)
    · refine lv_iconst (v := 0) hx hb d_Md_noBox_16 (by decide) ?_
      refine W.zret (v := 0) hx hb hr (by decide) (gs_end ⟨?_, rfl⟩ hG hS) hS.2.2 d_Md_noBox_17
      simp only [jm_noB, if_neg c_1, if_pos c_2]
    · refine lv_iconst (v := 1) hx hb d_Md_noBox_12 (by decide) ?_
      refine lv_goto (tgt := 17) hx hb d_Md_noBox_13 (by decide) ?_
      refine W.zret (v := 1) hx hb hr (by decide) (gs_end ⟨?_, rfl⟩ hG hS) hS.2.2 d_Md_noBox_17
      simp only [jm_noB, if_neg c_1, if_neg c_2]
set_option maxHeartbeats 4000000 in
set_option maxRecDepth 100000 in
theorem k_Md_noWindow (l : Launch) (D : va_G) (k : Nat → ClassId) (zb : Nat) (G : Nat → Option va_E) (mo cB cT cS cL cW : Nat) (th : Int32) (wn hn nb nw : Nat) (bx tr su li wi : Nat → Int32) (l1 l2 l3 l4 : Int64) (b : Int32) (hM : sM k G mo cB cT cS cL cW th wn hn nb nw bx tr su li wi l1 l2 l3 l4) : Met l y_Md_noWindow (wM y_Md_noWindow c_Md_noWindow 2 (some .boolean)) ({ frames := 0, cells := 0, slots := 0, locals := 0 }) (gs_P D k zb G [.ref mo, .int b]) (gs_Q D zb (fun v G1 => v = some (.int (jm_noB b nw)) ∧ G1 = G)) 0 0 (fun q : Nat => zb ≤ q) := by
  refine Met.ofW (cc := c_Md_noWindow) (maxL := 2) (ret := (some .boolean)) (by decide) rfl ?_
  intro p e s m args below meth c s₁ B hml hv
  obtain ⟨rfl, hG, hK, hX⟩ := hv
  have hx := B.exec
  have hb := B.bytes
  have hr := B.returns
  have hts := atoms_spec (ws := wM y_Md_noWindow c_Md_noWindow 2 (some .boolean)) B.pre
  have hw : ∀ w9 ∈ wW, w9.before ([.ref mo, .int b] : List Value).toArray s = true := fun w9 h9 => hts w9 (gi_in w9 h9)
  have hown : s.vm.findClass R_Md = some m.cls := findClass_of_methodNamed B.named
  have hlocks := B.notSynchronized
  have E : gs_E p s m ([.ref mo, .int b] : List Value).toArray c c_Md_noWindow wW R_Md := ⟨hx, hb, hw, hown⟩
  have hS : gs_S zb s.heap s.heap [] := va_S.rf
  have hl := lv_entry ([.ref mo, .int b]) (n := 2) (Nat.le_of_ble_eq_true rfl)
  rw [lg_entry_eq]
  generalize (lg_sl ([.ref mo, .int b]) ++ List.replicate (2 - (lg_sl ([.ref mo, .int b])).length) Slot.unset).toArray = ls at hl ⊢
  have hl : lv_has ls 2 [(0, .ref mo), (1, .int b)] := hl
  refine lv_iload_n hx hb d_Md_noWindow_0 rfl (lv_at hl 1 rfl) ?_
  refine lv_if_lt (tgt := 12) hx hb d_Md_noWindow_1 (by decide) (fun c_1 => ?_) (fun c_1 => ?_)
  · refine lv_iconst (v := 1) hx hb d_Md_noWindow_12 (by decide) ?_
    refine lv_goto (tgt := 17) hx hb d_Md_noWindow_13 (by decide) ?_
    refine W.zret (v := 1) hx hb hr (by decide) (gs_end ⟨?_, rfl⟩ hG hS) hS.2.2 d_Md_noWindow_17
    simp only [jm_noB, if_pos c_1]
  · refine lv_iload_n hx hb d_Md_noWindow_4 rfl (lv_at hl 1 rfl) ?_
    refine lv_aload_n hx hb d_Md_noWindow_5 rfl (lv_at hl 0 rfl) ?_
    refine gs_get E hK.1 hG hM.1 (C := R_Md) (T := F_Md) (N := 14) rfl i_Md 8 (by decide) w_471 (v := .int (nI nw)) rfl d_Md_noWindow_6 ?_
    refine lv_icmp_lt (tgt := 16) hx hb d_Md_noWindow_9 (by decide) (fun c_2 => ?_) (fun c_2 => ?_)
    · refine lv_iconst (v := 0) hx hb d_Md_noWindow_16 (by decide) ?_
      refine W.zret (v := 0) hx hb hr (by decide) (gs_end ⟨?_, rfl⟩ hG hS) hS.2.2 d_Md_noWindow_17
      simp only [jm_noB, if_neg c_1, if_pos c_2]
    · refine lv_iconst (v := 1) hx hb d_Md_noWindow_12 (by decide) ?_
      refine lv_goto (tgt := 17) hx hb d_Md_noWindow_13 (by decide) ?_
      refine W.zret (v := 1) hx hb hr (by decide) (gs_end ⟨?_, rfl⟩ hG hS) hS.2.2 d_Md_noWindow_17
      simp only [jm_noB, if_neg c_1, if_neg c_2]
set_option maxHeartbeats 4000000 in
set_option maxRecDepth 100000 in
theorem k_Md_noHour (l : Launch) (D : va_G) (k : Nat → ClassId) (zb : Nat) (G : Nat → Option va_E) (t : Int32) : Met l y_Md_noHour (wM y_Md_noHour c_Md_noHour 1 (some .boolean)) ({ frames := 0, cells := 0, slots := 0, locals := 0 }) (gs_P D k zb G [.int t]) (gs_Q D zb (fun v G1 => v = some (.int (jm_noH t)) ∧ G1 = G)) 0 0 (fun q : Nat => zb ≤ q) := by
  refine Met.ofW (cc := c_Md_noHour) (maxL := 1) (ret := (some .boolean)) (by decide) rfl ?_
  intro p e s m args below meth c s₁ B hml hv
  obtain ⟨rfl, hG, hK, hX⟩ := hv
  have hx := B.exec
  have hb := B.bytes
  have hr := B.returns
  have hts := atoms_spec (ws := wM y_Md_noHour c_Md_noHour 1 (some .boolean)) B.pre
  have hw : ∀ w9 ∈ wW, w9.before ([.int t] : List Value).toArray s = true := fun w9 h9 => hts w9 (gi_in w9 h9)
  have hown : s.vm.findClass R_Md = some m.cls := findClass_of_methodNamed B.named
  have hlocks := B.notSynchronized
  have E : gs_E p s m ([.int t] : List Value).toArray c c_Md_noHour wW R_Md := ⟨hx, hb, hw, hown⟩
  have hS : gs_S zb s.heap s.heap [] := va_S.rf
  have hl := lv_entry ([.int t]) (n := 1) (Nat.le_of_ble_eq_true rfl)
  rw [lg_entry_eq]
  generalize (lg_sl ([.int t]) ++ List.replicate (1 - (lg_sl ([.int t])).length) Slot.unset).toArray = ls at hl ⊢
  have hl : lv_has ls 1 [(0, .int t)] := hl
  refine lv_iload_n hx hb d_Md_noHour_0 rfl (lv_at hl 0 rfl) ?_
  refine lv_if_lt (tgt := 10) hx hb d_Md_noHour_1 (by decide) (fun c_1 => ?_) (fun c_1 => ?_)
  · refine lv_iconst (v := 1) hx hb d_Md_noHour_10 (by decide) ?_
    refine lv_goto (tgt := 15) hx hb d_Md_noHour_11 (by decide) ?_
    refine W.zret (v := 1) hx hb hr (by decide) (gs_end ⟨?_, rfl⟩ hG hS) hS.2.2 d_Md_noHour_15
    simp only [jm_noH, if_pos c_1]
  · refine lv_iload_n hx hb d_Md_noHour_4 rfl (lv_at hl 0 rfl) ?_
    refine lv_bipush (v := 23) hx hb d_Md_noHour_5 (by decide) ?_
    refine lv_icmp_le (tgt := 14) hx hb d_Md_noHour_7 (by decide) (fun c_2 => ?_) (fun c_2 => ?_)
    · refine lv_iconst (v := 0) hx hb d_Md_noHour_14 (by decide) ?_
      refine W.zret (v := 0) hx hb hr (by decide) (gs_end ⟨?_, rfl⟩ hG hS) hS.2.2 d_Md_noHour_15
      simp only [jm_noH, if_neg c_1, if_pos c_2]
    · refine lv_iconst (v := 1) hx hb d_Md_noHour_10 (by decide) ?_
      refine lv_goto (tgt := 15) hx hb d_Md_noHour_11 (by decide) ?_
      refine W.zret (v := 1) hx hb hr (by decide) (gs_end ⟨?_, rfl⟩ hG hS) hS.2.2 d_Md_noHour_15
      simp only [jm_noH, if_neg c_1, if_neg c_2]
set_option maxHeartbeats 4000000 in
set_option maxRecDepth 100000 in
theorem k_Md_isBox (l : Launch) (D : va_G) (k : Nat → ClassId) (zb : Nat) (G : Nat → Option va_E) (x0 y0 z0 x1 y1 z1 : Int32) : Met l y_Md_isBox (wM y_Md_isBox c_Md_isBox 6 (some .boolean)) ({ frames := 1, cells := 0, slots := 0, locals := 22 }) (gs_P D k zb G [.int x0, .int y0, .int z0, .int x1, .int y1, .int z1]) (gs_Q D zb (fun v G1 => v = some (.int (jm_isBox x0 y0 z0 x1 y1 z1)) ∧ G1 = G)) 0 0 (fun q : Nat => zb ≤ q) := by
  refine Met.ofW (cc := c_Md_isBox) (maxL := 6) (ret := (some .boolean)) (by decide) rfl ?_
  intro p e s m args below meth c s₁ B hml hv
  obtain ⟨rfl, hG, hK, hX⟩ := hv
  have hx := B.exec
  have hb := B.bytes
  have hr := B.returns
  have hts := atoms_spec (ws := wM y_Md_isBox c_Md_isBox 6 (some .boolean)) B.pre
  have hw : ∀ w9 ∈ wW, w9.before ([.int x0, .int y0, .int z0, .int x1, .int y1, .int z1] : List Value).toArray s = true := fun w9 h9 => hts w9 (gi_in w9 h9)
  have hown : s.vm.findClass R_Md = some m.cls := findClass_of_methodNamed B.named
  have hlocks := B.notSynchronized
  have E : gs_E p s m ([.int x0, .int y0, .int z0, .int x1, .int y1, .int z1] : List Value).toArray c c_Md_isBox wW R_Md := ⟨hx, hb, hw, hown⟩
  have hS : gs_S zb s.heap s.heap [] := va_S.rf
  have hl := lv_entry ([.int x0, .int y0, .int z0, .int x1, .int y1, .int z1]) (n := 6) (Nat.le_of_ble_eq_true rfl)
  rw [lg_entry_eq]
  generalize (lg_sl ([.int x0, .int y0, .int z0, .int x1, .int y1, .int z1]) ++ List.replicate (6 - (lg_sl ([.int x0, .int y0, .int z0, .int x1, .int y1, .int z1])).length) Slot.unset).toArray = ls at hl ⊢
  have hl : lv_has ls 6 [(0, .int x0), (1, .int y0), (2, .int z0), (3, .int x1), (4, .int y1), (5, .int z1)] := hl
  refine lv_iload_n hx hb d_Md_isBox_0 rfl (lv_at hl 0 rfl) ?_
  refine lv_bipush (v := (-100)) hx hb d_Md_isBox_1 (by decide) ?_
  refine lv_sipush (v := 200) hx hb d_Md_isBox_3 (by decide) ?_
  refine gs_St (As := [.int x0, .int (-100), .int 200]) (rest := []) (k_Md_isIn l D k zb G x0 (-100) 200) E hml hl.1 (cg_S hw w_520 w_518 w_4 w_519 hd_Md_isIn ⟨by exact Nat.le_of_ble_eq_true rfl, by exact Nat.le_of_ble_eq_true rfl⟩) hG hK hX hS rfl rfl (by exact Nat.le_of_ble_eq_true rfl) d_Md_isBox_6 ⟨by exact Nat.le_of_ble_eq_true rfl, by exact Nat.le_of_ble_eq_true rfl⟩ (fun v G1 H locs hp hG hS => ?_)
  obtain ⟨hv1, hG1⟩ := hp
  subst hv1
  rw [hG1] at hG
  refine W.eq (g2 := F0 m 9 ls [.int (jc_within x0 (-100) 200)]) rfl ?_
  refine lv_if_eq (tgt := 91) hx hb d_Md_isBox_9 (by decide) (fun c_1 => ?_) (fun c_1 => ?_)
  · refine lv_iconst (v := 0) hx hb d_Md_isBox_91 (by decide) ?_
    refine W.zret (v := 0) hx hb hr (by decide) (gs_end ⟨?_, rfl⟩ hG hS) hS.2.2 d_Md_isBox_92
    simp only [jm_isBox, if_pos c_1]
  · refine lv_iload_n hx hb d_Md_isBox_12 rfl (lv_at hl 1 rfl) ?_
    refine lv_bipush (v := (-100)) hx hb d_Md_isBox_13 (by decide) ?_
    refine lv_sipush (v := 200) hx hb d_Md_isBox_15 (by decide) ?_
    refine gs_St (As := [.int y0, .int (-100), .int 200]) (rest := []) (k_Md_isIn l D k zb G y0 (-100) 200) E hml hl.1 (cg_S hw w_520 w_518 w_4 w_519 hd_Md_isIn ⟨by exact Nat.le_of_ble_eq_true rfl, by exact Nat.le_of_ble_eq_true rfl⟩) hG hK hX hS rfl rfl (by exact Nat.le_of_ble_eq_true rfl) d_Md_isBox_18 ⟨by exact Nat.le_of_ble_eq_true rfl, by exact Nat.le_of_ble_eq_true rfl⟩ (fun v G1 H locs hp hG hS => ?_)
    obtain ⟨hv1, hG1⟩ := hp
    subst hv1
    rw [hG1] at hG
    refine W.eq (g2 := F0 m 21 ls [.int (jc_within y0 (-100) 200)]) rfl ?_
    refine lv_if_eq (tgt := 91) hx hb d_Md_isBox_21 (by decide) (fun c_2 => ?_) (fun c_2 => ?_)
    · refine lv_iconst (v := 0) hx hb d_Md_isBox_91 (by decide) ?_
      refine W.zret (v := 0) hx hb hr (by decide) (gs_end ⟨?_, rfl⟩ hG hS) hS.2.2 d_Md_isBox_92
      simp only [jm_isBox, if_neg c_1, if_pos c_2]
    · refine lv_iload_n hx hb d_Md_isBox_24 rfl (lv_at hl 3 rfl) ?_
      refine lv_bipush (v := (-100)) hx hb d_Md_isBox_25 (by decide) ?_
      refine lv_sipush (v := 200) hx hb d_Md_isBox_27 (by decide) ?_
      refine gs_St (As := [.int x1, .int (-100), .int 200]) (rest := []) (k_Md_isIn l D k zb G x1 (-100) 200) E hml hl.1 (cg_S hw w_520 w_518 w_4 w_519 hd_Md_isIn ⟨by exact Nat.le_of_ble_eq_true rfl, by exact Nat.le_of_ble_eq_true rfl⟩) hG hK hX hS rfl rfl (by exact Nat.le_of_ble_eq_true rfl) d_Md_isBox_30 ⟨by exact Nat.le_of_ble_eq_true rfl, by exact Nat.le_of_ble_eq_true rfl⟩ (fun v G1 H locs hp hG hS => ?_)
      obtain ⟨hv1, hG1⟩ := hp
      subst hv1
      rw [hG1] at hG
      refine W.eq (g2 := F0 m 33 ls [.int (jc_within x1 (-100) 200)]) rfl ?_
      refine lv_if_eq (tgt := 91) hx hb d_Md_isBox_33 (by decide) (fun c_3 => ?_) (fun c_3 => ?_)
      · refine lv_iconst (v := 0) hx hb d_Md_isBox_91 (by decide) ?_
        refine W.zret (v := 0) hx hb hr (by decide) (gs_end ⟨?_, rfl⟩ hG hS) hS.2.2 d_Md_isBox_92
        simp only [jm_isBox, if_neg c_1, if_neg c_2, if_pos c_3]
      · refine lv_iload hx hb d_Md_isBox_36 (lv_at hl 4 rfl) ?_
        refine lv_bipush (v := (-100)) hx hb d_Md_isBox_38 (by decide) ?_
        refine lv_sipush (v := 200) hx hb d_Md_isBox_40 (by decide) ?_
        refine gs_St (As := [.int y1, .int (-100), .int 200]) (rest := []) (k_Md_isIn l D k zb G y1 (-100) 200) E hml hl.1 (cg_S hw w_520 w_518 w_4 w_519 hd_Md_isIn ⟨by exact Nat.le_of_ble_eq_true rfl, by exact Nat.le_of_ble_eq_true rfl⟩) hG hK hX hS rfl rfl (by exact Nat.le_of_ble_eq_true rfl) d_Md_isBox_43 ⟨by exact Nat.le_of_ble_eq_true rfl, by exact Nat.le_of_ble_eq_true rfl⟩ (fun v G1 H locs hp hG hS => ?_)
        obtain ⟨hv1, hG1⟩ := hp
        subst hv1
        rw [hG1] at hG
        refine W.eq (g2 := F0 m 46 ls [.int (jc_within y1 (-100) 200)]) rfl ?_
        refine lv_if_eq (tgt := 91) hx hb d_Md_isBox_46 (by decide) (fun c_4 => ?_) (fun c_4 => ?_)
        · refine lv_iconst (v := 0) hx hb d_Md_isBox_91 (by decide) ?_
          refine W.zret (v := 0) hx hb hr (by decide) (gs_end ⟨?_, rfl⟩ hG hS) hS.2.2 d_Md_isBox_92
          simp only [jm_isBox, if_neg c_1, if_neg c_2, if_neg c_3, if_pos c_4]
        · refine lv_iload_n hx hb d_Md_isBox_49 rfl (lv_at hl 2 rfl) ?_
          refine lv_iconst (v := 0) hx hb d_Md_isBox_50 (by decide) ?_
          refine lv_bipush (v := 100) hx hb d_Md_isBox_51 (by decide) ?_
          refine gs_St (As := [.int z0, .int 0, .int 100]) (rest := []) (k_Md_isIn l D k zb G z0 0 100) E hml hl.1 (cg_S hw w_520 w_518 w_4 w_519 hd_Md_isIn ⟨by exact Nat.le_of_ble_eq_true rfl, by exact Nat.le_of_ble_eq_true rfl⟩) hG hK hX hS rfl rfl (by exact Nat.le_of_ble_eq_true rfl) d_Md_isBox_53 ⟨by exact Nat.le_of_ble_eq_true rfl, by exact Nat.le_of_ble_eq_true rfl⟩ (fun v G1 H locs hp hG hS => ?_)
          obtain ⟨hv1, hG1⟩ := hp
          subst hv1
          rw [hG1] at hG
          refine W.eq (g2 := F0 m 56 ls [.int (jc_within z0 0 100)]) rfl ?_
          refine lv_if_eq (tgt := 91) hx hb d_Md_isBox_56 (by decide) (fun c_5 => ?_) (fun c_5 => ?_)
          · refine lv_iconst (v := 0) hx hb d_Md_isBox_91 (by decide) ?_
            refine W.zret (v := 0) hx hb hr (by decide) (gs_end ⟨?_, rfl⟩ hG hS) hS.2.2 d_Md_isBox_92
            simp only [jm_isBox, if_neg c_1, if_neg c_2, if_neg c_3, if_neg c_4, if_pos c_5]
          · refine lv_iload hx hb d_Md_isBox_59 (lv_at hl 5 rfl) ?_
            refine lv_iconst (v := 0) hx hb d_Md_isBox_61 (by decide) ?_
            refine lv_bipush (v := 100) hx hb d_Md_isBox_62 (by decide) ?_
            refine gs_St (As := [.int z1, .int 0, .int 100]) (rest := []) (k_Md_isIn l D k zb G z1 0 100) E hml hl.1 (cg_S hw w_520 w_518 w_4 w_519 hd_Md_isIn ⟨by exact Nat.le_of_ble_eq_true rfl, by exact Nat.le_of_ble_eq_true rfl⟩) hG hK hX hS rfl rfl (by exact Nat.le_of_ble_eq_true rfl) d_Md_isBox_64 ⟨by exact Nat.le_of_ble_eq_true rfl, by exact Nat.le_of_ble_eq_true rfl⟩ (fun v G1 H locs hp hG hS => ?_)
            obtain ⟨hv1, hG1⟩ := hp
            subst hv1
            rw [hG1] at hG
            refine W.eq (g2 := F0 m 67 ls [.int (jc_within z1 0 100)]) rfl ?_
            refine lv_if_eq (tgt := 91) hx hb d_Md_isBox_67 (by decide) (fun c_6 => ?_) (fun c_6 => ?_)
            · refine lv_iconst (v := 0) hx hb d_Md_isBox_91 (by decide) ?_
              refine W.zret (v := 0) hx hb hr (by decide) (gs_end ⟨?_, rfl⟩ hG hS) hS.2.2 d_Md_isBox_92
              simp only [jm_isBox, if_neg c_1, if_neg c_2, if_neg c_3, if_neg c_4, if_neg c_5, if_pos c_6]
            · refine lv_iload_n hx hb d_Md_isBox_70 rfl (lv_at hl 0 rfl) ?_
              refine lv_iload_n hx hb d_Md_isBox_71 rfl (lv_at hl 3 rfl) ?_
              refine lv_icmp_ge (tgt := 91) hx hb d_Md_isBox_72 (by decide) (fun c_7 => ?_) (fun c_7 => ?_)
              · refine lv_iconst (v := 0) hx hb d_Md_isBox_91 (by decide) ?_
                refine W.zret (v := 0) hx hb hr (by decide) (gs_end ⟨?_, rfl⟩ hG hS) hS.2.2 d_Md_isBox_92
                simp only [jm_isBox, if_neg c_1, if_neg c_2, if_neg c_3, if_neg c_4, if_neg c_5, if_neg c_6, if_pos c_7]
              · refine lv_iload_n hx hb d_Md_isBox_75 rfl (lv_at hl 1 rfl) ?_
                refine lv_iload hx hb d_Md_isBox_76 (lv_at hl 4 rfl) ?_
                refine lv_icmp_ge (tgt := 91) hx hb d_Md_isBox_78 (by decide) (fun c_8 => ?_) (fun c_8 => ?_)
                · refine lv_iconst (v := 0) hx hb d_Md_isBox_91 (by decide) ?_
                  refine W.zret (v := 0) hx hb hr (by decide) (gs_end ⟨?_, rfl⟩ hG hS) hS.2.2 d_Md_isBox_92
                  simp only [jm_isBox, if_neg c_1, if_neg c_2, if_neg c_3, if_neg c_4, if_neg c_5, if_neg c_6, if_neg c_7, if_pos c_8]
                · refine lv_iload_n hx hb d_Md_isBox_81 rfl (lv_at hl 2 rfl) ?_
                  refine lv_iload hx hb d_Md_isBox_82 (lv_at hl 5 rfl) ?_
                  refine lv_icmp_gt (tgt := 91) hx hb d_Md_isBox_84 (by decide) (fun c_9 => ?_) (fun c_9 => ?_)
                  · refine lv_iconst (v := 0) hx hb d_Md_isBox_91 (by decide) ?_
                    refine W.zret (v := 0) hx hb hr (by decide) (gs_end ⟨?_, rfl⟩ hG hS) hS.2.2 d_Md_isBox_92
                    simp only [jm_isBox, if_neg c_1, if_neg c_2, if_neg c_3, if_neg c_4, if_neg c_5, if_neg c_6, if_neg c_7, if_neg c_8, if_pos c_9]
                  · refine lv_iconst (v := 1) hx hb d_Md_isBox_87 (by decide) ?_
                    refine lv_goto (tgt := 92) hx hb d_Md_isBox_88 (by decide) ?_
                    refine W.zret (v := 1) hx hb hr (by decide) (gs_end ⟨?_, rfl⟩ hG hS) hS.2.2 d_Md_isBox_92
                    simp only [jm_isBox, if_neg c_1, if_neg c_2, if_neg c_3, if_neg c_4, if_neg c_5, if_neg c_6, if_neg c_7, if_neg c_8, if_neg c_9]
set_option maxHeartbeats 4000000 in
set_option maxRecDepth 100000 in
theorem k_Md_atLeast (l : Launch) (D : va_G) (k : Nat → ClassId) (zb : Nat) (G : Nat → Option va_E) (mo cB cT cS cL cW : Nat) (th : Int32) (wn hn nb nw : Nat) (bx tr su li wi : Nat → Int32) (l1 l2 l3 l4 : Int64) (a b : Int64) (hM : sM k G mo cB cT cS cL cW th wn hn nb nw bx tr su li wi l1 l2 l3 l4) : Met l y_Md_atLeast (wM y_Md_atLeast c_Md_atLeast 5 none) ({ frames := 0, cells := 0, slots := 0, locals := 0 }) (gs_P D k zb G [.ref mo, .long a, .long b]) (gs_Q D zb (fun v G1 => v = none ∧ G1 = gs_u G mo (oMd th wn hn nb nw cB cT cS cL cW ((jm_A (l1, l2) a b).1) ((jm_A (l1, l2) a b).2) l3 l4))) 0 0 (fun q : Nat => zb ≤ q) := by
  refine Met.ofW (cc := c_Md_atLeast) (maxL := 5) (ret := none) (by decide) rfl ?_
  intro p e s m args below meth c s₁ B hml hv
  obtain ⟨rfl, hG, hK, hX⟩ := hv
  have hx := B.exec
  have hb := B.bytes
  have hr := B.returns
  have hts := atoms_spec (ws := wM y_Md_atLeast c_Md_atLeast 5 none) B.pre
  have hw : ∀ w9 ∈ wW, w9.before ([.ref mo, .long a, .long b] : List Value).toArray s = true := fun w9 h9 => hts w9 (gi_in w9 h9)
  have hown : s.vm.findClass R_Md = some m.cls := findClass_of_methodNamed B.named
  have hlocks := B.notSynchronized
  have E : gs_E p s m ([.ref mo, .long a, .long b] : List Value).toArray c c_Md_atLeast wW R_Md := ⟨hx, hb, hw, hown⟩
  have hS : gs_S zb s.heap s.heap [] := va_S.rf
  have hl := lv_entry ([.ref mo, .long a, .long b]) (n := 5) (Nat.le_of_ble_eq_true rfl)
  rw [lg_entry_eq]
  generalize (lg_sl ([.ref mo, .long a, .long b]) ++ List.replicate (5 - (lg_sl ([.ref mo, .long a, .long b])).length) Slot.unset).toArray = ls at hl ⊢
  have hl : lv_has ls 5 [(0, .ref mo), (1, .long a), (3, .long b)] := hl
  refine lv_lload_n hx hb d_Md_atLeast_0 rfl (lv_at hl 1 rfl) ?_
  refine lv_aload_n hx hb d_Md_atLeast_1 rfl (lv_at hl 0 rfl) ?_
  refine gs_get E hK.1 hG hM.1 (C := R_Md) (T := F_Md) (N := 14) rfl i_Md 11 (by decide) w_474 (v := .long l2) rfl d_Md_atLeast_2 ?_
  refine lv_lmul hx hb d_Md_atLeast_5 ?_
  refine lv_aload_n hx hb d_Md_atLeast_6 rfl (lv_at hl 0 rfl) ?_
  refine gs_get E hK.1 hG hM.1 (C := R_Md) (T := F_Md) (N := 14) rfl i_Md 10 (by decide) w_473 (v := .long l1) rfl d_Md_atLeast_7 ?_
  refine lv_lload_n hx hb d_Md_atLeast_10 rfl (lv_at hl 2 rfl) ?_
  refine lv_lmul hx hb d_Md_atLeast_11 ?_
  refine W.lcmp hx hb d_Md_atLeast_12 ?_
  refine lv_if_le (tgt := 26) hx hb d_Md_atLeast_13 (by decide) (fun c_1 => ?_) (fun c_1 => ?_)
  · rw [lg_cmp_le] at c_1
    refine W.vret hx hb hr (gs_end ⟨rfl, ?_⟩ hG hS) hS.2.2 d_Md_atLeast_26
    rw [jm_A, if_pos c_1]; exact (gs_id hM.1).symm
  · rw [lg_cmp_le] at c_1
    refine lv_aload_n hx hb d_Md_atLeast_16 rfl (lv_at hl 0 rfl) ?_
    refine lv_lload_n hx hb d_Md_atLeast_17 rfl (lv_at hl 1 rfl) ?_
    refine gs_put E hK.1 hG hS hM.1 (C := R_Md) (T := F_Md) (N := 14) rfl i_Md t_Md t_Md_ok n_Md 10 (by decide) w_473 rfl (v := .long a) rfl rfl (Nat.le_of_ble_eq_true rfl) d_Md_atLeast_18 (fun H locs hG hS => ?_)
    obtain ⟨G_2, eG_2⟩ : ∃ z, z = gs_u G mo (.inr (4, [.int th, .int (nI wn), .int (nI hn), .int (nI nb), .ref cB, .ref cT, .ref cS, .ref cL, .int (nI nw), .ref cW, .long a, .long l2, .long l3, .long l4])) := ⟨_, rfl⟩
    have hG : gs_W D classes zb G_2 H := by rw [eG_2]; exact hG
    have hc_3 : G_2 mo = some (.inr (4, [.int th, .int (nI wn), .int (nI hn), .int (nI nb), .ref cB, .ref cT, .ref cS, .ref cL, .int (nI nw), .ref cW, .long a, .long l2, .long l3, .long l4])) := by rw [eG_2]; exact gs_us _ _ _
    refine lv_aload_n hx hb d_Md_atLeast_21 rfl (lv_at hl 0 rfl) ?_
    refine lv_lload_n hx hb d_Md_atLeast_22 rfl (lv_at hl 2 rfl) ?_
    refine gs_put E hK.1 hG hS hc_3 (C := R_Md) (T := F_Md) (N := 14) rfl i_Md t_Md t_Md_ok n_Md 11 (by decide) w_474 rfl (v := .long b) rfl rfl (Nat.le_of_ble_eq_true rfl) d_Md_atLeast_23 (fun H locs hG hS => ?_)
    obtain ⟨G_4, eG_4⟩ : ∃ z, z = gs_u G_2 mo (.inr (4, [.int th, .int (nI wn), .int (nI hn), .int (nI nb), .ref cB, .ref cT, .ref cS, .ref cL, .int (nI nw), .ref cW, .long a, .long b, .long l3, .long l4])) := ⟨_, rfl⟩
    have hG : gs_W D classes zb G_4 H := by rw [eG_4]; exact hG
    have hc_5 : G_4 mo = some (.inr (4, [.int th, .int (nI wn), .int (nI hn), .int (nI nb), .ref cB, .ref cT, .ref cS, .ref cL, .int (nI nw), .ref cW, .long a, .long b, .long l3, .long l4])) := by rw [eG_4]; exact gs_us _ _ _
    refine W.vret hx hb hr (gs_end ⟨rfl, ?_⟩ hG hS) hS.2.2 d_Md_atLeast_26
    rw [jm_A, if_neg c_1]; simp only [eG_4, eG_2, gs_uu]
set_option maxHeartbeats 4000000 in
set_option maxRecDepth 100000 in
theorem k_Md_atMost (l : Launch) (D : va_G) (k : Nat → ClassId) (zb : Nat) (G : Nat → Option va_E) (mo cB cT cS cL cW : Nat) (th : Int32) (wn hn nb nw : Nat) (bx tr su li wi : Nat → Int32) (l1 l2 l3 l4 : Int64) (a b : Int64) (hM : sM k G mo cB cT cS cL cW th wn hn nb nw bx tr su li wi l1 l2 l3 l4) : Met l y_Md_atMost (wM y_Md_atMost c_Md_atMost 5 none) ({ frames := 0, cells := 0, slots := 0, locals := 0 }) (gs_P D k zb G [.ref mo, .long a, .long b]) (gs_Q D zb (fun v G1 => v = none ∧ G1 = gs_u G mo (oMd th wn hn nb nw cB cT cS cL cW l1 l2 ((jm_B (l3, l4) a b).1) ((jm_B (l3, l4) a b).2)))) 0 0 (fun q : Nat => zb ≤ q) := by
  refine Met.ofW (cc := c_Md_atMost) (maxL := 5) (ret := none) (by decide) rfl ?_
  intro p e s m args below meth c s₁ B hml hv
  obtain ⟨rfl, hG, hK, hX⟩ := hv
  have hx := B.exec
  have hb := B.bytes
  have hr := B.returns
  have hts := atoms_spec (ws := wM y_Md_atMost c_Md_atMost 5 none) B.pre
  have hw : ∀ w9 ∈ wW, w9.before ([.ref mo, .long a, .long b] : List Value).toArray s = true := fun w9 h9 => hts w9 (gi_in w9 h9)
  have hown : s.vm.findClass R_Md = some m.cls := findClass_of_methodNamed B.named
  have hlocks := B.notSynchronized
  have E : gs_E p s m ([.ref mo, .long a, .long b] : List Value).toArray c c_Md_atMost wW R_Md := ⟨hx, hb, hw, hown⟩
  have hS : gs_S zb s.heap s.heap [] := va_S.rf
  have hl := lv_entry ([.ref mo, .long a, .long b]) (n := 5) (Nat.le_of_ble_eq_true rfl)
  rw [lg_entry_eq]
  generalize (lg_sl ([.ref mo, .long a, .long b]) ++ List.replicate (5 - (lg_sl ([.ref mo, .long a, .long b])).length) Slot.unset).toArray = ls at hl ⊢
  have hl : lv_has ls 5 [(0, .ref mo), (1, .long a), (3, .long b)] := hl
  refine lv_lload_n hx hb d_Md_atMost_0 rfl (lv_at hl 1 rfl) ?_
  refine lv_aload_n hx hb d_Md_atMost_1 rfl (lv_at hl 0 rfl) ?_
  refine gs_get E hK.1 hG hM.1 (C := R_Md) (T := F_Md) (N := 14) rfl i_Md 13 (by decide) w_476 (v := .long l4) rfl d_Md_atMost_2 ?_
  refine lv_lmul hx hb d_Md_atMost_5 ?_
  refine lv_aload_n hx hb d_Md_atMost_6 rfl (lv_at hl 0 rfl) ?_
  refine gs_get E hK.1 hG hM.1 (C := R_Md) (T := F_Md) (N := 14) rfl i_Md 12 (by decide) w_475 (v := .long l3) rfl d_Md_atMost_7 ?_
  refine lv_lload_n hx hb d_Md_atMost_10 rfl (lv_at hl 2 rfl) ?_
  refine lv_lmul hx hb d_Md_atMost_11 ?_
  refine W.lcmp hx hb d_Md_atMost_12 ?_
  refine lv_if_ge (tgt := 26) hx hb d_Md_atMost_13 (by decide) (fun c_1 => ?_) (fun c_1 => ?_)
  · rw [lg_cmp_ge] at c_1
    refine W.vret hx hb hr (gs_end ⟨rfl, ?_⟩ hG hS) hS.2.2 d_Md_atMost_26
    rw [jm_B, if_pos c_1]; exact (gs_id hM.1).symm
  · rw [lg_cmp_ge] at c_1
    refine lv_aload_n hx hb d_Md_atMost_16 rfl (lv_at hl 0 rfl) ?_
    refine lv_lload_n hx hb d_Md_atMost_17 rfl (lv_at hl 1 rfl) ?_
    refine gs_put E hK.1 hG hS hM.1 (C := R_Md) (T := F_Md) (N := 14) rfl i_Md t_Md t_Md_ok n_Md 12 (by decide) w_475 rfl (v := .long a) rfl rfl (Nat.le_of_ble_eq_true rfl) d_Md_atMost_18 (fun H locs hG hS => ?_)
    obtain ⟨G_2, eG_2⟩ : ∃ z, z = gs_u G mo (.inr (4, [.int th, .int (nI wn), .int (nI hn), .int (nI nb), .ref cB, .ref cT, .ref cS, .ref cL, .int (nI nw), .ref cW, .long l1, .long l2, .long a, .long l4])) := ⟨_, rfl⟩
    have hG : gs_W D classes zb G_2 H := by rw [eG_2]; exact hG
    have hc_3 : G_2 mo = some (.inr (4, [.int th, .int (nI wn), .int (nI hn), .int (nI nb), .ref cB, .ref cT, .ref cS, .ref cL, .int (nI nw), .ref cW, .long l1, .long l2, .long a, .long l4])) := by rw [eG_2]; exact gs_us _ _ _
    refine lv_aload_n hx hb d_Md_atMost_21 rfl (lv_at hl 0 rfl) ?_
    refine lv_lload_n hx hb d_Md_atMost_22 rfl (lv_at hl 2 rfl) ?_
    refine gs_put E hK.1 hG hS hc_3 (C := R_Md) (T := F_Md) (N := 14) rfl i_Md t_Md t_Md_ok n_Md 13 (by decide) w_476 rfl (v := .long b) rfl rfl (Nat.le_of_ble_eq_true rfl) d_Md_atMost_23 (fun H locs hG hS => ?_)
    obtain ⟨G_4, eG_4⟩ : ∃ z, z = gs_u G_2 mo (.inr (4, [.int th, .int (nI wn), .int (nI hn), .int (nI nb), .ref cB, .ref cT, .ref cS, .ref cL, .int (nI nw), .ref cW, .long l1, .long l2, .long a, .long b])) := ⟨_, rfl⟩
    have hG : gs_W D classes zb G_4 H := by rw [eG_4]; exact hG
    have hc_5 : G_4 mo = some (.inr (4, [.int th, .int (nI wn), .int (nI hn), .int (nI nb), .ref cB, .ref cT, .ref cS, .ref cL, .int (nI nw), .ref cW, .long l1, .long l2, .long a, .long b])) := by rw [eG_4]; exact gs_us _ _ _
    refine W.vret hx hb hr (gs_end ⟨rfl, ?_⟩ hG hS) hS.2.2 d_Md_atMost_26
    rw [jm_B, if_neg c_1]; simp only [eG_4, eG_2, gs_uu]
set_option maxHeartbeats 4000000 in
set_option maxRecDepth 100000 in
theorem k_Md_may (l : Launch) (D : va_G) (k : Nat → ClassId) (zb : Nat) (G : Nat → Option va_E) (mo cB cT cS cL cW : Nat) (th : Int32) (wn hn nb nw : Nat) (bx tr su li wi : Nat → Int32) (l1 l2 l3 l4 : Int64) (m9 g9 f9 t9 : Int64) (hM : sM k G mo cB cT cS cL cW th wn hn nb nw bx tr su li wi l1 l2 l3 l4) : Met l y_Md_may (wM y_Md_may c_Md_may 9 (some .boolean)) ({ frames := 1, cells := 0, slots := 0, locals := 24 }) (gs_P D k zb G [.ref mo, .long m9, .long g9, .long f9, .long t9]) (gs_Q D zb (fun v G1 => v = some (.int (jm_may m9 g9 f9 t9 ((l1, l2), (l3, l4))).1) ∧ G1 = gs_u G mo (oMd th wn hn nb nw cB cT cS cL cW ((jm_may m9 g9 f9 t9 ((l1, l2), (l3, l4))).2.1.1) ((jm_may m9 g9 f9 t9 ((l1, l2), (l3, l4))).2.1.2) ((jm_may m9 g9 f9 t9 ((l1, l2), (l3, l4))).2.2.1) ((jm_may m9 g9 f9 t9 ((l1, l2), (l3, l4))).2.2.2)))) 0 0 (fun q : Nat => zb ≤ q) := by
  refine Met.ofW (cc := c_Md_may) (maxL := 9) (ret := (some .boolean)) (by decide) rfl ?_
  intro p e s m args below meth c s₁ B hml hv
  obtain ⟨rfl, hG, hK, hX⟩ := hv
  have hx := B.exec
  have hb := B.bytes
  have hr := B.returns
  have hts := atoms_spec (ws := wM y_Md_may c_Md_may 9 (some .boolean)) B.pre
  have hw : ∀ w9 ∈ wW, w9.before ([.ref mo, .long m9, .long g9, .long f9, .long t9] : List Value).toArray s = true := fun w9 h9 => hts w9 (gi_in w9 h9)
  have hown : s.vm.findClass R_Md = some m.cls := findClass_of_methodNamed B.named
  have hlocks := B.notSynchronized
  have E : gs_E p s m ([.ref mo, .long m9, .long g9, .long f9, .long t9] : List Value).toArray c c_Md_may wW R_Md := ⟨hx, hb, hw, hown⟩
  have hS : gs_S zb s.heap s.heap [] := va_S.rf
  have hl := lv_entry ([.ref mo, .long m9, .long g9, .long f9, .long t9]) (n := 9) (Nat.le_of_ble_eq_true rfl)
  rw [lg_entry_eq]
  generalize (lg_sl ([.ref mo, .long m9, .long g9, .long f9, .long t9]) ++ List.replicate (9 - (lg_sl ([.ref mo, .long m9, .long g9, .long f9, .long t9])).length) Slot.unset).toArray = ls at hl ⊢
  have hl : lv_has ls 9 [(0, .ref mo), (1, .long m9), (3, .long g9), (5, .long f9), (7, .long t9)] := hl
  refine lv_lload_n hx hb d_Md_may_0 rfl (lv_at hl 2 rfl) ?_
  refine lv_lconst (v := 0) hx hb d_Md_may_1 (by decide) ?_
  refine W.lcmp hx hb d_Md_may_2 ?_
  refine lv_if_ne (tgt := 26) hx hb d_Md_may_3 (by decide) (fun c_1 => ?_) (fun c_1 => ?_)
  · rw [lg_cmp_eq] at c_1
    refine lv_lload_n hx hb d_Md_may_26 rfl (lv_at hl 2 rfl) ?_
    refine lv_lconst (v := 0) hx hb d_Md_may_27 (by decide) ?_
    refine W.lcmp hx hb d_Md_may_28 ?_
    refine lv_if_le (tgt := 53) hx hb d_Md_may_29 (by decide) (fun c_2 => ?_) (fun c_2 => ?_)
    · rw [lg_cmp_le] at c_2
      refine lv_aload_n hx hb d_Md_may_53 rfl (lv_at hl 0 rfl) ?_
      refine lv_lload hx hb d_Md_may_54 (lv_at hl 3 rfl) ?_
      refine lv_lload_n hx hb d_Md_may_56 rfl (lv_at hl 1 rfl) ?_
      refine lv_lsub hx hb d_Md_may_57 ?_
      refine lv_lload_n hx hb d_Md_may_58 rfl (lv_at hl 2 rfl) ?_
      refine lv_lneg hx hb d_Md_may_59 ?_
      refine gs_V (As := [.long (f9 - m9), .long (-g9)]) (rest := []) (k_Md_atLeast l D k zb G mo cB cT cS cL cW th wn hn nb nw bx tr su li wi l1 l2 l3 l4 (f9 - m9) (-g9) ⟨hM.1, hM.2.1, hM.2.2.1, hM.2.2.2.1, hM.2.2.2.2.1, hM.2.2.2.2.2⟩) E hml hl.1 (cg_V (C := R_Md) hw w_576 w_573 w_4 w_575 sel_Md_atLeast hd_Md_atLeast ⟨by exact Nat.le_of_ble_eq_true rfl, by exact Nat.le_of_ble_eq_true rfl⟩) hG hK hX hS hM.1 rfl rfl rfl rfl (by exact Nat.le_of_ble_eq_true rfl) d_Md_may_60 ⟨by exact Nat.le_of_ble_eq_true rfl, by exact Nat.le_of_ble_eq_true rfl⟩ (fun v G1 H locs hp hG hS => ?_)
      obtain ⟨hv1, hG1⟩ := hp
      subst hv1
      rw [hG1] at hG
      obtain ⟨G_3, eG_3⟩ : ∃ z, z = gs_u G mo (.inr (4, [.int th, .int (nI wn), .int (nI hn), .int (nI nb), .ref cB, .ref cT, .ref cS, .ref cL, .int (nI nw), .ref cW, .long ((jm_A (l1, l2) (f9 - m9) (-g9)).1), .long ((jm_A (l1, l2) (f9 - m9) (-g9)).2), .long l3, .long l4])) := ⟨_, rfl⟩
      have hG : gs_W D classes zb G_3 H := by rw [eG_3]; exact hG
      have hc_4 : G_3 cB = some (aInt (k 0) 66 bx) := by rw [eG_3]; exact gs_keep hM.2.1 hM.1 (by simp)
      have hc_5 : G_3 cT = some (aInt (k 2) 11 tr) := by rw [eG_3]; exact gs_keep hM.2.2.1 hM.1 (by simp)
      have hc_6 : G_3 cS = some (aInt (k 0) 72 su) := by rw [eG_3]; exact gs_keep hM.2.2.2.1 hM.1 (by simp)
      have hc_7 : G_3 cL = some (aInt (k 0) 24 li) := by rw [eG_3]; exact gs_keep hM.2.2.2.2.1 hM.1 (by simp)
      have hc_8 : G_3 cW = some (aInt (k 0) 40 wi) := by rw [eG_3]; exact gs_keep hM.2.2.2.2.2 hM.1 (by simp)
      have hc_9 : G_3 mo = some (.inr (4, [.int th, .int (nI wn), .int (nI hn), .int (nI nb), .ref cB, .ref cT, .ref cS, .ref cL, .int (nI nw), .ref cW, .long ((jm_A (l1, l2) (f9 - m9) (-g9)).1), .long ((jm_A (l1, l2) (f9 - m9) (-g9)).2), .long l3, .long l4])) := by rw [eG_3]; exact gs_us _ _ _
      refine W.eq (g2 := F0 m 63 ls []) rfl ?_
      refine lv_aload_n hx hb d_Md_may_63 rfl (lv_at hl 0 rfl) ?_
      refine lv_lload hx hb d_Md_may_64 (lv_at hl 4 rfl) ?_
      refine lv_lload_n hx hb d_Md_may_66 rfl (lv_at hl 1 rfl) ?_
      refine lv_lsub hx hb d_Md_may_67 ?_
      refine lv_lload_n hx hb d_Md_may_68 rfl (lv_at hl 2 rfl) ?_
      refine lv_lneg hx hb d_Md_may_69 ?_
      refine gs_V (As := [.long (t9 - m9), .long (-g9)]) (rest := []) (k_Md_atMost l D k zb G_3 mo cB cT cS cL cW th wn hn nb nw bx tr su li wi ((jm_A (l1, l2) (f9 - m9) (-g9)).1) ((jm_A (l1, l2) (f9 - m9) (-g9)).2) l3 l4 (t9 - m9) (-g9) ⟨hc_9, hc_4, hc_5, hc_6, hc_7, hc_8⟩) E hml hl.1 (cg_V (C := R_Md) hw w_580 w_577 w_4 w_579 sel_Md_atMost hd_Md_atMost ⟨by exact Nat.le_of_ble_eq_true rfl, by exact Nat.le_of_ble_eq_true rfl⟩) hG hK hX hS hc_9 rfl rfl rfl rfl (by exact Nat.le_of_ble_eq_true rfl) d_Md_may_70 ⟨by exact Nat.le_of_ble_eq_true rfl, by exact Nat.le_of_ble_eq_true rfl⟩ (fun v G1 H locs hp hG hS => ?_)
      obtain ⟨hv1, hG1⟩ := hp
      subst hv1
      rw [hG1] at hG
      obtain ⟨G_10, eG_10⟩ : ∃ z, z = gs_u G_3 mo (.inr (4, [.int th, .int (nI wn), .int (nI hn), .int (nI nb), .ref cB, .ref cT, .ref cS, .ref cL, .int (nI nw), .ref cW, .long ((jm_A (l1, l2) (f9 - m9) (-g9)).1), .long ((jm_A (l1, l2) (f9 - m9) (-g9)).2), .long ((jm_B (l3, l4) (t9 - m9) (-g9)).1), .long ((jm_B (l3, l4) (t9 - m9) (-g9)).2)])) := ⟨_, rfl⟩
      have hG : gs_W D classes zb G_10 H := by rw [eG_10]; exact hG
      have hc_11 : G_10 cB = some (aInt (k 0) 66 bx) := by rw [eG_10]; exact gs_keep hc_4 hc_9 (by simp)
      have hc_12 : G_10 cT = some (aInt (k 2) 11 tr) := by rw [eG_10]; exact gs_keep hc_5 hc_9 (by simp)
      have hc_13 : G_10 cS = some (aInt (k 0) 72 su) := by rw [eG_10]; exact gs_keep hc_6 hc_9 (by simp)
      have hc_14 : G_10 cL = some (aInt (k 0) 24 li) := by rw [eG_10]; exact gs_keep hc_7 hc_9 (by simp)
      have hc_15 : G_10 cW = some (aInt (k 0) 40 wi) := by rw [eG_10]; exact gs_keep hc_8 hc_9 (by simp)
      have hc_16 : G_10 mo = some (.inr (4, [.int th, .int (nI wn), .int (nI hn), .int (nI nb), .ref cB, .ref cT, .ref cS, .ref cL, .int (nI nw), .ref cW, .long ((jm_A (l1, l2) (f9 - m9) (-g9)).1), .long ((jm_A (l1, l2) (f9 - m9) (-g9)).2), .long ((jm_B (l3, l4) (t9 - m9) (-g9)).1), .long ((jm_B (l3, l4) (t9 - m9) (-g9)).2)])) := by rw [eG_10]; exact gs_us _ _ _
      refine W.eq (g2 := F0 m 73 ls []) rfl ?_
      refine lv_iconst (v := 1) hx hb d_Md_may_73 (by decide) ?_
      refine W.zret (v := 1) hx hb hr (by decide) (gs_end ⟨?_, ?_⟩ hG hS) hS.2.2 d_Md_may_74
      · simp only [jm_may, if_neg c_1, if_pos c_2]
      · simp only [jm_may, if_neg c_1, if_pos c_2]; simp only [eG_10, eG_3, gs_uu]
    · rw [lg_cmp_le] at c_2
      refine lv_aload_n hx hb d_Md_may_32 rfl (lv_at hl 0 rfl) ?_
      refine lv_lload_n hx hb d_Md_may_33 rfl (lv_at hl 1 rfl) ?_
      refine lv_lload hx hb d_Md_may_34 (lv_at hl 4 rfl) ?_
      refine lv_lsub hx hb d_Md_may_36 ?_
      refine lv_lload_n hx hb d_Md_may_37 rfl (lv_at hl 2 rfl) ?_
      refine gs_V (As := [.long (m9 - t9), .long g9]) (rest := []) (k_Md_atLeast l D k zb G mo cB cT cS cL cW th wn hn nb nw bx tr su li wi l1 l2 l3 l4 (m9 - t9) g9 ⟨hM.1, hM.2.1, hM.2.2.1, hM.2.2.2.1, hM.2.2.2.2.1, hM.2.2.2.2.2⟩) E hml hl.1 (cg_V (C := R_Md) hw w_576 w_573 w_4 w_575 sel_Md_atLeast hd_Md_atLeast ⟨by exact Nat.le_of_ble_eq_true rfl, by exact Nat.le_of_ble_eq_true rfl⟩) hG hK hX hS hM.1 rfl rfl rfl rfl (by exact Nat.le_of_ble_eq_true rfl) d_Md_may_38 ⟨by exact Nat.le_of_ble_eq_true rfl, by exact Nat.le_of_ble_eq_true rfl⟩ (fun v G1 H locs hp hG hS => ?_)
      obtain ⟨hv1, hG1⟩ := hp
      subst hv1
      rw [hG1] at hG
      obtain ⟨G_17, eG_17⟩ : ∃ z, z = gs_u G mo (.inr (4, [.int th, .int (nI wn), .int (nI hn), .int (nI nb), .ref cB, .ref cT, .ref cS, .ref cL, .int (nI nw), .ref cW, .long ((jm_A (l1, l2) (m9 - t9) g9).1), .long ((jm_A (l1, l2) (m9 - t9) g9).2), .long l3, .long l4])) := ⟨_, rfl⟩
      have hG : gs_W D classes zb G_17 H := by rw [eG_17]; exact hG
      have hc_18 : G_17 cB = some (aInt (k 0) 66 bx) := by rw [eG_17]; exact gs_keep hM.2.1 hM.1 (by simp)
      have hc_19 : G_17 cT = some (aInt (k 2) 11 tr) := by rw [eG_17]; exact gs_keep hM.2.2.1 hM.1 (by simp)
      have hc_20 : G_17 cS = some (aInt (k 0) 72 su) := by rw [eG_17]; exact gs_keep hM.2.2.2.1 hM.1 (by simp)
      have hc_21 : G_17 cL = some (aInt (k 0) 24 li) := by rw [eG_17]; exact gs_keep hM.2.2.2.2.1 hM.1 (by simp)
      have hc_22 : G_17 cW = some (aInt (k 0) 40 wi) := by rw [eG_17]; exact gs_keep hM.2.2.2.2.2 hM.1 (by simp)
      have hc_23 : G_17 mo = some (.inr (4, [.int th, .int (nI wn), .int (nI hn), .int (nI nb), .ref cB, .ref cT, .ref cS, .ref cL, .int (nI nw), .ref cW, .long ((jm_A (l1, l2) (m9 - t9) g9).1), .long ((jm_A (l1, l2) (m9 - t9) g9).2), .long l3, .long l4])) := by rw [eG_17]; exact gs_us _ _ _
      refine W.eq (g2 := F0 m 41 ls []) rfl ?_
      refine lv_aload_n hx hb d_Md_may_41 rfl (lv_at hl 0 rfl) ?_
      refine lv_lload_n hx hb d_Md_may_42 rfl (lv_at hl 1 rfl) ?_
      refine lv_lload hx hb d_Md_may_43 (lv_at hl 3 rfl) ?_
      refine lv_lsub hx hb d_Md_may_45 ?_
      refine lv_lload_n hx hb d_Md_may_46 rfl (lv_at hl 2 rfl) ?_
      refine gs_V (As := [.long (m9 - f9), .long g9]) (rest := []) (k_Md_atMost l D k zb G_17 mo cB cT cS cL cW th wn hn nb nw bx tr su li wi ((jm_A (l1, l2) (m9 - t9) g9).1) ((jm_A (l1, l2) (m9 - t9) g9).2) l3 l4 (m9 - f9) g9 ⟨hc_23, hc_18, hc_19, hc_20, hc_21, hc_22⟩) E hml hl.1 (cg_V (C := R_Md) hw w_580 w_577 w_4 w_579 sel_Md_atMost hd_Md_atMost ⟨by exact Nat.le_of_ble_eq_true rfl, by exact Nat.le_of_ble_eq_true rfl⟩) hG hK hX hS hc_23 rfl rfl rfl rfl (by exact Nat.le_of_ble_eq_true rfl) d_Md_may_47 ⟨by exact Nat.le_of_ble_eq_true rfl, by exact Nat.le_of_ble_eq_true rfl⟩ (fun v G1 H locs hp hG hS => ?_)
      obtain ⟨hv1, hG1⟩ := hp
      subst hv1
      rw [hG1] at hG
      obtain ⟨G_24, eG_24⟩ : ∃ z, z = gs_u G_17 mo (.inr (4, [.int th, .int (nI wn), .int (nI hn), .int (nI nb), .ref cB, .ref cT, .ref cS, .ref cL, .int (nI nw), .ref cW, .long ((jm_A (l1, l2) (m9 - t9) g9).1), .long ((jm_A (l1, l2) (m9 - t9) g9).2), .long ((jm_B (l3, l4) (m9 - f9) g9).1), .long ((jm_B (l3, l4) (m9 - f9) g9).2)])) := ⟨_, rfl⟩
      have hG : gs_W D classes zb G_24 H := by rw [eG_24]; exact hG
      have hc_25 : G_24 cB = some (aInt (k 0) 66 bx) := by rw [eG_24]; exact gs_keep hc_18 hc_23 (by simp)
      have hc_26 : G_24 cT = some (aInt (k 2) 11 tr) := by rw [eG_24]; exact gs_keep hc_19 hc_23 (by simp)
      have hc_27 : G_24 cS = some (aInt (k 0) 72 su) := by rw [eG_24]; exact gs_keep hc_20 hc_23 (by simp)
      have hc_28 : G_24 cL = some (aInt (k 0) 24 li) := by rw [eG_24]; exact gs_keep hc_21 hc_23 (by simp)
      have hc_29 : G_24 cW = some (aInt (k 0) 40 wi) := by rw [eG_24]; exact gs_keep hc_22 hc_23 (by simp)
      have hc_30 : G_24 mo = some (.inr (4, [.int th, .int (nI wn), .int (nI hn), .int (nI nb), .ref cB, .ref cT, .ref cS, .ref cL, .int (nI nw), .ref cW, .long ((jm_A (l1, l2) (m9 - t9) g9).1), .long ((jm_A (l1, l2) (m9 - t9) g9).2), .long ((jm_B (l3, l4) (m9 - f9) g9).1), .long ((jm_B (l3, l4) (m9 - f9) g9).2)])) := by rw [eG_24]; exact gs_us _ _ _
      refine W.eq (g2 := F0 m 50 ls []) rfl ?_
      refine lv_goto (tgt := 73) hx hb d_Md_may_50 (by decide) ?_
      refine lv_iconst (v := 1) hx hb d_Md_may_73 (by decide) ?_
      refine W.zret (v := 1) hx hb hr (by decide) (gs_end ⟨?_, ?_⟩ hG hS) hS.2.2 d_Md_may_74
      · simp only [jm_may, if_neg c_1, if_neg c_2]
      · simp only [jm_may, if_neg c_1, if_neg c_2]; simp only [eG_24, eG_17, gs_uu]
  · rw [lg_cmp_eq] at c_1
    refine lv_lload_n hx hb d_Md_may_6 rfl (lv_at hl 1 rfl) ?_
    refine lv_lload hx hb d_Md_may_7 (lv_at hl 3 rfl) ?_
    refine W.lcmp hx hb d_Md_may_9 ?_
    refine lv_if_lt (tgt := 24) hx hb d_Md_may_10 (by decide) (fun c_31 => ?_) (fun c_31 => ?_)
    · rw [lg_cmp_lt] at c_31
      refine lv_iconst (v := 0) hx hb d_Md_may_24 (by decide) ?_
      refine W.zret (v := 0) hx hb hr (by decide) (gs_end ⟨?_, ?_⟩ hG hS) hS.2.2 d_Md_may_25
      · simp only [jm_may, if_pos c_1, if_pos c_31]
      · simp only [jm_may, if_pos c_1, if_pos c_31]; exact (gs_id hM.1).symm
    · rw [lg_cmp_lt] at c_31
      refine lv_lload_n hx hb d_Md_may_13 rfl (lv_at hl 1 rfl) ?_
      refine lv_lload hx hb d_Md_may_14 (lv_at hl 4 rfl) ?_
      refine W.lcmp hx hb d_Md_may_16 ?_
      refine lv_if_gt (tgt := 24) hx hb d_Md_may_17 (by decide) (fun c_32 => ?_) (fun c_32 => ?_)
      · rw [lg_cmp_gt] at c_32
        refine lv_iconst (v := 0) hx hb d_Md_may_24 (by decide) ?_
        refine W.zret (v := 0) hx hb hr (by decide) (gs_end ⟨?_, ?_⟩ hG hS) hS.2.2 d_Md_may_25
        · simp only [jm_may, if_pos c_1, if_neg c_31, if_pos c_32]
        · simp only [jm_may, if_pos c_1, if_neg c_31, if_pos c_32]; exact (gs_id hM.1).symm
      · rw [lg_cmp_gt] at c_32
        refine lv_iconst (v := 1) hx hb d_Md_may_20 (by decide) ?_
        refine lv_goto (tgt := 25) hx hb d_Md_may_21 (by decide) ?_
        refine W.zret (v := 1) hx hb hr (by decide) (gs_end ⟨?_, ?_⟩ hG hS) hS.2.2 d_Md_may_25
        · simp only [jm_may, if_pos c_1, if_neg c_31, if_neg c_32]
        · simp only [jm_may, if_pos c_1, if_neg c_31, if_neg c_32]; exact (gs_id hM.1).symm
set_option maxHeartbeats 4000000 in
set_option maxRecDepth 100000 in
theorem k_Md_throwsOn (l : Launch) (D : va_G) (k : Nat → ClassId) (zb : Nat) (G : Nat → Option va_E) (mo cB cT cS cL cW : Nat) (th : Int32) (wn hn nb nw : Nat) (bx tr su li wi : Nat → Int32) (l1 l2 l3 l4 : Int64) (b t : Nat) (x y : Int32) (hM : sM k G mo cB cT cS cL cW th wn hn nb nw bx tr su li wi l1 l2 l3 l4) (hb10 : b ≤ 10) (ht24 : t < 24) : Met l y_Md_throwsOn (wM y_Md_throwsOn c_Md_throwsOn 12 (some .boolean)) ({ frames := 2, cells := 0, slots := 0, locals := 52 }) (gs_P D k zb G [.ref mo, .int (nI b), .int x, .int y, .int (nI t)]) (gs_Q D zb (fun v G1 => v = some (.int (jm_b bx su b t x y)) ∧ ∃ m1 m2 m3 m4 : Int64, G1 = gs_u G mo (oMd th wn hn nb nw cB cT cS cL cW m1 m2 m3 m4))) 0 0 (fun q : Nat => zb ≤ q) := by
  refine Met.ofW (cc := c_Md_throwsOn) (maxL := 12) (ret := (some .boolean)) (by decide) rfl ?_
  intro p e s m args below meth c s₁ B hml hv
  obtain ⟨rfl, hG, hK, hX⟩ := hv
  have hx := B.exec
  have hb := B.bytes
  have hr := B.returns
  have hts := atoms_spec (ws := wM y_Md_throwsOn c_Md_throwsOn 12 (some .boolean)) B.pre
  have hw : ∀ w9 ∈ wW, w9.before ([.ref mo, .int (nI b), .int x, .int y, .int (nI t)] : List Value).toArray s = true := fun w9 h9 => hts w9 (gi_in w9 h9)
  have hown : s.vm.findClass R_Md = some m.cls := findClass_of_methodNamed B.named
  have hlocks := B.notSynchronized
  have E : gs_E p s m ([.ref mo, .int (nI b), .int x, .int y, .int (nI t)] : List Value).toArray c c_Md_throwsOn wW R_Md := ⟨hx, hb, hw, hown⟩
  have hS : gs_S zb s.heap s.heap [] := va_S.rf
  have hl := lv_entry ([.ref mo, .int (nI b), .int x, .int y, .int (nI t)]) (n := 12) (Nat.le_of_ble_eq_true rfl)
  rw [lg_entry_eq]
  generalize (lg_sl ([.ref mo, .int (nI b), .int x, .int y, .int (nI t)]) ++ List.replicate (12 - (lg_sl ([.ref mo, .int (nI b), .int x, .int y, .int (nI t)])).length) Slot.unset).toArray = ls at hl ⊢
  have hl : lv_has ls 12 [(0, .ref mo), (1, .int (nI b)), (2, .int x), (3, .int y), (4, .int (nI t))] := hl
  refine lv_aload_n hx hb d_Md_throwsOn_0 rfl (lv_at hl 0 rfl) ?_
  refine gs_get E hK.1 hG hM.1 (C := R_Md) (T := F_Md) (N := 14) rfl i_Md 6 (by decide) w_469 (v := .ref cS) rfl d_Md_throwsOn_1 ?_
  refine lv_iconst (v := 3) hx hb d_Md_throwsOn_4 (by decide) ?_
  refine lv_iload hx hb d_Md_throwsOn_5 (lv_at hl 4 rfl) ?_
  refine lv_imul hx hb d_Md_throwsOn_7 ?_
  refine lv_topE (show 3 * (nI t) = nI (3 * t) from pk_mul 3 t) ?_
  refine gn_iald E hK.1 hG hM.2.2.2.1 0 rfl (j := (3 * t)) (by omega) (by decide) d_Md_throwsOn_8 ?_
  refine lv_i2l hx hb d_Md_throwsOn_9 rfl ?_
  refine lv_topl (fun v_1 ev_1 => ?_)
  refine lv_lstore (lv' := [(5, .long v_1), (0, .ref mo), (1, .int (nI b)), (2, .int x), (3, .int y), (4, .int (nI t))]) hx hb d_Md_throwsOn_10 hl (by decide) rfl (fun ls hl => ?_)
  refine lv_aload_n hx hb d_Md_throwsOn_12 rfl (lv_at hl 1 rfl) ?_
  refine gs_get E hK.1 hG hM.1 (C := R_Md) (T := F_Md) (N := 14) rfl i_Md 6 (by decide) w_469 (v := .ref cS) rfl d_Md_throwsOn_13 ?_
  refine lv_iconst (v := 3) hx hb d_Md_throwsOn_16 (by decide) ?_
  refine lv_iload hx hb d_Md_throwsOn_17 (lv_at hl 5 rfl) ?_
  refine lv_imul hx hb d_Md_throwsOn_19 ?_
  refine lv_topE (show 3 * (nI t) = nI (3 * t) from pk_mul 3 t) ?_
  refine lv_iconst (v := 1) hx hb d_Md_throwsOn_20 (by decide) ?_
  refine lv_iadd hx hb d_Md_throwsOn_21 ?_
  refine lv_topE (show (nI (3 * t)) + 1 = nI (3 * t + 1) from nI_add (3 * t) 1) ?_
  refine gn_iald E hK.1 hG hM.2.2.2.1 0 rfl (j := (3 * t + 1)) (by omega) (by decide) d_Md_throwsOn_22 ?_
  refine lv_i2l hx hb d_Md_throwsOn_23 rfl ?_
  refine lv_topl (fun v_2 ev_2 => ?_)
  refine lv_lstore (lv' := [(7, .long v_2), (5, .long v_1), (0, .ref mo), (1, .int (nI b)), (2, .int x), (3, .int y), (4, .int (nI t))]) hx hb d_Md_throwsOn_24 hl (by decide) rfl (fun ls hl => ?_)
  refine lv_aload_n hx hb d_Md_throwsOn_26 rfl (lv_at hl 2 rfl) ?_
  refine gs_get E hK.1 hG hM.1 (C := R_Md) (T := F_Md) (N := 14) rfl i_Md 6 (by decide) w_469 (v := .ref cS) rfl d_Md_throwsOn_27 ?_
  refine lv_iconst (v := 3) hx hb d_Md_throwsOn_30 (by decide) ?_
  refine lv_iload hx hb d_Md_throwsOn_31 (lv_at hl 6 rfl) ?_
  refine lv_imul hx hb d_Md_throwsOn_33 ?_
  refine lv_topE (show 3 * (nI t) = nI (3 * t) from pk_mul 3 t) ?_
  refine lv_iconst (v := 2) hx hb d_Md_throwsOn_34 (by decide) ?_
  refine lv_iadd hx hb d_Md_throwsOn_35 ?_
  refine lv_topE (show (nI (3 * t)) + 2 = nI (3 * t + 2) from nI_add (3 * t) 2) ?_
  refine gn_iald E hK.1 hG hM.2.2.2.1 0 rfl (j := (3 * t + 2)) (by omega) (by decide) d_Md_throwsOn_36 ?_
  refine lv_i2l hx hb d_Md_throwsOn_37 rfl ?_
  refine lv_topl (fun v_3 ev_3 => ?_)
  refine lv_lstore (lv' := [(9, .long v_3), (7, .long v_2), (5, .long v_1), (0, .ref mo), (1, .int (nI b)), (2, .int x), (3, .int y), (4, .int (nI t))]) hx hb d_Md_throwsOn_38 hl (by decide) rfl (fun ls hl => ?_)
  refine lv_aload_n hx hb d_Md_throwsOn_40 rfl (lv_at hl 3 rfl) ?_
  refine lv_aload_n hx hb d_Md_throwsOn_41 rfl (lv_at hl 3 rfl) ?_
  refine gs_get E hK.1 hG hM.1 (C := R_Md) (T := F_Md) (N := 14) rfl i_Md 4 (by decide) w_467 (v := .ref cB) rfl d_Md_throwsOn_42 ?_
  refine lv_bipush (v := 6) hx hb d_Md_throwsOn_45 (by decide) ?_
  refine lv_iload_n hx hb d_Md_throwsOn_47 rfl (lv_at hl 4 rfl) ?_
  refine lv_imul hx hb d_Md_throwsOn_48 ?_
  refine lv_topE (show 6 * (nI b) = nI (6 * b) from pk_mul 6 b) ?_
  refine lv_iconst (v := 2) hx hb d_Md_throwsOn_49 (by decide) ?_
  refine lv_iadd hx hb d_Md_throwsOn_50 ?_
  refine lv_topE (show (nI (6 * b)) + 2 = nI (6 * b + 2) from nI_add (6 * b) 2) ?_
  refine gn_iald E hK.1 hG hM.2.1 0 rfl (j := (6 * b + 2)) (by omega) (by decide) d_Md_throwsOn_51 ?_
  refine lv_i2l hx hb d_Md_throwsOn_52 rfl ?_
  refine lv_topl (fun v_4 ev_4 => ?_)
  refine gs_put E hK.1 hG hS hM.1 (C := R_Md) (T := F_Md) (N := 14) rfl i_Md t_Md t_Md_ok n_Md 10 (by decide) w_473 rfl (v := .long v_4) rfl rfl (Nat.le_of_ble_eq_true rfl) d_Md_throwsOn_53 (fun H locs hG hS => ?_)
  obtain ⟨G_5, eG_5⟩ : ∃ z, z = gs_u G mo (.inr (4, [.int th, .int (nI wn), .int (nI hn), .int (nI nb), .ref cB, .ref cT, .ref cS, .ref cL, .int (nI nw), .ref cW, .long v_4, .long l2, .long l3, .long l4])) := ⟨_, rfl⟩
  have hG : gs_W D classes zb G_5 H := by rw [eG_5]; exact hG
  have hc_6 : G_5 cB = some (aInt (k 0) 66 bx) := by rw [eG_5]; exact gs_keep hM.2.1 hM.1 (by simp)
  have hc_7 : G_5 cT = some (aInt (k 2) 11 tr) := by rw [eG_5]; exact gs_keep hM.2.2.1 hM.1 (by simp)
  have hc_8 : G_5 cS = some (aInt (k 0) 72 su) := by rw [eG_5]; exact gs_keep hM.2.2.2.1 hM.1 (by simp)
  have hc_9 : G_5 cL = some (aInt (k 0) 24 li) := by rw [eG_5]; exact gs_keep hM.2.2.2.2.1 hM.1 (by simp)
  have hc_10 : G_5 cW = some (aInt (k 0) 40 wi) := by rw [eG_5]; exact gs_keep hM.2.2.2.2.2 hM.1 (by simp)
  have hc_11 : G_5 mo = some (.inr (4, [.int th, .int (nI wn), .int (nI hn), .int (nI nb), .ref cB, .ref cT, .ref cS, .ref cL, .int (nI nw), .ref cW, .long v_4, .long l2, .long l3, .long l4])) := by rw [eG_5]; exact gs_us _ _ _
  refine lv_aload_n hx hb d_Md_throwsOn_56 rfl (lv_at hl 3 rfl) ?_
  refine lv_lconst (v := 1) hx hb d_Md_throwsOn_57 (by decide) ?_
  refine gs_put E hK.1 hG hS hc_11 (C := R_Md) (T := F_Md) (N := 14) rfl i_Md t_Md t_Md_ok n_Md 11 (by decide) w_474 rfl (v := .long 1) rfl rfl (Nat.le_of_ble_eq_true rfl) d_Md_throwsOn_58 (fun H locs hG hS => ?_)
  obtain ⟨G_12, eG_12⟩ : ∃ z, z = gs_u G_5 mo (.inr (4, [.int th, .int (nI wn), .int (nI hn), .int (nI nb), .ref cB, .ref cT, .ref cS, .ref cL, .int (nI nw), .ref cW, .long v_4, .long 1, .long l3, .long l4])) := ⟨_, rfl⟩
  have hG : gs_W D classes zb G_12 H := by rw [eG_12]; exact hG
  have hc_13 : G_12 cB = some (aInt (k 0) 66 bx) := by rw [eG_12]; exact gs_keep hc_6 hc_11 (by simp)
  have hc_14 : G_12 cT = some (aInt (k 2) 11 tr) := by rw [eG_12]; exact gs_keep hc_7 hc_11 (by simp)
  have hc_15 : G_12 cS = some (aInt (k 0) 72 su) := by rw [eG_12]; exact gs_keep hc_8 hc_11 (by simp)
  have hc_16 : G_12 cL = some (aInt (k 0) 24 li) := by rw [eG_12]; exact gs_keep hc_9 hc_11 (by simp)
  have hc_17 : G_12 cW = some (aInt (k 0) 40 wi) := by rw [eG_12]; exact gs_keep hc_10 hc_11 (by simp)
  have hc_18 : G_12 mo = some (.inr (4, [.int th, .int (nI wn), .int (nI hn), .int (nI nb), .ref cB, .ref cT, .ref cS, .ref cL, .int (nI nw), .ref cW, .long v_4, .long 1, .long l3, .long l4])) := by rw [eG_12]; exact gs_us _ _ _
  refine lv_aload_n hx hb d_Md_throwsOn_61 rfl (lv_at hl 3 rfl) ?_
  refine lv_aload_n hx hb d_Md_throwsOn_62 rfl (lv_at hl 3 rfl) ?_
  refine gs_get E hK.1 hG hc_18 (C := R_Md) (T := F_Md) (N := 14) rfl i_Md 4 (by decide) w_467 (v := .ref cB) rfl d_Md_throwsOn_63 ?_
  refine lv_bipush (v := 6) hx hb d_Md_throwsOn_66 (by decide) ?_
  refine lv_iload_n hx hb d_Md_throwsOn_68 rfl (lv_at hl 4 rfl) ?_
  refine lv_imul hx hb d_Md_throwsOn_69 ?_
  refine lv_topE (show 6 * (nI b) = nI (6 * b) from pk_mul 6 b) ?_
  refine lv_iconst (v := 5) hx hb d_Md_throwsOn_70 (by decide) ?_
  refine lv_iadd hx hb d_Md_throwsOn_71 ?_
  refine lv_topE (show (nI (6 * b)) + 5 = nI (6 * b + 5) from nI_add (6 * b) 5) ?_
  refine gn_iald E hK.1 hG hc_13 0 rfl (j := (6 * b + 5)) (by omega) (by decide) d_Md_throwsOn_72 ?_
  refine lv_i2l hx hb d_Md_throwsOn_73 rfl ?_
  refine lv_topl (fun v_19 ev_19 => ?_)
  refine gs_put E hK.1 hG hS hc_18 (C := R_Md) (T := F_Md) (N := 14) rfl i_Md t_Md t_Md_ok n_Md 12 (by decide) w_475 rfl (v := .long v_19) rfl rfl (Nat.le_of_ble_eq_true rfl) d_Md_throwsOn_74 (fun H locs hG hS => ?_)
  obtain ⟨G_20, eG_20⟩ : ∃ z, z = gs_u G_12 mo (.inr (4, [.int th, .int (nI wn), .int (nI hn), .int (nI nb), .ref cB, .ref cT, .ref cS, .ref cL, .int (nI nw), .ref cW, .long v_4, .long 1, .long v_19, .long l4])) := ⟨_, rfl⟩
  have hG : gs_W D classes zb G_20 H := by rw [eG_20]; exact hG
  have hc_21 : G_20 cB = some (aInt (k 0) 66 bx) := by rw [eG_20]; exact gs_keep hc_13 hc_18 (by simp)
  have hc_22 : G_20 cT = some (aInt (k 2) 11 tr) := by rw [eG_20]; exact gs_keep hc_14 hc_18 (by simp)
  have hc_23 : G_20 cS = some (aInt (k 0) 72 su) := by rw [eG_20]; exact gs_keep hc_15 hc_18 (by simp)
  have hc_24 : G_20 cL = some (aInt (k 0) 24 li) := by rw [eG_20]; exact gs_keep hc_16 hc_18 (by simp)
  have hc_25 : G_20 cW = some (aInt (k 0) 40 wi) := by rw [eG_20]; exact gs_keep hc_17 hc_18 (by simp)
  have hc_26 : G_20 mo = some (.inr (4, [.int th, .int (nI wn), .int (nI hn), .int (nI nb), .ref cB, .ref cT, .ref cS, .ref cL, .int (nI nw), .ref cW, .long v_4, .long 1, .long v_19, .long l4])) := by rw [eG_20]; exact gs_us _ _ _
  refine lv_aload_n hx hb d_Md_throwsOn_77 rfl (lv_at hl 3 rfl) ?_
  refine lv_lconst (v := 1) hx hb d_Md_throwsOn_78 (by decide) ?_
  refine gs_put E hK.1 hG hS hc_26 (C := R_Md) (T := F_Md) (N := 14) rfl i_Md t_Md t_Md_ok n_Md 13 (by decide) w_476 rfl (v := .long 1) rfl rfl (Nat.le_of_ble_eq_true rfl) d_Md_throwsOn_79 (fun H locs hG hS => ?_)
  obtain ⟨G_27, eG_27⟩ : ∃ z, z = gs_u G_20 mo (.inr (4, [.int th, .int (nI wn), .int (nI hn), .int (nI nb), .ref cB, .ref cT, .ref cS, .ref cL, .int (nI nw), .ref cW, .long v_4, .long 1, .long v_19, .long 1])) := ⟨_, rfl⟩
  have hG : gs_W D classes zb G_27 H := by rw [eG_27]; exact hG
  have hc_28 : G_27 cB = some (aInt (k 0) 66 bx) := by rw [eG_27]; exact gs_keep hc_21 hc_26 (by simp)
  have hc_29 : G_27 cT = some (aInt (k 2) 11 tr) := by rw [eG_27]; exact gs_keep hc_22 hc_26 (by simp)
  have hc_30 : G_27 cS = some (aInt (k 0) 72 su) := by rw [eG_27]; exact gs_keep hc_23 hc_26 (by simp)
  have hc_31 : G_27 cL = some (aInt (k 0) 24 li) := by rw [eG_27]; exact gs_keep hc_24 hc_26 (by simp)
  have hc_32 : G_27 cW = some (aInt (k 0) 40 wi) := by rw [eG_27]; exact gs_keep hc_25 hc_26 (by simp)
  have hc_33 : G_27 mo = some (.inr (4, [.int th, .int (nI wn), .int (nI hn), .int (nI nb), .ref cB, .ref cT, .ref cS, .ref cL, .int (nI nw), .ref cW, .long v_4, .long 1, .long v_19, .long 1])) := by rw [eG_27]; exact gs_us _ _ _
  refine lv_aload_n hx hb d_Md_throwsOn_82 rfl (lv_at hl 3 rfl) ?_
  refine lv_ldc2 hx hb hown (v := 2) (hw _ w_568) d_Md_throwsOn_83 ?_
  refine lv_iload_n hx hb d_Md_throwsOn_86 rfl (lv_at hl 5 rfl) ?_
  refine lv_i2l hx hb d_Md_throwsOn_87 rfl ?_
  refine lv_lmul hx hb d_Md_throwsOn_88 ?_
  refine lv_lconst (v := 1) hx hb d_Md_throwsOn_89 (by decide) ?_
  refine lv_ladd hx hb d_Md_throwsOn_90 ?_
  refine lv_lload hx hb d_Md_throwsOn_91 (lv_at hl 0 rfl) ?_
  refine lv_lmul hx hb d_Md_throwsOn_93 ?_
  refine lv_ldc2 hx hb hown (v := 2) (hw _ w_568) d_Md_throwsOn_94 ?_
  refine lv_lload hx hb d_Md_throwsOn_97 (lv_at hl 2 rfl) ?_
  refine lv_lmul hx hb d_Md_throwsOn_99 ?_
  refine lv_ldc2 hx hb hown (v := 2) (hw _ w_568) d_Md_throwsOn_100 ?_
  refine lv_lload hx hb d_Md_throwsOn_103 (lv_at hl 0 rfl) ?_
  refine lv_lmul hx hb d_Md_throwsOn_105 ?_
  refine lv_aload_n hx hb d_Md_throwsOn_106 rfl (lv_at hl 3 rfl) ?_
  refine gs_get E hK.1 hG hc_33 (C := R_Md) (T := F_Md) (N := 14) rfl i_Md 4 (by decide) w_467 (v := .ref cB) rfl d_Md_throwsOn_107 ?_
  refine lv_bipush (v := 6) hx hb d_Md_throwsOn_110 (by decide) ?_
  refine lv_iload_n hx hb d_Md_throwsOn_112 rfl (lv_at hl 4 rfl) ?_
  refine lv_imul hx hb d_Md_throwsOn_113 ?_
  refine lv_topE (show 6 * (nI b) = nI (6 * b) from pk_mul 6 b) ?_
  refine gn_iald E hK.1 hG hc_28 0 rfl (j := (6 * b)) (by omega) (by decide) d_Md_throwsOn_114 ?_
  refine lv_i2l hx hb d_Md_throwsOn_115 rfl ?_
  refine lv_lmul hx hb d_Md_throwsOn_116 ?_
  refine lv_ldc2 hx hb hown (v := 2) (hw _ w_568) d_Md_throwsOn_117 ?_
  refine lv_lload hx hb d_Md_throwsOn_120 (lv_at hl 0 rfl) ?_
  refine lv_lmul hx hb d_Md_throwsOn_122 ?_
  refine lv_aload_n hx hb d_Md_throwsOn_123 rfl (lv_at hl 3 rfl) ?_
  refine gs_get E hK.1 hG hc_33 (C := R_Md) (T := F_Md) (N := 14) rfl i_Md 4 (by decide) w_467 (v := .ref cB) rfl d_Md_throwsOn_124 ?_
  refine lv_bipush (v := 6) hx hb d_Md_throwsOn_127 (by decide) ?_
  refine lv_iload_n hx hb d_Md_throwsOn_129 rfl (lv_at hl 4 rfl) ?_
  refine lv_imul hx hb d_Md_throwsOn_130 ?_
  refine lv_topE (show 6 * (nI b) = nI (6 * b) from pk_mul 6 b) ?_
  refine lv_iconst (v := 3) hx hb d_Md_throwsOn_131 (by decide) ?_
  refine lv_iadd hx hb d_Md_throwsOn_132 ?_
  refine lv_topE (show (nI (6 * b)) + 3 = nI (6 * b + 3) from nI_add (6 * b) 3) ?_
  refine gn_iald E hK.1 hG hc_28 0 rfl (j := (6 * b + 3)) (by omega) (by decide) d_Md_throwsOn_133 ?_
  refine lv_i2l hx hb d_Md_throwsOn_134 rfl ?_
  refine lv_lmul hx hb d_Md_throwsOn_135 ?_
  refine gs_V (As := [.long (((2 * x.toInt64) + 1) * v_3), .long (2 * v_1), .long ((2 * v_3) * ((bx (6 * b)).toInt64)), .long ((2 * v_3) * ((bx (6 * b + 3)).toInt64))]) (rest := []) (k_Md_may l D k zb G_27 mo cB cT cS cL cW th wn hn nb nw bx tr su li wi v_4 1 v_19 1 (((2 * x.toInt64) + 1) * v_3) (2 * v_1) ((2 * v_3) * ((bx (6 * b)).toInt64)) ((2 * v_3) * ((bx (6 * b + 3)).toInt64)) ⟨hc_33, hc_28, hc_29, hc_30, hc_31, hc_32⟩) E hml hl.1 (cg_V (C := R_Md) hw w_572 w_569 w_4 w_571 sel_Md_may hd_Md_may ⟨by exact Nat.le_of_ble_eq_true rfl, by exact Nat.le_of_ble_eq_true rfl⟩) hG hK hX hS hc_33 rfl rfl rfl rfl (by exact Nat.le_of_ble_eq_true rfl) d_Md_throwsOn_136 ⟨by exact Nat.le_of_ble_eq_true rfl, by exact Nat.le_of_ble_eq_true rfl⟩ (fun v G1 H locs hp hG hS => ?_)
  obtain ⟨pm_34, epm_34⟩ : ∃ z, z = jm_may (((2 * x.toInt64) + 1) * v_3) (2 * v_1) ((2 * v_3) * ((bx (6 * b)).toInt64)) ((2 * v_3) * ((bx (6 * b + 3)).toInt64)) ((v_4, 1), (v_19, 1)) := ⟨_, rfl⟩
  obtain ⟨hv1, hG1⟩ := hp
  rw [← epm_34] at hv1 hG1
  subst hv1
  rw [hG1] at hG
  obtain ⟨G_35, eG_35⟩ : ∃ z, z = gs_u G_27 mo (.inr (4, [.int th, .int (nI wn), .int (nI hn), .int (nI nb), .ref cB, .ref cT, .ref cS, .ref cL, .int (nI nw), .ref cW, .long pm_34.2.1.1, .long pm_34.2.1.2, .long pm_34.2.2.1, .long pm_34.2.2.2])) := ⟨_, rfl⟩
  have hG : gs_W D classes zb G_35 H := by rw [eG_35]; exact hG
  have hc_36 : G_35 cB = some (aInt (k 0) 66 bx) := by rw [eG_35]; exact gs_keep hc_28 hc_33 (by simp)
  have hc_37 : G_35 cT = some (aInt (k 2) 11 tr) := by rw [eG_35]; exact gs_keep hc_29 hc_33 (by simp)
  have hc_38 : G_35 cS = some (aInt (k 0) 72 su) := by rw [eG_35]; exact gs_keep hc_30 hc_33 (by simp)
  have hc_39 : G_35 cL = some (aInt (k 0) 24 li) := by rw [eG_35]; exact gs_keep hc_31 hc_33 (by simp)
  have hc_40 : G_35 cW = some (aInt (k 0) 40 wi) := by rw [eG_35]; exact gs_keep hc_32 hc_33 (by simp)
  have hc_41 : G_35 mo = some (.inr (4, [.int th, .int (nI wn), .int (nI hn), .int (nI nb), .ref cB, .ref cT, .ref cS, .ref cL, .int (nI nw), .ref cW, .long pm_34.2.1.1, .long pm_34.2.1.2, .long pm_34.2.2.1, .long pm_34.2.2.2])) := by rw [eG_35]; exact gs_us _ _ _
  refine W.eq (g2 := F0 m 139 ls [.int pm_34.1]) rfl ?_
  refine lv_topi (fun v_42 ev_42 => ?_)
  refine lv_istore (lv' := [(11, .int v_42), (9, .long v_3), (7, .long v_2), (5, .long v_1), (0, .ref mo), (1, .int (nI b)), (2, .int x), (3, .int y), (4, .int (nI t))]) hx hb d_Md_throwsOn_139 hl (by decide) rfl (fun ls hl => ?_)
  refine lv_iload hx hb d_Md_throwsOn_141 (lv_at hl 0 rfl) ?_
  refine lv_if_eq (tgt := 212) hx hb d_Md_throwsOn_143 (by decide) (fun c_43 => ?_) (fun c_43 => ?_)
  · refine lv_iconst (v := 0) hx hb d_Md_throwsOn_212 (by decide) ?_
    refine lv_istore (lv' := [(11, .int 0), (9, .long v_3), (7, .long v_2), (5, .long v_1), (0, .ref mo), (1, .int (nI b)), (2, .int x), (3, .int y), (4, .int (nI t))]) hx hb d_Md_throwsOn_213 hl (by decide) rfl (fun ls hl => ?_)
    refine lv_iload hx hb d_Md_throwsOn_215 (lv_at hl 0 rfl) ?_
    refine lv_if_eq (tgt := 246) hx hb d_Md_throwsOn_217 (by decide) (fun c_44 => ?_) (fun c_44 => ?_)
    · refine lv_iconst (v := 0) hx hb d_Md_throwsOn_246 (by decide) ?_
      refine W.zret (v := 0) hx hb hr (by decide) (gs_end ⟨?_, pm_34.2.1.1, pm_34.2.1.2, pm_34.2.2.1, pm_34.2.2.2, ?_⟩ hG hS) hS.2.2 d_Md_throwsOn_247
      · subst ev_42 ev_19 ev_4 ev_3 ev_2 ev_1; have h1 : pm_34 = jm_p1 (bx (6 * b)) (bx (6 * b + 2)) (bx (6 * b + 3)) (bx (6 * b + 5)) (su (3 * t)) (su (3 * t + 2)) x := epm_34
        unfold jm_b jm_on; rw [← h1, if_pos c_43]
      · simp only [eG_35, eG_27, eG_20, eG_12, eG_5, gs_uu]
    · exact absurd rfl c_44
  · refine lv_aload_n hx hb d_Md_throwsOn_146 rfl (lv_at hl 4 rfl) ?_
    refine lv_ldc2 hx hb hown (v := 2) (hw _ w_568) d_Md_throwsOn_147 ?_
    refine lv_iload_n hx hb d_Md_throwsOn_150 rfl (lv_at hl 7 rfl) ?_
    refine lv_i2l hx hb d_Md_throwsOn_151 rfl ?_
    refine lv_lmul hx hb d_Md_throwsOn_152 ?_
    refine lv_lconst (v := 1) hx hb d_Md_throwsOn_153 (by decide) ?_
    refine lv_ladd hx hb d_Md_throwsOn_154 ?_
    refine lv_lload hx hb d_Md_throwsOn_155 (lv_at hl 1 rfl) ?_
    refine lv_lmul hx hb d_Md_throwsOn_157 ?_
    refine lv_ldc2 hx hb hown (v := 2) (hw _ w_568) d_Md_throwsOn_158 ?_
    refine lv_lload hx hb d_Md_throwsOn_161 (lv_at hl 2 rfl) ?_
    refine lv_lmul hx hb d_Md_throwsOn_163 ?_
    refine lv_ldc2 hx hb hown (v := 2) (hw _ w_568) d_Md_throwsOn_164 ?_
    refine lv_lload hx hb d_Md_throwsOn_167 (lv_at hl 1 rfl) ?_
    refine lv_lmul hx hb d_Md_throwsOn_169 ?_
    refine lv_aload_n hx hb d_Md_throwsOn_170 rfl (lv_at hl 4 rfl) ?_
    refine gs_get E hK.1 hG hc_41 (C := R_Md) (T := F_Md) (N := 14) rfl i_Md 4 (by decide) w_467 (v := .ref cB) rfl d_Md_throwsOn_171 ?_
    refine lv_bipush (v := 6) hx hb d_Md_throwsOn_174 (by decide) ?_
    refine lv_iload_n hx hb d_Md_throwsOn_176 rfl (lv_at hl 5 rfl) ?_
    refine lv_imul hx hb d_Md_throwsOn_177 ?_
    refine lv_topE (show 6 * (nI b) = nI (6 * b) from pk_mul 6 b) ?_
    refine lv_iconst (v := 1) hx hb d_Md_throwsOn_178 (by decide) ?_
    refine lv_iadd hx hb d_Md_throwsOn_179 ?_
    refine lv_topE (show (nI (6 * b)) + 1 = nI (6 * b + 1) from nI_add (6 * b) 1) ?_
    refine gn_iald E hK.1 hG hc_36 0 rfl (j := (6 * b + 1)) (by omega) (by decide) d_Md_throwsOn_180 ?_
    refine lv_i2l hx hb d_Md_throwsOn_181 rfl ?_
    refine lv_lmul hx hb d_Md_throwsOn_182 ?_
    refine lv_ldc2 hx hb hown (v := 2) (hw _ w_568) d_Md_throwsOn_183 ?_
    refine lv_lload hx hb d_Md_throwsOn_186 (lv_at hl 1 rfl) ?_
    refine lv_lmul hx hb d_Md_throwsOn_188 ?_
    refine lv_aload_n hx hb d_Md_throwsOn_189 rfl (lv_at hl 4 rfl) ?_
    refine gs_get E hK.1 hG hc_41 (C := R_Md) (T := F_Md) (N := 14) rfl i_Md 4 (by decide) w_467 (v := .ref cB) rfl d_Md_throwsOn_190 ?_
    refine lv_bipush (v := 6) hx hb d_Md_throwsOn_193 (by decide) ?_
    refine lv_iload_n hx hb d_Md_throwsOn_195 rfl (lv_at hl 5 rfl) ?_
    refine lv_imul hx hb d_Md_throwsOn_196 ?_
    refine lv_topE (show 6 * (nI b) = nI (6 * b) from pk_mul 6 b) ?_
    refine lv_iconst (v := 4) hx hb d_Md_throwsOn_197 (by decide) ?_
    refine lv_iadd hx hb d_Md_throwsOn_198 ?_
    refine lv_topE (show (nI (6 * b)) + 4 = nI (6 * b + 4) from nI_add (6 * b) 4) ?_
    refine gn_iald E hK.1 hG hc_36 0 rfl (j := (6 * b + 4)) (by omega) (by decide) d_Md_throwsOn_199 ?_
    refine lv_i2l hx hb d_Md_throwsOn_200 rfl ?_
    refine lv_lmul hx hb d_Md_throwsOn_201 ?_
    refine gs_V (As := [.long (((2 * y.toInt64) + 1) * v_3), .long (2 * v_2), .long ((2 * v_3) * ((bx (6 * b + 1)).toInt64)), .long ((2 * v_3) * ((bx (6 * b + 4)).toInt64))]) (rest := []) (k_Md_may l D k zb G_35 mo cB cT cS cL cW th wn hn nb nw bx tr su li wi pm_34.2.1.1 pm_34.2.1.2 pm_34.2.2.1 pm_34.2.2.2 (((2 * y.toInt64) + 1) * v_3) (2 * v_2) ((2 * v_3) * ((bx (6 * b + 1)).toInt64)) ((2 * v_3) * ((bx (6 * b + 4)).toInt64)) ⟨hc_41, hc_36, hc_37, hc_38, hc_39, hc_40⟩) E hml hl.1 (cg_V (C := R_Md) hw w_572 w_569 w_4 w_571 sel_Md_may hd_Md_may ⟨by exact Nat.le_of_ble_eq_true rfl, by exact Nat.le_of_ble_eq_true rfl⟩) hG hK hX hS hc_41 rfl rfl rfl rfl (by exact Nat.le_of_ble_eq_true rfl) d_Md_throwsOn_202 ⟨by exact Nat.le_of_ble_eq_true rfl, by exact Nat.le_of_ble_eq_true rfl⟩ (fun v G1 H locs hp hG hS => ?_)
    obtain ⟨pm_45, epm_45⟩ : ∃ z, z = jm_may (((2 * y.toInt64) + 1) * v_3) (2 * v_2) ((2 * v_3) * ((bx (6 * b + 1)).toInt64)) ((2 * v_3) * ((bx (6 * b + 4)).toInt64)) ((pm_34.2.1.1, pm_34.2.1.2), (pm_34.2.2.1, pm_34.2.2.2)) := ⟨_, rfl⟩
    obtain ⟨hv1, hG1⟩ := hp
    rw [← epm_45] at hv1 hG1
    subst hv1
    rw [hG1] at hG
    obtain ⟨G_46, eG_46⟩ : ∃ z, z = gs_u G_35 mo (.inr (4, [.int th, .int (nI wn), .int (nI hn), .int (nI nb), .ref cB, .ref cT, .ref cS, .ref cL, .int (nI nw), .ref cW, .long pm_45.2.1.1, .long pm_45.2.1.2, .long pm_45.2.2.1, .long pm_45.2.2.2])) := ⟨_, rfl⟩
    have hG : gs_W D classes zb G_46 H := by rw [eG_46]; exact hG
    have hc_47 : G_46 cB = some (aInt (k 0) 66 bx) := by rw [eG_46]; exact gs_keep hc_36 hc_41 (by simp)
    have hc_48 : G_46 cT = some (aInt (k 2) 11 tr) := by rw [eG_46]; exact gs_keep hc_37 hc_41 (by simp)
    have hc_49 : G_46 cS = some (aInt (k 0) 72 su) := by rw [eG_46]; exact gs_keep hc_38 hc_41 (by simp)
    have hc_50 : G_46 cL = some (aInt (k 0) 24 li) := by rw [eG_46]; exact gs_keep hc_39 hc_41 (by simp)
    have hc_51 : G_46 cW = some (aInt (k 0) 40 wi) := by rw [eG_46]; exact gs_keep hc_40 hc_41 (by simp)
    have hc_52 : G_46 mo = some (.inr (4, [.int th, .int (nI wn), .int (nI hn), .int (nI nb), .ref cB, .ref cT, .ref cS, .ref cL, .int (nI nw), .ref cW, .long pm_45.2.1.1, .long pm_45.2.1.2, .long pm_45.2.2.1, .long pm_45.2.2.2])) := by rw [eG_46]; exact gs_us _ _ _
    refine W.eq (g2 := F0 m 205 ls [.int pm_45.1]) rfl ?_
    refine lv_if_eq (tgt := 212) hx hb d_Md_throwsOn_205 (by decide) (fun c_53 => ?_) (fun c_53 => ?_)
    · refine lv_iconst (v := 0) hx hb d_Md_throwsOn_212 (by decide) ?_
      refine lv_istore (lv' := [(11, .int 0), (9, .long v_3), (7, .long v_2), (5, .long v_1), (0, .ref mo), (1, .int (nI b)), (2, .int x), (3, .int y), (4, .int (nI t))]) hx hb d_Md_throwsOn_213 hl (by decide) rfl (fun ls hl => ?_)
      refine lv_iload hx hb d_Md_throwsOn_215 (lv_at hl 0 rfl) ?_
      refine lv_if_eq (tgt := 246) hx hb d_Md_throwsOn_217 (by decide) (fun c_54 => ?_) (fun c_54 => ?_)
      · refine lv_iconst (v := 0) hx hb d_Md_throwsOn_246 (by decide) ?_
        refine W.zret (v := 0) hx hb hr (by decide) (gs_end ⟨?_, pm_45.2.1.1, pm_45.2.1.2, pm_45.2.2.1, pm_45.2.2.2, ?_⟩ hG hS) hS.2.2 d_Md_throwsOn_247
        · subst ev_42 ev_19 ev_4 ev_3 ev_2 ev_1; have h1 : pm_34 = jm_p1 (bx (6 * b)) (bx (6 * b + 2)) (bx (6 * b + 3)) (bx (6 * b + 5)) (su (3 * t)) (su (3 * t + 2)) x := epm_34
          have h2 : pm_45 = jm_p2 (bx (6 * b)) (bx (6 * b + 1)) (bx (6 * b + 2)) (bx (6 * b + 3)) (bx (6 * b + 4)) (bx (6 * b + 5)) (su (3 * t)) (su (3 * t + 1)) (su (3 * t + 2)) x y := by rw [epm_45, h1]; rfl
          unfold jm_b jm_on; rw [← h1, ← h2, if_neg c_43, if_pos c_53]
        · simp only [eG_46, eG_35, eG_27, eG_20, eG_12, eG_5, gs_uu]
      · exact absurd rfl c_54
    · refine lv_iconst (v := 1) hx hb d_Md_throwsOn_208 (by decide) ?_
      refine lv_goto (tgt := 213) hx hb d_Md_throwsOn_209 (by decide) ?_
      refine lv_istore (lv' := [(11, .int 1), (9, .long v_3), (7, .long v_2), (5, .long v_1), (0, .ref mo), (1, .int (nI b)), (2, .int x), (3, .int y), (4, .int (nI t))]) hx hb d_Md_throwsOn_213 hl (by decide) rfl (fun ls hl => ?_)
      refine lv_iload hx hb d_Md_throwsOn_215 (lv_at hl 0 rfl) ?_
      refine lv_if_eq (tgt := 246) hx hb d_Md_throwsOn_217 (by decide) (fun c_55 => ?_) (fun c_55 => ?_)
      · exact absurd c_55 (by decide)
      · refine lv_aload_n hx hb d_Md_throwsOn_220 rfl (lv_at hl 4 rfl) ?_
        refine gs_get E hK.1 hG hc_52 (C := R_Md) (T := F_Md) (N := 14) rfl i_Md 10 (by decide) w_473 (v := .long pm_45.2.1.1) rfl d_Md_throwsOn_221 ?_
        refine lv_aload_n hx hb d_Md_throwsOn_224 rfl (lv_at hl 4 rfl) ?_
        refine gs_get E hK.1 hG hc_52 (C := R_Md) (T := F_Md) (N := 14) rfl i_Md 13 (by decide) w_476 (v := .long pm_45.2.2.2) rfl d_Md_throwsOn_225 ?_
        refine lv_lmul hx hb d_Md_throwsOn_228 ?_
        refine lv_aload_n hx hb d_Md_throwsOn_229 rfl (lv_at hl 4 rfl) ?_
        refine gs_get E hK.1 hG hc_52 (C := R_Md) (T := F_Md) (N := 14) rfl i_Md 12 (by decide) w_475 (v := .long pm_45.2.2.1) rfl d_Md_throwsOn_230 ?_
        refine lv_aload_n hx hb d_Md_throwsOn_233 rfl (lv_at hl 4 rfl) ?_
        refine gs_get E hK.1 hG hc_52 (C := R_Md) (T := F_Md) (N := 14) rfl i_Md 11 (by decide) w_474 (v := .long pm_45.2.1.2) rfl d_Md_throwsOn_234 ?_
        refine lv_lmul hx hb d_Md_throwsOn_237 ?_
        refine W.lcmp hx hb d_Md_throwsOn_238 ?_
        refine lv_if_gt (tgt := 246) hx hb d_Md_throwsOn_239 (by decide) (fun c_56 => ?_) (fun c_56 => ?_)
        · rw [lg_cmp_gt] at c_56
          refine lv_iconst (v := 0) hx hb d_Md_throwsOn_246 (by decide) ?_
          refine W.zret (v := 0) hx hb hr (by decide) (gs_end ⟨?_, pm_45.2.1.1, pm_45.2.1.2, pm_45.2.2.1, pm_45.2.2.2, ?_⟩ hG hS) hS.2.2 d_Md_throwsOn_247
          · subst ev_42 ev_19 ev_4 ev_3 ev_2 ev_1; have h1 : pm_34 = jm_p1 (bx (6 * b)) (bx (6 * b + 2)) (bx (6 * b + 3)) (bx (6 * b + 5)) (su (3 * t)) (su (3 * t + 2)) x := epm_34
            have h2 : pm_45 = jm_p2 (bx (6 * b)) (bx (6 * b + 1)) (bx (6 * b + 2)) (bx (6 * b + 3)) (bx (6 * b + 4)) (bx (6 * b + 5)) (su (3 * t)) (su (3 * t + 1)) (su (3 * t + 2)) x y := by rw [epm_45, h1]; rfl
            unfold jm_b jm_on; rw [← h1, ← h2, if_neg c_43, if_neg c_53, if_pos c_56]
          · simp only [eG_46, eG_35, eG_27, eG_20, eG_12, eG_5, gs_uu]
        · rw [lg_cmp_gt] at c_56
          refine lv_iconst (v := 1) hx hb d_Md_throwsOn_242 (by decide) ?_
          refine lv_goto (tgt := 247) hx hb d_Md_throwsOn_243 (by decide) ?_
          refine W.zret (v := 1) hx hb hr (by decide) (gs_end ⟨?_, pm_45.2.1.1, pm_45.2.1.2, pm_45.2.2.1, pm_45.2.2.2, ?_⟩ hG hS) hS.2.2 d_Md_throwsOn_247
          · subst ev_42 ev_19 ev_4 ev_3 ev_2 ev_1; have h1 : pm_34 = jm_p1 (bx (6 * b)) (bx (6 * b + 2)) (bx (6 * b + 3)) (bx (6 * b + 5)) (su (3 * t)) (su (3 * t + 2)) x := epm_34
            have h2 : pm_45 = jm_p2 (bx (6 * b)) (bx (6 * b + 1)) (bx (6 * b + 2)) (bx (6 * b + 3)) (bx (6 * b + 4)) (bx (6 * b + 5)) (su (3 * t)) (su (3 * t + 1)) (su (3 * t + 2)) x y := by rw [epm_45, h1]; rfl
            unfold jm_b jm_on; rw [← h1, ← h2, if_neg c_43, if_neg c_53, if_neg c_56]
          · simp only [eG_46, eG_35, eG_27, eG_20, eG_12, eG_5, gs_uu]
