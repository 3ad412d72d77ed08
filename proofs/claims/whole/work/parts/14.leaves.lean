/-! contracts of the leaves, by program -/
set_option maxHeartbeats 4000000 in
set_option maxRecDepth 100000 in
theorem k_Bx_isAllowed (l : Launch) (D : va_G) (k : Nat → ClassId) (zb : Nat) (G : Nat → Option va_E) (x0 y0 z0 x1 y1 z1 : Int32) : Met l y_Bx_isAllowed (wM y_Bx_isAllowed c_Bx_isAllowed 6 (some .boolean)) ({ frames := 0, cells := 0, slots := 0, locals := 0 }) (gs_P D k zb G [.int x0, .int y0, .int z0, .int x1, .int y1, .int z1]) (gs_Q D zb (fun v G1 => v = some (.int (jc_allowed x0 y0 z0 x1 y1 z1)) ∧ G1 = G)) 0 0 (fun q : Nat => zb ≤ q) := by
  refine Met.ofW (cc := c_Bx_isAllowed) (maxL := 6) (ret := (some .boolean)) (by decide) rfl ?_
  intro p e s m args below meth c s₁ B hml hv
  obtain ⟨rfl, hG, hK, hX⟩ := hv
  have hx := B.exec
  have hb := B.bytes
  have hr := B.returns
  have hts := atoms_spec (ws := wM y_Bx_isAllowed c_Bx_isAllowed 6 (some .boolean)) B.pre
  have hw : ∀ w9 ∈ wW, w9.before ([.int x0, .int y0, .int z0, .int x1, .int y1, .int z1] : List Value).toArray s = true := fun w9 h9 => hts w9 (gi_in w9 h9)
  have hown : s.vm.findClass R_Bx = some m.cls := findClass_of_methodNamed B.named
  have hlocks := B.notSynchronized
  have E : gs_E p s m ([.int x0, .int y0, .int z0, .int x1, .int y1, .int z1] : List Value).toArray c c_Bx_isAllowed wW R_Bx := ⟨hx, hb, hw, hown⟩
  have hS : gs_S zb s.heap s.heap [] := va_S.rf
  have hl := lv_entry ([.int x0, .int y0, .int z0, .int x1, .int y1, .int z1]) (n := 6) (Nat.le_of_ble_eq_true rfl)
  rw [lg_entry_eq]
  generalize (lg_sl ([.int x0, .int y0, .int z0, .int x1, .int y1, .int z1]) ++ List.replicate (6 - (lg_sl ([.int x0, .int y0, .int z0, .int x1, .int y1, .int z1])).length) Slot.unset).toArray = ls at hl ⊢
  have hl : lv_has ls 6 [(0, .int x0), (1, .int y0), (2, .int z0), (3, .int x1), (4, .int y1), (5, .int z1)] := hl
  refine lv_bipush (v := (-100)) hx hb d_Bx_isAllowed_0 (by decide) ?_
  refine lv_iload_n hx hb d_Bx_isAllowed_2 rfl (lv_at hl 0 rfl) ?_
  refine lv_icmp_gt (tgt := 60) hx hb d_Bx_isAllowed_3 (by decide) (fun c_1 => ?_) (fun c_1 => ?_)
  · refine lv_iconst (v := 0) hx hb d_Bx_isAllowed_60 (by decide) ?_
    refine W.zret (v := 0) hx hb hr (by decide) (gs_end ⟨?_, rfl⟩ hG hS) hS.2.2 d_Bx_isAllowed_61
    simp only [jc_allowed, if_pos c_1]
  · refine lv_iload_n hx hb d_Bx_isAllowed_6 rfl (lv_at hl 0 rfl) ?_
    refine lv_iload_n hx hb d_Bx_isAllowed_7 rfl (lv_at hl 3 rfl) ?_
    refine lv_icmp_ge (tgt := 60) hx hb d_Bx_isAllowed_8 (by decide) (fun c_2 => ?_) (fun c_2 => ?_)
    · refine lv_iconst (v := 0) hx hb d_Bx_isAllowed_60 (by decide) ?_
      refine W.zret (v := 0) hx hb hr (by decide) (gs_end ⟨?_, rfl⟩ hG hS) hS.2.2 d_Bx_isAllowed_61
      simp only [jc_allowed, if_neg c_1, if_pos c_2]
    · refine lv_iload_n hx hb d_Bx_isAllowed_11 rfl (lv_at hl 3 rfl) ?_
      refine lv_sipush (v := 200) hx hb d_Bx_isAllowed_12 (by decide) ?_
      refine lv_icmp_gt (tgt := 60) hx hb d_Bx_isAllowed_15 (by decide) (fun c_3 => ?_) (fun c_3 => ?_)
      · refine lv_iconst (v := 0) hx hb d_Bx_isAllowed_60 (by decide) ?_
        refine W.zret (v := 0) hx hb hr (by decide) (gs_end ⟨?_, rfl⟩ hG hS) hS.2.2 d_Bx_isAllowed_61
        simp only [jc_allowed, if_neg c_1, if_neg c_2, if_pos c_3]
      · refine lv_bipush (v := (-100)) hx hb d_Bx_isAllowed_18 (by decide) ?_
        refine lv_iload_n hx hb d_Bx_isAllowed_20 rfl (lv_at hl 1 rfl) ?_
        refine lv_icmp_gt (tgt := 60) hx hb d_Bx_isAllowed_21 (by decide) (fun c_4 => ?_) (fun c_4 => ?_)
        · refine lv_iconst (v := 0) hx hb d_Bx_isAllowed_60 (by decide) ?_
          refine W.zret (v := 0) hx hb hr (by decide) (gs_end ⟨?_, rfl⟩ hG hS) hS.2.2 d_Bx_isAllowed_61
          simp only [jc_allowed, if_neg c_1, if_neg c_2, if_neg c_3, if_pos c_4]
        · refine lv_iload_n hx hb d_Bx_isAllowed_24 rfl (lv_at hl 1 rfl) ?_
          refine lv_iload hx hb d_Bx_isAllowed_25 (lv_at hl 4 rfl) ?_
          refine lv_icmp_ge (tgt := 60) hx hb d_Bx_isAllowed_27 (by decide) (fun c_5 => ?_) (fun c_5 => ?_)
          · refine lv_iconst (v := 0) hx hb d_Bx_isAllowed_60 (by decide) ?_
            refine W.zret (v := 0) hx hb hr (by decide) (gs_end ⟨?_, rfl⟩ hG hS) hS.2.2 d_Bx_isAllowed_61
            simp only [jc_allowed, if_neg c_1, if_neg c_2, if_neg c_3, if_neg c_4, if_pos c_5]
          · refine lv_iload hx hb d_Bx_isAllowed_30 (lv_at hl 4 rfl) ?_
            refine lv_sipush (v := 200) hx hb d_Bx_isAllowed_32 (by decide) ?_
            refine lv_icmp_gt (tgt := 60) hx hb d_Bx_isAllowed_35 (by decide) (fun c_6 => ?_) (fun c_6 => ?_)
            · refine lv_iconst (v := 0) hx hb d_Bx_isAllowed_60 (by decide) ?_
              refine W.zret (v := 0) hx hb hr (by decide) (gs_end ⟨?_, rfl⟩ hG hS) hS.2.2 d_Bx_isAllowed_61
              simp only [jc_allowed, if_neg c_1, if_neg c_2, if_neg c_3, if_neg c_4, if_neg c_5, if_pos c_6]
            · refine lv_iconst (v := 0) hx hb d_Bx_isAllowed_38 (by decide) ?_
              refine lv_iload_n hx hb d_Bx_isAllowed_39 rfl (lv_at hl 2 rfl) ?_
              refine lv_icmp_gt (tgt := 60) hx hb d_Bx_isAllowed_40 (by decide) (fun c_7 => ?_) (fun c_7 => ?_)
              · refine lv_iconst (v := 0) hx hb d_Bx_isAllowed_60 (by decide) ?_
                refine W.zret (v := 0) hx hb hr (by decide) (gs_end ⟨?_, rfl⟩ hG hS) hS.2.2 d_Bx_isAllowed_61
                simp only [jc_allowed, if_neg c_1, if_neg c_2, if_neg c_3, if_neg c_4, if_neg c_5, if_neg c_6, if_pos c_7]
              · refine lv_iload_n hx hb d_Bx_isAllowed_43 rfl (lv_at hl 2 rfl) ?_
                refine lv_iload hx hb d_Bx_isAllowed_44 (lv_at hl 5 rfl) ?_
                refine lv_icmp_gt (tgt := 60) hx hb d_Bx_isAllowed_46 (by decide) (fun c_8 => ?_) (fun c_8 => ?_)
                · refine lv_iconst (v := 0) hx hb d_Bx_isAllowed_60 (by decide) ?_
                  refine W.zret (v := 0) hx hb hr (by decide) (gs_end ⟨?_, rfl⟩ hG hS) hS.2.2 d_Bx_isAllowed_61
                  simp only [jc_allowed, if_neg c_1, if_neg c_2, if_neg c_3, if_neg c_4, if_neg c_5, if_neg c_6, if_neg c_7, if_pos c_8]
                · refine lv_iload hx hb d_Bx_isAllowed_49 (lv_at hl 5 rfl) ?_
                  refine lv_bipush (v := 100) hx hb d_Bx_isAllowed_51 (by decide) ?_
                  refine lv_icmp_gt (tgt := 60) hx hb d_Bx_isAllowed_53 (by decide) (fun c_9 => ?_) (fun c_9 => ?_)
                  · refine lv_iconst (v := 0) hx hb d_Bx_isAllowed_60 (by decide) ?_
                    refine W.zret (v := 0) hx hb hr (by decide) (gs_end ⟨?_, rfl⟩ hG hS) hS.2.2 d_Bx_isAllowed_61
                    simp only [jc_allowed, if_neg c_1, if_neg c_2, if_neg c_3, if_neg c_4, if_neg c_5, if_neg c_6, if_neg c_7, if_neg c_8, if_pos c_9]
                  · refine lv_iconst (v := 1) hx hb d_Bx_isAllowed_56 (by decide) ?_
                    refine lv_goto (tgt := 61) hx hb d_Bx_isAllowed_57 (by decide) ?_
                    refine W.zret (v := 1) hx hb hr (by decide) (gs_end ⟨?_, rfl⟩ hG hS) hS.2.2 d_Bx_isAllowed_61
                    simp only [jc_allowed, if_neg c_1, if_neg c_2, if_neg c_3, if_neg c_4, if_neg c_5, if_neg c_6, if_neg c_7, if_neg c_8, if_neg c_9]
set_option maxHeartbeats 4000000 in
set_option maxRecDepth 100000 in
theorem k_Hr_hasSun (l : Launch) (D : va_G) (k : Nat → ClassId) (zb : Nat) (G : Nat → Option va_E) (a1 : Nat) (X Y Z am : Int32) (hb1 : G a1 = some (.inr (1, [.int X, .int Y, .int Z, .int am]))) : Met l y_Hr_hasSun (wM y_Hr_hasSun c_Hr_hasSun 1 (some .boolean)) ({ frames := 0, cells := 0, slots := 0, locals := 0 }) (gs_P D k zb G [.ref a1]) (gs_Q D zb (fun v G1 => v = some (.int (jc_hasSun Z)) ∧ G1 = G)) 0 0 (fun q : Nat => zb ≤ q) := by
  refine Met.ofW (cc := c_Hr_hasSun) (maxL := 1) (ret := (some .boolean)) (by decide) rfl ?_
  intro p e s m args below meth c s₁ B hml hv
  obtain ⟨rfl, hG, hK, hX⟩ := hv
  have hx := B.exec
  have hb := B.bytes
  have hr := B.returns
  have hts := atoms_spec (ws := wM y_Hr_hasSun c_Hr_hasSun 1 (some .boolean)) B.pre
  have hw : ∀ w9 ∈ wW, w9.before ([.ref a1] : List Value).toArray s = true := fun w9 h9 => hts w9 (gi_in w9 h9)
  have hown : s.vm.findClass R_Hr = some m.cls := findClass_of_methodNamed B.named
  have hlocks := B.notSynchronized
  have E : gs_E p s m ([.ref a1] : List Value).toArray c c_Hr_hasSun wW R_Hr := ⟨hx, hb, hw, hown⟩
  have hS : gs_S zb s.heap s.heap [] := va_S.rf
  have hl := lv_entry ([.ref a1]) (n := 1) (Nat.le_of_ble_eq_true rfl)
  rw [lg_entry_eq]
  generalize (lg_sl ([.ref a1]) ++ List.replicate (1 - (lg_sl ([.ref a1])).length) Slot.unset).toArray = ls at hl ⊢
  have hl : lv_has ls 1 [(0, .ref a1)] := hl
  refine lv_aload_n hx hb d_Hr_hasSun_0 rfl (lv_at hl 0 rfl) ?_
  refine gs_get E hK.1 hG hb1 (C := R_Hr) (T := F_Hr) (N := 4) rfl i_Hr 2 (by decide) w_44 (v := .int Z) rfl d_Hr_hasSun_1 ?_
  refine lv_if_le (tgt := 11) hx hb d_Hr_hasSun_4 (by decide) (fun c_1 => ?_) (fun c_1 => ?_)
  · refine lv_iconst (v := 0) hx hb d_Hr_hasSun_11 (by decide) ?_
    refine W.zret (v := 0) hx hb hr (by decide) (gs_end ⟨?_, rfl⟩ hG hS) hS.2.2 d_Hr_hasSun_12
    simp only [jc_hasSun, if_pos c_1]
  · refine lv_iconst (v := 1) hx hb d_Hr_hasSun_7 (by decide) ?_
    refine lv_goto (tgt := 12) hx hb d_Hr_hasSun_8 (by decide) ?_
    refine W.zret (v := 1) hx hb hr (by decide) (gs_end ⟨?_, rfl⟩ hG hS) hS.2.2 d_Hr_hasSun_12
    simp only [jc_hasSun, if_neg c_1]
set_option maxHeartbeats 4000000 in
set_option maxRecDepth 100000 in
theorem k_Mt_floorDiv (l : Launch) (D : va_G) (k : Nat → ClassId) (zb : Nat) (G : Nat → Option va_E) (n d : Int32) (hd : ¬ d = 0) : Met l y_Mt_floorDiv (wM y_Mt_floorDiv c_Mt_floorDiv 3 (some .int)) ({ frames := 0, cells := 0, slots := 0, locals := 0 }) (gs_P D k zb G [.int n, .int d]) (gs_Q D zb (fun v G1 => v = some (.int (jc_fdiv n d)) ∧ G1 = G)) 0 0 (fun q : Nat => zb ≤ q) := by
  refine gs_ofWF (cc := c_Mt_floorDiv) (maxL := 3) (ret := (some .int)) (by decide +kernel) rfl ?_
  intro p e s m args below meth c s₁ B hml hv
  obtain ⟨rfl, hG, hK, hX⟩ := hv
  have hx := B.exec
  have hb := B.bytes
  have hr := B.returns
  have hts := atoms_spec (ws := wM y_Mt_floorDiv c_Mt_floorDiv 3 (some .int)) B.pre
  have hw : ∀ w9 ∈ wW, w9.before ([.int n, .int d] : List Value).toArray s = true := fun w9 h9 => hts w9 (gi_in w9 h9)
  have hown : s.vm.findClass R_Mt = some m.cls := findClass_of_methodNamed B.named
  have hlocks := B.notSynchronized
  have E : gs_E p s m ([.int n, .int d] : List Value).toArray c c_Mt_floorDiv wW R_Mt := ⟨hx, hb, hw, hown⟩
  have hS : gs_S zb s.heap s.heap [] := va_S.rf
  have hl := lv_entry ([.int n, .int d]) (n := 3) (Nat.le_of_ble_eq_true rfl)
  rw [lg_entry_eq]
  generalize (lg_sl ([.int n, .int d]) ++ List.replicate (3 - (lg_sl ([.int n, .int d])).length) Slot.unset).toArray = ls at hl ⊢
  have hl : lv_has ls 3 [(0, .int n), (1, .int d)] := hl
  refine lv_iload_n hx hb d_Mt_floorDiv_0 rfl (lv_at hl 0 rfl) ?_
  refine lv_iload_n hx hb d_Mt_floorDiv_1 rfl (lv_at hl 1 rfl) ?_
  refine lv_idiv hx hb d_Mt_floorDiv_2 (hd) ?_
  refine lv_topi (fun v_1 ev_1 => ?_)
  refine lv_istore_n (lv' := [(2, .int v_1), (0, .int n), (1, .int d)]) hx hb d_Mt_floorDiv_3 rfl hl (by decide) rfl (fun ls hl => ?_)
  refine lv_iload_n hx hb d_Mt_floorDiv_4 rfl (lv_at hl 1 rfl) ?_
  refine lv_iload_n hx hb d_Mt_floorDiv_5 rfl (lv_at hl 2 rfl) ?_
  refine lv_ixor hx hb d_Mt_floorDiv_6 ?_
  refine lv_if_ge (tgt := 21) hx hb d_Mt_floorDiv_7 (by decide) (fun c_2 => ?_) (fun c_2 => ?_)
  · refine lv_iload_n hx hb d_Mt_floorDiv_21 rfl (lv_at hl 0 rfl) ?_
    refine W.iret (v := v_1) hx hb hr (gs_end ⟨?_, rfl⟩ hG hS) hS.2.2 d_Mt_floorDiv_22
    subst ev_1
    simp only [jc_fdiv, if_pos c_2]
  · refine lv_iload_n hx hb d_Mt_floorDiv_10 rfl (lv_at hl 0 rfl) ?_
    refine lv_iload_n hx hb d_Mt_floorDiv_11 rfl (lv_at hl 2 rfl) ?_
    refine lv_imul hx hb d_Mt_floorDiv_12 ?_
    refine lv_iload_n hx hb d_Mt_floorDiv_13 rfl (lv_at hl 1 rfl) ?_
    refine lv_icmp_eq (tgt := 21) hx hb d_Mt_floorDiv_14 (by decide) (fun c_3 => ?_) (fun c_3 => ?_)
    · refine lv_iload_n hx hb d_Mt_floorDiv_21 rfl (lv_at hl 0 rfl) ?_
      refine W.iret (v := v_1) hx hb hr (gs_end ⟨?_, rfl⟩ hG hS) hS.2.2 d_Mt_floorDiv_22
      subst ev_1
      simp only [jc_fdiv, if_neg c_2, if_pos c_3]
    · refine lv_iload_n hx hb d_Mt_floorDiv_17 rfl (lv_at hl 0 rfl) ?_
      refine lv_iconst (v := 1) hx hb d_Mt_floorDiv_18 (by decide) ?_
      refine lv_isub hx hb d_Mt_floorDiv_19 ?_
      refine W.iret (v := (v_1 - 1)) hx hb hr (gs_end ⟨?_, rfl⟩ hG hS) hS.2.2 d_Mt_floorDiv_20
      subst ev_1
      simp only [jc_fdiv, if_neg c_2, if_neg c_3]
set_option maxHeartbeats 4000000 in
set_option maxRecDepth 100000 in
theorem k_Bx_floorOver (l : Launch) (D : va_G) (k : Nat → ClassId) (zb : Nat) (G : Nat → Option va_E) (n d : Int32) : Met l y_Bx_floorOver (wM y_Bx_floorOver c_Bx_floorOver 2 (some .int)) ({ frames := 1, cells := 0, slots := 0, locals := 22 }) (gs_P D k zb G [.int n, .int d]) (gs_Q D zb (fun v G1 => v = some (.int (jc_fover n d)) ∧ G1 = G)) 0 0 (fun q : Nat => zb ≤ q) := by
  refine Met.ofW (cc := c_Bx_floorOver) (maxL := 2) (ret := (some .int)) (by decide) rfl ?_
  intro p e s m args below meth c s₁ B hml hv
  obtain ⟨rfl, hG, hK, hX⟩ := hv
  have hx := B.exec
  have hb := B.bytes
  have hr := B.returns
  have hts := atoms_spec (ws := wM y_Bx_floorOver c_Bx_floorOver 2 (some .int)) B.pre
  have hw : ∀ w9 ∈ wW, w9.before ([.int n, .int d] : List Value).toArray s = true := fun w9 h9 => hts w9 (gi_in w9 h9)
  have hown : s.vm.findClass R_Bx = some m.cls := findClass_of_methodNamed B.named
  have hlocks := B.notSynchronized
  have E : gs_E p s m ([.int n, .int d] : List Value).toArray c c_Bx_floorOver wW R_Bx := ⟨hx, hb, hw, hown⟩
  have hS : gs_S zb s.heap s.heap [] := va_S.rf
  have hl := lv_entry ([.int n, .int d]) (n := 2) (Nat.le_of_ble_eq_true rfl)
  rw [lg_entry_eq]
  generalize (lg_sl ([.int n, .int d]) ++ List.replicate (2 - (lg_sl ([.int n, .int d])).length) Slot.unset).toArray = ls at hl ⊢
  have hl : lv_has ls 2 [(0, .int n), (1, .int d)] := hl
  refine lv_iload_n hx hb d_Bx_floorOver_0 rfl (lv_at hl 1 rfl) ?_
  refine lv_if_le (tgt := 12) hx hb d_Bx_floorOver_1 (by decide) (fun c_1 => ?_) (fun c_1 => ?_)
  · refine lv_iconst (v := 0) hx hb d_Bx_floorOver_12 (by decide) ?_
    refine W.iret (v := 0) hx hb hr (gs_end ⟨?_, rfl⟩ hG hS) hS.2.2 d_Bx_floorOver_13
    simp only [jc_fover, if_pos c_1]
  · refine lv_iload_n hx hb d_Bx_floorOver_4 rfl (lv_at hl 0 rfl) ?_
    refine lv_iload_n hx hb d_Bx_floorOver_5 rfl (lv_at hl 1 rfl) ?_
    refine gs_St (As := [.int n, .int d]) (rest := []) (k_Mt_floorDiv l D k zb G n d (fun h => c_1 (by rw [h]; decide))) E hml hl.1 (cg_S hw w_341 w_339 w_2 w_340 hd_Mt_floorDiv ⟨by exact Nat.le_of_ble_eq_true rfl, by exact Nat.le_of_ble_eq_true rfl⟩) hG hK hX hS rfl rfl (by exact Nat.le_of_ble_eq_true rfl) d_Bx_floorOver_6 ⟨by exact Nat.le_of_ble_eq_true rfl, by exact Nat.le_of_ble_eq_true rfl⟩ (fun v G1 H locs hp hG hS => ?_)
    obtain ⟨hv1, hG1⟩ := hp
    subst hv1
    rw [hG1] at hG
    refine W.eq (g2 := F0 m 9 ls [.int (jc_fdiv n d)]) rfl ?_
    refine lv_goto (tgt := 13) hx hb d_Bx_floorOver_9 (by decide) ?_
    refine W.iret (v := (jc_fdiv n d)) hx hb hr (gs_end ⟨?_, rfl⟩ hG hS) hS.2.2 d_Bx_floorOver_13
    simp only [jc_fover, if_neg c_1]
set_option maxHeartbeats 4000000 in
set_option maxRecDepth 100000 in
theorem k_Bx_spansLine (l : Launch) (D : va_G) (k : Nat → ClassId) (zb : Nat) (G : Nat → Option va_E) (a0 : Nat) (x0 y0 z0 x1 y1 z1 pr : Int32) (tm : Int32) (hb0 : G a0 = some (.inr (0, [.int x0, .int y0, .int z0, .int x1, .int y1, .int z1, .int pr]))) : Met l y_Bx_spansLine (wM y_Bx_spansLine c_Bx_spansLine 2 (some .boolean)) ({ frames := 0, cells := 0, slots := 0, locals := 0 }) (gs_P D k zb G [.ref a0, .int tm]) (gs_Q D zb (fun v G1 => v = some (.int (jc_spans y0 y1 tm)) ∧ G1 = G)) 0 0 (fun q : Nat => zb ≤ q) := by
  refine Met.ofW (cc := c_Bx_spansLine) (maxL := 2) (ret := (some .boolean)) (by decide) rfl ?_
  intro p e s m args below meth c s₁ B hml hv
  obtain ⟨rfl, hG, hK, hX⟩ := hv
  have hx := B.exec
  have hb := B.bytes
  have hr := B.returns
  have hts := atoms_spec (ws := wM y_Bx_spansLine c_Bx_spansLine 2 (some .boolean)) B.pre
  have hw : ∀ w9 ∈ wW, w9.before ([.ref a0, .int tm] : List Value).toArray s = true := fun w9 h9 => hts w9 (gi_in w9 h9)
  have hown : s.vm.findClass R_Bx = some m.cls := findClass_of_methodNamed B.named
  have hlocks := B.notSynchronized
  have E : gs_E p s m ([.ref a0, .int tm] : List Value).toArray c c_Bx_spansLine wW R_Bx := ⟨hx, hb, hw, hown⟩
  have hS : gs_S zb s.heap s.heap [] := va_S.rf
  have hl := lv_entry ([.ref a0, .int tm]) (n := 2) (Nat.le_of_ble_eq_true rfl)
  rw [lg_entry_eq]
  generalize (lg_sl ([.ref a0, .int tm]) ++ List.replicate (2 - (lg_sl ([.ref a0, .int tm])).length) Slot.unset).toArray = ls at hl ⊢
  have hl : lv_has ls 2 [(0, .ref a0), (1, .int tm)] := hl
  refine lv_iconst (v := 2) hx hb d_Bx_spansLine_0 (by decide) ?_
  refine lv_aload_n hx hb d_Bx_spansLine_1 rfl (lv_at hl 0 rfl) ?_
  refine gs_get E hK.1 hG hb0 (C := R_Bx) (T := F_Bx) (N := 7) rfl i_Bx 1 (by decide) w_192 (v := .int y0) rfl d_Bx_spansLine_2 ?_
  refine lv_imul hx hb d_Bx_spansLine_5 ?_
  refine lv_iload_n hx hb d_Bx_spansLine_6 rfl (lv_at hl 1 rfl) ?_
  refine lv_icmp_gt (tgt := 24) hx hb d_Bx_spansLine_7 (by decide) (fun c_1 => ?_) (fun c_1 => ?_)
  · refine lv_iconst (v := 0) hx hb d_Bx_spansLine_24 (by decide) ?_
    refine W.zret (v := 0) hx hb hr (by decide) (gs_end ⟨?_, rfl⟩ hG hS) hS.2.2 d_Bx_spansLine_25
    simp only [jc_spans, if_pos c_1]
  · refine lv_iload_n hx hb d_Bx_spansLine_10 rfl (lv_at hl 1 rfl) ?_
    refine lv_iconst (v := 2) hx hb d_Bx_spansLine_11 (by decide) ?_
    refine lv_aload_n hx hb d_Bx_spansLine_12 rfl (lv_at hl 0 rfl) ?_
    refine gs_get E hK.1 hG hb0 (C := R_Bx) (T := F_Bx) (N := 7) rfl i_Bx 4 (by decide) w_195 (v := .int y1) rfl d_Bx_spansLine_13 ?_
    refine lv_imul hx hb d_Bx_spansLine_16 ?_
    refine lv_icmp_gt (tgt := 24) hx hb d_Bx_spansLine_17 (by decide) (fun c_2 => ?_) (fun c_2 => ?_)
    · refine lv_iconst (v := 0) hx hb d_Bx_spansLine_24 (by decide) ?_
      refine W.zret (v := 0) hx hb hr (by decide) (gs_end ⟨?_, rfl⟩ hG hS) hS.2.2 d_Bx_spansLine_25
      simp only [jc_spans, if_neg c_1, if_pos c_2]
    · refine lv_iconst (v := 1) hx hb d_Bx_spansLine_20 (by decide) ?_
      refine lv_goto (tgt := 25) hx hb d_Bx_spansLine_21 (by decide) ?_
      refine W.zret (v := 1) hx hb hr (by decide) (gs_end ⟨?_, rfl⟩ hG hS) hS.2.2 d_Bx_spansLine_25
      simp only [jc_spans, if_neg c_1, if_neg c_2]
set_option maxHeartbeats 4000000 in
set_option maxRecDepth 100000 in
theorem k_Bx_nearest (l : Launch) (D : va_G) (k : Nat → ClassId) (zb : Nat) (G : Nat → Option va_E) (a0 : Nat) (x0 y0 z0 x1 y1 z1 pr : Int32) (a1 : Nat) (X Y Z am : Int32) (tm sc : Int32) (hb0 : G a0 = some (.inr (0, [.int x0, .int y0, .int z0, .int x1, .int y1, .int z1, .int pr]))) (hb1 : G a1 = some (.inr (1, [.int X, .int Y, .int Z, .int am]))) : Met l y_Bx_nearest (wM y_Bx_nearest c_Bx_nearest 5 (some .int)) ({ frames := 1, cells := 0, slots := 0, locals := 21 }) (gs_P D k zb G [.ref a0, .int tm, .ref a1, .int sc]) (gs_Q D zb (fun v G1 => v = some (.int (jc_near y0 z0 y1 Y Z tm sc)) ∧ G1 = G)) 0 0 (fun q : Nat => zb ≤ q) := by
  refine Met.ofW (cc := c_Bx_nearest) (maxL := 5) (ret := (some .int)) (by decide) rfl ?_
  intro p e s m args below meth c s₁ B hml hv
  obtain ⟨rfl, hG, hK, hX⟩ := hv
  have hx := B.exec
  have hb := B.bytes
  have hr := B.returns
  have hts := atoms_spec (ws := wM y_Bx_nearest c_Bx_nearest 5 (some .int)) B.pre
  have hw : ∀ w9 ∈ wW, w9.before ([.ref a0, .int tm, .ref a1, .int sc] : List Value).toArray s = true := fun w9 h9 => hts w9 (gi_in w9 h9)
  have hown : s.vm.findClass R_Bx = some m.cls := findClass_of_methodNamed B.named
  have hlocks := B.notSynchronized
  have E : gs_E p s m ([.ref a0, .int tm, .ref a1, .int sc] : List Value).toArray c c_Bx_nearest wW R_Bx := ⟨hx, hb, hw, hown⟩
  have hS : gs_S zb s.heap s.heap [] := va_S.rf
  have hl := lv_entry ([.ref a0, .int tm, .ref a1, .int sc]) (n := 5) (Nat.le_of_ble_eq_true rfl)
  rw [lg_entry_eq]
  generalize (lg_sl ([.ref a0, .int tm, .ref a1, .int sc]) ++ List.replicate (5 - (lg_sl ([.ref a0, .int tm, .ref a1, .int sc])).length) Slot.unset).toArray = ls at hl ⊢
  have hl : lv_has ls 5 [(0, .ref a0), (1, .int tm), (2, .ref a1), (3, .int sc)] := hl
  refine lv_aload_n hx hb d_Bx_nearest_0 rfl (lv_at hl 0 rfl) ?_
  refine gs_get E hK.1 hG hb0 (C := R_Bx) (T := F_Bx) (N := 7) rfl i_Bx 2 (by decide) w_193 (v := .int z0) rfl d_Bx_nearest_1 ?_
  refine lv_iload_n hx hb d_Bx_nearest_4 rfl (lv_at hl 3 rfl) ?_
  refine lv_imul hx hb d_Bx_nearest_5 ?_
  refine lv_topi (fun v_1 ev_1 => ?_)
  refine lv_istore (lv' := [(4, .int v_1), (0, .ref a0), (1, .int tm), (2, .ref a1), (3, .int sc)]) hx hb d_Bx_nearest_6 hl (by decide) rfl (fun ls hl => ?_)
  refine lv_aload_n hx hb d_Bx_nearest_8 rfl (lv_at hl 3 rfl) ?_
  refine gs_get E hK.1 hG hb1 (C := R_Hr) (T := F_Hr) (N := 4) rfl i_Hr 1 (by decide) w_42 (v := .int Y) rfl d_Bx_nearest_9 ?_
  refine lv_if_le (tgt := 38) hx hb d_Bx_nearest_12 (by decide) (fun c_2 => ?_) (fun c_2 => ?_)
  · refine lv_aload_n hx hb d_Bx_nearest_38 rfl (lv_at hl 3 rfl) ?_
    refine gs_get E hK.1 hG hb1 (C := R_Hr) (T := F_Hr) (N := 4) rfl i_Hr 1 (by decide) w_42 (v := .int Y) rfl d_Bx_nearest_39 ?_
    refine lv_if_ge (tgt := 65) hx hb d_Bx_nearest_42 (by decide) (fun c_3 => ?_) (fun c_3 => ?_)
    · refine lv_iload hx hb d_Bx_nearest_65 (lv_at hl 0 rfl) ?_
      refine W.iret (v := v_1) hx hb hr (gs_end ⟨?_, rfl⟩ hG hS) hS.2.2 d_Bx_nearest_67
      subst ev_1
      simp only [jc_near, if_pos c_2, if_pos c_3]
    · refine lv_iload hx hb d_Bx_nearest_45 (lv_at hl 0 rfl) ?_
      refine lv_iconst (v := 2) hx hb d_Bx_nearest_47 (by decide) ?_
      refine lv_aload_n hx hb d_Bx_nearest_48 rfl (lv_at hl 1 rfl) ?_
      refine gs_get E hK.1 hG hb0 (C := R_Bx) (T := F_Bx) (N := 7) rfl i_Bx 1 (by decide) w_192 (v := .int y0) rfl d_Bx_nearest_49 ?_
      refine lv_imul hx hb d_Bx_nearest_52 ?_
      refine lv_iload_n hx hb d_Bx_nearest_53 rfl (lv_at hl 2 rfl) ?_
      refine lv_isub hx hb d_Bx_nearest_54 ?_
      refine lv_aload_n hx hb d_Bx_nearest_55 rfl (lv_at hl 3 rfl) ?_
      refine gs_get E hK.1 hG hb1 (C := R_Hr) (T := F_Hr) (N := 4) rfl i_Hr 2 (by decide) w_45 (v := .int Z) rfl d_Bx_nearest_56 ?_
      refine lv_imul hx hb d_Bx_nearest_59 ?_
      refine va_mmax hx hb (hml.trans hl.1.symm) hown (hw _ w_330) (hw _ w_31) (hw _ w_2) (hw _ w_32) (by exact Nat.le_of_ble_eq_true rfl) (by exact Nat.le_of_ble_eq_true rfl) (by exact Nat.zero_le _) (by exact Nat.zero_le _) d_Bx_nearest_60 ?_
      refine W.eq (g2 := F0 m 63 ls [.int (jc_max v_1 (((2 * y0) - tm) * Z))]) rfl ?_
      refine lv_topi (fun v_4 ev_4 => ?_)
      refine lv_istore (lv' := [(4, .int v_4), (0, .ref a0), (1, .int tm), (2, .ref a1), (3, .int sc)]) hx hb d_Bx_nearest_63 hl (by decide) rfl (fun ls hl => ?_)
      refine lv_iload hx hb d_Bx_nearest_65 (lv_at hl 0 rfl) ?_
      refine W.iret (v := v_4) hx hb hr (gs_end ⟨?_, rfl⟩ hG hS) hS.2.2 d_Bx_nearest_67
      subst ev_4
      subst ev_1
      simp only [jc_near, if_pos c_2, if_neg c_3]
  · refine lv_iload hx hb d_Bx_nearest_15 (lv_at hl 0 rfl) ?_
    refine lv_iload_n hx hb d_Bx_nearest_17 rfl (lv_at hl 2 rfl) ?_
    refine lv_iconst (v := 2) hx hb d_Bx_nearest_18 (by decide) ?_
    refine lv_aload_n hx hb d_Bx_nearest_19 rfl (lv_at hl 1 rfl) ?_
    refine gs_get E hK.1 hG hb0 (C := R_Bx) (T := F_Bx) (N := 7) rfl i_Bx 4 (by decide) w_195 (v := .int y1) rfl d_Bx_nearest_20 ?_
    refine lv_imul hx hb d_Bx_nearest_23 ?_
    refine lv_isub hx hb d_Bx_nearest_24 ?_
    refine lv_aload_n hx hb d_Bx_nearest_25 rfl (lv_at hl 3 rfl) ?_
    refine gs_get E hK.1 hG hb1 (C := R_Hr) (T := F_Hr) (N := 4) rfl i_Hr 2 (by decide) w_45 (v := .int Z) rfl d_Bx_nearest_26 ?_
    refine lv_imul hx hb d_Bx_nearest_29 ?_
    refine va_mmax hx hb (hml.trans hl.1.symm) hown (hw _ w_330) (hw _ w_31) (hw _ w_2) (hw _ w_32) (by exact Nat.le_of_ble_eq_true rfl) (by exact Nat.le_of_ble_eq_true rfl) (by exact Nat.zero_le _) (by exact Nat.zero_le _) d_Bx_nearest_30 ?_
    refine W.eq (g2 := F0 m 33 ls [.int (jc_max v_1 ((tm - (2 * y1)) * Z))]) rfl ?_
    refine lv_topi (fun v_5 ev_5 => ?_)
    refine lv_istore (lv' := [(4, .int v_5), (0, .ref a0), (1, .int tm), (2, .ref a1), (3, .int sc)]) hx hb d_Bx_nearest_33 hl (by decide) rfl (fun ls hl => ?_)
    refine lv_goto (tgt := 65) hx hb d_Bx_nearest_35 (by decide) ?_
    refine lv_iload hx hb d_Bx_nearest_65 (lv_at hl 0 rfl) ?_
    refine W.iret (v := v_5) hx hb hr (gs_end ⟨?_, rfl⟩ hG hS) hS.2.2 d_Bx_nearest_67
    subst ev_5
    subst ev_1
    simp only [jc_near, if_neg c_2]
set_option maxHeartbeats 4000000 in
set_option maxRecDepth 100000 in
theorem k_Bx_farthest (l : Launch) (D : va_G) (k : Nat → ClassId) (zb : Nat) (G : Nat → Option va_E) (a0 : Nat) (x0 y0 z0 x1 y1 z1 pr : Int32) (a1 : Nat) (X Y Z am : Int32) (tm sc : Int32) (hb0 : G a0 = some (.inr (0, [.int x0, .int y0, .int z0, .int x1, .int y1, .int z1, .int pr]))) (hb1 : G a1 = some (.inr (1, [.int X, .int Y, .int Z, .int am]))) : Met l y_Bx_farthest (wM y_Bx_farthest c_Bx_farthest 5 (some .int)) ({ frames := 1, cells := 0, slots := 0, locals := 21 }) (gs_P D k zb G [.ref a0, .int tm, .ref a1, .int sc]) (gs_Q D zb (fun v G1 => v = some (.int (jc_far y0 y1 z1 Y Z tm sc)) ∧ G1 = G)) 0 0 (fun q : Nat => zb ≤ q) := by
  refine Met.ofW (cc := c_Bx_farthest) (maxL := 5) (ret := (some .int)) (by decide) rfl ?_
  intro p e s m args below meth c s₁ B hml hv
  obtain ⟨rfl, hG, hK, hX⟩ := hv
  have hx := B.exec
  have hb := B.bytes
  have hr := B.returns
  have hts := atoms_spec (ws := wM y_Bx_farthest c_Bx_farthest 5 (some .int)) B.pre
  have hw : ∀ w9 ∈ wW, w9.before ([.ref a0, .int tm, .ref a1, .int sc] : List Value).toArray s = true := fun w9 h9 => hts w9 (gi_in w9 h9)
  have hown : s.vm.findClass R_Bx = some m.cls := findClass_of_methodNamed B.named
  have hlocks := B.notSynchronized
  have E : gs_E p s m ([.ref a0, .int tm, .ref a1, .int sc] : List Value).toArray c c_Bx_farthest wW R_Bx := ⟨hx, hb, hw, hown⟩
  have hS : gs_S zb s.heap s.heap [] := va_S.rf
  have hl := lv_entry ([.ref a0, .int tm, .ref a1, .int sc]) (n := 5) (Nat.le_of_ble_eq_true rfl)
  rw [lg_entry_eq]
  generalize (lg_sl ([.ref a0, .int tm, .ref a1, .int sc]) ++ List.replicate (5 - (lg_sl ([.ref a0, .int tm, .ref a1, .int sc])).length) Slot.unset).toArray = ls at hl ⊢
  have hl : lv_has ls 5 [(0, .ref a0), (1, .int tm), (2, .ref a1), (3, .int sc)] := hl
  refine lv_aload_n hx hb d_Bx_farthest_0 rfl (lv_at hl 0 rfl) ?_
  refine gs_get E hK.1 hG hb0 (C := R_Bx) (T := F_Bx) (N := 7) rfl i_Bx 5 (by decide) w_196 (v := .int z1) rfl d_Bx_farthest_1 ?_
  refine lv_iload_n hx hb d_Bx_farthest_4 rfl (lv_at hl 3 rfl) ?_
  refine lv_imul hx hb d_Bx_farthest_5 ?_
  refine lv_topi (fun v_1 ev_1 => ?_)
  refine lv_istore (lv' := [(4, .int v_1), (0, .ref a0), (1, .int tm), (2, .ref a1), (3, .int sc)]) hx hb d_Bx_farthest_6 hl (by decide) rfl (fun ls hl => ?_)
  refine lv_aload_n hx hb d_Bx_farthest_8 rfl (lv_at hl 3 rfl) ?_
  refine gs_get E hK.1 hG hb1 (C := R_Hr) (T := F_Hr) (N := 4) rfl i_Hr 1 (by decide) w_42 (v := .int Y) rfl d_Bx_farthest_9 ?_
  refine lv_if_le (tgt := 38) hx hb d_Bx_farthest_12 (by decide) (fun c_2 => ?_) (fun c_2 => ?_)
  · refine lv_aload_n hx hb d_Bx_farthest_38 rfl (lv_at hl 3 rfl) ?_
    refine gs_get E hK.1 hG hb1 (C := R_Hr) (T := F_Hr) (N := 4) rfl i_Hr 1 (by decide) w_42 (v := .int Y) rfl d_Bx_farthest_39 ?_
    refine lv_if_ge (tgt := 65) hx hb d_Bx_farthest_42 (by decide) (fun c_3 => ?_) (fun c_3 => ?_)
    · refine lv_iload hx hb d_Bx_farthest_65 (lv_at hl 0 rfl) ?_
      refine W.iret (v := v_1) hx hb hr (gs_end ⟨?_, rfl⟩ hG hS) hS.2.2 d_Bx_farthest_67
      subst ev_1
      simp only [jc_far, if_pos c_2, if_pos c_3]
    · refine lv_iload hx hb d_Bx_farthest_45 (lv_at hl 0 rfl) ?_
      refine lv_iconst (v := 2) hx hb d_Bx_farthest_47 (by decide) ?_
      refine lv_aload_n hx hb d_Bx_farthest_48 rfl (lv_at hl 1 rfl) ?_
      refine gs_get E hK.1 hG hb0 (C := R_Bx) (T := F_Bx) (N := 7) rfl i_Bx 4 (by decide) w_195 (v := .int y1) rfl d_Bx_farthest_49 ?_
      refine lv_imul hx hb d_Bx_farthest_52 ?_
      refine lv_iload_n hx hb d_Bx_farthest_53 rfl (lv_at hl 2 rfl) ?_
      refine lv_isub hx hb d_Bx_farthest_54 ?_
      refine lv_aload_n hx hb d_Bx_farthest_55 rfl (lv_at hl 3 rfl) ?_
      refine gs_get E hK.1 hG hb1 (C := R_Hr) (T := F_Hr) (N := 4) rfl i_Hr 2 (by decide) w_45 (v := .int Z) rfl d_Bx_farthest_56 ?_
      refine lv_imul hx hb d_Bx_farthest_59 ?_
      refine va_mmin hx hb (hml.trans hl.1.symm) hown (hw _ w_335) (hw _ w_28) (hw _ w_2) (hw _ w_29) (by exact Nat.le_of_ble_eq_true rfl) (by exact Nat.le_of_ble_eq_true rfl) (by exact Nat.zero_le _) (by exact Nat.zero_le _) d_Bx_farthest_60 ?_
      refine W.eq (g2 := F0 m 63 ls [.int (jc_min v_1 (((2 * y1) - tm) * Z))]) rfl ?_
      refine lv_topi (fun v_4 ev_4 => ?_)
      refine lv_istore (lv' := [(4, .int v_4), (0, .ref a0), (1, .int tm), (2, .ref a1), (3, .int sc)]) hx hb d_Bx_farthest_63 hl (by decide) rfl (fun ls hl => ?_)
      refine lv_iload hx hb d_Bx_farthest_65 (lv_at hl 0 rfl) ?_
      refine W.iret (v := v_4) hx hb hr (gs_end ⟨?_, rfl⟩ hG hS) hS.2.2 d_Bx_farthest_67
      subst ev_4
      subst ev_1
      simp only [jc_far, if_pos c_2, if_neg c_3]
  · refine lv_iload hx hb d_Bx_farthest_15 (lv_at hl 0 rfl) ?_
    refine lv_iload_n hx hb d_Bx_farthest_17 rfl (lv_at hl 2 rfl) ?_
    refine lv_iconst (v := 2) hx hb d_Bx_farthest_18 (by decide) ?_
    refine lv_aload_n hx hb d_Bx_farthest_19 rfl (lv_at hl 1 rfl) ?_
    refine gs_get E hK.1 hG hb0 (C := R_Bx) (T := F_Bx) (N := 7) rfl i_Bx 1 (by decide) w_192 (v := .int y0) rfl d_Bx_farthest_20 ?_
    refine lv_imul hx hb d_Bx_farthest_23 ?_
    refine lv_isub hx hb d_Bx_farthest_24 ?_
    refine lv_aload_n hx hb d_Bx_farthest_25 rfl (lv_at hl 3 rfl) ?_
    refine gs_get E hK.1 hG hb1 (C := R_Hr) (T := F_Hr) (N := 4) rfl i_Hr 2 (by decide) w_45 (v := .int Z) rfl d_Bx_farthest_26 ?_
    refine lv_imul hx hb d_Bx_farthest_29 ?_
    refine va_mmin hx hb (hml.trans hl.1.symm) hown (hw _ w_335) (hw _ w_28) (hw _ w_2) (hw _ w_29) (by exact Nat.le_of_ble_eq_true rfl) (by exact Nat.le_of_ble_eq_true rfl) (by exact Nat.zero_le _) (by exact Nat.zero_le _) d_Bx_farthest_30 ?_
    refine W.eq (g2 := F0 m 33 ls [.int (jc_min v_1 ((tm - (2 * y0)) * Z))]) rfl ?_
    refine lv_topi (fun v_5 ev_5 => ?_)
    refine lv_istore (lv' := [(4, .int v_5), (0, .ref a0), (1, .int tm), (2, .ref a1), (3, .int sc)]) hx hb d_Bx_farthest_33 hl (by decide) rfl (fun ls hl => ?_)
    refine lv_goto (tgt := 65) hx hb d_Bx_farthest_35 (by decide) ?_
    refine lv_iload hx hb d_Bx_farthest_65 (lv_at hl 0 rfl) ?_
    refine W.iret (v := v_5) hx hb hr (gs_end ⟨?_, rfl⟩ hG hS) hS.2.2 d_Bx_farthest_67
    subst ev_5
    subst ev_1
    simp only [jc_far, if_neg c_2]
set_option maxHeartbeats 4000000 in
set_option maxRecDepth 100000 in
theorem k_Ss_cellsBetween (l : Launch) (D : va_G) (k : Nat → ClassId) (zb : Nat) (G : Nat → Option va_E) (f t : Int32) : Met l y_Ss_cellsBetween (wM y_Ss_cellsBetween c_Ss_cellsBetween 2 (some .long)) ({ frames := 0, cells := 0, slots := 0, locals := 0 }) (gs_P D k zb G [.int f, .int t]) (gs_Q D zb (fun v G1 => v = some (.long (jc_cells f t)) ∧ G1 = G)) 0 0 (fun q : Nat => zb ≤ q) := by
  refine Met.ofW (cc := c_Ss_cellsBetween) (maxL := 2) (ret := (some .long)) (by decide) rfl ?_
  intro p e s m args below meth c s₁ B hml hv
  obtain ⟨rfl, hG, hK, hX⟩ := hv
  have hx := B.exec
  have hb := B.bytes
  have hr := B.returns
  have hts := atoms_spec (ws := wM y_Ss_cellsBetween c_Ss_cellsBetween 2 (some .long)) B.pre
  have hw : ∀ w9 ∈ wW, w9.before ([.int f, .int t] : List Value).toArray s = true := fun w9 h9 => hts w9 (gi_in w9 h9)
  have hown : s.vm.findClass R_Ss = some m.cls := findClass_of_methodNamed B.named
  have hlocks := B.notSynchronized
  have E : gs_E p s m ([.int f, .int t] : List Value).toArray c c_Ss_cellsBetween wW R_Ss := ⟨hx, hb, hw, hown⟩
  have hS : gs_S zb s.heap s.heap [] := va_S.rf
  have hl := lv_entry ([.int f, .int t]) (n := 2) (Nat.le_of_ble_eq_true rfl)
  rw [lg_entry_eq]
  generalize (lg_sl ([.int f, .int t]) ++ List.replicate (2 - (lg_sl ([.int f, .int t])).length) Slot.unset).toArray = ls at hl ⊢
  have hl : lv_has ls 2 [(0, .int f), (1, .int t)] := hl
  refine lv_iload_n hx hb d_Ss_cellsBetween_0 rfl (lv_at hl 0 rfl) ?_
  refine lv_iload_n hx hb d_Ss_cellsBetween_1 rfl (lv_at hl 1 rfl) ?_
  refine lv_icmp_le (tgt := 7) hx hb d_Ss_cellsBetween_2 (by decide) (fun c_1 => ?_) (fun c_1 => ?_)
  · refine lv_lconst (v := 1) hx hb d_Ss_cellsBetween_7 (by decide) ?_
    refine lv_iload_n hx hb d_Ss_cellsBetween_8 rfl (lv_at hl 1 rfl) ?_
    refine lv_iload_n hx hb d_Ss_cellsBetween_9 rfl (lv_at hl 0 rfl) ?_
    refine lv_isub hx hb d_Ss_cellsBetween_10 ?_
    refine lv_iconst (v := 1) hx hb d_Ss_cellsBetween_11 (by decide) ?_
    refine lv_iadd hx hb d_Ss_cellsBetween_12 ?_
    refine lv_lshl hx hb d_Ss_cellsBetween_13 rfl ?_
    refine lv_lconst (v := 1) hx hb d_Ss_cellsBetween_14 (by decide) ?_
    refine lv_lsub hx hb d_Ss_cellsBetween_15 ?_
    refine lv_iload_n hx hb d_Ss_cellsBetween_16 rfl (lv_at hl 0 rfl) ?_
    refine lv_lshl hx hb d_Ss_cellsBetween_17 rfl ?_
    refine W.lret (v := (((1 <<< (((t - f) + 1).toInt64 &&& 63)) - 1) <<< (f.toInt64 &&& 63))) hx hb hr (gs_end ⟨?_, rfl⟩ hG hS) hS.2.2 d_Ss_cellsBetween_18
    simp only [jc_cells, if_pos c_1]
  · refine lv_lconst (v := 0) hx hb d_Ss_cellsBetween_5 (by decide) ?_
    refine W.lret (v := 0) hx hb hr (gs_end ⟨?_, rfl⟩ hG hS) hS.2.2 d_Ss_cellsBetween_6
    simp only [jc_cells, if_neg c_1]
set_option maxHeartbeats 4000000 in
set_option maxRecDepth 100000 in
theorem k_Ss_isWithin (l : Launch) (D : va_G) (k : Nat → ClassId) (zb : Nat) (G : Nat → Option va_E) (n a b : Int32) : Met l y_Ss_isWithin (wM y_Ss_isWithin c_Ss_isWithin 3 (some .boolean)) ({ frames := 0, cells := 0, slots := 0, locals := 0 }) (gs_P D k zb G [.int n, .int a, .int b]) (gs_Q D zb (fun v G1 => v = some (.int (jc_within n a b)) ∧ G1 = G)) 0 0 (fun q : Nat => zb ≤ q) := by
  refine Met.ofW (cc := c_Ss_isWithin) (maxL := 3) (ret := (some .boolean)) (by decide) rfl ?_
  intro p e s m args below meth c s₁ B hml hv
  obtain ⟨rfl, hG, hK, hX⟩ := hv
  have hx := B.exec
  have hb := B.bytes
  have hr := B.returns
  have hts := atoms_spec (ws := wM y_Ss_isWithin c_Ss_isWithin 3 (some .boolean)) B.pre
  have hw : ∀ w9 ∈ wW, w9.before ([.int n, .int a, .int b] : List Value).toArray s = true := fun w9 h9 => hts w9 (gi_in w9 h9)
  have hown : s.vm.findClass R_Ss = some m.cls := findClass_of_methodNamed B.named
  have hlocks := B.notSynchronized
  have E : gs_E p s m ([.int n, .int a, .int b] : List Value).toArray c c_Ss_isWithin wW R_Ss := ⟨hx, hb, hw, hown⟩
  have hS : gs_S zb s.heap s.heap [] := va_S.rf
  have hl := lv_entry ([.int n, .int a, .int b]) (n := 3) (Nat.le_of_ble_eq_true rfl)
  rw [lg_entry_eq]
  generalize (lg_sl ([.int n, .int a, .int b]) ++ List.replicate (3 - (lg_sl ([.int n, .int a, .int b])).length) Slot.unset).toArray = ls at hl ⊢
  have hl : lv_has ls 3 [(0, .int n), (1, .int a), (2, .int b)] := hl
  refine lv_iload_n hx hb d_Ss_isWithin_0 rfl (lv_at hl 0 rfl) ?_
  refine lv_iload_n hx hb d_Ss_isWithin_1 rfl (lv_at hl 1 rfl) ?_
  refine lv_icmp_lt (tgt := 14) hx hb d_Ss_isWithin_2 (by decide) (fun c_1 => ?_) (fun c_1 => ?_)
  · refine lv_iconst (v := 0) hx hb d_Ss_isWithin_14 (by decide) ?_
    refine W.zret (v := 0) hx hb hr (by decide) (gs_end ⟨?_, rfl⟩ hG hS) hS.2.2 d_Ss_isWithin_15
    simp only [jc_within, if_pos c_1]
  · refine lv_iload_n hx hb d_Ss_isWithin_5 rfl (lv_at hl 0 rfl) ?_
    refine lv_iload_n hx hb d_Ss_isWithin_6 rfl (lv_at hl 2 rfl) ?_
    refine lv_icmp_gt (tgt := 14) hx hb d_Ss_isWithin_7 (by decide) (fun c_2 => ?_) (fun c_2 => ?_)
    · refine lv_iconst (v := 0) hx hb d_Ss_isWithin_14 (by decide) ?_
      refine W.zret (v := 0) hx hb hr (by decide) (gs_end ⟨?_, rfl⟩ hG hS) hS.2.2 d_Ss_isWithin_15
      simp only [jc_within, if_neg c_1, if_pos c_2]
    · refine lv_iconst (v := 1) hx hb d_Ss_isWithin_10 (by decide) ?_
      refine lv_goto (tgt := 15) hx hb d_Ss_isWithin_11 (by decide) ?_
      refine W.zret (v := 1) hx hb hr (by decide) (gs_end ⟨?_, rfl⟩ hG hS) hS.2.2 d_Ss_isWithin_15
      simp only [jc_within, if_neg c_1, if_neg c_2]
set_option maxHeartbeats 4000000 in
set_option maxRecDepth 100000 in
theorem k_Ss_hasCell (l : Launch) (D : va_G) (k : Nat → ClassId) (zb : Nat) (G : Nat → Option va_E) (cs : Int64) (x : Int32) : Met l y_Ss_hasCell (wM y_Ss_hasCell c_Ss_hasCell 3 (some .boolean)) ({ frames := 0, cells := 0, slots := 0, locals := 0 }) (gs_P D k zb G [.long cs, .int x]) (gs_Q D zb (fun v G1 => v = some (.int (jc_hasCell cs x)) ∧ G1 = G)) 0 0 (fun q : Nat => zb ≤ q) := by
  refine Met.ofW (cc := c_Ss_hasCell) (maxL := 3) (ret := (some .boolean)) (by decide) rfl ?_
  intro p e s m args below meth c s₁ B hml hv
  obtain ⟨rfl, hG, hK, hX⟩ := hv
  have hx := B.exec
  have hb := B.bytes
  have hr := B.returns
  have hts := atoms_spec (ws := wM y_Ss_hasCell c_Ss_hasCell 3 (some .boolean)) B.pre
  have hw : ∀ w9 ∈ wW, w9.before ([.long cs, .int x] : List Value).toArray s = true := fun w9 h9 => hts w9 (gi_in w9 h9)
  have hown : s.vm.findClass R_Ss = some m.cls := findClass_of_methodNamed B.named
  have hlocks := B.notSynchronized
  have E : gs_E p s m ([.long cs, .int x] : List Value).toArray c c_Ss_hasCell wW R_Ss := ⟨hx, hb, hw, hown⟩
  have hS : gs_S zb s.heap s.heap [] := va_S.rf
  have hl := lv_entry ([.long cs, .int x]) (n := 3) (Nat.le_of_ble_eq_true rfl)
  rw [lg_entry_eq]
  generalize (lg_sl ([.long cs, .int x]) ++ List.replicate (3 - (lg_sl ([.long cs, .int x])).length) Slot.unset).toArray = ls at hl ⊢
  have hl : lv_has ls 3 [(0, .long cs), (2, .int x)] := hl
  refine lv_lload_n hx hb d_Ss_hasCell_0 rfl (lv_at hl 0 rfl) ?_
  refine lv_iload_n hx hb d_Ss_hasCell_1 rfl (lv_at hl 1 rfl) ?_
  refine lv_lushr hx hb d_Ss_hasCell_2 rfl ?_
  refine lv_lconst (v := 1) hx hb d_Ss_hasCell_3 (by decide) ?_
  refine lv_land hx hb d_Ss_hasCell_4 ?_
  refine lv_lconst (v := 0) hx hb d_Ss_hasCell_5 (by decide) ?_
  refine W.lcmp hx hb d_Ss_hasCell_6 ?_
  refine lv_if_eq (tgt := 14) hx hb d_Ss_hasCell_7 (by decide) (fun c_1 => ?_) (fun c_1 => ?_)
  · rw [lg_cmp_eq] at c_1
    refine lv_iconst (v := 0) hx hb d_Ss_hasCell_14 (by decide) ?_
    refine W.zret (v := 0) hx hb hr (by decide) (gs_end ⟨?_, rfl⟩ hG hS) hS.2.2 d_Ss_hasCell_15
    simp only [jc_hasCell, lg_cmp_eq, if_pos c_1]
  · rw [lg_cmp_eq] at c_1
    refine lv_iconst (v := 1) hx hb d_Ss_hasCell_10 (by decide) ?_
    refine lv_goto (tgt := 15) hx hb d_Ss_hasCell_11 (by decide) ?_
    refine W.zret (v := 1) hx hb hr (by decide) (gs_end ⟨?_, rfl⟩ hG hS) hS.2.2 d_Ss_hasCell_15
    simp only [jc_hasCell, lg_cmp_eq, if_neg c_1]
set_option maxHeartbeats 4000000 in
set_option maxRecDepth 100000 in
theorem k_Lo_bitCount (l : Launch) (D : va_G) (k : Nat → ClassId) (zb : Nat) (G : Nat → Option va_E) (i : Int64) : Met l y_Lo_bitCount (wM y_Lo_bitCount c_Lo_bitCount 2 (some .int)) ({ frames := 0, cells := 0, slots := 0, locals := 0 }) (gs_P D k zb G [.long i]) (gs_Q D zb (fun v G1 => v = some (.int (jc_bits i)) ∧ G1 = G)) 0 0 (fun q : Nat => zb ≤ q) := by
  refine Met.ofW (cc := c_Lo_bitCount) (maxL := 2) (ret := (some .int)) (by decide) rfl ?_
  intro p e s m args below meth c s₁ B hml hv
  obtain ⟨rfl, hG, hK, hX⟩ := hv
  have hx := B.exec
  have hb := B.bytes
  have hr := B.returns
  have hts := atoms_spec (ws := wM y_Lo_bitCount c_Lo_bitCount 2 (some .int)) B.pre
  have hw : ∀ w9 ∈ wW, w9.before ([.long i] : List Value).toArray s = true := fun w9 h9 => hts w9 (gi_in w9 h9)
  have hown : s.vm.findClass R_Lo = some m.cls := findClass_of_methodNamed B.named
  have hlocks := B.notSynchronized
  have E : gs_E p s m ([.long i] : List Value).toArray c c_Lo_bitCount wW R_Lo := ⟨hx, hb, hw, hown⟩
  have hS : gs_S zb s.heap s.heap [] := va_S.rf
  have hl := lv_entry ([.long i]) (n := 2) (Nat.le_of_ble_eq_true rfl)
  rw [lg_entry_eq]
  generalize (lg_sl ([.long i]) ++ List.replicate (2 - (lg_sl ([.long i])).length) Slot.unset).toArray = ls at hl ⊢
  have hl : lv_has ls 2 [(0, .long i)] := hl
  refine lv_lload_n hx hb d_Lo_bitCount_0 rfl (lv_at hl 0 rfl) ?_
  refine lv_lload_n hx hb d_Lo_bitCount_1 rfl (lv_at hl 0 rfl) ?_
  refine lv_iconst (v := 1) hx hb d_Lo_bitCount_2 (by decide) ?_
  refine lv_lushr hx hb d_Lo_bitCount_3 rfl ?_
  refine lv_ldc2 hx hb hown (v := 6148914691236517205) (hw _ w_358) d_Lo_bitCount_4 ?_
  refine lv_land hx hb d_Lo_bitCount_7 ?_
  refine lv_lsub hx hb d_Lo_bitCount_8 ?_
  refine lv_topl (fun v_1 ev_1 => ?_)
  refine lv_lstore_n (lv' := [(0, .long v_1)]) hx hb d_Lo_bitCount_9 rfl hl (by decide) rfl (fun ls hl => ?_)
  refine lv_lload_n hx hb d_Lo_bitCount_10 rfl (lv_at hl 0 rfl) ?_
  refine lv_ldc2 hx hb hown (v := 3689348814741910323) (hw _ w_359) d_Lo_bitCount_11 ?_
  refine lv_land hx hb d_Lo_bitCount_14 ?_
  refine lv_lload_n hx hb d_Lo_bitCount_15 rfl (lv_at hl 0 rfl) ?_
  refine lv_iconst (v := 2) hx hb d_Lo_bitCount_16 (by decide) ?_
  refine lv_lushr hx hb d_Lo_bitCount_17 rfl ?_
  refine lv_ldc2 hx hb hown (v := 3689348814741910323) (hw _ w_359) d_Lo_bitCount_18 ?_
  refine lv_land hx hb d_Lo_bitCount_21 ?_
  refine lv_ladd hx hb d_Lo_bitCount_22 ?_
  refine lv_topl (fun v_2 ev_2 => ?_)
  refine lv_lstore_n (lv' := [(0, .long v_2)]) hx hb d_Lo_bitCount_23 rfl hl (by decide) rfl (fun ls hl => ?_)
  refine lv_lload_n hx hb d_Lo_bitCount_24 rfl (lv_at hl 0 rfl) ?_
  refine lv_lload_n hx hb d_Lo_bitCount_25 rfl (lv_at hl 0 rfl) ?_
  refine lv_iconst (v := 4) hx hb d_Lo_bitCount_26 (by decide) ?_
  refine lv_lushr hx hb d_Lo_bitCount_27 rfl ?_
  refine lv_ladd hx hb d_Lo_bitCount_28 ?_
  refine lv_ldc2 hx hb hown (v := 1085102592571150095) (hw _ w_360) d_Lo_bitCount_29 ?_
  refine lv_land hx hb d_Lo_bitCount_32 ?_
  refine lv_topl (fun v_3 ev_3 => ?_)
  refine lv_lstore_n (lv' := [(0, .long v_3)]) hx hb d_Lo_bitCount_33 rfl hl (by decide) rfl (fun ls hl => ?_)
  refine lv_lload_n hx hb d_Lo_bitCount_34 rfl (lv_at hl 0 rfl) ?_
  refine lv_lload_n hx hb d_Lo_bitCount_35 rfl (lv_at hl 0 rfl) ?_
  refine lv_bipush (v := 8) hx hb d_Lo_bitCount_36 (by decide) ?_
  refine lv_lushr hx hb d_Lo_bitCount_38 rfl ?_
  refine lv_ladd hx hb d_Lo_bitCount_39 ?_
  refine lv_topl (fun v_4 ev_4 => ?_)
  refine lv_lstore_n (lv' := [(0, .long v_4)]) hx hb d_Lo_bitCount_40 rfl hl (by decide) rfl (fun ls hl => ?_)
  refine lv_lload_n hx hb d_Lo_bitCount_41 rfl (lv_at hl 0 rfl) ?_
  refine lv_lload_n hx hb d_Lo_bitCount_42 rfl (lv_at hl 0 rfl) ?_
  refine lv_bipush (v := 16) hx hb d_Lo_bitCount_43 (by decide) ?_
  refine lv_lushr hx hb d_Lo_bitCount_45 rfl ?_
  refine lv_ladd hx hb d_Lo_bitCount_46 ?_
  refine lv_topl (fun v_5 ev_5 => ?_)
  refine lv_lstore_n (lv' := [(0, .long v_5)]) hx hb d_Lo_bitCount_47 rfl hl (by decide) rfl (fun ls hl => ?_)
  refine lv_lload_n hx hb d_Lo_bitCount_48 rfl (lv_at hl 0 rfl) ?_
  refine lv_lload_n hx hb d_Lo_bitCount_49 rfl (lv_at hl 0 rfl) ?_
  refine lv_bipush (v := 32) hx hb d_Lo_bitCount_50 (by decide) ?_
  refine lv_lushr hx hb d_Lo_bitCount_52 rfl ?_
  refine lv_ladd hx hb d_Lo_bitCount_53 ?_
  refine lv_topl (fun v_6 ev_6 => ?_)
  refine lv_lstore_n (lv' := [(0, .long v_6)]) hx hb d_Lo_bitCount_54 rfl hl (by decide) rfl (fun ls hl => ?_)
  refine lv_lload_n hx hb d_Lo_bitCount_55 rfl (lv_at hl 0 rfl) ?_
  refine lv_l2i hx hb d_Lo_bitCount_56 rfl ?_
  refine lv_bipush (v := 127) hx hb d_Lo_bitCount_57 (by decide) ?_
  refine lv_iand hx hb d_Lo_bitCount_59 ?_
  refine W.iret (v := (v_6.toInt32 &&& 127)) hx hb hr (gs_end ⟨?_, rfl⟩ hG hS) hS.2.2 d_Lo_bitCount_60
  subst ev_6
  subst ev_5
  subst ev_4
  subst ev_3
  subst ev_2
  subst ev_1
  simp only [jc_bits, jc_b1, jc_b2, jc_b3, jc_b4, jc_b5, jc_b6, jc_ush]
set_option maxHeartbeats 4000000 in
set_option maxRecDepth 100000 in
theorem k_Bx_shadeThrownOnRow (l : Launch) (D : va_G) (k : Nat → ClassId) (zb : Nat) (G : Nat → Option va_E) (a0 : Nat) (x0 y0 z0 x1 y1 z1 pr : Int32) (a1 : Nat) (X Y Z am : Int32) (y w : Int32) (hb0 : G a0 = some (.inr (0, [.int x0, .int y0, .int z0, .int x1, .int y1, .int z1, .int pr]))) (hb1 : G a1 = some (.inr (1, [.int X, .int Y, .int Z, .int am]))) : Met l y_Bx_shadeThrownOnRow (wM y_Bx_shadeThrownOnRow c_Bx_shadeThrownOnRow 13 (some .long)) ({ frames := 2, cells := 0, slots := 0, locals := 45 }) (gs_P D k zb G [.ref a0, .int y, .ref a1, .int w]) (gs_Q D zb (fun v G1 => v = some (.long (jc_shade pr x0 y0 z0 x1 y1 z1 X Y Z y w)) ∧ G1 = G)) 0 0 (fun q : Nat => zb ≤ q) := by
  refine Met.ofW (cc := c_Bx_shadeThrownOnRow) (maxL := 13) (ret := (some .long)) (by decide) rfl ?_
  intro p e s m args below meth c s₁ B hml hv
  obtain ⟨rfl, hG, hK, hX⟩ := hv
  have hx := B.exec
  have hb := B.bytes
  have hr := B.returns
  have hts := atoms_spec (ws := wM y_Bx_shadeThrownOnRow c_Bx_shadeThrownOnRow 13 (some .long)) B.pre
  have hw : ∀ w9 ∈ wW, w9.before ([.ref a0, .int y, .ref a1, .int w] : List Value).toArray s = true := fun w9 h9 => hts w9 (gi_in w9 h9)
  have hown : s.vm.findClass R_Bx = some m.cls := findClass_of_methodNamed B.named
  have hlocks := B.notSynchronized
  have E : gs_E p s m ([.ref a0, .int y, .ref a1, .int w] : List Value).toArray c c_Bx_shadeThrownOnRow wW R_Bx := ⟨hx, hb, hw, hown⟩
  have hS : gs_S zb s.heap s.heap [] := va_S.rf
  have hl := lv_entry ([.ref a0, .int y, .ref a1, .int w]) (n := 13) (Nat.le_of_ble_eq_true rfl)
  rw [lg_entry_eq]
  generalize (lg_sl ([.ref a0, .int y, .ref a1, .int w]) ++ List.replicate (13 - (lg_sl ([.ref a0, .int y, .ref a1, .int w])).length) Slot.unset).toArray = ls at hl ⊢
  have hl : lv_has ls 13 [(0, .ref a0), (1, .int y), (2, .ref a1), (3, .int w)] := hl
  refine lv_iconst (v := 2) hx hb d_Bx_shadeThrownOnRow_0 (by decide) ?_
  refine lv_iload_n hx hb d_Bx_shadeThrownOnRow_1 rfl (lv_at hl 1 rfl) ?_
  refine lv_imul hx hb d_Bx_shadeThrownOnRow_2 ?_
  refine lv_iconst (v := 1) hx hb d_Bx_shadeThrownOnRow_3 (by decide) ?_
  refine lv_iadd hx hb d_Bx_shadeThrownOnRow_4 ?_
  refine lv_topi (fun v_1 ev_1 => ?_)
  refine lv_istore (lv' := [(4, .int v_1), (0, .ref a0), (1, .int y), (2, .ref a1), (3, .int w)]) hx hb d_Bx_shadeThrownOnRow_5 hl (by decide) rfl (fun ls hl => ?_)
  refine lv_aload_n hx hb d_Bx_shadeThrownOnRow_7 rfl (lv_at hl 1 rfl) ?_
  refine gs_get E hK.1 hG hb0 (C := R_Bx) (T := F_Bx) (N := 7) rfl i_Bx 6 (by decide) w_198 (v := .int pr) rfl d_Bx_shadeThrownOnRow_8 ?_
  refine lv_if_eq (tgt := 37) hx hb d_Bx_shadeThrownOnRow_11 (by decide) (fun c_2 => ?_) (fun c_2 => ?_)
  · refine lv_lconst (v := 0) hx hb d_Bx_shadeThrownOnRow_37 (by decide) ?_
    refine W.lret (v := 0) hx hb hr (gs_end ⟨?_, rfl⟩ hG hS) hS.2.2 d_Bx_shadeThrownOnRow_38
    subst ev_1
    simp only [jc_shade, jc_go, jc_body, jc_scale, jc_first, jc_last, if_pos c_2]
  · refine lv_aload_n hx hb d_Bx_shadeThrownOnRow_14 rfl (lv_at hl 3 rfl) ?_
    refine gs_V (As := []) (rest := []) (k_Hr_hasSun l D k zb G a1 X Y Z am hb1) E hml hl.1 (cg_V (C := R_Hr) hw w_308 w_318 w_3 w_306 sel_Hr_hasSun hd_Hr_hasSun ⟨by exact Nat.le_of_ble_eq_true rfl, by exact Nat.le_of_ble_eq_true rfl⟩) hG hK hX hS hb1 rfl rfl rfl rfl (by exact Nat.le_of_ble_eq_true rfl) d_Bx_shadeThrownOnRow_15 ⟨by exact Nat.le_of_ble_eq_true rfl, by exact Nat.le_of_ble_eq_true rfl⟩ (fun v G1 H locs hp hG hS => ?_)
    obtain ⟨hv1, hG1⟩ := hp
    subst hv1
    rw [hG1] at hG
    refine W.eq (g2 := F0 m 18 ls [.int (jc_hasSun Z)]) rfl ?_
    refine lv_if_eq (tgt := 37) hx hb d_Bx_shadeThrownOnRow_18 (by decide) (fun c_3 => ?_) (fun c_3 => ?_)
    · refine lv_lconst (v := 0) hx hb d_Bx_shadeThrownOnRow_37 (by decide) ?_
      refine W.lret (v := 0) hx hb hr (gs_end ⟨?_, rfl⟩ hG hS) hS.2.2 d_Bx_shadeThrownOnRow_38
      subst ev_1
      simp only [jc_shade, jc_go, jc_body, jc_scale, jc_first, jc_last, if_neg c_2, if_pos c_3]
    · refine lv_aload_n hx hb d_Bx_shadeThrownOnRow_21 rfl (lv_at hl 3 rfl) ?_
      refine gs_get E hK.1 hG hb1 (C := R_Hr) (T := F_Hr) (N := 4) rfl i_Hr 1 (by decide) w_42 (v := .int Y) rfl d_Bx_shadeThrownOnRow_22 ?_
      refine lv_if_ne (tgt := 39) hx hb d_Bx_shadeThrownOnRow_25 (by decide) (fun c_4 => ?_) (fun c_4 => ?_)
      · refine lv_aload_n hx hb d_Bx_shadeThrownOnRow_39 rfl (lv_at hl 3 rfl) ?_
        refine gs_get E hK.1 hG hb1 (C := R_Hr) (T := F_Hr) (N := 4) rfl i_Hr 1 (by decide) w_42 (v := .int Y) rfl d_Bx_shadeThrownOnRow_40 ?_
        refine lv_if_ne (tgt := 50) hx hb d_Bx_shadeThrownOnRow_43 (by decide) (fun c_5 => ?_) (fun c_5 => ?_)
        · refine lv_iconst (v := 2) hx hb d_Bx_shadeThrownOnRow_50 (by decide) ?_
          refine lv_aload_n hx hb d_Bx_shadeThrownOnRow_51 rfl (lv_at hl 3 rfl) ?_
          refine gs_get E hK.1 hG hb1 (C := R_Hr) (T := F_Hr) (N := 4) rfl i_Hr 1 (by decide) w_42 (v := .int Y) rfl d_Bx_shadeThrownOnRow_52 ?_
          refine va_mabs hx hb (hml.trans hl.1.symm) hown (hw _ w_323) (hw _ w_324) (hw _ w_2) (hw _ w_325) (by exact Nat.le_of_ble_eq_true rfl) (by exact Nat.le_of_ble_eq_true rfl) (by exact Nat.zero_le _) (by exact Nat.zero_le _) d_Bx_shadeThrownOnRow_55 ?_
          refine W.eq (g2 := F0 m 58 ls [.int (jc_abs Y), .int 2]) rfl ?_
          refine lv_imul hx hb d_Bx_shadeThrownOnRow_58 ?_
          refine lv_topi (fun v_6 ev_6 => ?_)
          refine lv_istore (lv' := [(5, .int v_6), (4, .int v_1), (0, .ref a0), (1, .int y), (2, .ref a1), (3, .int w)]) hx hb d_Bx_shadeThrownOnRow_59 hl (by decide) rfl (fun ls hl => ?_)
          refine lv_aload_n hx hb d_Bx_shadeThrownOnRow_61 rfl (lv_at hl 2 rfl) ?_
          refine lv_iload hx hb d_Bx_shadeThrownOnRow_62 (lv_at hl 1 rfl) ?_
          refine lv_aload_n hx hb d_Bx_shadeThrownOnRow_64 rfl (lv_at hl 4 rfl) ?_
          refine lv_iload hx hb d_Bx_shadeThrownOnRow_65 (lv_at hl 0 rfl) ?_
          refine gs_V (As := [.int v_1, .ref a1, .int v_6]) (rest := []) (k_Bx_nearest l D k zb G a0 x0 y0 z0 x1 y1 z1 pr a1 X Y Z am v_1 v_6 hb0 hb1) E hml hl.1 (cg_V (C := R_Bx) hw w_329 w_326 w_5 w_328 sel_Bx_nearest hd_Bx_nearest ⟨by exact Nat.le_of_ble_eq_true rfl, by exact Nat.le_of_ble_eq_true rfl⟩) hG hK hX hS hb0 rfl rfl rfl rfl (by exact Nat.le_of_ble_eq_true rfl) d_Bx_shadeThrownOnRow_67 ⟨by exact Nat.le_of_ble_eq_true rfl, by exact Nat.le_of_ble_eq_true rfl⟩ (fun v G1 H locs hp hG hS => ?_)
          obtain ⟨hv1, hG1⟩ := hp
          subst hv1
          rw [hG1] at hG
          refine W.eq (g2 := F0 m 70 ls [.int (jc_near y0 z0 y1 Y Z v_1 v_6)]) rfl ?_
          refine lv_topi (fun v_7 ev_7 => ?_)
          refine lv_istore (lv' := [(6, .int v_7), (5, .int v_6), (4, .int v_1), (0, .ref a0), (1, .int y), (2, .ref a1), (3, .int w)]) hx hb d_Bx_shadeThrownOnRow_70 hl (by decide) rfl (fun ls hl => ?_)
          refine lv_aload_n hx hb d_Bx_shadeThrownOnRow_72 rfl (lv_at hl 3 rfl) ?_
          refine lv_iload hx hb d_Bx_shadeThrownOnRow_73 (lv_at hl 2 rfl) ?_
          refine lv_aload_n hx hb d_Bx_shadeThrownOnRow_75 rfl (lv_at hl 5 rfl) ?_
          refine lv_iload hx hb d_Bx_shadeThrownOnRow_76 (lv_at hl 1 rfl) ?_
          refine gs_V (As := [.int v_1, .ref a1, .int v_6]) (rest := []) (k_Bx_farthest l D k zb G a0 x0 y0 z0 x1 y1 z1 pr a1 X Y Z am v_1 v_6 hb0 hb1) E hml hl.1 (cg_V (C := R_Bx) hw w_334 w_331 w_5 w_333 sel_Bx_farthest hd_Bx_farthest ⟨by exact Nat.le_of_ble_eq_true rfl, by exact Nat.le_of_ble_eq_true rfl⟩) hG hK hX hS hb0 rfl rfl rfl rfl (by exact Nat.le_of_ble_eq_true rfl) d_Bx_shadeThrownOnRow_78 ⟨by exact Nat.le_of_ble_eq_true rfl, by exact Nat.le_of_ble_eq_true rfl⟩ (fun v G1 H locs hp hG hS => ?_)
          obtain ⟨hv1, hG1⟩ := hp
          subst hv1
          rw [hG1] at hG
          refine W.eq (g2 := F0 m 81 ls [.int (jc_far y0 y1 z1 Y Z v_1 v_6)]) rfl ?_
          refine lv_topi (fun v_8 ev_8 => ?_)
          refine lv_istore (lv' := [(7, .int v_8), (6, .int v_7), (5, .int v_6), (4, .int v_1), (0, .ref a0), (1, .int y), (2, .ref a1), (3, .int w)]) hx hb d_Bx_shadeThrownOnRow_81 hl (by decide) rfl (fun ls hl => ?_)
          refine lv_iload hx hb d_Bx_shadeThrownOnRow_83 (lv_at hl 1 rfl) ?_
          refine lv_iload hx hb d_Bx_shadeThrownOnRow_85 (lv_at hl 0 rfl) ?_
          refine lv_icmp_le (tgt := 92) hx hb d_Bx_shadeThrownOnRow_87 (by decide) (fun c_9 => ?_) (fun c_9 => ?_)
          · refine lv_iload hx hb d_Bx_shadeThrownOnRow_92 (lv_at hl 2 rfl) ?_
            refine lv_aload_n hx hb d_Bx_shadeThrownOnRow_94 rfl (lv_at hl 6 rfl) ?_
            refine gs_get E hK.1 hG hb1 (C := R_Hr) (T := F_Hr) (N := 4) rfl i_Hr 2 (by decide) w_45 (v := .int Z) rfl d_Bx_shadeThrownOnRow_95 ?_
            refine lv_imul hx hb d_Bx_shadeThrownOnRow_98 ?_
            refine lv_topi (fun v_10 ev_10 => ?_)
            refine lv_istore (lv' := [(8, .int v_10), (7, .int v_8), (6, .int v_7), (5, .int v_6), (4, .int v_1), (0, .ref a0), (1, .int y), (2, .ref a1), (3, .int w)]) hx hb d_Bx_shadeThrownOnRow_99 hl (by decide) rfl (fun ls hl => ?_)
            refine lv_iload hx hb d_Bx_shadeThrownOnRow_101 (lv_at hl 2 rfl) ?_
            refine lv_aload_n hx hb d_Bx_shadeThrownOnRow_103 rfl (lv_at hl 7 rfl) ?_
            refine gs_get E hK.1 hG hb1 (C := R_Hr) (T := F_Hr) (N := 4) rfl i_Hr 0 (by decide) w_39 (v := .int X) rfl d_Bx_shadeThrownOnRow_104 ?_
            refine lv_imul hx hb d_Bx_shadeThrownOnRow_107 ?_
            refine lv_iload hx hb d_Bx_shadeThrownOnRow_108 (lv_at hl 1 rfl) ?_
            refine lv_aload_n hx hb d_Bx_shadeThrownOnRow_110 rfl (lv_at hl 7 rfl) ?_
            refine gs_get E hK.1 hG hb1 (C := R_Hr) (T := F_Hr) (N := 4) rfl i_Hr 0 (by decide) w_39 (v := .int X) rfl d_Bx_shadeThrownOnRow_111 ?_
            refine lv_imul hx hb d_Bx_shadeThrownOnRow_114 ?_
            refine va_mmin hx hb (hml.trans hl.1.symm) hown (hw _ w_335) (hw _ w_28) (hw _ w_2) (hw _ w_29) (by exact Nat.le_of_ble_eq_true rfl) (by exact Nat.le_of_ble_eq_true rfl) (by exact Nat.zero_le _) (by exact Nat.zero_le _) d_Bx_shadeThrownOnRow_115 ?_
            refine W.eq (g2 := F0 m 118 ls [.int (jc_min (v_7 * X) (v_8 * X))]) rfl ?_
            refine lv_topi (fun v_11 ev_11 => ?_)
            refine lv_istore (lv' := [(9, .int v_11), (8, .int v_10), (7, .int v_8), (6, .int v_7), (5, .int v_6), (4, .int v_1), (0, .ref a0), (1, .int y), (2, .ref a1), (3, .int w)]) hx hb d_Bx_shadeThrownOnRow_118 hl (by decide) rfl (fun ls hl => ?_)
            refine lv_iload hx hb d_Bx_shadeThrownOnRow_120 (lv_at hl 3 rfl) ?_
            refine lv_aload_n hx hb d_Bx_shadeThrownOnRow_122 rfl (lv_at hl 8 rfl) ?_
            refine gs_get E hK.1 hG hb1 (C := R_Hr) (T := F_Hr) (N := 4) rfl i_Hr 0 (by decide) w_39 (v := .int X) rfl d_Bx_shadeThrownOnRow_123 ?_
            refine lv_imul hx hb d_Bx_shadeThrownOnRow_126 ?_
            refine lv_iload hx hb d_Bx_shadeThrownOnRow_127 (lv_at hl 2 rfl) ?_
            refine lv_aload_n hx hb d_Bx_shadeThrownOnRow_129 rfl (lv_at hl 8 rfl) ?_
            refine gs_get E hK.1 hG hb1 (C := R_Hr) (T := F_Hr) (N := 4) rfl i_Hr 0 (by decide) w_39 (v := .int X) rfl d_Bx_shadeThrownOnRow_130 ?_
            refine lv_imul hx hb d_Bx_shadeThrownOnRow_133 ?_
            refine va_mmax hx hb (hml.trans hl.1.symm) hown (hw _ w_330) (hw _ w_31) (hw _ w_2) (hw _ w_32) (by exact Nat.le_of_ble_eq_true rfl) (by exact Nat.le_of_ble_eq_true rfl) (by exact Nat.zero_le _) (by exact Nat.zero_le _) d_Bx_shadeThrownOnRow_134 ?_
            refine W.eq (g2 := F0 m 137 ls [.int (jc_max (v_7 * X) (v_8 * X))]) rfl ?_
            refine lv_topi (fun v_12 ev_12 => ?_)
            refine lv_istore (lv' := [(10, .int v_12), (9, .int v_11), (8, .int v_10), (7, .int v_8), (6, .int v_7), (5, .int v_6), (4, .int v_1), (0, .ref a0), (1, .int y), (2, .ref a1), (3, .int w)]) hx hb d_Bx_shadeThrownOnRow_137 hl (by decide) rfl (fun ls hl => ?_)
            refine lv_iload hx hb d_Bx_shadeThrownOnRow_139 (lv_at hl 2 rfl) ?_
            refine lv_iconst (v := 2) hx hb d_Bx_shadeThrownOnRow_141 (by decide) ?_
            refine lv_aload_n hx hb d_Bx_shadeThrownOnRow_142 rfl (lv_at hl 7 rfl) ?_
            refine gs_get E hK.1 hG hb0 (C := R_Bx) (T := F_Bx) (N := 7) rfl i_Bx 0 (by decide) w_191 (v := .int x0) rfl d_Bx_shadeThrownOnRow_143 ?_
            refine lv_iload hx hb d_Bx_shadeThrownOnRow_146 (lv_at hl 2 rfl) ?_
            refine lv_imul hx hb d_Bx_shadeThrownOnRow_148 ?_
            refine lv_iload hx hb d_Bx_shadeThrownOnRow_149 (lv_at hl 1 rfl) ?_
            refine lv_iadd hx hb d_Bx_shadeThrownOnRow_151 ?_
            refine lv_imul hx hb d_Bx_shadeThrownOnRow_152 ?_
            refine lv_isub hx hb d_Bx_shadeThrownOnRow_153 ?_
            refine lv_iconst (v := 2) hx hb d_Bx_shadeThrownOnRow_154 (by decide) ?_
            refine lv_iload hx hb d_Bx_shadeThrownOnRow_155 (lv_at hl 2 rfl) ?_
            refine lv_imul hx hb d_Bx_shadeThrownOnRow_157 ?_
            refine gs_St (As := [.int (v_10 - (2 * ((x0 * v_10) + v_11))), .int (2 * v_10)]) (rest := []) (k_Bx_floorOver l D k zb G (v_10 - (2 * ((x0 * v_10) + v_11))) (2 * v_10)) E hml hl.1 (cg_S hw w_338 w_336 w_5 w_337 hd_Bx_floorOver ⟨by exact Nat.le_of_ble_eq_true rfl, by exact Nat.le_of_ble_eq_true rfl⟩) hG hK hX hS rfl rfl (by exact Nat.le_of_ble_eq_true rfl) d_Bx_shadeThrownOnRow_158 ⟨by exact Nat.le_of_ble_eq_true rfl, by exact Nat.le_of_ble_eq_true rfl⟩ (fun v G1 H locs hp hG hS => ?_)
            obtain ⟨hv1, hG1⟩ := hp
            subst hv1
            rw [hG1] at hG
            refine W.eq (g2 := F0 m 161 ls [.int (jc_fover (v_10 - (2 * ((x0 * v_10) + v_11))) (2 * v_10))]) rfl ?_
            refine lv_ineg hx hb d_Bx_shadeThrownOnRow_161 ?_
            refine lv_topi (fun v_13 ev_13 => ?_)
            refine lv_istore (lv' := [(11, .int v_13), (10, .int v_12), (9, .int v_11), (8, .int v_10), (7, .int v_8), (6, .int v_7), (5, .int v_6), (4, .int v_1), (0, .ref a0), (1, .int y), (2, .ref a1), (3, .int w)]) hx hb d_Bx_shadeThrownOnRow_162 hl (by decide) rfl (fun ls hl => ?_)
            refine lv_iconst (v := 2) hx hb d_Bx_shadeThrownOnRow_164 (by decide) ?_
            refine lv_aload_n hx hb d_Bx_shadeThrownOnRow_165 rfl (lv_at hl 8 rfl) ?_
            refine gs_get E hK.1 hG hb0 (C := R_Bx) (T := F_Bx) (N := 7) rfl i_Bx 3 (by decide) w_194 (v := .int x1) rfl d_Bx_shadeThrownOnRow_166 ?_
            refine lv_iload hx hb d_Bx_shadeThrownOnRow_169 (lv_at hl 3 rfl) ?_
            refine lv_imul hx hb d_Bx_shadeThrownOnRow_171 ?_
            refine lv_iload hx hb d_Bx_shadeThrownOnRow_172 (lv_at hl 1 rfl) ?_
            refine lv_iadd hx hb d_Bx_shadeThrownOnRow_174 ?_
            refine lv_imul hx hb d_Bx_shadeThrownOnRow_175 ?_
            refine lv_iload hx hb d_Bx_shadeThrownOnRow_176 (lv_at hl 3 rfl) ?_
            refine lv_isub hx hb d_Bx_shadeThrownOnRow_178 ?_
            refine lv_iconst (v := 2) hx hb d_Bx_shadeThrownOnRow_179 (by decide) ?_
            refine lv_iload hx hb d_Bx_shadeThrownOnRow_180 (lv_at hl 3 rfl) ?_
            refine lv_imul hx hb d_Bx_shadeThrownOnRow_182 ?_
            refine gs_St (As := [.int ((2 * ((x1 * v_10) + v_12)) - v_10), .int (2 * v_10)]) (rest := []) (k_Bx_floorOver l D k zb G ((2 * ((x1 * v_10) + v_12)) - v_10) (2 * v_10)) E hml hl.1 (cg_S hw w_338 w_336 w_5 w_337 hd_Bx_floorOver ⟨by exact Nat.le_of_ble_eq_true rfl, by exact Nat.le_of_ble_eq_true rfl⟩) hG hK hX hS rfl rfl (by exact Nat.le_of_ble_eq_true rfl) d_Bx_shadeThrownOnRow_183 ⟨by exact Nat.le_of_ble_eq_true rfl, by exact Nat.le_of_ble_eq_true rfl⟩ (fun v G1 H locs hp hG hS => ?_)
            obtain ⟨hv1, hG1⟩ := hp
            subst hv1
            rw [hG1] at hG
            refine W.eq (g2 := F0 m 186 ls [.int (jc_fover ((2 * ((x1 * v_10) + v_12)) - v_10) (2 * v_10))]) rfl ?_
            refine lv_topi (fun v_14 ev_14 => ?_)
            refine lv_istore (lv' := [(12, .int v_14), (11, .int v_13), (10, .int v_12), (9, .int v_11), (8, .int v_10), (7, .int v_8), (6, .int v_7), (5, .int v_6), (4, .int v_1), (0, .ref a0), (1, .int y), (2, .ref a1), (3, .int w)]) hx hb d_Bx_shadeThrownOnRow_186 hl (by decide) rfl (fun ls hl => ?_)
            refine lv_iload hx hb d_Bx_shadeThrownOnRow_188 (lv_at hl 1 rfl) ?_
            refine lv_iconst (v := 0) hx hb d_Bx_shadeThrownOnRow_190 (by decide) ?_
            refine va_mmax hx hb (hml.trans hl.1.symm) hown (hw _ w_330) (hw _ w_31) (hw _ w_2) (hw _ w_32) (by exact Nat.le_of_ble_eq_true rfl) (by exact Nat.le_of_ble_eq_true rfl) (by exact Nat.zero_le _) (by exact Nat.zero_le _) d_Bx_shadeThrownOnRow_191 ?_
            refine W.eq (g2 := F0 m 194 ls [.int (jc_max v_13 0)]) rfl ?_
            refine lv_iload hx hb d_Bx_shadeThrownOnRow_194 (lv_at hl 0 rfl) ?_
            refine lv_iload_n hx hb d_Bx_shadeThrownOnRow_196 rfl (lv_at hl 12 rfl) ?_
            refine lv_iconst (v := 1) hx hb d_Bx_shadeThrownOnRow_197 (by decide) ?_
            refine lv_isub hx hb d_Bx_shadeThrownOnRow_198 ?_
            refine va_mmin hx hb (hml.trans hl.1.symm) hown (hw _ w_335) (hw _ w_28) (hw _ w_2) (hw _ w_29) (by exact Nat.le_of_ble_eq_true rfl) (by exact Nat.le_of_ble_eq_true rfl) (by exact Nat.zero_le _) (by exact Nat.zero_le _) d_Bx_shadeThrownOnRow_199 ?_
            refine W.eq (g2 := F0 m 202 ls [.int (jc_min v_14 (w - 1)), .int (jc_max v_13 0)]) rfl ?_
            refine gs_SN (As := [.int (jc_max v_13 0), .int (jc_min v_14 (w - 1))]) (rest := []) (k_Ss_cellsBetween l D k zb G (jc_max v_13 0) (jc_min v_14 (w - 1))) E hml hl.1 (cg_N hw w_344 hK.2.1.2.1 w_1 hd_Ss_cellsBetween ⟨by exact Nat.le_of_ble_eq_true rfl, by exact Nat.le_of_ble_eq_true rfl⟩) w_343 hG hK hX hS rfl rfl (by exact Nat.le_of_ble_eq_true rfl) d_Bx_shadeThrownOnRow_202 ⟨by exact Nat.le_of_ble_eq_true rfl, by exact Nat.le_of_ble_eq_true rfl⟩ (fun v G1 H locs hp hG hS => ?_)
            obtain ⟨hv1, hG1⟩ := hp
            subst hv1
            rw [hG1] at hG
            refine W.eq (g2 := F0 m 205 ls [.long (jc_cells (jc_max v_13 0) (jc_min v_14 (w - 1)))]) rfl ?_
            refine W.lret (v := (jc_cells (jc_max v_13 0) (jc_min v_14 (w - 1)))) hx hb hr (gs_end ⟨?_, rfl⟩ hG hS) hS.2.2 d_Bx_shadeThrownOnRow_205
            subst ev_14
            subst ev_13
            subst ev_12
            subst ev_11
            subst ev_10
            subst ev_8
            subst ev_7
            subst ev_6
            subst ev_1
            simp only [jc_shade, jc_go, jc_body, jc_scale, jc_first, jc_last, if_neg c_2, if_neg c_3, if_neg c_4, if_neg c_5, if_pos c_9]
          · refine lv_lconst (v := 0) hx hb d_Bx_shadeThrownOnRow_90 (by decide) ?_
            refine W.lret (v := 0) hx hb hr (gs_end ⟨?_, rfl⟩ hG hS) hS.2.2 d_Bx_shadeThrownOnRow_91
            subst ev_8
            subst ev_7
            subst ev_6
            subst ev_1
            simp only [jc_shade, jc_go, jc_body, jc_scale, jc_first, jc_last, if_neg c_2, if_neg c_3, if_neg c_4, if_neg c_5, if_neg c_9]
        · exact absurd c_5 c_4
      · refine lv_aload_n hx hb d_Bx_shadeThrownOnRow_28 rfl (lv_at hl 1 rfl) ?_
        refine lv_iload hx hb d_Bx_shadeThrownOnRow_29 (lv_at hl 0 rfl) ?_
        refine gs_V (As := [.int v_1]) (rest := []) (k_Bx_spansLine l D k zb G a0 x0 y0 z0 x1 y1 z1 pr v_1 hb0) E hml hl.1 (cg_V (C := R_Bx) hw w_322 w_319 w_5 w_321 sel_Bx_spansLine hd_Bx_spansLine ⟨by exact Nat.le_of_ble_eq_true rfl, by exact Nat.le_of_ble_eq_true rfl⟩) hG hK hX hS hb0 rfl rfl rfl rfl (by exact Nat.le_of_ble_eq_true rfl) d_Bx_shadeThrownOnRow_31 ⟨by exact Nat.le_of_ble_eq_true rfl, by exact Nat.le_of_ble_eq_true rfl⟩ (fun v G1 H locs hp hG hS => ?_)
        obtain ⟨hv1, hG1⟩ := hp
        subst hv1
        rw [hG1] at hG
        refine W.eq (g2 := F0 m 34 ls [.int (jc_spans y0 y1 v_1)]) rfl ?_
        refine lv_if_ne (tgt := 39) hx hb d_Bx_shadeThrownOnRow_34 (by decide) (fun c_15 => ?_) (fun c_15 => ?_)
        · refine lv_aload_n hx hb d_Bx_shadeThrownOnRow_39 rfl (lv_at hl 3 rfl) ?_
          refine gs_get E hK.1 hG hb1 (C := R_Hr) (T := F_Hr) (N := 4) rfl i_Hr 1 (by decide) w_42 (v := .int Y) rfl d_Bx_shadeThrownOnRow_40 ?_
          refine lv_if_ne (tgt := 50) hx hb d_Bx_shadeThrownOnRow_43 (by decide) (fun c_16 => ?_) (fun c_16 => ?_)
          · exact absurd c_4 c_16
          · refine lv_iconst (v := 1) hx hb d_Bx_shadeThrownOnRow_46 (by decide) ?_
            refine lv_goto (tgt := 59) hx hb d_Bx_shadeThrownOnRow_47 (by decide) ?_
            refine lv_istore (lv' := [(5, .int 1), (4, .int v_1), (0, .ref a0), (1, .int y), (2, .ref a1), (3, .int w)]) hx hb d_Bx_shadeThrownOnRow_59 hl (by decide) rfl (fun ls hl => ?_)
            refine lv_aload_n hx hb d_Bx_shadeThrownOnRow_61 rfl (lv_at hl 2 rfl) ?_
            refine lv_iload hx hb d_Bx_shadeThrownOnRow_62 (lv_at hl 1 rfl) ?_
            refine lv_aload_n hx hb d_Bx_shadeThrownOnRow_64 rfl (lv_at hl 4 rfl) ?_
            refine lv_iload hx hb d_Bx_shadeThrownOnRow_65 (lv_at hl 0 rfl) ?_
            refine gs_V (As := [.int v_1, .ref a1, .int 1]) (rest := []) (k_Bx_nearest l D k zb G a0 x0 y0 z0 x1 y1 z1 pr a1 X Y Z am v_1 1 hb0 hb1) E hml hl.1 (cg_V (C := R_Bx) hw w_329 w_326 w_5 w_328 sel_Bx_nearest hd_Bx_nearest ⟨by exact Nat.le_of_ble_eq_true rfl, by exact Nat.le_of_ble_eq_true rfl⟩) hG hK hX hS hb0 rfl rfl rfl rfl (by exact Nat.le_of_ble_eq_true rfl) d_Bx_shadeThrownOnRow_67 ⟨by exact Nat.le_of_ble_eq_true rfl, by exact Nat.le_of_ble_eq_true rfl⟩ (fun v G1 H locs hp hG hS => ?_)
            obtain ⟨hv1, hG1⟩ := hp
            subst hv1
            rw [hG1] at hG
            refine W.eq (g2 := F0 m 70 ls [.int (jc_near y0 z0 y1 Y Z v_1 1)]) rfl ?_
            refine lv_topi (fun v_17 ev_17 => ?_)
            refine lv_istore (lv' := [(6, .int v_17), (5, .int 1), (4, .int v_1), (0, .ref a0), (1, .int y), (2, .ref a1), (3, .int w)]) hx hb d_Bx_shadeThrownOnRow_70 hl (by decide) rfl (fun ls hl => ?_)
            refine lv_aload_n hx hb d_Bx_shadeThrownOnRow_72 rfl (lv_at hl 3 rfl) ?_
            refine lv_iload hx hb d_Bx_shadeThrownOnRow_73 (lv_at hl 2 rfl) ?_
            refine lv_aload_n hx hb d_Bx_shadeThrownOnRow_75 rfl (lv_at hl 5 rfl) ?_
            refine lv_iload hx hb d_Bx_shadeThrownOnRow_76 (lv_at hl 1 rfl) ?_
            refine gs_V (As := [.int v_1, .ref a1, .int 1]) (rest := []) (k_Bx_farthest l D k zb G a0 x0 y0 z0 x1 y1 z1 pr a1 X Y Z am v_1 1 hb0 hb1) E hml hl.1 (cg_V (C := R_Bx) hw w_334 w_331 w_5 w_333 sel_Bx_farthest hd_Bx_farthest ⟨by exact Nat.le_of_ble_eq_true rfl, by exact Nat.le_of_ble_eq_true rfl⟩) hG hK hX hS hb0 rfl rfl rfl rfl (by exact Nat.le_of_ble_eq_true rfl) d_Bx_shadeThrownOnRow_78 ⟨by exact Nat.le_of_ble_eq_true rfl, by exact Nat.le_of_ble_eq_true rfl⟩ (fun v G1 H locs hp hG hS => ?_)
            obtain ⟨hv1, hG1⟩ := hp
            subst hv1
            rw [hG1] at hG
            refine W.eq (g2 := F0 m 81 ls [.int (jc_far y0 y1 z1 Y Z v_1 1)]) rfl ?_
            refine lv_topi (fun v_18 ev_18 => ?_)
            refine lv_istore (lv' := [(7, .int v_18), (6, .int v_17), (5, .int 1), (4, .int v_1), (0, .ref a0), (1, .int y), (2, .ref a1), (3, .int w)]) hx hb d_Bx_shadeThrownOnRow_81 hl (by decide) rfl (fun ls hl => ?_)
            refine lv_iload hx hb d_Bx_shadeThrownOnRow_83 (lv_at hl 1 rfl) ?_
            refine lv_iload hx hb d_Bx_shadeThrownOnRow_85 (lv_at hl 0 rfl) ?_
            refine lv_icmp_le (tgt := 92) hx hb d_Bx_shadeThrownOnRow_87 (by decide) (fun c_19 => ?_) (fun c_19 => ?_)
            · refine lv_iload hx hb d_Bx_shadeThrownOnRow_92 (lv_at hl 2 rfl) ?_
              refine lv_aload_n hx hb d_Bx_shadeThrownOnRow_94 rfl (lv_at hl 6 rfl) ?_
              refine gs_get E hK.1 hG hb1 (C := R_Hr) (T := F_Hr) (N := 4) rfl i_Hr 2 (by decide) w_45 (v := .int Z) rfl d_Bx_shadeThrownOnRow_95 ?_
              refine lv_imul hx hb d_Bx_shadeThrownOnRow_98 ?_
              refine lv_topi (fun v_20 ev_20 => ?_)
              refine lv_istore (lv' := [(8, .int v_20), (7, .int v_18), (6, .int v_17), (5, .int 1), (4, .int v_1), (0, .ref a0), (1, .int y), (2, .ref a1), (3, .int w)]) hx hb d_Bx_shadeThrownOnRow_99 hl (by decide) rfl (fun ls hl => ?_)
              refine lv_iload hx hb d_Bx_shadeThrownOnRow_101 (lv_at hl 2 rfl) ?_
              refine lv_aload_n hx hb d_Bx_shadeThrownOnRow_103 rfl (lv_at hl 7 rfl) ?_
              refine gs_get E hK.1 hG hb1 (C := R_Hr) (T := F_Hr) (N := 4) rfl i_Hr 0 (by decide) w_39 (v := .int X) rfl d_Bx_shadeThrownOnRow_104 ?_
              refine lv_imul hx hb d_Bx_shadeThrownOnRow_107 ?_
              refine lv_iload hx hb d_Bx_shadeThrownOnRow_108 (lv_at hl 1 rfl) ?_
              refine lv_aload_n hx hb d_Bx_shadeThrownOnRow_110 rfl (lv_at hl 7 rfl) ?_
              refine gs_get E hK.1 hG hb1 (C := R_Hr) (T := F_Hr) (N := 4) rfl i_Hr 0 (by decide) w_39 (v := .int X) rfl d_Bx_shadeThrownOnRow_111 ?_
              refine lv_imul hx hb d_Bx_shadeThrownOnRow_114 ?_
              refine va_mmin hx hb (hml.trans hl.1.symm) hown (hw _ w_335) (hw _ w_28) (hw _ w_2) (hw _ w_29) (by exact Nat.le_of_ble_eq_true rfl) (by exact Nat.le_of_ble_eq_true rfl) (by exact Nat.zero_le _) (by exact Nat.zero_le _) d_Bx_shadeThrownOnRow_115 ?_
              refine W.eq (g2 := F0 m 118 ls [.int (jc_min (v_17 * X) (v_18 * X))]) rfl ?_
              refine lv_topi (fun v_21 ev_21 => ?_)
              refine lv_istore (lv' := [(9, .int v_21), (8, .int v_20), (7, .int v_18), (6, .int v_17), (5, .int 1), (4, .int v_1), (0, .ref a0), (1, .int y), (2, .ref a1), (3, .int w)]) hx hb d_Bx_shadeThrownOnRow_118 hl (by decide) rfl (fun ls hl => ?_)
              refine lv_iload hx hb d_Bx_shadeThrownOnRow_120 (lv_at hl 3 rfl) ?_
              refine lv_aload_n hx hb d_Bx_shadeThrownOnRow_122 rfl (lv_at hl 8 rfl) ?_
              refine gs_get E hK.1 hG hb1 (C := R_Hr) (T := F_Hr) (N := 4) rfl i_Hr 0 (by decide) w_39 (v := .int X) rfl d_Bx_shadeThrownOnRow_123 ?_
              refine lv_imul hx hb d_Bx_shadeThrownOnRow_126 ?_
              refine lv_iload hx hb d_Bx_shadeThrownOnRow_127 (lv_at hl 2 rfl) ?_
              refine lv_aload_n hx hb d_Bx_shadeThrownOnRow_129 rfl (lv_at hl 8 rfl) ?_
              refine gs_get E hK.1 hG hb1 (C := R_Hr) (T := F_Hr) (N := 4) rfl i_Hr 0 (by decide) w_39 (v := .int X) rfl d_Bx_shadeThrownOnRow_130 ?_
              refine lv_imul hx hb d_Bx_shadeThrownOnRow_133 ?_
              refine va_mmax hx hb (hml.trans hl.1.symm) hown (hw _ w_330) (hw _ w_31) (hw _ w_2) (hw _ w_32) (by exact Nat.le_of_ble_eq_true rfl) (by exact Nat.le_of_ble_eq_true rfl) (by exact Nat.zero_le _) (by exact Nat.zero_le _) d_Bx_shadeThrownOnRow_134 ?_
              refine W.eq (g2 := F0 m 137 ls [.int (jc_max (v_17 * X) (v_18 * X))]) rfl ?_
              refine lv_topi (fun v_22 ev_22 => ?_)
              refine lv_istore (lv' := [(10, .int v_22), (9, .int v_21), (8, .int v_20), (7, .int v_18), (6, .int v_17), (5, .int 1), (4, .int v_1), (0, .ref a0), (1, .int y), (2, .ref a1), (3, .int w)]) hx hb d_Bx_shadeThrownOnRow_137 hl (by decide) rfl (fun ls hl => ?_)
              refine lv_iload hx hb d_Bx_shadeThrownOnRow_139 (lv_at hl 2 rfl) ?_
              refine lv_iconst (v := 2) hx hb d_Bx_shadeThrownOnRow_141 (by decide) ?_
              refine lv_aload_n hx hb d_Bx_shadeThrownOnRow_142 rfl (lv_at hl 7 rfl) ?_
              refine gs_get E hK.1 hG hb0 (C := R_Bx) (T := F_Bx) (N := 7) rfl i_Bx 0 (by decide) w_191 (v := .int x0) rfl d_Bx_shadeThrownOnRow_143 ?_
              refine lv_iload hx hb d_Bx_shadeThrownOnRow_146 (lv_at hl 2 rfl) ?_
              refine lv_imul hx hb d_Bx_shadeThrownOnRow_148 ?_
              refine lv_iload hx hb d_Bx_shadeThrownOnRow_149 (lv_at hl 1 rfl) ?_
              refine lv_iadd hx hb d_Bx_shadeThrownOnRow_151 ?_
              refine lv_imul hx hb d_Bx_shadeThrownOnRow_152 ?_
              refine lv_isub hx hb d_Bx_shadeThrownOnRow_153 ?_
              refine lv_iconst (v := 2) hx hb d_Bx_shadeThrownOnRow_154 (by decide) ?_
              refine lv_iload hx hb d_Bx_shadeThrownOnRow_155 (lv_at hl 2 rfl) ?_
              refine lv_imul hx hb d_Bx_shadeThrownOnRow_157 ?_
              refine gs_St (As := [.int (v_20 - (2 * ((x0 * v_20) + v_21))), .int (2 * v_20)]) (rest := []) (k_Bx_floorOver l D k zb G (v_20 - (2 * ((x0 * v_20) + v_21))) (2 * v_20)) E hml hl.1 (cg_S hw w_338 w_336 w_5 w_337 hd_Bx_floorOver ⟨by exact Nat.le_of_ble_eq_true rfl, by exact Nat.le_of_ble_eq_true rfl⟩) hG hK hX hS rfl rfl (by exact Nat.le_of_ble_eq_true rfl) d_Bx_shadeThrownOnRow_158 ⟨by exact Nat.le_of_ble_eq_true rfl, by exact Nat.le_of_ble_eq_true rfl⟩ (fun v G1 H locs hp hG hS => ?_)
              obtain ⟨hv1, hG1⟩ := hp
              subst hv1
              rw [hG1] at hG
              refine W.eq (g2 := F0 m 161 ls [.int (jc_fover (v_20 - (2 * ((x0 * v_20) + v_21))) (2 * v_20))]) rfl ?_
              refine lv_ineg hx hb d_Bx_shadeThrownOnRow_161 ?_
              refine lv_topi (fun v_23 ev_23 => ?_)
              refine lv_istore (lv' := [(11, .int v_23), (10, .int v_22), (9, .int v_21), (8, .int v_20), (7, .int v_18), (6, .int v_17), (5, .int 1), (4, .int v_1), (0, .ref a0), (1, .int y), (2, .ref a1), (3, .int w)]) hx hb d_Bx_shadeThrownOnRow_162 hl (by decide) rfl (fun ls hl => ?_)
              refine lv_iconst (v := 2) hx hb d_Bx_shadeThrownOnRow_164 (by decide) ?_
              refine lv_aload_n hx hb d_Bx_shadeThrownOnRow_165 rfl (lv_at hl 8 rfl) ?_
              refine gs_get E hK.1 hG hb0 (C := R_Bx) (T := F_Bx) (N := 7) rfl i_Bx 3 (by decide) w_194 (v := .int x1) rfl d_Bx_shadeThrownOnRow_166 ?_
              refine lv_iload hx hb d_Bx_shadeThrownOnRow_169 (lv_at hl 3 rfl) ?_
              refine lv_imul hx hb d_Bx_shadeThrownOnRow_171 ?_
              refine lv_iload hx hb d_Bx_shadeThrownOnRow_172 (lv_at hl 1 rfl) ?_
              refine lv_iadd hx hb d_Bx_shadeThrownOnRow_174 ?_
              refine lv_imul hx hb d_Bx_shadeThrownOnRow_175 ?_
              refine lv_iload hx hb d_Bx_shadeThrownOnRow_176 (lv_at hl 3 rfl) ?_
              refine lv_isub hx hb d_Bx_shadeThrownOnRow_178 ?_
              refine lv_iconst (v := 2) hx hb d_Bx_shadeThrownOnRow_179 (by decide) ?_
              refine lv_iload hx hb d_Bx_shadeThrownOnRow_180 (lv_at hl 3 rfl) ?_
              refine lv_imul hx hb d_Bx_shadeThrownOnRow_182 ?_
              refine gs_St (As := [.int ((2 * ((x1 * v_20) + v_22)) - v_20), .int (2 * v_20)]) (rest := []) (k_Bx_floorOver l D k zb G ((2 * ((x1 * v_20) + v_22)) - v_20) (2 * v_20)) E hml hl.1 (cg_S hw w_338 w_336 w_5 w_337 hd_Bx_floorOver ⟨by exact Nat.le_of_ble_eq_true rfl, by exact Nat.le_of_ble_eq_true rfl⟩) hG hK hX hS rfl rfl (by exact Nat.le_of_ble_eq_true rfl) d_Bx_shadeThrownOnRow_183 ⟨by exact Nat.le_of_ble_eq_true rfl, by exact Nat.le_of_ble_eq_true rfl⟩ (fun v G1 H locs hp hG hS => ?_)
              obtain ⟨hv1, hG1⟩ := hp
              subst hv1
              rw [hG1] at hG
              refine W.eq (g2 := F0 m 186 ls [.int (jc_fover ((2 * ((x1 * v_20) + v_22)) - v_20) (2 * v_20))]) rfl ?_
              refine lv_topi (fun v_24 ev_24 => ?_)
              refine lv_istore (lv' := [(12, .int v_24), (11, .int v_23), (10, .int v_22), (9, .int v_21), (8, .int v_20), (7, .int v_18), (6, .int v_17), (5, .int 1), (4, .int v_1), (0, .ref a0), (1, .int y), (2, .ref a1), (3, .int w)]) hx hb d_Bx_shadeThrownOnRow_186 hl (by decide) rfl (fun ls hl => ?_)
              refine lv_iload hx hb d_Bx_shadeThrownOnRow_188 (lv_at hl 1 rfl) ?_
              refine lv_iconst (v := 0) hx hb d_Bx_shadeThrownOnRow_190 (by decide) ?_
              refine va_mmax hx hb (hml.trans hl.1.symm) hown (hw _ w_330) (hw _ w_31) (hw _ w_2) (hw _ w_32) (by exact Nat.le_of_ble_eq_true rfl) (by exact Nat.le_of_ble_eq_true rfl) (by exact Nat.zero_le _) (by exact Nat.zero_le _) d_Bx_shadeThrownOnRow_191 ?_
              refine W.eq (g2 := F0 m 194 ls [.int (jc_max v_23 0)]) rfl ?_
              refine lv_iload hx hb d_Bx_shadeThrownOnRow_194 (lv_at hl 0 rfl) ?_
              refine lv_iload_n hx hb d_Bx_shadeThrownOnRow_196 rfl (lv_at hl 12 rfl) ?_
              refine lv_iconst (v := 1) hx hb d_Bx_shadeThrownOnRow_197 (by decide) ?_
              refine lv_isub hx hb d_Bx_shadeThrownOnRow_198 ?_
              refine va_mmin hx hb (hml.trans hl.1.symm) hown (hw _ w_335) (hw _ w_28) (hw _ w_2) (hw _ w_29) (by exact Nat.le_of_ble_eq_true rfl) (by exact Nat.le_of_ble_eq_true rfl) (by exact Nat.zero_le _) (by exact Nat.zero_le _) d_Bx_shadeThrownOnRow_199 ?_
              refine W.eq (g2 := F0 m 202 ls [.int (jc_min v_24 (w - 1)), .int (jc_max v_23 0)]) rfl ?_
              refine gs_SN (As := [.int (jc_max v_23 0), .int (jc_min v_24 (w - 1))]) (rest := []) (k_Ss_cellsBetween l D k zb G (jc_max v_23 0) (jc_min v_24 (w - 1))) E hml hl.1 (cg_N hw w_344 hK.2.1.2.1 w_1 hd_Ss_cellsBetween ⟨by exact Nat.le_of_ble_eq_true rfl, by exact Nat.le_of_ble_eq_true rfl⟩) w_343 hG hK hX hS rfl rfl (by exact Nat.le_of_ble_eq_true rfl) d_Bx_shadeThrownOnRow_202 ⟨by exact Nat.le_of_ble_eq_true rfl, by exact Nat.le_of_ble_eq_true rfl⟩ (fun v G1 H locs hp hG hS => ?_)
              obtain ⟨hv1, hG1⟩ := hp
              subst hv1
              rw [hG1] at hG
              refine W.eq (g2 := F0 m 205 ls [.long (jc_cells (jc_max v_23 0) (jc_min v_24 (w - 1)))]) rfl ?_
              refine W.lret (v := (jc_cells (jc_max v_23 0) (jc_min v_24 (w - 1)))) hx hb hr (gs_end ⟨?_, rfl⟩ hG hS) hS.2.2 d_Bx_shadeThrownOnRow_205
              subst ev_24
              subst ev_23
              subst ev_22
              subst ev_21
              subst ev_20
              subst ev_18
              subst ev_17
              subst ev_1
              simp only [jc_shade, jc_go, jc_body, jc_scale, jc_first, jc_last, if_neg c_2, if_neg c_3, if_pos c_4, if_neg c_15, if_pos c_16, if_pos c_19]
            · refine lv_lconst (v := 0) hx hb d_Bx_shadeThrownOnRow_90 (by decide) ?_
              refine W.lret (v := 0) hx hb hr (gs_end ⟨?_, rfl⟩ hG hS) hS.2.2 d_Bx_shadeThrownOnRow_91
              subst ev_18
              subst ev_17
              subst ev_1
              simp only [jc_shade, jc_go, jc_body, jc_scale, jc_first, jc_last, if_neg c_2, if_neg c_3, if_pos c_4, if_neg c_15, if_pos c_16, if_neg c_19]
        · refine lv_lconst (v := 0) hx hb d_Bx_shadeThrownOnRow_37 (by decide) ?_
          refine W.lret (v := 0) hx hb hr (gs_end ⟨?_, rfl⟩ hG hS) hS.2.2 d_Bx_shadeThrownOnRow_38
          subst ev_1
          simp only [jc_shade, jc_go, jc_body, jc_scale, jc_first, jc_last, if_neg c_2, if_neg c_3, if_pos c_4, if_pos c_15]
