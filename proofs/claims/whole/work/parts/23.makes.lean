/-! contracts, by program -/
set_option maxHeartbeats 4000000 in
set_option maxRecDepth 100000 in
theorem k_Ss_box (l : Launch) (hnt : l.stackTraces = false) (D : va_G) (k : Nat → ClassId) (zb : Nat) (G : Nat → Option va_E) (o aB aW aH aS aT : Nat) (wn hn nb nw : Nat) (ba wa ha : Nat → Nat) (bf hf : Nat → Nat → Int32) (wf : Nat → Nat → Nat) (sh : Nat → Int64) (tk : Nat → Int32) (x0 y0 z0 x1 y1 z1 : Int32) (hC : sC k G o aB aW aH aS aT wn hn nb nw ba wa ha bf hf wf sh tk) : vx_Met l y_Ss_box (wM y_Ss_box c_Ss_box 8 (some .int)) ({ frames := 6, cells := 1, slots := 7, locals := 90 }) (gs_P D k zb G [.ref o, .int x0, .int y0, .int z0, .int x1, .int y1, .int z1]) (gs_Q D zb (fun v G1 => ∃ q : Nat, nb < 10 ∧ ¬ jc_allowed x0 y0 z0 x1 y1 z1 = 0 ∧ G q = none ∧ v = some (.int (nI nb)) ∧ G1 = gs_u (gs_u (gs_u G q (.inr (0, [.int x0, .int y0, .int z0, .int x1, .int y1, .int z1, .int 1]))) aB (aRef (k 3) 10 (va_up (upTo nb ba) nb (some q)))) o (oSs wn hn aB aW aH aS aT (nb + 1) nw))) (gs_T D zb G (fun E => (E = e_IA ∧ jc_allowed x0 y0 z0 x1 y1 z1 = 0) ∨ (E = e_IS ∧ ¬ jc_allowed x0 y0 z0 x1 y1 z1 = 0 ∧ ¬ nb < 10))) 1 7 (fun q : Nat => zb ≤ q) := by
  refine vx_ofW (cc := c_Ss_box) (maxL := 8) (ret := (some .int)) (by decide) rfl ?_
  intro p e s m args below meth c s₁ B hml ht hv
  obtain ⟨rfl, hG, hK, hX⟩ := hv
  have hx := B.exec
  have hb := B.bytes
  have hr := B.returns
  have hts := atoms_spec (ws := wM y_Ss_box c_Ss_box 8 (some .int)) B.pre
  have hw : ∀ w9 ∈ wW, w9.before ([.ref o, .int x0, .int y0, .int z0, .int x1, .int y1, .int z1] : List Value).toArray s = true := fun w9 h9 => hts w9 (gi_in w9 h9)
  have hown : s.vm.findClass R_Ss = some m.cls := findClass_of_methodNamed B.named
  have hlocks := B.notSynchronized
  have E : gs_E p s m ([.ref o, .int x0, .int y0, .int z0, .int x1, .int y1, .int z1] : List Value).toArray c c_Ss_box wW R_Ss := ⟨hx, hb, hw, hown⟩
  have hS : gs_S zb s.heap s.heap [] := va_S.rf
  have hl := lv_entry ([.ref o, .int x0, .int y0, .int z0, .int x1, .int y1, .int z1]) (n := 8) (Nat.le_of_ble_eq_true rfl)
  rw [lg_entry_eq]
  generalize (lg_sl ([.ref o, .int x0, .int y0, .int z0, .int x1, .int y1, .int z1]) ++ List.replicate (8 - (lg_sl ([.ref o, .int x0, .int y0, .int z0, .int x1, .int y1, .int z1])).length) Slot.unset).toArray = ls at hl ⊢
  have hl : lv_has ls 8 [(0, .ref o), (1, .int x0), (2, .int y0), (3, .int z0), (4, .int x1), (5, .int y1), (6, .int z1)] := hl
  refine lv_iload_n hx hb d_Ss_box_0 rfl (lv_at hl 1 rfl) ?_
  refine lv_iload_n hx hb d_Ss_box_1 rfl (lv_at hl 2 rfl) ?_
  refine lv_iload_n hx hb d_Ss_box_2 rfl (lv_at hl 3 rfl) ?_
  refine lv_iload hx hb d_Ss_box_3 (lv_at hl 4 rfl) ?_
  refine lv_iload hx hb d_Ss_box_5 (lv_at hl 5 rfl) ?_
  refine lv_iload hx hb d_Ss_box_7 (lv_at hl 6 rfl) ?_
  refine gs_St (As := [.int x0, .int y0, .int z0, .int x1, .int y1, .int z1]) (rest := []) (k_Bx_isAllowed l D k zb G x0 y0 z0 x1 y1 z1) E hml hl.1 (cg_S hw w_102 w_100 w_5 w_101 hd_Bx_isAllowed ⟨by exact Nat.le_of_ble_eq_true rfl, by exact Nat.le_of_ble_eq_true rfl⟩) hG hK hX hS rfl rfl (by exact Nat.le_of_ble_eq_true rfl) d_Ss_box_9 ⟨by exact Nat.le_of_ble_eq_true rfl, by exact Nat.le_of_ble_eq_true rfl⟩ (fun v G1 H locs hp hG hS => ?_)
  obtain ⟨hv1, hG1⟩ := hp
  subst hv1
  rw [hG1] at hG
  refine W.eq (g2 := F0 m 12 ls [.int (jc_allowed x0 y0 z0 x1 y1 z1)]) rfl ?_
  refine lv_if_ne (tgt := 25) hx hb d_Ss_box_12 (by decide) (fun c_1 => ?_) (fun c_1 => ?_)
  · refine lv_aload_n hx hb d_Ss_box_25 rfl (lv_at hl 0 rfl) ?_
    refine gs_get E hK.1 hG hC.1.1 (C := R_Ss) (T := F_Ss) (N := 9) rfl i_Ss 7 (by decide) w_67 (v := .int (nI nb)) rfl d_Ss_box_26 ?_
    refine lv_aload_n hx hb d_Ss_box_29 rfl (lv_at hl 0 rfl) ?_
    refine gs_get E hK.1 hG hC.1.1 (C := R_Ss) (T := F_Ss) (N := 9) rfl i_Ss 2 (by decide) w_62 (v := .ref aB) rfl d_Ss_box_30 ?_
    refine gs_alen E hK.1 hG hC.1.2.1 3 rfl (v := 10) rfl d_Ss_box_33 ?_
    refine lv_icmp_lt (tgt := 47) hx hb d_Ss_box_34 (by decide) (fun c_2 => ?_) (fun c_2 => ?_)
    · have h10 : nb < 10 := lt_nI (b := 10) (by have := hC.2.1; omega) (by decide) c_2
      refine lv_aload_n hx hb d_Ss_box_47 rfl (lv_at hl 0 rfl) ?_
      refine gs_get E hK.1 hG hC.1.1 (C := R_Ss) (T := F_Ss) (N := 9) rfl i_Ss 7 (by decide) w_67 (v := .int (nI nb)) rfl d_Ss_box_48 ?_
      refine lv_istore (lv' := [(7, .int (nI nb)), (0, .ref o), (1, .int x0), (2, .int y0), (3, .int z0), (4, .int x1), (5, .int y1), (6, .int z1)]) hx hb d_Ss_box_51 hl (by decide) rfl (fun ls hl => ?_)
      refine lv_aload_n hx hb d_Ss_box_53 rfl (lv_at hl 1 rfl) ?_
      refine gs_get E hK.1 hG hC.1.1 (C := R_Ss) (T := F_Ss) (N := 9) rfl i_Ss 2 (by decide) w_62 (v := .ref aB) rfl d_Ss_box_54 ?_
      refine lv_iload hx hb d_Ss_box_57 (lv_at hl 0 rfl) ?_
      refine gs_new E hK.1 hG hS (C := R_Bx) (T := F_Bx) (N := 7) (ci := 0) (fs := [.int 0, .int 0, .int 0, .int 0, .int 0, .int 0, .int 0]) rfl i_Bx t_Bx t_Bx_ok w_21 w_186 w_5 (fun j hj => by rcases (show j = 0 ∨ j = 1 ∨ j = 2 ∨ j = 3 ∨ j = 4 ∨ j = 5 ∨ j = 6 by omega) with rfl | rfl | rfl | rfl | rfl | rfl | rfl <;> rfl) (by exact Nat.le_of_ble_eq_true rfl) (by exact Nat.le_of_ble_eq_true rfl) d_Ss_box_59 (fun H_4 hG9 hS9 => ?_)
      have hfq_3 : G H.size = none := hG.fresh
      obtain ⟨q_3, eq_3⟩ : ∃ z : Nat, z = H.size := ⟨_, rfl⟩
      rw [← eq_3] at hG9 hfq_3 ⊢
      obtain ⟨G_5, eG_5⟩ : ∃ z, z = gs_u G q_3 (.inr (0, [.int 0, .int 0, .int 0, .int 0, .int 0, .int 0, .int 0])) := ⟨_, rfl⟩
      have hG : gs_W D classes zb G_5 H_4 := by rw [eG_5]; exact hG9
      have hS := hS9
      have hc_6 : G_5 o = some (.inr (3, [.int (nI wn), .int (nI hn), .ref aB, .ref aW, .ref aH, .ref aS, .ref aT, .int (nI nb), .int (nI nw)])) := by rw [eG_5]; exact gs_keepN hC.1.1 hfq_3
      have hc_7 : G_5 aB = some (aRef (k 3) 10 (upTo nb ba)) := by rw [eG_5]; exact gs_keepN hC.1.2.1 hfq_3
      have hc_8 : G_5 q_3 = some (.inr (0, [.int 0, .int 0, .int 0, .int 0, .int 0, .int 0, .int 0])) := by rw [eG_5]; exact gs_us _ _ _
      refine W.eq (g2 := F0 m 62 ls [.ref q_3, .int (nI nb), .ref aB]) rfl ?_
      refine lv_dup hx hb d_Ss_box_62 rfl ?_
      refine lv_iload_n hx hb d_Ss_box_63 rfl (lv_at hl 2 rfl) ?_
      refine lv_iload_n hx hb d_Ss_box_64 rfl (lv_at hl 3 rfl) ?_
      refine lv_iload_n hx hb d_Ss_box_65 rfl (lv_at hl 4 rfl) ?_
      refine lv_iload hx hb d_Ss_box_66 (lv_at hl 5 rfl) ?_
      refine lv_iload hx hb d_Ss_box_68 (lv_at hl 6 rfl) ?_
      refine lv_iload hx hb d_Ss_box_70 (lv_at hl 7 rfl) ?_
      refine gs_I (As := [.int x0, .int y0, .int z0, .int x1, .int y1, .int z1]) (rest := [.ref q_3, .int (nI nb), .ref aB]) (k_Bx_init l D k zb G_5 q_3 x0 y0 z0 x1 y1 z1 hc_8) E hml hl.1 (cg_I hw w_189 w_187 w_5 w_188 rfl hd_Bx_init ⟨by exact Nat.le_of_ble_eq_true rfl, by exact Nat.le_of_ble_eq_true rfl⟩) hG hK hX hS rfl rfl (by exact Nat.le_of_ble_eq_true rfl) d_Ss_box_72 ⟨by exact Nat.le_of_ble_eq_true rfl, by exact Nat.le_of_ble_eq_true rfl⟩ (fun v G1 H locs hp hG hS => ?_)
      obtain ⟨hv1, hG1⟩ := hp
      subst hv1
      rw [hG1] at hG
      obtain ⟨G_9, eG_9⟩ : ∃ z, z = gs_u G_5 q_3 (.inr (0, [.int x0, .int y0, .int z0, .int x1, .int y1, .int z1, .int 1])) := ⟨_, rfl⟩
      have hG : gs_W D classes zb G_9 H := by rw [eG_9]; exact hG
      have hc_10 : G_9 o = some (.inr (3, [.int (nI wn), .int (nI hn), .ref aB, .ref aW, .ref aH, .ref aS, .ref aT, .int (nI nb), .int (nI nw)])) := by rw [eG_9]; exact gs_keep hc_6 hc_8 (by simp)
      have hc_11 : G_9 aB = some (aRef (k 3) 10 (upTo nb ba)) := by rw [eG_9]; exact gs_keep hc_7 hc_8 (by simp)
      have hc_12 : G_9 q_3 = some (.inr (0, [.int x0, .int y0, .int z0, .int x1, .int y1, .int z1, .int 1])) := by rw [eG_9]; exact gs_us _ _ _
      refine W.eq (g2 := F0 m 75 ls [.ref q_3, .int (nI nb), .ref aB]) rfl ?_
      refine gn_astq E hK.1 hG hS hc_11 3 (r := (R_Bx, F_Bx, 7)) rfl hc_12 rfl (j := nb) h10 (by decide) d_Ss_box_75 (fun H locs hG hS => ?_)
      obtain ⟨G_13, eG_13⟩ : ∃ z, z = gs_u G_9 aB (aRef (k 3) 10 (va_up (upTo nb ba) nb (some q_3))) := ⟨_, rfl⟩
      have hG : gs_W D classes zb G_13 H := by rw [eG_13]; exact hG
      have hc_14 : G_13 o = some (.inr (3, [.int (nI wn), .int (nI hn), .ref aB, .ref aW, .ref aH, .ref aS, .ref aT, .int (nI nb), .int (nI nw)])) := by rw [eG_13]; exact gs_keep hc_10 hc_11 (by simp)
      have hc_15 : G_13 q_3 = some (.inr (0, [.int x0, .int y0, .int z0, .int x1, .int y1, .int z1, .int 1])) := by rw [eG_13]; exact gs_keep hc_12 hc_11 (by simp)
      have hc_16 : G_13 aB = some (aRef (k 3) 10 (va_up (upTo nb ba) nb (some q_3))) := by rw [eG_13]; exact gs_us _ _ _
      refine lv_aload_n hx hb d_Ss_box_76 rfl (lv_at hl 1 rfl) ?_
      refine lv_iload hx hb d_Ss_box_77 (lv_at hl 0 rfl) ?_
      refine lv_iconst (v := 1) hx hb d_Ss_box_79 (by decide) ?_
      refine lv_iadd hx hb d_Ss_box_80 ?_
      refine lv_topi (fun v_17 ev_17 => ?_)
      refine gs_put E hK.1 hG hS hc_14 (C := R_Ss) (T := F_Ss) (N := 9) rfl i_Ss t_Ss t_Ss_ok n_Ss 7 (by decide) w_67 rfl (v := .int v_17) rfl rfl (Nat.le_of_ble_eq_true rfl) d_Ss_box_81 (fun H locs hG hS => ?_)
      obtain ⟨G_18, eG_18⟩ : ∃ z, z = gs_u G_13 o (.inr (3, [.int (nI wn), .int (nI hn), .ref aB, .ref aW, .ref aH, .ref aS, .ref aT, .int v_17, .int (nI nw)])) := ⟨_, rfl⟩
      have hG : gs_W D classes zb G_18 H := by rw [eG_18]; exact hG
      have hc_19 : G_18 aB = some (aRef (k 3) 10 (va_up (upTo nb ba) nb (some q_3))) := by rw [eG_18]; exact gs_keep hc_16 hc_14 (by simp)
      have hc_20 : G_18 q_3 = some (.inr (0, [.int x0, .int y0, .int z0, .int x1, .int y1, .int z1, .int 1])) := by rw [eG_18]; exact gs_keep hc_15 hc_14 (by simp)
      have hc_21 : G_18 o = some (.inr (3, [.int (nI wn), .int (nI hn), .ref aB, .ref aW, .ref aH, .ref aS, .ref aT, .int v_17, .int (nI nw)])) := by rw [eG_18]; exact gs_us _ _ _
      refine lv_iload hx hb d_Ss_box_84 (lv_at hl 0 rfl) ?_
      refine vx_ret ?_
      refine W.iret (v := (nI nb)) hx hb hr (gs_end ⟨q_3, h10, c_1, hfq_3, rfl, ?_⟩ hG hS) hS.2.2 d_Ss_box_86
      subst ev_17
      simp only [eG_18, eG_13, eG_9, eG_5, gs_uu, nI_1]
    · have h10 : ¬ nb < 10 := nlt_nI (b := 10) (by decide) c_2
      exact gs_throwIS (text := "there are 10 boxes") hnt E hG hK hX hS ht (hl.1.trans hml.symm) w_170 w_10 (by decide) (Or.inr ⟨rfl, c_1, h10⟩) d_Ss_box_37 d_Ss_box_40 d_Ss_box_41 d_Ss_box_43 d_Ss_box_46 (by exact Nat.le_of_ble_eq_true rfl) (by exact Nat.le_of_ble_eq_true rfl) (by exact Nat.le_of_ble_eq_true rfl) (by exact Nat.le_of_ble_eq_true rfl) hlocks (by decide) (by decide)
  · exact gs_throwIA (text := "not a box within the bounds") hnt E hG hK hX hS ht (hl.1.trans hml.symm) w_103 w_9 (by decide) (Or.inl ⟨rfl, c_1⟩) d_Ss_box_15 d_Ss_box_18 d_Ss_box_19 d_Ss_box_21 d_Ss_box_24 (by exact Nat.le_of_ble_eq_true rfl) (by exact Nat.le_of_ble_eq_true rfl) (by exact Nat.le_of_ble_eq_true rfl) (by exact Nat.le_of_ble_eq_true rfl) hlocks (by decide) (by decide)
set_option maxHeartbeats 4000000 in
set_option maxRecDepth 100000 in
theorem k_Ss_window (l : Launch) (hnt : l.stackTraces = false) (D : va_G) (k : Nat → ClassId) (zb : Nat) (G : Nat → Option va_E) (o aB aW aH aS aT : Nat) (wn hn nb nw : Nat) (ba wa ha : Nat → Nat) (bf hf : Nat → Nat → Int32) (wf : Nat → Nat → Nat) (sh : Nat → Int64) (tk : Nat → Int32) (u0 v0 u1 v1 : Int32) (hC : sC k G o aB aW aH aS aT wn hn nb nw ba wa ha bf hf wf sh tk) : vx_Met l y_Ss_window (wM y_Ss_window c_Ss_window 6 (some .int)) ({ frames := 6, cells := 1, slots := 6, locals := 90 }) (gs_P D k zb G [.ref o, .int u0, .int v0, .int u1, .int v1]) (gs_Q D zb (fun v G1 => ∃ q : Nat, nw < 10 ∧ (0 ≤ u0 ∧ u0 < u1 ∧ u1 ≤ nI wn ∧ 0 ≤ v0 ∧ v0 < v1 ∧ v1 ≤ nI hn) ∧ G q = none ∧ v = some (.int (nI nw)) ∧ G1 = gs_u (gs_u (gs_u G q (.inr (2, [.int u0, .int v0, .int u1, .int v1]))) aW (aRef (k 4) 10 (va_up (upTo nw wa) nw (some q)))) o (oSs wn hn aB aW aH aS aT nb (nw + 1)))) (gs_T D zb G (fun E => (E = e_IA ∧ ¬ (0 ≤ u0 ∧ u0 < u1 ∧ u1 ≤ nI wn ∧ 0 ≤ v0 ∧ v0 < v1 ∧ v1 ≤ nI hn)) ∨ (E = e_IS ∧ (0 ≤ u0 ∧ u0 < u1 ∧ u1 ≤ nI wn ∧ 0 ≤ v0 ∧ v0 < v1 ∧ v1 ≤ nI hn) ∧ ¬ nw < 10))) 1 6 (fun q : Nat => zb ≤ q) := by
  refine vx_ofW (cc := c_Ss_window) (maxL := 6) (ret := (some .int)) (by decide) rfl ?_
  intro p e s m args below meth c s₁ B hml ht hv
  obtain ⟨rfl, hG, hK, hX⟩ := hv
  have hx := B.exec
  have hb := B.bytes
  have hr := B.returns
  have hts := atoms_spec (ws := wM y_Ss_window c_Ss_window 6 (some .int)) B.pre
  have hw : ∀ w9 ∈ wW, w9.before ([.ref o, .int u0, .int v0, .int u1, .int v1] : List Value).toArray s = true := fun w9 h9 => hts w9 (gi_in w9 h9)
  have hown : s.vm.findClass R_Ss = some m.cls := findClass_of_methodNamed B.named
  have hlocks := B.notSynchronized
  have E : gs_E p s m ([.ref o, .int u0, .int v0, .int u1, .int v1] : List Value).toArray c c_Ss_window wW R_Ss := ⟨hx, hb, hw, hown⟩
  have hS : gs_S zb s.heap s.heap [] := va_S.rf
  have hl := lv_entry ([.ref o, .int u0, .int v0, .int u1, .int v1]) (n := 6) (Nat.le_of_ble_eq_true rfl)
  rw [lg_entry_eq]
  generalize (lg_sl ([.ref o, .int u0, .int v0, .int u1, .int v1]) ++ List.replicate (6 - (lg_sl ([.ref o, .int u0, .int v0, .int u1, .int v1])).length) Slot.unset).toArray = ls at hl ⊢
  have hl : lv_has ls 6 [(0, .ref o), (1, .int u0), (2, .int v0), (3, .int u1), (4, .int v1)] := hl
  refine lv_iload_n hx hb d_Ss_window_0 rfl (lv_at hl 1 rfl) ?_
  refine lv_if_lt (tgt := 36) hx hb d_Ss_window_1 (by decide) (fun c_1 => ?_) (fun c_1 => ?_)
  · exact gs_throwIA (text := "not a window within the wall") hnt E hG hK hX hS ht (hl.1.trans hml.symm) w_103 w_9 (by decide) (Or.inl ⟨rfl, fun q => absurd q (by simp only [i_lt, i_le] at *; omega)⟩) d_Ss_window_36 d_Ss_window_39 d_Ss_window_40 d_Ss_window_42 d_Ss_window_45 (by exact Nat.le_of_ble_eq_true rfl) (by exact Nat.le_of_ble_eq_true rfl) (by exact Nat.le_of_ble_eq_true rfl) (by exact Nat.le_of_ble_eq_true rfl) hlocks (by decide) (by decide)
  · refine lv_iload_n hx hb d_Ss_window_4 rfl (lv_at hl 1 rfl) ?_
    refine lv_iload_n hx hb d_Ss_window_5 rfl (lv_at hl 3 rfl) ?_
    refine lv_icmp_ge (tgt := 36) hx hb d_Ss_window_6 (by decide) (fun c_2 => ?_) (fun c_2 => ?_)
    · exact gs_throwIA (text := "not a window within the wall") hnt E hG hK hX hS ht (hl.1.trans hml.symm) w_103 w_9 (by decide) (Or.inl ⟨rfl, fun q => absurd q (by simp only [i_lt, i_le] at *; omega)⟩) d_Ss_window_36 d_Ss_window_39 d_Ss_window_40 d_Ss_window_42 d_Ss_window_45 (by exact Nat.le_of_ble_eq_true rfl) (by exact Nat.le_of_ble_eq_true rfl) (by exact Nat.le_of_ble_eq_true rfl) (by exact Nat.le_of_ble_eq_true rfl) hlocks (by decide) (by decide)
    · refine lv_iload_n hx hb d_Ss_window_9 rfl (lv_at hl 3 rfl) ?_
      refine lv_aload_n hx hb d_Ss_window_10 rfl (lv_at hl 0 rfl) ?_
      refine gs_get E hK.1 hG hC.1.1 (C := R_Ss) (T := F_Ss) (N := 9) rfl i_Ss 0 (by decide) w_60 (v := .int (nI wn)) rfl d_Ss_window_11 ?_
      refine lv_icmp_gt (tgt := 36) hx hb d_Ss_window_14 (by decide) (fun c_3 => ?_) (fun c_3 => ?_)
      · exact gs_throwIA (text := "not a window within the wall") hnt E hG hK hX hS ht (hl.1.trans hml.symm) w_103 w_9 (by decide) (Or.inl ⟨rfl, fun q => absurd q (by simp only [i_lt, i_le] at *; omega)⟩) d_Ss_window_36 d_Ss_window_39 d_Ss_window_40 d_Ss_window_42 d_Ss_window_45 (by exact Nat.le_of_ble_eq_true rfl) (by exact Nat.le_of_ble_eq_true rfl) (by exact Nat.le_of_ble_eq_true rfl) (by exact Nat.le_of_ble_eq_true rfl) hlocks (by decide) (by decide)
      · refine lv_iload_n hx hb d_Ss_window_17 rfl (lv_at hl 2 rfl) ?_
        refine lv_if_lt (tgt := 36) hx hb d_Ss_window_18 (by decide) (fun c_4 => ?_) (fun c_4 => ?_)
        · exact gs_throwIA (text := "not a window within the wall") hnt E hG hK hX hS ht (hl.1.trans hml.symm) w_103 w_9 (by decide) (Or.inl ⟨rfl, fun q => absurd q (by simp only [i_lt, i_le] at *; omega)⟩) d_Ss_window_36 d_Ss_window_39 d_Ss_window_40 d_Ss_window_42 d_Ss_window_45 (by exact Nat.le_of_ble_eq_true rfl) (by exact Nat.le_of_ble_eq_true rfl) (by exact Nat.le_of_ble_eq_true rfl) (by exact Nat.le_of_ble_eq_true rfl) hlocks (by decide) (by decide)
        · refine lv_iload_n hx hb d_Ss_window_21 rfl (lv_at hl 2 rfl) ?_
          refine lv_iload hx hb d_Ss_window_22 (lv_at hl 4 rfl) ?_
          refine lv_icmp_ge (tgt := 36) hx hb d_Ss_window_24 (by decide) (fun c_5 => ?_) (fun c_5 => ?_)
          · exact gs_throwIA (text := "not a window within the wall") hnt E hG hK hX hS ht (hl.1.trans hml.symm) w_103 w_9 (by decide) (Or.inl ⟨rfl, fun q => absurd q (by simp only [i_lt, i_le] at *; omega)⟩) d_Ss_window_36 d_Ss_window_39 d_Ss_window_40 d_Ss_window_42 d_Ss_window_45 (by exact Nat.le_of_ble_eq_true rfl) (by exact Nat.le_of_ble_eq_true rfl) (by exact Nat.le_of_ble_eq_true rfl) (by exact Nat.le_of_ble_eq_true rfl) hlocks (by decide) (by decide)
          · refine lv_iload hx hb d_Ss_window_27 (lv_at hl 4 rfl) ?_
            refine lv_aload_n hx hb d_Ss_window_29 rfl (lv_at hl 0 rfl) ?_
            refine gs_get E hK.1 hG hC.1.1 (C := R_Ss) (T := F_Ss) (N := 9) rfl i_Ss 1 (by decide) w_61 (v := .int (nI hn)) rfl d_Ss_window_30 ?_
            refine lv_icmp_le (tgt := 46) hx hb d_Ss_window_33 (by decide) (fun c_6 => ?_) (fun c_6 => ?_)
            · have hok : (0 ≤ u0 ∧ u0 < u1 ∧ u1 ≤ nI wn ∧ 0 ≤ v0 ∧ v0 < v1 ∧ v1 ≤ nI hn) := by simp only [i_lt, i_le] at *; refine ⟨?_, ?_, ?_, ?_, ?_, ?_⟩ <;> omega
              refine lv_aload_n hx hb d_Ss_window_46 rfl (lv_at hl 0 rfl) ?_
              refine gs_get E hK.1 hG hC.1.1 (C := R_Ss) (T := F_Ss) (N := 9) rfl i_Ss 8 (by decide) w_68 (v := .int (nI nw)) rfl d_Ss_window_47 ?_
              refine lv_aload_n hx hb d_Ss_window_50 rfl (lv_at hl 0 rfl) ?_
              refine gs_get E hK.1 hG hC.1.1 (C := R_Ss) (T := F_Ss) (N := 9) rfl i_Ss 3 (by decide) w_63 (v := .ref aW) rfl d_Ss_window_51 ?_
              refine gs_alen E hK.1 hG hC.1.2.2.1 4 rfl (v := 10) rfl d_Ss_window_54 ?_
              refine lv_icmp_lt (tgt := 68) hx hb d_Ss_window_55 (by decide) (fun c_7 => ?_) (fun c_7 => ?_)
              · have h10 : nw < 10 := lt_nI (b := 10) (by have := hC.2.1; omega) (by decide) c_7
                refine lv_aload_n hx hb d_Ss_window_68 rfl (lv_at hl 0 rfl) ?_
                refine gs_get E hK.1 hG hC.1.1 (C := R_Ss) (T := F_Ss) (N := 9) rfl i_Ss 8 (by decide) w_68 (v := .int (nI nw)) rfl d_Ss_window_69 ?_
                refine lv_istore (lv' := [(5, .int (nI nw)), (0, .ref o), (1, .int u0), (2, .int v0), (3, .int u1), (4, .int v1)]) hx hb d_Ss_window_72 hl (by decide) rfl (fun ls hl => ?_)
                refine lv_aload_n hx hb d_Ss_window_74 rfl (lv_at hl 1 rfl) ?_
                refine gs_get E hK.1 hG hC.1.1 (C := R_Ss) (T := F_Ss) (N := 9) rfl i_Ss 3 (by decide) w_63 (v := .ref aW) rfl d_Ss_window_75 ?_
                refine lv_iload hx hb d_Ss_window_78 (lv_at hl 0 rfl) ?_
                refine gs_new E hK.1 hG hS (C := R_Wn) (T := F_Wn) (N := 4) (ci := 2) (fs := [.int 0, .int 0, .int 0, .int 0]) rfl i_Wn t_Wn t_Wn_ok w_23 w_273 w_11 (fun j hj => by rcases (show j = 0 ∨ j = 1 ∨ j = 2 ∨ j = 3 by omega) with rfl | rfl | rfl | rfl <;> rfl) (by exact Nat.le_of_ble_eq_true rfl) (by exact Nat.le_of_ble_eq_true rfl) d_Ss_window_80 (fun H_9 hG9 hS9 => ?_)
                have hfq_8 : G s.heap.size = none := hG.fresh
                obtain ⟨q_8, eq_8⟩ : ∃ z : Nat, z = s.heap.size := ⟨_, rfl⟩
                rw [← eq_8] at hG9 hfq_8 ⊢
                obtain ⟨G_10, eG_10⟩ : ∃ z, z = gs_u G q_8 (.inr (2, [.int 0, .int 0, .int 0, .int 0])) := ⟨_, rfl⟩
                have hG : gs_W D classes zb G_10 H_9 := by rw [eG_10]; exact hG9
                have hS := hS9
                have hc_11 : G_10 o = some (.inr (3, [.int (nI wn), .int (nI hn), .ref aB, .ref aW, .ref aH, .ref aS, .ref aT, .int (nI nb), .int (nI nw)])) := by rw [eG_10]; exact gs_keepN hC.1.1 hfq_8
                have hc_12 : G_10 aW = some (aRef (k 4) 10 (upTo nw wa)) := by rw [eG_10]; exact gs_keepN hC.1.2.2.1 hfq_8
                have hc_13 : G_10 q_8 = some (.inr (2, [.int 0, .int 0, .int 0, .int 0])) := by rw [eG_10]; exact gs_us _ _ _
                refine W.eq (g2 := F0 m 83 ls [.ref q_8, .int (nI nw), .ref aW]) rfl ?_
                refine lv_dup hx hb d_Ss_window_83 rfl ?_
                refine lv_iload_n hx hb d_Ss_window_84 rfl (lv_at hl 2 rfl) ?_
                refine lv_iload_n hx hb d_Ss_window_85 rfl (lv_at hl 3 rfl) ?_
                refine lv_iload_n hx hb d_Ss_window_86 rfl (lv_at hl 4 rfl) ?_
                refine lv_iload hx hb d_Ss_window_87 (lv_at hl 5 rfl) ?_
                refine gs_I (As := [.int u0, .int v0, .int u1, .int v1]) (rest := [.ref q_8, .int (nI nw), .ref aW]) (k_Wn_init l D k zb G_10 q_8 u0 v0 u1 v1 hc_13) E hml hl.1 (cg_I hw w_276 w_274 w_11 w_275 rfl hd_Wn_init ⟨by exact Nat.le_of_ble_eq_true rfl, by exact Nat.le_of_ble_eq_true rfl⟩) hG hK hX hS rfl rfl (by exact Nat.le_of_ble_eq_true rfl) d_Ss_window_89 ⟨by exact Nat.le_of_ble_eq_true rfl, by exact Nat.le_of_ble_eq_true rfl⟩ (fun v G1 H locs hp hG hS => ?_)
                obtain ⟨hv1, hG1⟩ := hp
                subst hv1
                rw [hG1] at hG
                obtain ⟨G_14, eG_14⟩ : ∃ z, z = gs_u G_10 q_8 (.inr (2, [.int u0, .int v0, .int u1, .int v1])) := ⟨_, rfl⟩
                have hG : gs_W D classes zb G_14 H := by rw [eG_14]; exact hG
                have hc_15 : G_14 o = some (.inr (3, [.int (nI wn), .int (nI hn), .ref aB, .ref aW, .ref aH, .ref aS, .ref aT, .int (nI nb), .int (nI nw)])) := by rw [eG_14]; exact gs_keep hc_11 hc_13 (by simp)
                have hc_16 : G_14 aW = some (aRef (k 4) 10 (upTo nw wa)) := by rw [eG_14]; exact gs_keep hc_12 hc_13 (by simp)
                have hc_17 : G_14 q_8 = some (.inr (2, [.int u0, .int v0, .int u1, .int v1])) := by rw [eG_14]; exact gs_us _ _ _
                refine W.eq (g2 := F0 m 92 ls [.ref q_8, .int (nI nw), .ref aW]) rfl ?_
                refine gn_astq E hK.1 hG hS hc_16 4 (r := (R_Wn, F_Wn, 4)) rfl hc_17 rfl (j := nw) h10 (by decide) d_Ss_window_92 (fun H locs hG hS => ?_)
                obtain ⟨G_18, eG_18⟩ : ∃ z, z = gs_u G_14 aW (aRef (k 4) 10 (va_up (upTo nw wa) nw (some q_8))) := ⟨_, rfl⟩
                have hG : gs_W D classes zb G_18 H := by rw [eG_18]; exact hG
                have hc_19 : G_18 o = some (.inr (3, [.int (nI wn), .int (nI hn), .ref aB, .ref aW, .ref aH, .ref aS, .ref aT, .int (nI nb), .int (nI nw)])) := by rw [eG_18]; exact gs_keep hc_15 hc_16 (by simp)
                have hc_20 : G_18 q_8 = some (.inr (2, [.int u0, .int v0, .int u1, .int v1])) := by rw [eG_18]; exact gs_keep hc_17 hc_16 (by simp)
                have hc_21 : G_18 aW = some (aRef (k 4) 10 (va_up (upTo nw wa) nw (some q_8))) := by rw [eG_18]; exact gs_us _ _ _
                refine lv_aload_n hx hb d_Ss_window_93 rfl (lv_at hl 1 rfl) ?_
                refine lv_iload hx hb d_Ss_window_94 (lv_at hl 0 rfl) ?_
                refine lv_iconst (v := 1) hx hb d_Ss_window_96 (by decide) ?_
                refine lv_iadd hx hb d_Ss_window_97 ?_
                refine lv_topi (fun v_22 ev_22 => ?_)
                refine gs_put E hK.1 hG hS hc_19 (C := R_Ss) (T := F_Ss) (N := 9) rfl i_Ss t_Ss t_Ss_ok n_Ss 8 (by decide) w_68 rfl (v := .int v_22) rfl rfl (Nat.le_of_ble_eq_true rfl) d_Ss_window_98 (fun H locs hG hS => ?_)
                obtain ⟨G_23, eG_23⟩ : ∃ z, z = gs_u G_18 o (.inr (3, [.int (nI wn), .int (nI hn), .ref aB, .ref aW, .ref aH, .ref aS, .ref aT, .int (nI nb), .int v_22])) := ⟨_, rfl⟩
                have hG : gs_W D classes zb G_23 H := by rw [eG_23]; exact hG
                have hc_24 : G_23 aW = some (aRef (k 4) 10 (va_up (upTo nw wa) nw (some q_8))) := by rw [eG_23]; exact gs_keep hc_21 hc_19 (by simp)
                have hc_25 : G_23 q_8 = some (.inr (2, [.int u0, .int v0, .int u1, .int v1])) := by rw [eG_23]; exact gs_keep hc_20 hc_19 (by simp)
                have hc_26 : G_23 o = some (.inr (3, [.int (nI wn), .int (nI hn), .ref aB, .ref aW, .ref aH, .ref aS, .ref aT, .int (nI nb), .int v_22])) := by rw [eG_23]; exact gs_us _ _ _
                refine lv_iload hx hb d_Ss_window_101 (lv_at hl 0 rfl) ?_
                refine W.widen (k := 1) (n := 6) (by decide) (by decide) ?_
                refine vx_ret ?_
                refine W.iret (v := (nI nw)) hx hb hr (gs_end ⟨q_8, h10, hok, hfq_8, rfl, ?_⟩ hG hS) hS.2.2 d_Ss_window_103
                subst ev_22
                simp only [eG_23, eG_18, eG_14, eG_10, gs_uu, nI_1]
              · have h10 : ¬ nw < 10 := nlt_nI (b := 10) (by decide) c_7
                exact gs_throwIS (text := "there are 10 windows") hnt E hG hK hX hS ht (hl.1.trans hml.symm) w_170 w_10 (by decide) (Or.inr ⟨rfl, hok, h10⟩) d_Ss_window_58 d_Ss_window_61 d_Ss_window_62 d_Ss_window_64 d_Ss_window_67 (by exact Nat.le_of_ble_eq_true rfl) (by exact Nat.le_of_ble_eq_true rfl) (by exact Nat.le_of_ble_eq_true rfl) (by exact Nat.le_of_ble_eq_true rfl) hlocks (by decide) (by decide)
            · exact gs_throwIA (text := "not a window within the wall") hnt E hG hK hX hS ht (hl.1.trans hml.symm) w_103 w_9 (by decide) (Or.inl ⟨rfl, fun q => absurd q (by simp only [i_lt, i_le] at *; omega)⟩) d_Ss_window_36 d_Ss_window_39 d_Ss_window_40 d_Ss_window_42 d_Ss_window_45 (by exact Nat.le_of_ble_eq_true rfl) (by exact Nat.le_of_ble_eq_true rfl) (by exact Nat.le_of_ble_eq_true rfl) (by exact Nat.le_of_ble_eq_true rfl) hlocks (by decide) (by decide)
set_option maxHeartbeats 4000000 in
set_option maxRecDepth 100000 in
theorem k_Wn_ledgeOf (l : Launch) (D : va_G) (k : Nat → ClassId) (zb : Nat) (G : Nat → Option va_E) (a2 : Nat) (u0 v0 u1 v1 : Int32) (d : Int32) (hb2 : G a2 = some (.inr (2, [.int u0, .int v0, .int u1, .int v1]))) : Met l y_Wn_ledgeOf (wM y_Wn_ledgeOf c_Wn_ledgeOf 2 (some (.object "SunShadows$Box"))) ({ frames := 2, cells := 1, slots := 7, locals := 46 }) (gs_P D k zb G [.ref a2, .int d]) (gs_Q D zb (fun v G1 => ∃ q : Nat, G q = none ∧ v = some (.ref q) ∧ G1 = gs_u G q (.inr (0, [.int u0, .int v1, .int 0, .int u1, .int (v1 + 1), .int d, .int 1])))) 1 7 (fun q : Nat => zb ≤ q) := by
  refine Met.ofW (cc := c_Wn_ledgeOf) (maxL := 2) (ret := (some (.object "SunShadows$Box"))) (by decide) rfl ?_
  intro p e s m args below meth c s₁ B hml hv
  obtain ⟨rfl, hG, hK, hX⟩ := hv
  have hx := B.exec
  have hb := B.bytes
  have hr := B.returns
  have hts := atoms_spec (ws := wM y_Wn_ledgeOf c_Wn_ledgeOf 2 (some (.object "SunShadows$Box"))) B.pre
  have hw : ∀ w9 ∈ wW, w9.before ([.ref a2, .int d] : List Value).toArray s = true := fun w9 h9 => hts w9 (gi_in w9 h9)
  have hown : s.vm.findClass R_Wn = some m.cls := findClass_of_methodNamed B.named
  have hlocks := B.notSynchronized
  have E : gs_E p s m ([.ref a2, .int d] : List Value).toArray c c_Wn_ledgeOf wW R_Wn := ⟨hx, hb, hw, hown⟩
  have hS : gs_S zb s.heap s.heap [] := va_S.rf
  have hl := lv_entry ([.ref a2, .int d]) (n := 2) (Nat.le_of_ble_eq_true rfl)
  rw [lg_entry_eq]
  generalize (lg_sl ([.ref a2, .int d]) ++ List.replicate (2 - (lg_sl ([.ref a2, .int d])).length) Slot.unset).toArray = ls at hl ⊢
  have hl : lv_has ls 2 [(0, .ref a2), (1, .int d)] := hl
  refine gs_new E hK.1 hG hS (C := R_Bx) (T := F_Bx) (N := 7) (ci := 0) (fs := [.int 0, .int 0, .int 0, .int 0, .int 0, .int 0, .int 0]) rfl i_Bx t_Bx t_Bx_ok w_427 w_186 w_5 (fun j hj => by rcases (show j = 0 ∨ j = 1 ∨ j = 2 ∨ j = 3 ∨ j = 4 ∨ j = 5 ∨ j = 6 by omega) with rfl | rfl | rfl | rfl | rfl | rfl | rfl <;> rfl) (by exact Nat.le_of_ble_eq_true rfl) (by exact Nat.le_of_ble_eq_true rfl) d_Wn_ledgeOf_0 (fun H_2 hG9 hS9 => ?_)
  have hfq_1 : G s.heap.size = none := hG.fresh
  obtain ⟨q_1, eq_1⟩ : ∃ z : Nat, z = s.heap.size := ⟨_, rfl⟩
  rw [← eq_1] at hG9 hfq_1 ⊢
  obtain ⟨G_3, eG_3⟩ : ∃ z, z = gs_u G q_1 (.inr (0, [.int 0, .int 0, .int 0, .int 0, .int 0, .int 0, .int 0])) := ⟨_, rfl⟩
  have hG : gs_W D classes zb G_3 H_2 := by rw [eG_3]; exact hG9
  have hS := hS9
  have hc_4 : G_3 a2 = some (.inr (2, [.int u0, .int v0, .int u1, .int v1])) := by rw [eG_3]; exact gs_keepN hb2 hfq_1
  have hc_5 : G_3 q_1 = some (.inr (0, [.int 0, .int 0, .int 0, .int 0, .int 0, .int 0, .int 0])) := by rw [eG_3]; exact gs_us _ _ _
  refine W.eq (g2 := F0 m 3 ls [.ref q_1]) rfl ?_
  refine lv_dup hx hb d_Wn_ledgeOf_3 rfl ?_
  refine lv_aload_n hx hb d_Wn_ledgeOf_4 rfl (lv_at hl 0 rfl) ?_
  refine gs_get E hK.1 hG hc_4 (C := R_Wn) (T := F_Wn) (N := 4) rfl i_Wn 0 (by decide) w_278 (v := .int u0) rfl d_Wn_ledgeOf_5 ?_
  refine lv_aload_n hx hb d_Wn_ledgeOf_8 rfl (lv_at hl 0 rfl) ?_
  refine gs_get E hK.1 hG hc_4 (C := R_Wn) (T := F_Wn) (N := 4) rfl i_Wn 3 (by decide) w_282 (v := .int v1) rfl d_Wn_ledgeOf_9 ?_
  refine lv_iconst (v := 0) hx hb d_Wn_ledgeOf_12 (by decide) ?_
  refine lv_aload_n hx hb d_Wn_ledgeOf_13 rfl (lv_at hl 0 rfl) ?_
  refine gs_get E hK.1 hG hc_4 (C := R_Wn) (T := F_Wn) (N := 4) rfl i_Wn 2 (by decide) w_281 (v := .int u1) rfl d_Wn_ledgeOf_14 ?_
  refine lv_aload_n hx hb d_Wn_ledgeOf_17 rfl (lv_at hl 0 rfl) ?_
  refine gs_get E hK.1 hG hc_4 (C := R_Wn) (T := F_Wn) (N := 4) rfl i_Wn 3 (by decide) w_282 (v := .int v1) rfl d_Wn_ledgeOf_18 ?_
  refine lv_iconst (v := 1) hx hb d_Wn_ledgeOf_21 (by decide) ?_
  refine lv_iadd hx hb d_Wn_ledgeOf_22 ?_
  refine lv_iload_n hx hb d_Wn_ledgeOf_23 rfl (lv_at hl 1 rfl) ?_
  refine gs_I (As := [.int u0, .int v1, .int 0, .int u1, .int (v1 + 1), .int d]) (rest := [.ref q_1]) (k_Bx_init l D k zb G_3 q_1 u0 v1 0 u1 (v1 + 1) d hc_5) E hml hl.1 (cg_I hw w_189 w_428 w_5 w_188 rfl hd_Bx_init ⟨by exact Nat.le_of_ble_eq_true rfl, by exact Nat.le_of_ble_eq_true rfl⟩) hG hK hX hS rfl rfl (by exact Nat.le_of_ble_eq_true rfl) d_Wn_ledgeOf_24 ⟨by exact Nat.le_of_ble_eq_true rfl, by exact Nat.le_of_ble_eq_true rfl⟩ (fun v G1 H locs hp hG hS => ?_)
  obtain ⟨hv1, hG1⟩ := hp
  subst hv1
  rw [hG1] at hG
  obtain ⟨G_6, eG_6⟩ : ∃ z, z = gs_u G_3 q_1 (.inr (0, [.int u0, .int v1, .int 0, .int u1, .int (v1 + 1), .int d, .int 1])) := ⟨_, rfl⟩
  have hG : gs_W D classes zb G_6 H := by rw [eG_6]; exact hG
  have hc_7 : G_6 a2 = some (.inr (2, [.int u0, .int v0, .int u1, .int v1])) := by rw [eG_6]; exact gs_keep hc_4 hc_5 (by simp)
  have hc_8 : G_6 q_1 = some (.inr (0, [.int u0, .int v1, .int 0, .int u1, .int (v1 + 1), .int d, .int 1])) := by rw [eG_6]; exact gs_us _ _ _
  refine W.eq (g2 := F0 m 27 ls [.ref q_1]) rfl ?_
  refine W.aret (v := .ref q_1) hx hb hr (Or.inl ⟨_, rfl⟩) (Or.inr ⟨_, rfl⟩) (gs_end ⟨q_1, hfq_1, rfl, ?_⟩ hG hS) hS.2.2 d_Wn_ledgeOf_27
  simp only [eG_6, eG_3, gs_uu]
set_option maxHeartbeats 4000000 in
set_option maxRecDepth 100000 in
theorem k_Ss_ledge (l : Launch) (hnt : l.stackTraces = false) (D : va_G) (k : Nat → ClassId) (zb : Nat) (G : Nat → Option va_E) (o aB aW aH aS aT : Nat) (wn hn nb nw : Nat) (ba wa ha : Nat → Nat) (bf hf : Nat → Nat → Int32) (wf : Nat → Nat → Nat) (sh : Nat → Int64) (tk : Nat → Int32) (q t d : Int32) (hC : sC k G o aB aW aH aS aT wn hn nb nw ba wa ha bf hf wf sh tk) : vx_Met l y_Ss_ledge (wM y_Ss_ledge c_Ss_ledge 5 (some .int)) ({ frames := 8, cells := 4, slots := 25, locals := 134 }) (gs_P D k zb G [.ref o, .int q, .int t, .int d]) (gs_Q D zb (fun v G1 => ∃ i j a : Nat, i < 24 ∧ t = nI i ∧ ¬ jc_hasSun (hf i 2) = 0 ∧ j < nw ∧ q = nI j ∧ ¬ jc_within d 1 100 = 0 ∧ G a = none ∧ v = some (.int (jc_dark nb bf (hf i 0) (hf i 1) (hf i 2) (nI wn) (ld_box 1 (nI (wf j 0)) (nI (wf j 3)) 0 (nI (wf j 2)) (nI (wf j 3) + 1) d (hf i 0) (hf i 1) (hf i 2) (nI wn)) (wf j 0) (wf j 1) (wf j 2) (wf j 3))) ∧ G1 = gs_u G a (.inr (0, [.int (nI (wf j 0)), .int (nI (wf j 3)), .int 0, .int (nI (wf j 2)), .int (nI (wf j 3) + 1), .int d, .int 1])))) (gs_T D zb G (fun E => (E = e_IA ∧ ((¬ ∃ i : Nat, i < nw ∧ q = nI i) ∨ jc_within d 1 100 = 0 ∨ (¬ ∃ i : Nat, i < 24 ∧ t = nI i))) ∨ (E = e_IS ∧ (∃ i : Nat, i < nw ∧ q = nI i) ∧ ¬ jc_within d 1 100 = 0 ∧ (∃ i : Nat, i < 24 ∧ t = nI i ∧ jc_hasSun (hf i 2) = 0)))) 4 25 (fun q : Nat => zb ≤ q) := by
  refine vx_ofW (cc := c_Ss_ledge) (maxL := 5) (ret := (some .int)) (by decide) rfl ?_
  intro p e s m args below meth c s₁ B hml ht hv
  obtain ⟨rfl, hG, hK, hX⟩ := hv
  have hx := B.exec
  have hb := B.bytes
  have hr := B.returns
  have hts := atoms_spec (ws := wM y_Ss_ledge c_Ss_ledge 5 (some .int)) B.pre
  have hw : ∀ w9 ∈ wW, w9.before ([.ref o, .int q, .int t, .int d] : List Value).toArray s = true := fun w9 h9 => hts w9 (gi_in w9 h9)
  have hown : s.vm.findClass R_Ss = some m.cls := findClass_of_methodNamed B.named
  have hlocks := B.notSynchronized
  have E : gs_E p s m ([.ref o, .int q, .int t, .int d] : List Value).toArray c c_Ss_ledge wW R_Ss := ⟨hx, hb, hw, hown⟩
  have hS : gs_S zb s.heap s.heap [] := va_S.rf
  have hl := lv_entry ([.ref o, .int q, .int t, .int d]) (n := 5) (Nat.le_of_ble_eq_true rfl)
  rw [lg_entry_eq]
  generalize (lg_sl ([.ref o, .int q, .int t, .int d]) ++ List.replicate (5 - (lg_sl ([.ref o, .int q, .int t, .int d])).length) Slot.unset).toArray = ls at hl ⊢
  have hl : lv_has ls 5 [(0, .ref o), (1, .int q), (2, .int t), (3, .int d)] := hl
  refine lv_aload_n hx hb d_Ss_ledge_0 rfl (lv_at hl 0 rfl) ?_
  refine lv_iload_n hx hb d_Ss_ledge_1 rfl (lv_at hl 1 rfl) ?_
  refine gs_VX (As := [.int q]) (rest := []) (k_Ss_knownWindow l hnt D k zb G o aB aW aH aS aT wn hn nb nw ba wa ha bf hf wf sh tk q hC) E hml hl.1 (cg_V (C := R_Ss) hw w_371 w_368 w_1 w_370 sel_Ss_knownWindow hd_Ss_knownWindow ⟨by exact Nat.le_of_ble_eq_true rfl, by exact Nat.le_of_ble_eq_true rfl⟩) hG hK hX hS hC.1.1 rfl rfl rfl rfl (by exact Nat.le_of_ble_eq_true rfl) d_Ss_ledge_2 ⟨by exact Nat.le_of_ble_eq_true rfl, by exact Nat.le_of_ble_eq_true rfl⟩ (fun E9 ce q9 H locs hp hG hS hq1 hq2 hq3 => ?_) (fun v G1 H locs hp hG hS => ?_)
  · exact gs_on ht hlocks (Or.inl ⟨hp.1, Or.inl hp.2⟩) hG hS hq1 hq2 hq3 (by decide) (by decide)
  obtain ⟨iw, hiw, eiw, hv1, hG1⟩ := hp
  subst hv1
  rw [hG1] at hG
  refine W.eq (g2 := F0 m 5 ls [.ref (wa iw)]) rfl ?_
  refine lv_astore (lv' := [(4, .ref (wa iw)), (0, .ref o), (1, .int q), (2, .int t), (3, .int d)]) hx hb d_Ss_ledge_5 hl (by decide) rfl (fun ls hl => ?_)
  refine lv_iload_n hx hb d_Ss_ledge_7 rfl (lv_at hl 4 rfl) ?_
  refine lv_iconst (v := 1) hx hb d_Ss_ledge_8 (by decide) ?_
  refine lv_bipush (v := 100) hx hb d_Ss_ledge_9 (by decide) ?_
  refine gs_St (As := [.int d, .int 1, .int 100]) (rest := []) (k_Ss_isWithin l D k zb G d 1 100) E hml hl.1 (cg_S hw w_229 w_227 w_1 w_228 hd_Ss_isWithin ⟨by exact Nat.le_of_ble_eq_true rfl, by exact Nat.le_of_ble_eq_true rfl⟩) hG hK hX hS rfl rfl (by exact Nat.le_of_ble_eq_true rfl) d_Ss_ledge_11 ⟨by exact Nat.le_of_ble_eq_true rfl, by exact Nat.le_of_ble_eq_true rfl⟩ (fun v G1 H locs hp hG hS => ?_)
  obtain ⟨hv1, hG1⟩ := hp
  subst hv1
  rw [hG1] at hG
  refine W.eq (g2 := F0 m 14 ls [.int (jc_within d 1 100)]) rfl ?_
  refine lv_if_ne (tgt := 27) hx hb d_Ss_ledge_14 (by decide) (fun c_1 => ?_) (fun c_1 => ?_)
  · refine lv_aload_n hx hb d_Ss_ledge_27 rfl (lv_at hl 1 rfl) ?_
    refine lv_aload hx hb d_Ss_ledge_28 (lv_at hl 0 rfl) ?_
    refine lv_aload_n hx hb d_Ss_ledge_30 rfl (lv_at hl 1 rfl) ?_
    refine lv_iload_n hx hb d_Ss_ledge_31 rfl (lv_at hl 3 rfl) ?_
    refine gs_VX (As := [.int t]) (rest := [.ref (wa iw), .ref o]) (k_Ss_sunnyHour l hnt D k zb G o aB aW aH aS aT wn hn nb nw ba wa ha bf hf wf sh tk t hC) E hml hl.1 (cg_V (C := R_Ss) hw w_304 w_301 w_1 w_303 sel_Ss_sunnyHour hd_Ss_sunnyHour ⟨by exact Nat.le_of_ble_eq_true rfl, by exact Nat.le_of_ble_eq_true rfl⟩) hG hK hX hS hC.1.1 rfl rfl rfl rfl (by exact Nat.le_of_ble_eq_true rfl) d_Ss_ledge_32 ⟨by exact Nat.le_of_ble_eq_true rfl, by exact Nat.le_of_ble_eq_true rfl⟩ (fun E9 ce q9 H locs hp hG hS hq1 hq2 hq3 => ?_) (fun v G1 H locs hp hG hS => ?_)
    · exact gs_on ht hlocks (hp.elim (fun q => Or.inl ⟨q.1, Or.inr (Or.inr q.2)⟩) (fun q => Or.inr ⟨q.1, ⟨iw, hiw, eiw⟩, c_1, q.2⟩)) hG hS hq1 hq2 hq3 (by decide) (by decide)
    obtain ⟨ih, hih, eih, hsun, hv1, hG1⟩ := hp
    subst hv1
    rw [hG1] at hG
    refine W.eq (g2 := F0 m 35 ls [.ref (ha ih), .ref (wa iw), .ref o]) rfl ?_
    refine lv_aload hx hb d_Ss_ledge_35 (lv_at hl 0 rfl) ?_
    refine lv_iload_n hx hb d_Ss_ledge_37 rfl (lv_at hl 4 rfl) ?_
    refine gs_V (As := [.int d]) (rest := [.ref (ha ih), .ref (wa iw), .ref o]) (k_Wn_ledgeOf l D k zb G (wa iw) (nI (wf iw 0)) (nI (wf iw 1)) (nI (wf iw 2)) (nI (wf iw 3)) d (hC.2.2.2.1 iw hiw)) E hml hl.1 (cg_V (C := R_Wn) hw w_426 w_423 w_11 w_424 sel_Wn_ledgeOf hd_Wn_ledgeOf ⟨by exact Nat.le_of_ble_eq_true rfl, by exact Nat.le_of_ble_eq_true rfl⟩) hG hK hX hS (hC.2.2.2.1 iw hiw) rfl rfl rfl rfl (by exact Nat.le_of_ble_eq_true rfl) d_Ss_ledge_38 ⟨by exact Nat.le_of_ble_eq_true rfl, by exact Nat.le_of_ble_eq_true rfl⟩ (fun v G1 H locs hp hG hS => ?_)
    obtain ⟨q_2, hfq_2, hv1, hG1⟩ := hp
    subst hv1
    obtain ⟨G_3, eG_3⟩ : ∃ z, z = gs_u G q_2 (.inr (0, [.int (nI (wf iw 0)), .int (nI (wf iw 3)), .int 0, .int (nI (wf iw 2)), .int ((nI (wf iw 3)) + 1), .int d, .int 1])) := ⟨_, rfl⟩
    rw [hG1, ← eG_3] at hG
    have hc_4 : G_3 o = some (.inr (3, [.int (nI wn), .int (nI hn), .ref aB, .ref aW, .ref aH, .ref aS, .ref aT, .int (nI nb), .int (nI nw)])) := by rw [eG_3]; exact gs_keepN hC.1.1 hfq_2
    have hc_5 : G_3 (wa iw) = some (.inr (2, [.int (nI (wf iw 0)), .int (nI (wf iw 1)), .int (nI (wf iw 2)), .int (nI (wf iw 3))])) := by rw [eG_3]; exact gs_keepN (hC.2.2.2.1 iw hiw) hfq_2
    have hc_6 : G_3 (ha ih) = some (.inr (1, [.int (hf ih 0), .int (hf ih 1), .int (hf ih 2), .int (hf ih 3)])) := by rw [eG_3]; exact gs_keepN (hC.2.2.2.2.1 ih hih) hfq_2
    have hc_7 : G_3 q_2 = some (.inr (0, [.int (nI (wf iw 0)), .int (nI (wf iw 3)), .int 0, .int (nI (wf iw 2)), .int ((nI (wf iw 3)) + 1), .int d, .int 1])) := by rw [eG_3]; exact gs_us _ _ _
    have hC : sC k G_3 o aB aW aH aS aT wn hn nb nw ba wa ha bf hf wf sh tk := by rw [eG_3]; exact sC_at hC hfq_2
    refine W.eq (g2 := F0 m 41 ls [.ref q_2, .ref (ha ih), .ref (wa iw), .ref o]) rfl ?_
    refine gs_V (As := [.ref (wa iw), .ref (ha ih), .ref q_2]) (rest := []) (k_dark1 l D k zb G_3 o aB aW aH aS aT wn hn nb nw ba wa ha bf hf wf sh tk (wa iw) (wf iw 0) (wf iw 1) (wf iw 2) (wf iw 3) (ha ih) (hf ih 0) (hf ih 1) (hf ih 2) (hf ih 3) q_2 (nI (wf iw 0)) (nI (wf iw 3)) 0 (nI (wf iw 2)) ((nI (wf iw 3)) + 1) d 1 hC hc_5 (Nat.le_of_lt (hC.2.2.2.2.2.2.2 iw hiw).2.2.1) (Nat.le_trans (hC.2.2.2.2.2.2.2 iw hiw).2.2.2 hC.2.1.2.2.2.2.2) hc_6 hc_7) E hml hl.1 (cg_V (C := R_Ss) hw w_376 w_373 w_1 w_375 sel_Ss_darkCells hd_Ss_darkCells ⟨by exact Nat.le_of_ble_eq_true rfl, by exact Nat.le_of_ble_eq_true rfl⟩) hG hK hX hS hc_4 rfl rfl rfl rfl (by exact Nat.le_of_ble_eq_true rfl) d_Ss_ledge_41 ⟨by exact Nat.le_of_ble_eq_true rfl, by exact Nat.le_of_ble_eq_true rfl⟩ (fun v G1 H locs hp hG hS => ?_)
    obtain ⟨hv1, hG1⟩ := hp
    subst hv1
    rw [hG1] at hG
    refine W.eq (g2 := F0 m 44 ls [.int (jc_dark nb bf (hf ih 0) (hf ih 1) (hf ih 2) (nI wn) (ld_box 1 (nI (wf iw 0)) (nI (wf iw 3)) 0 (nI (wf iw 2)) ((nI (wf iw 3)) + 1) d (hf ih 0) (hf ih 1) (hf ih 2) (nI wn)) (wf iw 0) (wf iw 1) (wf iw 2) (wf iw 3))]) rfl ?_
    refine vx_ret ?_
    refine W.iret (v := (jc_dark nb bf (hf ih 0) (hf ih 1) (hf ih 2) (nI wn) (ld_box 1 (nI (wf iw 0)) (nI (wf iw 3)) 0 (nI (wf iw 2)) ((nI (wf iw 3)) + 1) d (hf ih 0) (hf ih 1) (hf ih 2) (nI wn)) (wf iw 0) (wf iw 1) (wf iw 2) (wf iw 3))) hx hb hr (gs_end ⟨ih, iw, q_2, hih, eih, hsun, hiw, eiw, c_1, hfq_2, rfl, ?_⟩ hG hS) hS.2.2 d_Ss_ledge_44
    simp only [eG_3, gs_uu]
  · exact gs_throwIA (text := "a ledge is 1 .. 100 deep") hnt E hG hK hX hS ht (hl.1.trans hml.symm) w_103 w_9 (by decide) (Or.inl ⟨rfl, Or.inr (Or.inl c_1)⟩) d_Ss_ledge_17 d_Ss_ledge_20 d_Ss_ledge_21 d_Ss_ledge_23 d_Ss_ledge_26 (by exact Nat.le_of_ble_eq_true rfl) (by exact Nat.le_of_ble_eq_true rfl) (by exact Nat.le_of_ble_eq_true rfl) (by exact Nat.le_of_ble_eq_true rfl) hlocks (by decide) (by decide)
