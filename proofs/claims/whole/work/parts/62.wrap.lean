/-! the law's wrappers, by program -/
set_option maxHeartbeats 4000000 in
set_option maxRecDepth 100000 in
theorem k_Lw_box (l : Launch) (hnt : l.stackTraces = false) (D : va_G) (k : Nat → ClassId) (zb : Nat) (G : Nat → Option va_E) (o aB aW aH aS aT : Nat) (wn hn nb nw : Nat) (ba wa ha : Nat → Nat) (bf hf : Nat → Nat → Int32) (wf : Nat → Nat → Nat) (sh : Nat → Int64) (tk : Nat → Int32) (out : Nat) (ou : Nat → Int64) (x0 y0 z0 x1 y1 z1 : Int32) (hC : sC k G o aB aW aH aS aT wn hn nb nw ba wa ha bf hf wf sh tk) (ho : G out = some (aLong (k 1) 1 ou)) : Met l y_Lw_box (wMW y_Lw_box c_Lw_box 9 (some .int) [(0, 18, 21, 13), (0, 18, 25, 15)]) ({ frames := 7, cells := 1, slots := 7, locals := 117 }) (gs_P D k zb G [.ref o, .int x0, .int y0, .int z0, .int x1, .int y1, .int z1, .ref out]) (gs_Q D zb (fun v G1 => wr_post (pc_box k G o aB aW aH aS aT wn hn nb nw ba wa ha bf hf wf sh tk x0 y0 z0 x1 y1 z1) (tc_box k G o aB aW aH aS aT wn hn nb nw ba wa ha bf hf wf sh tk x0 y0 z0 x1 y1 z1) k G out ou f_i v G1)) 1 7 (fun q : Nat => zb ≤ q) := by
  refine va_MetW (cc := c_Lw_box) (maxL := 9) (ret := (some .int)) (hh := [(0, 18, 21, 13), (0, 18, 25, 15)]) (by decide) rfl ?_
  intro p e s m args below meth c s₁ B hml hv
  obtain ⟨rfl, hG, hK, hX⟩ := hv
  have hx := B.exec
  have hb := B.bytes
  have hr := B.returns
  have hts := atoms_spec (ws := wMW y_Lw_box c_Lw_box 9 (some .int) [(0, 18, 21, 13), (0, 18, 25, 15)]) B.pre
  have hw : ∀ w9 ∈ wW, w9.before ([.ref o, .int x0, .int y0, .int z0, .int x1, .int y1, .int z1, .ref out] : List Value).toArray s = true := fun w9 h9 => hts w9 (gi_in w9 h9)
  have hown : s.vm.findClass R_Lw = some m.cls := findClass_of_methodNamed B.named
  have hlocks := B.notSynchronized
  have E : gs_E p s m ([.ref o, .int x0, .int y0, .int z0, .int x1, .int y1, .int z1, .ref out] : List Value).toArray c c_Lw_box wW R_Lw := ⟨hx, hb, hw, hown⟩
  have hS : gs_S zb s.heap s.heap [] := va_S.rf
  have hl := lv_entry ([.ref o, .int x0, .int y0, .int z0, .int x1, .int y1, .int z1, .ref out]) (n := 9) (Nat.le_of_ble_eq_true rfl)
  rw [lg_entry_eq]
  generalize (lg_sl ([.ref o, .int x0, .int y0, .int z0, .int x1, .int y1, .int z1, .ref out]) ++ List.replicate (9 - (lg_sl ([.ref o, .int x0, .int y0, .int z0, .int x1, .int y1, .int z1, .ref out])).length) Slot.unset).toArray = ls at hl ⊢
  have hl : lv_has ls 9 [(0, .ref o), (1, .int x0), (2, .int y0), (3, .int z0), (4, .int x1), (5, .int y1), (6, .int z1), (7, .ref out)] := hl
  have htab : c.exceptionTable.toList = tableOf [(0, 18, 21, 13), (0, 18, 25, 15)] := vx_table (x := y_Lw_box) B (hts _ List.mem_cons_self)
  refine lv_aload hx hb d_Lw_box_0 (lv_at hl 7 rfl) ?_
  refine lv_iconst (v := 0) hx hb d_Lw_box_2 (by decide) ?_
  refine lv_aload_n hx hb d_Lw_box_3 rfl (lv_at hl 0 rfl) ?_
  refine lv_iload_n hx hb d_Lw_box_4 rfl (lv_at hl 1 rfl) ?_
  refine lv_iload_n hx hb d_Lw_box_5 rfl (lv_at hl 2 rfl) ?_
  refine lv_iload_n hx hb d_Lw_box_6 rfl (lv_at hl 3 rfl) ?_
  refine lv_iload hx hb d_Lw_box_7 (lv_at hl 4 rfl) ?_
  refine lv_iload hx hb d_Lw_box_9 (lv_at hl 5 rfl) ?_
  refine lv_iload hx hb d_Lw_box_11 (lv_at hl 6 rfl) ?_
  refine gs_VX (As := [.int x0, .int y0, .int z0, .int x1, .int y1, .int z1]) (rest := [.int 0, .ref out]) (k_Ss_box l hnt D k zb G o aB aW aH aS aT wn hn nb nw ba wa ha bf hf wf sh tk x0 y0 z0 x1 y1 z1 hC) E hml hl.1 (cg_V (C := R_Ss) hw w_99 w_96 w_1 w_97 sel_Ss_box hd_Ss_box ⟨by exact Nat.le_of_ble_eq_true rfl, by exact Nat.le_of_ble_eq_true rfl⟩) hG hK hX hS hC.1.1 rfl rfl rfl rfl (by exact Nat.le_of_ble_eq_true rfl) d_Lw_box_13 ⟨by exact Nat.le_of_ble_eq_true rfl, by exact Nat.le_of_ble_eq_true rfl⟩ (fun E9 ce q9 H locs hp hG hS hq1 hq2 hq3 => ?_) (fun v G1 H locs hp hG hS => ?_)
  · have hE : E9 = e_IA ∨ E9 = e_IS := hp.elim (fun q => Or.inl q.1) (fun q => Or.inr q.1)
    rcases hE with rfl | rfl
    · refine vx_catch hown [] ⟨0, 18, 21, 13⟩ [⟨0, 18, 25, 15⟩] (htab.trans rfl) (fun z hz => absurd hz List.not_mem_nil) rfl (by decide) (name := e_IA) (hw _ w_94) (va_Nw.use rfl hK.2.2.2.1.1) hq1 hq2 hq3 ?_
      refine W.eq (g2 := F0 m 21 ls [.ref q9]) rfl ?_
      refine lv_astore (lv' := [(8, .ref q9), (0, .ref o), (1, .int x0), (2, .int y0), (3, .int z0), (4, .int x1), (5, .int y1), (6, .int z1), (7, .ref out)]) hx hb d_Lw_box_21 hl (by decide) rfl (fun ls hl => ?_)
      refine lv_iconst (v := 1) hx hb d_Lw_box_23 (by decide) ?_
      exact W.iret (v := 1) hx hb hr (gs_end (Or.inr (Or.inl ⟨hp, rfl, rfl⟩)) hG hS) hS.2.2 d_Lw_box_24
    · refine vx_catch hown [⟨0, 18, 21, 13⟩] ⟨0, 18, 25, 15⟩ [] (htab.trans rfl) (fun z hz => Or.inr (by rw [List.mem_singleton.mp hz]; exact ⟨by decide, e_IA, hw _ w_94, hK.2.2.2.1.2.2⟩)) rfl (by decide) (name := e_IS) (hw _ w_95) (va_Nw.use rfl hK.2.2.2.1.2.1) hq1 hq2 hq3 ?_
      refine W.eq (g2 := F0 m 25 ls [.ref q9]) rfl ?_
      refine lv_astore (lv' := [(8, .ref q9), (0, .ref o), (1, .int x0), (2, .int y0), (3, .int z0), (4, .int x1), (5, .int y1), (6, .int z1), (7, .ref out)]) hx hb d_Lw_box_25 hl (by decide) rfl (fun ls hl => ?_)
      refine lv_iconst (v := 2) hx hb d_Lw_box_27 (by decide) ?_
      exact W.iret (v := 2) hx hb hr (gs_end (Or.inr (Or.inr ⟨hp, rfl, rfl⟩)) hG hS) hS.2.2 d_Lw_box_28
  obtain ⟨⟨v0, hv0⟩, ho1⟩ := po_box hC ho hp
  subst hv0
  refine W.eq (g2 := F0 m 16 ls [.int v0, .int 0, .ref out]) rfl ?_
  refine lv_i2l hx hb d_Lw_box_16 rfl ?_
  refine lv_topl (fun v_1 ev_1 => ?_)
  refine gn_last E hK.1 hG hS ho1 1 rfl (j := 0) (by decide) (by decide) d_Lw_box_17 (fun H locs hG hS => ?_)
  obtain ⟨G_2, eG_2⟩ : ∃ z, z = gs_u G1 out (aLong (k 1) 1 (vp_updL ou 0 v_1)) := ⟨_, rfl⟩
  have hG : gs_W D classes zb G_2 H := by rw [eG_2]; exact hG
  have hc_3 : G_2 out = some (aLong (k 1) 1 (vp_updL ou 0 v_1)) := by rw [eG_2]; exact gs_us _ _ _
  refine lv_goto (tgt := 29) hx hb d_Lw_box_18 (by decide) ?_
  refine lv_iconst (v := 0) hx hb d_Lw_box_29 (by decide) ?_
  exact W.iret (v := 0) hx hb hr (gs_end (Or.inl ⟨v0, G1, hp, rfl, by rw [eG_2, ev_1]; rfl⟩) hG hS) hS.2.2 d_Lw_box_30
set_option maxHeartbeats 4000000 in
set_option maxRecDepth 100000 in
theorem k_Lw_move (l : Launch) (hnt : l.stackTraces = false) (D : va_G) (k : Nat → ClassId) (zb : Nat) (G : Nat → Option va_E) (o aB aW aH aS aT : Nat) (wn hn nb nw : Nat) (ba wa ha : Nat → Nat) (bf hf : Nat → Nat → Int32) (wf : Nat → Nat → Nat) (sh : Nat → Int64) (tk : Nat → Int32) (out : Nat) (ou : Nat → Int64) (b d1 d2 d3 : Int32) (hC : sC k G o aB aW aH aS aT wn hn nb nw ba wa ha bf hf wf sh tk) (ho : G out = some (aLong (k 1) 1 ou)) : Met l y_Lw_move (wMW y_Lw_move c_Lw_move 7 (some .int) [(0, 21, 24, 13)]) ({ frames := 8, cells := 2, slots := 12, locals := 137 }) (gs_P D k zb G [.ref o, .int b, .int d1, .int d2, .int d3, .ref out]) (gs_Q D zb (fun v G1 => wr_post (pc_move k G o aB aW aH aS aT wn hn nb nw ba wa ha bf hf wf sh tk b d1 d2 d3) (tc_move k G o aB aW aH aS aT wn hn nb nw ba wa ha bf hf wf sh tk b d1 d2 d3) k G out ou f_z v G1)) 2 12 (fun q : Nat => zb ≤ q) := by
  refine va_MetW (cc := c_Lw_move) (maxL := 7) (ret := (some .int)) (hh := [(0, 21, 24, 13)]) (by decide) rfl ?_
  intro p e s m args below meth c s₁ B hml hv
  obtain ⟨rfl, hG, hK, hX⟩ := hv
  have hx := B.exec
  have hb := B.bytes
  have hr := B.returns
  have hts := atoms_spec (ws := wMW y_Lw_move c_Lw_move 7 (some .int) [(0, 21, 24, 13)]) B.pre
  have hw : ∀ w9 ∈ wW, w9.before ([.ref o, .int b, .int d1, .int d2, .int d3, .ref out] : List Value).toArray s = true := fun w9 h9 => hts w9 (gi_in w9 h9)
  have hown : s.vm.findClass R_Lw = some m.cls := findClass_of_methodNamed B.named
  have hlocks := B.notSynchronized
  have E : gs_E p s m ([.ref o, .int b, .int d1, .int d2, .int d3, .ref out] : List Value).toArray c c_Lw_move wW R_Lw := ⟨hx, hb, hw, hown⟩
  have hS : gs_S zb s.heap s.heap [] := va_S.rf
  have hl := lv_entry ([.ref o, .int b, .int d1, .int d2, .int d3, .ref out]) (n := 7) (Nat.le_of_ble_eq_true rfl)
  rw [lg_entry_eq]
  generalize (lg_sl ([.ref o, .int b, .int d1, .int d2, .int d3, .ref out]) ++ List.replicate (7 - (lg_sl ([.ref o, .int b, .int d1, .int d2, .int d3, .ref out])).length) Slot.unset).toArray = ls at hl ⊢
  have hl : lv_has ls 7 [(0, .ref o), (1, .int b), (2, .int d1), (3, .int d2), (4, .int d3), (5, .ref out)] := hl
  have htab : c.exceptionTable.toList = tableOf [(0, 21, 24, 13)] := vx_table (x := y_Lw_move) B (hts _ List.mem_cons_self)
  refine lv_aload hx hb d_Lw_move_0 (lv_at hl 5 rfl) ?_
  refine lv_iconst (v := 0) hx hb d_Lw_move_2 (by decide) ?_
  refine lv_aload_n hx hb d_Lw_move_3 rfl (lv_at hl 0 rfl) ?_
  refine lv_iload_n hx hb d_Lw_move_4 rfl (lv_at hl 1 rfl) ?_
  refine lv_iload_n hx hb d_Lw_move_5 rfl (lv_at hl 2 rfl) ?_
  refine lv_iload_n hx hb d_Lw_move_6 rfl (lv_at hl 3 rfl) ?_
  refine lv_iload hx hb d_Lw_move_7 (lv_at hl 4 rfl) ?_
  refine gs_VX (As := [.int b, .int d1, .int d2, .int d3]) (rest := [.int 0, .ref out]) (k_Ss_move l hnt D k zb G o aB aW aH aS aT wn hn nb nw ba wa ha bf hf wf sh tk b d1 d2 d3 hC) E hml hl.1 (cg_V (C := R_Ss) hw w_221 w_218 w_1 w_219 sel_Ss_move hd_Ss_move ⟨by exact Nat.le_of_ble_eq_true rfl, by exact Nat.le_of_ble_eq_true rfl⟩) hG hK hX hS hC.1.1 rfl rfl rfl rfl (by exact Nat.le_of_ble_eq_true rfl) d_Lw_move_9 ⟨by exact Nat.le_of_ble_eq_true rfl, by exact Nat.le_of_ble_eq_true rfl⟩ (fun E9 ce q9 H locs hp hG hS hq1 hq2 hq3 => ?_) (fun v G1 H locs hp hG hS => ?_)
  · have hE : E9 = e_IA := hp.1
    subst hE
    refine vx_catch hown [] ⟨0, 21, 24, 13⟩ [] (htab.trans rfl) (fun z hz => absurd hz List.not_mem_nil) rfl (by decide) (name := e_IA) (hw _ w_94) (va_Nw.use rfl hK.2.2.2.1.1) hq1 hq2 hq3 ?_
    refine W.eq (g2 := F0 m 24 ls [.ref q9]) rfl ?_
    refine lv_astore (lv' := [(6, .ref q9), (0, .ref o), (1, .int b), (2, .int d1), (3, .int d2), (4, .int d3), (5, .ref out)]) hx hb d_Lw_move_24 hl (by decide) rfl (fun ls hl => ?_)
    refine lv_iconst (v := 1) hx hb d_Lw_move_26 (by decide) ?_
    exact W.iret (v := 1) hx hb hr (gs_end (Or.inr (Or.inl ⟨hp, rfl, rfl⟩)) hG hS) hS.2.2 d_Lw_move_27
  obtain ⟨⟨v0, hv0⟩, ho1⟩ := po_move hC ho hp
  subst hv0
  refine W.eq (g2 := F0 m 12 ls [.int v0, .int 0, .ref out]) rfl ?_
  refine lv_if_eq (tgt := 19) hx hb d_Lw_move_12 (by decide) (fun c_1 => ?_) (fun c_1 => ?_)
  · refine lv_lconst (v := 0) hx hb d_Lw_move_19 (by decide) ?_
    refine gn_last E hK.1 hG hS ho1 1 rfl (j := 0) (by decide) (by decide) d_Lw_move_20 (fun H locs hG hS => ?_)
    obtain ⟨G_2, eG_2⟩ : ∃ z, z = gs_u G1 out (aLong (k 1) 1 (vp_updL ou 0 0)) := ⟨_, rfl⟩
    have hG : gs_W D classes zb G_2 H := by rw [eG_2]; exact hG
    have hc_3 : G_2 out = some (aLong (k 1) 1 (vp_updL ou 0 0)) := by rw [eG_2]; exact gs_us _ _ _
    refine lv_goto (tgt := 28) hx hb d_Lw_move_21 (by decide) ?_
    refine lv_iconst (v := 0) hx hb d_Lw_move_28 (by decide) ?_
    exact W.iret (v := 0) hx hb hr (gs_end (Or.inl ⟨v0, G1, hp, rfl, by rw [eG_2]; unfold f_z; rw [if_pos c_1]⟩) hG hS) hS.2.2 d_Lw_move_29
  · refine lv_lconst (v := 1) hx hb d_Lw_move_15 (by decide) ?_
    refine lv_goto (tgt := 20) hx hb d_Lw_move_16 (by decide) ?_
    refine gn_last E hK.1 hG hS ho1 1 rfl (j := 0) (by decide) (by decide) d_Lw_move_20 (fun H locs hG hS => ?_)
    obtain ⟨G_4, eG_4⟩ : ∃ z, z = gs_u G1 out (aLong (k 1) 1 (vp_updL ou 0 1)) := ⟨_, rfl⟩
    have hG : gs_W D classes zb G_4 H := by rw [eG_4]; exact hG
    have hc_5 : G_4 out = some (aLong (k 1) 1 (vp_updL ou 0 1)) := by rw [eG_4]; exact gs_us _ _ _
    refine lv_goto (tgt := 28) hx hb d_Lw_move_21 (by decide) ?_
    refine lv_iconst (v := 0) hx hb d_Lw_move_28 (by decide) ?_
    exact W.iret (v := 0) hx hb hr (gs_end (Or.inl ⟨v0, G1, hp, rfl, by rw [eG_4]; unfold f_z; rw [if_neg c_1]⟩) hG hS) hS.2.2 d_Lw_move_29
set_option maxHeartbeats 4000000 in
set_option maxRecDepth 100000 in
theorem k_Lw_there (l : Launch) (hnt : l.stackTraces = false) (D : va_G) (k : Nat → ClassId) (zb : Nat) (G : Nat → Option va_E) (o aB aW aH aS aT : Nat) (wn hn nb nw : Nat) (ba wa ha : Nat → Nat) (bf hf : Nat → Nat → Int32) (wf : Nat → Nat → Nat) (sh : Nat → Int64) (tk : Nat → Int32) (out : Nat) (ou : Nat → Int64) (b on : Int32) (hC : sC k G o aB aW aH aS aT wn hn nb nw ba wa ha bf hf wf sh tk) (ho : G out = some (aLong (k 1) 1 ou)) (hon : on = 0 ∨ on = 1) (hpr : ∀ i, i < nb → bf i 6 = 0 ∨ bf i 6 = 1) : Met l y_Lw_there (wMW y_Lw_there c_Lw_there 5 (some .int) [(0, 17, 20, 13)]) ({ frames := 8, cells := 1, slots := 6, locals := 136 }) (gs_P D k zb G [.ref o, .int b, .int on, .ref out]) (gs_Q D zb (fun v G1 => wr_post (pc_there k G o aB aW aH aS aT wn hn nb nw ba wa ha bf hf wf sh tk b on) (tc_there k G o aB aW aH aS aT wn hn nb nw ba wa ha bf hf wf sh tk b on) k G out ou f_z v G1)) 1 6 (fun q : Nat => zb ≤ q) := by
  refine va_MetW (cc := c_Lw_there) (maxL := 5) (ret := (some .int)) (hh := [(0, 17, 20, 13)]) (by decide) rfl ?_
  intro p e s m args below meth c s₁ B hml hv
  obtain ⟨rfl, hG, hK, hX⟩ := hv
  have hx := B.exec
  have hb := B.bytes
  have hr := B.returns
  have hts := atoms_spec (ws := wMW y_Lw_there c_Lw_there 5 (some .int) [(0, 17, 20, 13)]) B.pre
  have hw : ∀ w9 ∈ wW, w9.before ([.ref o, .int b, .int on, .ref out] : List Value).toArray s = true := fun w9 h9 => hts w9 (gi_in w9 h9)
  have hown : s.vm.findClass R_Lw = some m.cls := findClass_of_methodNamed B.named
  have hlocks := B.notSynchronized
  have E : gs_E p s m ([.ref o, .int b, .int on, .ref out] : List Value).toArray c c_Lw_there wW R_Lw := ⟨hx, hb, hw, hown⟩
  have hS : gs_S zb s.heap s.heap [] := va_S.rf
  have hl := lv_entry ([.ref o, .int b, .int on, .ref out]) (n := 5) (Nat.le_of_ble_eq_true rfl)
  rw [lg_entry_eq]
  generalize (lg_sl ([.ref o, .int b, .int on, .ref out]) ++ List.replicate (5 - (lg_sl ([.ref o, .int b, .int on, .ref out])).length) Slot.unset).toArray = ls at hl ⊢
  have hl : lv_has ls 5 [(0, .ref o), (1, .int b), (2, .int on), (3, .ref out)] := hl
  have htab : c.exceptionTable.toList = tableOf [(0, 17, 20, 13)] := vx_table (x := y_Lw_there) B (hts _ List.mem_cons_self)
  refine lv_aload_n hx hb d_Lw_there_0 rfl (lv_at hl 3 rfl) ?_
  refine lv_iconst (v := 0) hx hb d_Lw_there_1 (by decide) ?_
  refine lv_aload_n hx hb d_Lw_there_2 rfl (lv_at hl 0 rfl) ?_
  refine lv_iload_n hx hb d_Lw_there_3 rfl (lv_at hl 1 rfl) ?_
  refine lv_iload_n hx hb d_Lw_there_4 rfl (lv_at hl 2 rfl) ?_
  refine gs_VX (As := [.int b, .int on]) (rest := [.int 0, .ref out]) (k_Ss_there l hnt D k zb G o aB aW aH aS aT wn hn nb nw ba wa ha bf hf wf sh tk b on hC hon hpr) E hml hl.1 (cg_V (C := R_Ss) hw w_242 w_239 w_1 w_240 sel_Ss_there hd_Ss_there ⟨by exact Nat.le_of_ble_eq_true rfl, by exact Nat.le_of_ble_eq_true rfl⟩) hG hK hX hS hC.1.1 rfl rfl rfl rfl (by exact Nat.le_of_ble_eq_true rfl) d_Lw_there_5 ⟨by exact Nat.le_of_ble_eq_true rfl, by exact Nat.le_of_ble_eq_true rfl⟩ (fun E9 ce q9 H locs hp hG hS hq1 hq2 hq3 => ?_) (fun v G1 H locs hp hG hS => ?_)
  · have hE : E9 = e_IA := hp.1
    subst hE
    refine vx_catch hown [] ⟨0, 17, 20, 13⟩ [] (htab.trans rfl) (fun z hz => absurd hz List.not_mem_nil) rfl (by decide) (name := e_IA) (hw _ w_94) (va_Nw.use rfl hK.2.2.2.1.1) hq1 hq2 hq3 ?_
    refine W.eq (g2 := F0 m 20 ls [.ref q9]) rfl ?_
    refine lv_astore (lv' := [(4, .ref q9), (0, .ref o), (1, .int b), (2, .int on), (3, .ref out)]) hx hb d_Lw_there_20 hl (by decide) rfl (fun ls hl => ?_)
    refine lv_iconst (v := 1) hx hb d_Lw_there_22 (by decide) ?_
    exact W.iret (v := 1) hx hb hr (gs_end (Or.inr (Or.inl ⟨hp, rfl, rfl⟩)) hG hS) hS.2.2 d_Lw_there_23
  obtain ⟨⟨v0, hv0⟩, ho1⟩ := po_there hC ho hp
  subst hv0
  refine W.eq (g2 := F0 m 8 ls [.int v0, .int 0, .ref out]) rfl ?_
  refine lv_if_eq (tgt := 15) hx hb d_Lw_there_8 (by decide) (fun c_1 => ?_) (fun c_1 => ?_)
  · refine lv_lconst (v := 0) hx hb d_Lw_there_15 (by decide) ?_
    refine gn_last E hK.1 hG hS ho1 1 rfl (j := 0) (by decide) (by decide) d_Lw_there_16 (fun H locs hG hS => ?_)
    obtain ⟨G_2, eG_2⟩ : ∃ z, z = gs_u G1 out (aLong (k 1) 1 (vp_updL ou 0 0)) := ⟨_, rfl⟩
    have hG : gs_W D classes zb G_2 H := by rw [eG_2]; exact hG
    have hc_3 : G_2 out = some (aLong (k 1) 1 (vp_updL ou 0 0)) := by rw [eG_2]; exact gs_us _ _ _
    refine lv_goto (tgt := 24) hx hb d_Lw_there_17 (by decide) ?_
    refine lv_iconst (v := 0) hx hb d_Lw_there_24 (by decide) ?_
    exact W.iret (v := 0) hx hb hr (gs_end (Or.inl ⟨v0, G1, hp, rfl, by rw [eG_2]; unfold f_z; rw [if_pos c_1]⟩) hG hS) hS.2.2 d_Lw_there_25
  · refine lv_lconst (v := 1) hx hb d_Lw_there_11 (by decide) ?_
    refine lv_goto (tgt := 16) hx hb d_Lw_there_12 (by decide) ?_
    refine gn_last E hK.1 hG hS ho1 1 rfl (j := 0) (by decide) (by decide) d_Lw_there_16 (fun H locs hG hS => ?_)
    obtain ⟨G_4, eG_4⟩ : ∃ z, z = gs_u G1 out (aLong (k 1) 1 (vp_updL ou 0 1)) := ⟨_, rfl⟩
    have hG : gs_W D classes zb G_4 H := by rw [eG_4]; exact hG
    have hc_5 : G_4 out = some (aLong (k 1) 1 (vp_updL ou 0 1)) := by rw [eG_4]; exact gs_us _ _ _
    refine lv_goto (tgt := 24) hx hb d_Lw_there_17 (by decide) ?_
    refine lv_iconst (v := 0) hx hb d_Lw_there_24 (by decide) ?_
    exact W.iret (v := 0) hx hb hr (gs_end (Or.inl ⟨v0, G1, hp, rfl, by rw [eG_4]; unfold f_z; rw [if_neg c_1]⟩) hG hS) hS.2.2 d_Lw_there_25
set_option maxHeartbeats 4000000 in
set_option maxRecDepth 100000 in
theorem k_Lw_sun (l : Launch) (hnt : l.stackTraces = false) (D : va_G) (k : Nat → ClassId) (zb : Nat) (G : Nat → Option va_E) (o aB aW aH aS aT : Nat) (wn hn nb nw : Nat) (ba wa ha : Nat → Nat) (bf hf : Nat → Nat → Int32) (wf : Nat → Nat → Nat) (sh : Nat → Int64) (tk : Nat → Int32) (out : Nat) (ou : Nat → Int64) (t d1 d2 d3 : Int32) (hC : sC k G o aB aW aH aS aT wn hn nb nw ba wa ha bf hf wf sh tk) (ho : G out = some (aLong (k 1) 1 ou)) : Met l y_Lw_sun (wMW y_Lw_sun c_Lw_sun 6 (some .int) [(0, 9, 12, 13)]) ({ frames := 8, cells := 2, slots := 12, locals := 137 }) (gs_P D k zb G [.ref o, .int t, .int d1, .int d2, .int d3]) (gs_Q D zb (fun v G1 => (∃ G0 : Nat → Option va_E, pc_sun k G o aB aW aH aS aT wn hn nb nw ba wa ha bf hf wf sh tk t d1 d2 d3 none G0 ∧ v = some (.int 0) ∧ G1 = G0) ∨ (tc_sun k G o aB aW aH aS aT wn hn nb nw ba wa ha bf hf wf sh tk t d1 d2 d3 e_IA ∧ v = some (.int 1) ∧ G1 = G))) 2 12 (fun q : Nat => zb ≤ q) := by
  refine va_MetW (cc := c_Lw_sun) (maxL := 6) (ret := (some .int)) (hh := [(0, 9, 12, 13)]) (by decide) rfl ?_
  intro p e s m args below meth c s₁ B hml hv
  obtain ⟨rfl, hG, hK, hX⟩ := hv
  have hx := B.exec
  have hb := B.bytes
  have hr := B.returns
  have hts := atoms_spec (ws := wMW y_Lw_sun c_Lw_sun 6 (some .int) [(0, 9, 12, 13)]) B.pre
  have hw : ∀ w9 ∈ wW, w9.before ([.ref o, .int t, .int d1, .int d2, .int d3] : List Value).toArray s = true := fun w9 h9 => hts w9 (gi_in w9 h9)
  have hown : s.vm.findClass R_Lw = some m.cls := findClass_of_methodNamed B.named
  have hlocks := B.notSynchronized
  have E : gs_E p s m ([.ref o, .int t, .int d1, .int d2, .int d3] : List Value).toArray c c_Lw_sun wW R_Lw := ⟨hx, hb, hw, hown⟩
  have hS : gs_S zb s.heap s.heap [] := va_S.rf
  have hl := lv_entry ([.ref o, .int t, .int d1, .int d2, .int d3]) (n := 6) (Nat.le_of_ble_eq_true rfl)
  rw [lg_entry_eq]
  generalize (lg_sl ([.ref o, .int t, .int d1, .int d2, .int d3]) ++ List.replicate (6 - (lg_sl ([.ref o, .int t, .int d1, .int d2, .int d3])).length) Slot.unset).toArray = ls at hl ⊢
  have hl : lv_has ls 6 [(0, .ref o), (1, .int t), (2, .int d1), (3, .int d2), (4, .int d3)] := hl
  have htab : c.exceptionTable.toList = tableOf [(0, 9, 12, 13)] := vx_table (x := y_Lw_sun) B (hts _ List.mem_cons_self)
  refine lv_aload_n hx hb d_Lw_sun_0 rfl (lv_at hl 0 rfl) ?_
  refine lv_iload_n hx hb d_Lw_sun_1 rfl (lv_at hl 1 rfl) ?_
  refine lv_iload_n hx hb d_Lw_sun_2 rfl (lv_at hl 2 rfl) ?_
  refine lv_iload_n hx hb d_Lw_sun_3 rfl (lv_at hl 3 rfl) ?_
  refine lv_iload hx hb d_Lw_sun_4 (lv_at hl 4 rfl) ?_
  refine gs_VX (As := [.int t, .int d1, .int d2, .int d3]) (rest := []) (k_Ss_sun l hnt D k zb G o aB aW aH aS aT wn hn nb nw ba wa ha bf hf wf sh tk t d1 d2 d3 hC) E hml hl.1 (cg_V (C := R_Ss) hw w_249 w_246 w_1 w_247 sel_Ss_sun hd_Ss_sun ⟨by exact Nat.le_of_ble_eq_true rfl, by exact Nat.le_of_ble_eq_true rfl⟩) hG hK hX hS hC.1.1 rfl rfl rfl rfl (by exact Nat.le_of_ble_eq_true rfl) d_Lw_sun_6 ⟨by exact Nat.le_of_ble_eq_true rfl, by exact Nat.le_of_ble_eq_true rfl⟩ (fun E9 ce q9 H locs hp hG hS hq1 hq2 hq3 => ?_) (fun v G1 H locs hp hG hS => ?_)
  · have hE : E9 = e_IA := hp.1
    subst hE
    refine vx_catch hown [] ⟨0, 9, 12, 13⟩ [] (htab.trans rfl) (fun z hz => absurd hz List.not_mem_nil) rfl (by decide) (name := e_IA) (hw _ w_94) (va_Nw.use rfl hK.2.2.2.1.1) hq1 hq2 hq3 ?_
    refine W.eq (g2 := F0 m 12 ls [.ref q9]) rfl ?_
    refine lv_astore (lv' := [(5, .ref q9), (0, .ref o), (1, .int t), (2, .int d1), (3, .int d2), (4, .int d3)]) hx hb d_Lw_sun_12 hl (by decide) rfl (fun ls hl => ?_)
    refine lv_iconst (v := 1) hx hb d_Lw_sun_14 (by decide) ?_
    exact W.iret (v := 1) hx hb hr (gs_end (Or.inr ⟨hp, rfl, rfl⟩) hG hS) hS.2.2 d_Lw_sun_15
  have hv0 := (po_sun hC ho hp).1
  subst hv0
  refine W.eq (g2 := F0 m 9 ls []) rfl ?_
  refine lv_goto (tgt := 16) hx hb d_Lw_sun_9 (by decide) ?_
  refine lv_iconst (v := 0) hx hb d_Lw_sun_16 (by decide) ?_
  exact W.iret (v := 0) hx hb hr (gs_end (Or.inl ⟨G1, hp, rfl, rfl⟩) hG hS) hS.2.2 d_Lw_sun_17
set_option maxHeartbeats 4000000 in
set_option maxRecDepth 100000 in
theorem k_Lw_light (l : Launch) (hnt : l.stackTraces = false) (D : va_G) (k : Nat → ClassId) (zb : Nat) (G : Nat → Option va_E) (o aB aW aH aS aT : Nat) (wn hn nb nw : Nat) (ba wa ha : Nat → Nat) (bf hf : Nat → Nat → Int32) (wf : Nat → Nat → Nat) (sh : Nat → Int64) (tk : Nat → Int32) (out : Nat) (ou : Nat → Int64) (t d1 : Int32) (hC : sC k G o aB aW aH aS aT wn hn nb nw ba wa ha bf hf wf sh tk) (ho : G out = some (aLong (k 1) 1 ou)) : Met l y_Lw_light (wMW y_Lw_light c_Lw_light 5 (some .int) [(0, 10, 13, 13)]) ({ frames := 8, cells := 2, slots := 12, locals := 136 }) (gs_P D k zb G [.ref o, .int t, .int d1, .ref out]) (gs_Q D zb (fun v G1 => wr_post (pc_light k G o aB aW aH aS aT wn hn nb nw ba wa ha bf hf wf sh tk t d1) (tc_light k G o aB aW aH aS aT wn hn nb nw ba wa ha bf hf wf sh tk t d1) k G out ou f_i v G1)) 2 12 (fun q : Nat => zb ≤ q) := by
  refine va_MetW (cc := c_Lw_light) (maxL := 5) (ret := (some .int)) (hh := [(0, 10, 13, 13)]) (by decide) rfl ?_
  intro p e s m args below meth c s₁ B hml hv
  obtain ⟨rfl, hG, hK, hX⟩ := hv
  have hx := B.exec
  have hb := B.bytes
  have hr := B.returns
  have hts := atoms_spec (ws := wMW y_Lw_light c_Lw_light 5 (some .int) [(0, 10, 13, 13)]) B.pre
  have hw : ∀ w9 ∈ wW, w9.before ([.ref o, .int t, .int d1, .ref out] : List Value).toArray s = true := fun w9 h9 => hts w9 (gi_in w9 h9)
  have hown : s.vm.findClass R_Lw = some m.cls := findClass_of_methodNamed B.named
  have hlocks := B.notSynchronized
  have E : gs_E p s m ([.ref o, .int t, .int d1, .ref out] : List Value).toArray c c_Lw_light wW R_Lw := ⟨hx, hb, hw, hown⟩
  have hS : gs_S zb s.heap s.heap [] := va_S.rf
  have hl := lv_entry ([.ref o, .int t, .int d1, .ref out]) (n := 5) (Nat.le_of_ble_eq_true rfl)
  rw [lg_entry_eq]
  generalize (lg_sl ([.ref o, .int t, .int d1, .ref out]) ++ List.replicate (5 - (lg_sl ([.ref o, .int t, .int d1, .ref out])).length) Slot.unset).toArray = ls at hl ⊢
  have hl : lv_has ls 5 [(0, .ref o), (1, .int t), (2, .int d1), (3, .ref out)] := hl
  have htab : c.exceptionTable.toList = tableOf [(0, 10, 13, 13)] := vx_table (x := y_Lw_light) B (hts _ List.mem_cons_self)
  refine lv_aload_n hx hb d_Lw_light_0 rfl (lv_at hl 3 rfl) ?_
  refine lv_iconst (v := 0) hx hb d_Lw_light_1 (by decide) ?_
  refine lv_aload_n hx hb d_Lw_light_2 rfl (lv_at hl 0 rfl) ?_
  refine lv_iload_n hx hb d_Lw_light_3 rfl (lv_at hl 1 rfl) ?_
  refine lv_iload_n hx hb d_Lw_light_4 rfl (lv_at hl 2 rfl) ?_
  refine gs_VX (As := [.int t, .int d1]) (rest := [.int 0, .ref out]) (k_Ss_light l hnt D k zb G o aB aW aH aS aT wn hn nb nw ba wa ha bf hf wf sh tk t d1 hC) E hml hl.1 (cg_V (C := R_Ss) hw w_262 w_259 w_1 w_260 sel_Ss_light hd_Ss_light ⟨by exact Nat.le_of_ble_eq_true rfl, by exact Nat.le_of_ble_eq_true rfl⟩) hG hK hX hS hC.1.1 rfl rfl rfl rfl (by exact Nat.le_of_ble_eq_true rfl) d_Lw_light_5 ⟨by exact Nat.le_of_ble_eq_true rfl, by exact Nat.le_of_ble_eq_true rfl⟩ (fun E9 ce q9 H locs hp hG hS hq1 hq2 hq3 => ?_) (fun v G1 H locs hp hG hS => ?_)
  · have hE : E9 = e_IA := hp.1
    subst hE
    refine vx_catch hown [] ⟨0, 10, 13, 13⟩ [] (htab.trans rfl) (fun z hz => absurd hz List.not_mem_nil) rfl (by decide) (name := e_IA) (hw _ w_94) (va_Nw.use rfl hK.2.2.2.1.1) hq1 hq2 hq3 ?_
    refine W.eq (g2 := F0 m 13 ls [.ref q9]) rfl ?_
    refine lv_astore (lv' := [(4, .ref q9), (0, .ref o), (1, .int t), (2, .int d1), (3, .ref out)]) hx hb d_Lw_light_13 hl (by decide) rfl (fun ls hl => ?_)
    refine lv_iconst (v := 1) hx hb d_Lw_light_15 (by decide) ?_
    exact W.iret (v := 1) hx hb hr (gs_end (Or.inr (Or.inl ⟨hp, rfl, rfl⟩)) hG hS) hS.2.2 d_Lw_light_16
  obtain ⟨⟨v0, hv0⟩, ho1⟩ := po_light hC ho hp
  subst hv0
  refine W.eq (g2 := F0 m 8 ls [.int v0, .int 0, .ref out]) rfl ?_
  refine lv_i2l hx hb d_Lw_light_8 rfl ?_
  refine lv_topl (fun v_1 ev_1 => ?_)
  refine gn_last E hK.1 hG hS ho1 1 rfl (j := 0) (by decide) (by decide) d_Lw_light_9 (fun H locs hG hS => ?_)
  obtain ⟨G_2, eG_2⟩ : ∃ z, z = gs_u G1 out (aLong (k 1) 1 (vp_updL ou 0 v_1)) := ⟨_, rfl⟩
  have hG : gs_W D classes zb G_2 H := by rw [eG_2]; exact hG
  have hc_3 : G_2 out = some (aLong (k 1) 1 (vp_updL ou 0 v_1)) := by rw [eG_2]; exact gs_us _ _ _
  refine lv_goto (tgt := 17) hx hb d_Lw_light_10 (by decide) ?_
  refine lv_iconst (v := 0) hx hb d_Lw_light_17 (by decide) ?_
  exact W.iret (v := 0) hx hb hr (gs_end (Or.inl ⟨v0, G1, hp, rfl, by rw [eG_2, ev_1]; rfl⟩) hG hS) hS.2.2 d_Lw_light_18
set_option maxHeartbeats 4000000 in
set_option maxRecDepth 100000 in
theorem k_Lw_window (l : Launch) (hnt : l.stackTraces = false) (D : va_G) (k : Nat → ClassId) (zb : Nat) (G : Nat → Option va_E) (o aB aW aH aS aT : Nat) (wn hn nb nw : Nat) (ba wa ha : Nat → Nat) (bf hf : Nat → Nat → Int32) (wf : Nat → Nat → Nat) (sh : Nat → Int64) (tk : Nat → Int32) (out : Nat) (ou : Nat → Int64) (u0 v0 u1 v1 : Int32) (hC : sC k G o aB aW aH aS aT wn hn nb nw ba wa ha bf hf wf sh tk) (ho : G out = some (aLong (k 1) 1 ou)) : Met l y_Lw_window (wMW y_Lw_window c_Lw_window 7 (some .int) [(0, 14, 17, 13), (0, 14, 21, 15)]) ({ frames := 7, cells := 1, slots := 6, locals := 115 }) (gs_P D k zb G [.ref o, .int u0, .int v0, .int u1, .int v1, .ref out]) (gs_Q D zb (fun v G1 => wr_post (pc_window k G o aB aW aH aS aT wn hn nb nw ba wa ha bf hf wf sh tk u0 v0 u1 v1) (tc_window k G o aB aW aH aS aT wn hn nb nw ba wa ha bf hf wf sh tk u0 v0 u1 v1) k G out ou f_i v G1)) 1 6 (fun q : Nat => zb ≤ q) := by
  refine va_MetW (cc := c_Lw_window) (maxL := 7) (ret := (some .int)) (hh := [(0, 14, 17, 13), (0, 14, 21, 15)]) (by decide) rfl ?_
  intro p e s m args below meth c s₁ B hml hv
  obtain ⟨rfl, hG, hK, hX⟩ := hv
  have hx := B.exec
  have hb := B.bytes
  have hr := B.returns
  have hts := atoms_spec (ws := wMW y_Lw_window c_Lw_window 7 (some .int) [(0, 14, 17, 13), (0, 14, 21, 15)]) B.pre
  have hw : ∀ w9 ∈ wW, w9.before ([.ref o, .int u0, .int v0, .int u1, .int v1, .ref out] : List Value).toArray s = true := fun w9 h9 => hts w9 (gi_in w9 h9)
  have hown : s.vm.findClass R_Lw = some m.cls := findClass_of_methodNamed B.named
  have hlocks := B.notSynchronized
  have E : gs_E p s m ([.ref o, .int u0, .int v0, .int u1, .int v1, .ref out] : List Value).toArray c c_Lw_window wW R_Lw := ⟨hx, hb, hw, hown⟩
  have hS : gs_S zb s.heap s.heap [] := va_S.rf
  have hl := lv_entry ([.ref o, .int u0, .int v0, .int u1, .int v1, .ref out]) (n := 7) (Nat.le_of_ble_eq_true rfl)
  rw [lg_entry_eq]
  generalize (lg_sl ([.ref o, .int u0, .int v0, .int u1, .int v1, .ref out]) ++ List.replicate (7 - (lg_sl ([.ref o, .int u0, .int v0, .int u1, .int v1, .ref out])).length) Slot.unset).toArray = ls at hl ⊢
  have hl : lv_has ls 7 [(0, .ref o), (1, .int u0), (2, .int v0), (3, .int u1), (4, .int v1), (5, .ref out)] := hl
  have htab : c.exceptionTable.toList = tableOf [(0, 14, 17, 13), (0, 14, 21, 15)] := vx_table (x := y_Lw_window) B (hts _ List.mem_cons_self)
  refine lv_aload hx hb d_Lw_window_0 (lv_at hl 5 rfl) ?_
  refine lv_iconst (v := 0) hx hb d_Lw_window_2 (by decide) ?_
  refine lv_aload_n hx hb d_Lw_window_3 rfl (lv_at hl 0 rfl) ?_
  refine lv_iload_n hx hb d_Lw_window_4 rfl (lv_at hl 1 rfl) ?_
  refine lv_iload_n hx hb d_Lw_window_5 rfl (lv_at hl 2 rfl) ?_
  refine lv_iload_n hx hb d_Lw_window_6 rfl (lv_at hl 3 rfl) ?_
  refine lv_iload hx hb d_Lw_window_7 (lv_at hl 4 rfl) ?_
  refine gs_VX (As := [.int u0, .int v0, .int u1, .int v1]) (rest := [.int 0, .ref out]) (k_Ss_window l hnt D k zb G o aB aW aH aS aT wn hn nb nw ba wa ha bf hf wf sh tk u0 v0 u1 v1 hC) E hml hl.1 (cg_V (C := R_Ss) hw w_270 w_267 w_1 w_268 sel_Ss_window hd_Ss_window ⟨by exact Nat.le_of_ble_eq_true rfl, by exact Nat.le_of_ble_eq_true rfl⟩) hG hK hX hS hC.1.1 rfl rfl rfl rfl (by exact Nat.le_of_ble_eq_true rfl) d_Lw_window_9 ⟨by exact Nat.le_of_ble_eq_true rfl, by exact Nat.le_of_ble_eq_true rfl⟩ (fun E9 ce q9 H locs hp hG hS hq1 hq2 hq3 => ?_) (fun v G1 H locs hp hG hS => ?_)
  · have hE : E9 = e_IA ∨ E9 = e_IS := hp.elim (fun q => Or.inl q.1) (fun q => Or.inr q.1)
    rcases hE with rfl | rfl
    · refine vx_catch hown [] ⟨0, 14, 17, 13⟩ [⟨0, 14, 21, 15⟩] (htab.trans rfl) (fun z hz => absurd hz List.not_mem_nil) rfl (by decide) (name := e_IA) (hw _ w_94) (va_Nw.use rfl hK.2.2.2.1.1) hq1 hq2 hq3 ?_
      refine W.eq (g2 := F0 m 17 ls [.ref q9]) rfl ?_
      refine lv_astore (lv' := [(6, .ref q9), (0, .ref o), (1, .int u0), (2, .int v0), (3, .int u1), (4, .int v1), (5, .ref out)]) hx hb d_Lw_window_17 hl (by decide) rfl (fun ls hl => ?_)
      refine lv_iconst (v := 1) hx hb d_Lw_window_19 (by decide) ?_
      exact W.iret (v := 1) hx hb hr (gs_end (Or.inr (Or.inl ⟨hp, rfl, rfl⟩)) hG hS) hS.2.2 d_Lw_window_20
    · refine vx_catch hown [⟨0, 14, 17, 13⟩] ⟨0, 14, 21, 15⟩ [] (htab.trans rfl) (fun z hz => Or.inr (by rw [List.mem_singleton.mp hz]; exact ⟨by decide, e_IA, hw _ w_94, hK.2.2.2.1.2.2⟩)) rfl (by decide) (name := e_IS) (hw _ w_95) (va_Nw.use rfl hK.2.2.2.1.2.1) hq1 hq2 hq3 ?_
      refine W.eq (g2 := F0 m 21 ls [.ref q9]) rfl ?_
      refine lv_astore (lv' := [(6, .ref q9), (0, .ref o), (1, .int u0), (2, .int v0), (3, .int u1), (4, .int v1), (5, .ref out)]) hx hb d_Lw_window_21 hl (by decide) rfl (fun ls hl => ?_)
      refine lv_iconst (v := 2) hx hb d_Lw_window_23 (by decide) ?_
      exact W.iret (v := 2) hx hb hr (gs_end (Or.inr (Or.inr ⟨hp, rfl, rfl⟩)) hG hS) hS.2.2 d_Lw_window_24
  obtain ⟨⟨v0, hv0⟩, ho1⟩ := po_window hC ho hp
  subst hv0
  refine W.eq (g2 := F0 m 12 ls [.int v0, .int 0, .ref out]) rfl ?_
  refine lv_i2l hx hb d_Lw_window_12 rfl ?_
  refine lv_topl (fun v_1 ev_1 => ?_)
  refine gn_last E hK.1 hG hS ho1 1 rfl (j := 0) (by decide) (by decide) d_Lw_window_13 (fun H locs hG hS => ?_)
  obtain ⟨G_2, eG_2⟩ : ∃ z, z = gs_u G1 out (aLong (k 1) 1 (vp_updL ou 0 v_1)) := ⟨_, rfl⟩
  have hG : gs_W D classes zb G_2 H := by rw [eG_2]; exact hG
  have hc_3 : G_2 out = some (aLong (k 1) 1 (vp_updL ou 0 v_1)) := by rw [eG_2]; exact gs_us _ _ _
  refine lv_goto (tgt := 25) hx hb d_Lw_window_14 (by decide) ?_
  refine lv_iconst (v := 0) hx hb d_Lw_window_25 (by decide) ?_
  exact W.iret (v := 0) hx hb hr (gs_end (Or.inl ⟨v0, G1, hp, rfl, by rw [eG_2, ev_1]; rfl⟩) hG hS) hS.2.2 d_Lw_window_26
set_option maxHeartbeats 4000000 in
set_option maxRecDepth 100000 in
theorem k_Lw_shadow (l : Launch) (hnt : l.stackTraces = false) (D : va_G) (k : Nat → ClassId) (zb : Nat) (G : Nat → Option va_E) (o aB aW aH aS aT : Nat) (wn hn nb nw : Nat) (ba wa ha : Nat → Nat) (bf hf : Nat → Nat → Int32) (wf : Nat → Nat → Nat) (sh : Nat → Int64) (tk : Nat → Int32) (out : Nat) (ou : Nat → Int64) (x y t : Int32) (hC : sC k G o aB aW aH aS aT wn hn nb nw ba wa ha bf hf wf sh tk) (ho : G out = some (aLong (k 1) 1 ou)) : Met l y_Lw_shadow (wMW y_Lw_shadow c_Lw_shadow 6 (some .int) [(0, 19, 22, 13), (0, 19, 26, 15)]) ({ frames := 9, cells := 2, slots := 12, locals := 157 }) (gs_P D k zb G [.ref o, .int x, .int y, .int t, .ref out]) (gs_Q D zb (fun v G1 => wr_post (pc_shadow k G o aB aW aH aS aT wn hn nb nw ba wa ha bf hf wf sh tk x y t) (tc_shadow k G o aB aW aH aS aT wn hn nb nw ba wa ha bf hf wf sh tk x y t) k G out ou f_z v G1)) 2 12 (fun q : Nat => zb ≤ q) := by
  refine va_MetW (cc := c_Lw_shadow) (maxL := 6) (ret := (some .int)) (hh := [(0, 19, 22, 13), (0, 19, 26, 15)]) (by decide) rfl ?_
  intro p e s m args below meth c s₁ B hml hv
  obtain ⟨rfl, hG, hK, hX⟩ := hv
  have hx := B.exec
  have hb := B.bytes
  have hr := B.returns
  have hts := atoms_spec (ws := wMW y_Lw_shadow c_Lw_shadow 6 (some .int) [(0, 19, 22, 13), (0, 19, 26, 15)]) B.pre
  have hw : ∀ w9 ∈ wW, w9.before ([.ref o, .int x, .int y, .int t, .ref out] : List Value).toArray s = true := fun w9 h9 => hts w9 (gi_in w9 h9)
  have hown : s.vm.findClass R_Lw = some m.cls := findClass_of_methodNamed B.named
  have hlocks := B.notSynchronized
  have E : gs_E p s m ([.ref o, .int x, .int y, .int t, .ref out] : List Value).toArray c c_Lw_shadow wW R_Lw := ⟨hx, hb, hw, hown⟩
  have hS : gs_S zb s.heap s.heap [] := va_S.rf
  have hl := lv_entry ([.ref o, .int x, .int y, .int t, .ref out]) (n := 6) (Nat.le_of_ble_eq_true rfl)
  rw [lg_entry_eq]
  generalize (lg_sl ([.ref o, .int x, .int y, .int t, .ref out]) ++ List.replicate (6 - (lg_sl ([.ref o, .int x, .int y, .int t, .ref out])).length) Slot.unset).toArray = ls at hl ⊢
  have hl : lv_has ls 6 [(0, .ref o), (1, .int x), (2, .int y), (3, .int t), (4, .ref out)] := hl
  have htab : c.exceptionTable.toList = tableOf [(0, 19, 22, 13), (0, 19, 26, 15)] := vx_table (x := y_Lw_shadow) B (hts _ List.mem_cons_self)
  refine lv_aload hx hb d_Lw_shadow_0 (lv_at hl 4 rfl) ?_
  refine lv_iconst (v := 0) hx hb d_Lw_shadow_2 (by decide) ?_
  refine lv_aload_n hx hb d_Lw_shadow_3 rfl (lv_at hl 0 rfl) ?_
  refine lv_iload_n hx hb d_Lw_shadow_4 rfl (lv_at hl 1 rfl) ?_
  refine lv_iload_n hx hb d_Lw_shadow_5 rfl (lv_at hl 2 rfl) ?_
  refine lv_iload_n hx hb d_Lw_shadow_6 rfl (lv_at hl 3 rfl) ?_
  refine gs_VX (As := [.int x, .int y, .int t]) (rest := [.int 0, .ref out]) (k_Ss_shadow l hnt D k zb G o aB aW aH aS aT wn hn nb nw ba wa ha bf hf wf sh tk x y t hC) E hml hl.1 (cg_V (C := R_Ss) hw w_299 w_296 w_1 w_297 sel_Ss_shadow hd_Ss_shadow ⟨by exact Nat.le_of_ble_eq_true rfl, by exact Nat.le_of_ble_eq_true rfl⟩) hG hK hX hS hC.1.1 rfl rfl rfl rfl (by exact Nat.le_of_ble_eq_true rfl) d_Lw_shadow_7 ⟨by exact Nat.le_of_ble_eq_true rfl, by exact Nat.le_of_ble_eq_true rfl⟩ (fun E9 ce q9 H locs hp hG hS hq1 hq2 hq3 => ?_) (fun v G1 H locs hp hG hS => ?_)
  · have hE : E9 = e_IA ∨ E9 = e_IS := hp.elim (fun q => Or.inl q.1) (fun q => Or.inr q.1)
    rcases hE with rfl | rfl
    · refine vx_catch hown [] ⟨0, 19, 22, 13⟩ [⟨0, 19, 26, 15⟩] (htab.trans rfl) (fun z hz => absurd hz List.not_mem_nil) rfl (by decide) (name := e_IA) (hw _ w_94) (va_Nw.use rfl hK.2.2.2.1.1) hq1 hq2 hq3 ?_
      refine W.eq (g2 := F0 m 22 ls [.ref q9]) rfl ?_
      refine lv_astore (lv' := [(5, .ref q9), (0, .ref o), (1, .int x), (2, .int y), (3, .int t), (4, .ref out)]) hx hb d_Lw_shadow_22 hl (by decide) rfl (fun ls hl => ?_)
      refine lv_iconst (v := 1) hx hb d_Lw_shadow_24 (by decide) ?_
      exact W.iret (v := 1) hx hb hr (gs_end (Or.inr (Or.inl ⟨hp, rfl, rfl⟩)) hG hS) hS.2.2 d_Lw_shadow_25
    · refine vx_catch hown [⟨0, 19, 22, 13⟩] ⟨0, 19, 26, 15⟩ [] (htab.trans rfl) (fun z hz => Or.inr (by rw [List.mem_singleton.mp hz]; exact ⟨by decide, e_IA, hw _ w_94, hK.2.2.2.1.2.2⟩)) rfl (by decide) (name := e_IS) (hw _ w_95) (va_Nw.use rfl hK.2.2.2.1.2.1) hq1 hq2 hq3 ?_
      refine W.eq (g2 := F0 m 26 ls [.ref q9]) rfl ?_
      refine lv_astore (lv' := [(5, .ref q9), (0, .ref o), (1, .int x), (2, .int y), (3, .int t), (4, .ref out)]) hx hb d_Lw_shadow_26 hl (by decide) rfl (fun ls hl => ?_)
      refine lv_iconst (v := 2) hx hb d_Lw_shadow_28 (by decide) ?_
      exact W.iret (v := 2) hx hb hr (gs_end (Or.inr (Or.inr ⟨hp, rfl, rfl⟩)) hG hS) hS.2.2 d_Lw_shadow_29
  obtain ⟨⟨v0, hv0⟩, ho1⟩ := po_shadow hC ho hp
  subst hv0
  refine W.eq (g2 := F0 m 10 ls [.int v0, .int 0, .ref out]) rfl ?_
  refine lv_if_eq (tgt := 17) hx hb d_Lw_shadow_10 (by decide) (fun c_1 => ?_) (fun c_1 => ?_)
  · refine lv_lconst (v := 0) hx hb d_Lw_shadow_17 (by decide) ?_
    refine gn_last E hK.1 hG hS ho1 1 rfl (j := 0) (by decide) (by decide) d_Lw_shadow_18 (fun H locs hG hS => ?_)
    obtain ⟨G_2, eG_2⟩ : ∃ z, z = gs_u G1 out (aLong (k 1) 1 (vp_updL ou 0 0)) := ⟨_, rfl⟩
    have hG : gs_W D classes zb G_2 H := by rw [eG_2]; exact hG
    have hc_3 : G_2 out = some (aLong (k 1) 1 (vp_updL ou 0 0)) := by rw [eG_2]; exact gs_us _ _ _
    refine lv_goto (tgt := 30) hx hb d_Lw_shadow_19 (by decide) ?_
    refine lv_iconst (v := 0) hx hb d_Lw_shadow_30 (by decide) ?_
    exact W.iret (v := 0) hx hb hr (gs_end (Or.inl ⟨v0, G1, hp, rfl, by rw [eG_2]; unfold f_z; rw [if_pos c_1]⟩) hG hS) hS.2.2 d_Lw_shadow_31
  · refine lv_lconst (v := 1) hx hb d_Lw_shadow_13 (by decide) ?_
    refine lv_goto (tgt := 18) hx hb d_Lw_shadow_14 (by decide) ?_
    refine gn_last E hK.1 hG hS ho1 1 rfl (j := 0) (by decide) (by decide) d_Lw_shadow_18 (fun H locs hG hS => ?_)
    obtain ⟨G_4, eG_4⟩ : ∃ z, z = gs_u G1 out (aLong (k 1) 1 (vp_updL ou 0 1)) := ⟨_, rfl⟩
    have hG : gs_W D classes zb G_4 H := by rw [eG_4]; exact hG
    have hc_5 : G_4 out = some (aLong (k 1) 1 (vp_updL ou 0 1)) := by rw [eG_4]; exact gs_us _ _ _
    refine lv_goto (tgt := 30) hx hb d_Lw_shadow_19 (by decide) ?_
    refine lv_iconst (v := 0) hx hb d_Lw_shadow_30 (by decide) ?_
    exact W.iret (v := 0) hx hb hr (gs_end (Or.inl ⟨v0, G1, hp, rfl, by rw [eG_4]; unfold f_z; rw [if_neg c_1]⟩) hG hS) hS.2.2 d_Lw_shadow_31
set_option maxHeartbeats 4000000 in
set_option maxRecDepth 100000 in
theorem k_Lw_shadows (l : Launch) (hnt : l.stackTraces = false) (D : va_G) (k : Nat → ClassId) (zb : Nat) (G : Nat → Option va_E) (o aB aW aH aS aT : Nat) (wn hn nb nw : Nat) (ba wa ha : Nat → Nat) (bf hf : Nat → Nat → Int32) (wf : Nat → Nat → Nat) (sh : Nat → Int64) (tk : Nat → Int32) (out : Nat) (ou : Nat → Int64) (b t : Int32) (hC : sC k G o aB aW aH aS aT wn hn nb nw ba wa ha bf hf wf sh tk) (ho : G out = some (aLong (k 1) 1 ou)) : Met l y_Lw_shadows (wMW y_Lw_shadows c_Lw_shadows 5 (some .int) [(0, 10, 13, 13), (0, 10, 17, 15)]) ({ frames := 9, cells := 3, slots := 18, locals := 162 }) (gs_P D k zb G [.ref o, .int b, .int t, .ref out]) (gs_Q D zb (fun v G1 => wr_post (pc_shadows k G o aB aW aH aS aT wn hn nb nw ba wa ha bf hf wf sh tk b t) (tc_shadows k G o aB aW aH aS aT wn hn nb nw ba wa ha bf hf wf sh tk b t) k G out ou f_i v G1)) 3 18 (fun q : Nat => zb ≤ q) := by
  refine va_MetW (cc := c_Lw_shadows) (maxL := 5) (ret := (some .int)) (hh := [(0, 10, 13, 13), (0, 10, 17, 15)]) (by decide) rfl ?_
  intro p e s m args below meth c s₁ B hml hv
  obtain ⟨rfl, hG, hK, hX⟩ := hv
  have hx := B.exec
  have hb := B.bytes
  have hr := B.returns
  have hts := atoms_spec (ws := wMW y_Lw_shadows c_Lw_shadows 5 (some .int) [(0, 10, 13, 13), (0, 10, 17, 15)]) B.pre
  have hw : ∀ w9 ∈ wW, w9.before ([.ref o, .int b, .int t, .ref out] : List Value).toArray s = true := fun w9 h9 => hts w9 (gi_in w9 h9)
  have hown : s.vm.findClass R_Lw = some m.cls := findClass_of_methodNamed B.named
  have hlocks := B.notSynchronized
  have E : gs_E p s m ([.ref o, .int b, .int t, .ref out] : List Value).toArray c c_Lw_shadows wW R_Lw := ⟨hx, hb, hw, hown⟩
  have hS : gs_S zb s.heap s.heap [] := va_S.rf
  have hl := lv_entry ([.ref o, .int b, .int t, .ref out]) (n := 5) (Nat.le_of_ble_eq_true rfl)
  rw [lg_entry_eq]
  generalize (lg_sl ([.ref o, .int b, .int t, .ref out]) ++ List.replicate (5 - (lg_sl ([.ref o, .int b, .int t, .ref out])).length) Slot.unset).toArray = ls at hl ⊢
  have hl : lv_has ls 5 [(0, .ref o), (1, .int b), (2, .int t), (3, .ref out)] := hl
  have htab : c.exceptionTable.toList = tableOf [(0, 10, 13, 13), (0, 10, 17, 15)] := vx_table (x := y_Lw_shadows) B (hts _ List.mem_cons_self)
  refine lv_aload_n hx hb d_Lw_shadows_0 rfl (lv_at hl 3 rfl) ?_
  refine lv_iconst (v := 0) hx hb d_Lw_shadows_1 (by decide) ?_
  refine lv_aload_n hx hb d_Lw_shadows_2 rfl (lv_at hl 0 rfl) ?_
  refine lv_iload_n hx hb d_Lw_shadows_3 rfl (lv_at hl 1 rfl) ?_
  refine lv_iload_n hx hb d_Lw_shadows_4 rfl (lv_at hl 2 rfl) ?_
  refine gs_VX (As := [.int b, .int t]) (rest := [.int 0, .ref out]) (k_Ss_shadows l hnt D k zb G o aB aW aH aS aT wn hn nb nw ba wa ha bf hf wf sh tk b t hC) E hml hl.1 (cg_V (C := R_Ss) hw w_354 w_351 w_1 w_352 sel_Ss_shadows hd_Ss_shadows ⟨by exact Nat.le_of_ble_eq_true rfl, by exact Nat.le_of_ble_eq_true rfl⟩) hG hK hX hS hC.1.1 rfl rfl rfl rfl (by exact Nat.le_of_ble_eq_true rfl) d_Lw_shadows_5 ⟨by exact Nat.le_of_ble_eq_true rfl, by exact Nat.le_of_ble_eq_true rfl⟩ (fun E9 ce q9 H locs hp hG hS hq1 hq2 hq3 => ?_) (fun v G1 H locs hp hG hS => ?_)
  · have hE : E9 = e_IA ∨ E9 = e_IS := hp.elim (fun q => Or.inl q.1) (fun q => Or.inr q.1)
    rcases hE with rfl | rfl
    · refine vx_catch hown [] ⟨0, 10, 13, 13⟩ [⟨0, 10, 17, 15⟩] (htab.trans rfl) (fun z hz => absurd hz List.not_mem_nil) rfl (by decide) (name := e_IA) (hw _ w_94) (va_Nw.use rfl hK.2.2.2.1.1) hq1 hq2 hq3 ?_
      refine W.eq (g2 := F0 m 13 ls [.ref q9]) rfl ?_
      refine lv_astore (lv' := [(4, .ref q9), (0, .ref o), (1, .int b), (2, .int t), (3, .ref out)]) hx hb d_Lw_shadows_13 hl (by decide) rfl (fun ls hl => ?_)
      refine lv_iconst (v := 1) hx hb d_Lw_shadows_15 (by decide) ?_
      exact W.iret (v := 1) hx hb hr (gs_end (Or.inr (Or.inl ⟨hp, rfl, rfl⟩)) hG hS) hS.2.2 d_Lw_shadows_16
    · refine vx_catch hown [⟨0, 10, 13, 13⟩] ⟨0, 10, 17, 15⟩ [] (htab.trans rfl) (fun z hz => Or.inr (by rw [List.mem_singleton.mp hz]; exact ⟨by decide, e_IA, hw _ w_94, hK.2.2.2.1.2.2⟩)) rfl (by decide) (name := e_IS) (hw _ w_95) (va_Nw.use rfl hK.2.2.2.1.2.1) hq1 hq2 hq3 ?_
      refine W.eq (g2 := F0 m 17 ls [.ref q9]) rfl ?_
      refine lv_astore (lv' := [(4, .ref q9), (0, .ref o), (1, .int b), (2, .int t), (3, .ref out)]) hx hb d_Lw_shadows_17 hl (by decide) rfl (fun ls hl => ?_)
      refine lv_iconst (v := 2) hx hb d_Lw_shadows_19 (by decide) ?_
      exact W.iret (v := 2) hx hb hr (gs_end (Or.inr (Or.inr ⟨hp, rfl, rfl⟩)) hG hS) hS.2.2 d_Lw_shadows_20
  obtain ⟨⟨v0, hv0⟩, ho1⟩ := po_shadows hC ho hp
  subst hv0
  refine W.eq (g2 := F0 m 8 ls [.int v0, .int 0, .ref out]) rfl ?_
  refine lv_i2l hx hb d_Lw_shadows_8 rfl ?_
  refine lv_topl (fun v_1 ev_1 => ?_)
  refine gn_last E hK.1 hG hS ho1 1 rfl (j := 0) (by decide) (by decide) d_Lw_shadows_9 (fun H locs hG hS => ?_)
  obtain ⟨G_2, eG_2⟩ : ∃ z, z = gs_u G1 out (aLong (k 1) 1 (vp_updL ou 0 v_1)) := ⟨_, rfl⟩
  have hG : gs_W D classes zb G_2 H := by rw [eG_2]; exact hG
  have hc_3 : G_2 out = some (aLong (k 1) 1 (vp_updL ou 0 v_1)) := by rw [eG_2]; exact gs_us _ _ _
  refine lv_goto (tgt := 21) hx hb d_Lw_shadows_10 (by decide) ?_
  refine lv_iconst (v := 0) hx hb d_Lw_shadows_21 (by decide) ?_
  exact W.iret (v := 0) hx hb hr (gs_end (Or.inl ⟨v0, G1, hp, rfl, by rw [eG_2, ev_1]; rfl⟩) hG hS) hS.2.2 d_Lw_shadows_22
set_option maxHeartbeats 4000000 in
set_option maxRecDepth 100000 in
theorem k_Lw_dark (l : Launch) (hnt : l.stackTraces = false) (D : va_G) (k : Nat → ClassId) (zb : Nat) (G : Nat → Option va_E) (o aB aW aH aS aT : Nat) (wn hn nb nw : Nat) (ba wa ha : Nat → Nat) (bf hf : Nat → Nat → Int32) (wf : Nat → Nat → Nat) (sh : Nat → Int64) (tk : Nat → Int32) (out : Nat) (ou : Nat → Int64) (q t : Int32) (hC : sC k G o aB aW aH aS aT wn hn nb nw ba wa ha bf hf wf sh tk) (ho : G out = some (aLong (k 1) 1 ou)) : Met l y_Lw_dark (wMW y_Lw_dark c_Lw_dark 5 (some .int) [(0, 10, 13, 13), (0, 10, 17, 15)]) ({ frames := 9, cells := 3, slots := 18, locals := 157 }) (gs_P D k zb G [.ref o, .int q, .int t, .ref out]) (gs_Q D zb (fun v G1 => wr_post (pc_dark k G o aB aW aH aS aT wn hn nb nw ba wa ha bf hf wf sh tk q t) (tc_dark k G o aB aW aH aS aT wn hn nb nw ba wa ha bf hf wf sh tk q t) k G out ou f_i v G1)) 3 18 (fun q : Nat => zb ≤ q) := by
  refine va_MetW (cc := c_Lw_dark) (maxL := 5) (ret := (some .int)) (hh := [(0, 10, 13, 13), (0, 10, 17, 15)]) (by decide) rfl ?_
  intro p e s m args below meth c s₁ B hml hv
  obtain ⟨rfl, hG, hK, hX⟩ := hv
  have hx := B.exec
  have hb := B.bytes
  have hr := B.returns
  have hts := atoms_spec (ws := wMW y_Lw_dark c_Lw_dark 5 (some .int) [(0, 10, 13, 13), (0, 10, 17, 15)]) B.pre
  have hw : ∀ w9 ∈ wW, w9.before ([.ref o, .int q, .int t, .ref out] : List Value).toArray s = true := fun w9 h9 => hts w9 (gi_in w9 h9)
  have hown : s.vm.findClass R_Lw = some m.cls := findClass_of_methodNamed B.named
  have hlocks := B.notSynchronized
  have E : gs_E p s m ([.ref o, .int q, .int t, .ref out] : List Value).toArray c c_Lw_dark wW R_Lw := ⟨hx, hb, hw, hown⟩
  have hS : gs_S zb s.heap s.heap [] := va_S.rf
  have hl := lv_entry ([.ref o, .int q, .int t, .ref out]) (n := 5) (Nat.le_of_ble_eq_true rfl)
  rw [lg_entry_eq]
  generalize (lg_sl ([.ref o, .int q, .int t, .ref out]) ++ List.replicate (5 - (lg_sl ([.ref o, .int q, .int t, .ref out])).length) Slot.unset).toArray = ls at hl ⊢
  have hl : lv_has ls 5 [(0, .ref o), (1, .int q), (2, .int t), (3, .ref out)] := hl
  have htab : c.exceptionTable.toList = tableOf [(0, 10, 13, 13), (0, 10, 17, 15)] := vx_table (x := y_Lw_dark) B (hts _ List.mem_cons_self)
  refine lv_aload_n hx hb d_Lw_dark_0 rfl (lv_at hl 3 rfl) ?_
  refine lv_iconst (v := 0) hx hb d_Lw_dark_1 (by decide) ?_
  refine lv_aload_n hx hb d_Lw_dark_2 rfl (lv_at hl 0 rfl) ?_
  refine lv_iload_n hx hb d_Lw_dark_3 rfl (lv_at hl 1 rfl) ?_
  refine lv_iload_n hx hb d_Lw_dark_4 rfl (lv_at hl 2 rfl) ?_
  refine gs_VX (As := [.int q, .int t]) (rest := [.int 0, .ref out]) (k_Ss_dark l hnt D k zb G o aB aW aH aS aT wn hn nb nw ba wa ha bf hf wf sh tk q t hC) E hml hl.1 (cg_V (C := R_Ss) hw w_367 w_364 w_1 w_365 sel_Ss_dark hd_Ss_dark ⟨by exact Nat.le_of_ble_eq_true rfl, by exact Nat.le_of_ble_eq_true rfl⟩) hG hK hX hS hC.1.1 rfl rfl rfl rfl (by exact Nat.le_of_ble_eq_true rfl) d_Lw_dark_5 ⟨by exact Nat.le_of_ble_eq_true rfl, by exact Nat.le_of_ble_eq_true rfl⟩ (fun E9 ce q9 H locs hp hG hS hq1 hq2 hq3 => ?_) (fun v G1 H locs hp hG hS => ?_)
  · have hE : E9 = e_IA ∨ E9 = e_IS := hp.elim (fun q => Or.inl q.1) (fun q => Or.inr q.1)
    rcases hE with rfl | rfl
    · refine vx_catch hown [] ⟨0, 10, 13, 13⟩ [⟨0, 10, 17, 15⟩] (htab.trans rfl) (fun z hz => absurd hz List.not_mem_nil) rfl (by decide) (name := e_IA) (hw _ w_94) (va_Nw.use rfl hK.2.2.2.1.1) hq1 hq2 hq3 ?_
      refine W.eq (g2 := F0 m 13 ls [.ref q9]) rfl ?_
      refine lv_astore (lv' := [(4, .ref q9), (0, .ref o), (1, .int q), (2, .int t), (3, .ref out)]) hx hb d_Lw_dark_13 hl (by decide) rfl (fun ls hl => ?_)
      refine lv_iconst (v := 1) hx hb d_Lw_dark_15 (by decide) ?_
      exact W.iret (v := 1) hx hb hr (gs_end (Or.inr (Or.inl ⟨hp, rfl, rfl⟩)) hG hS) hS.2.2 d_Lw_dark_16
    · refine vx_catch hown [⟨0, 10, 13, 13⟩] ⟨0, 10, 17, 15⟩ [] (htab.trans rfl) (fun z hz => Or.inr (by rw [List.mem_singleton.mp hz]; exact ⟨by decide, e_IA, hw _ w_94, hK.2.2.2.1.2.2⟩)) rfl (by decide) (name := e_IS) (hw _ w_95) (va_Nw.use rfl hK.2.2.2.1.2.1) hq1 hq2 hq3 ?_
      refine W.eq (g2 := F0 m 17 ls [.ref q9]) rfl ?_
      refine lv_astore (lv' := [(4, .ref q9), (0, .ref o), (1, .int q), (2, .int t), (3, .ref out)]) hx hb d_Lw_dark_17 hl (by decide) rfl (fun ls hl => ?_)
      refine lv_iconst (v := 2) hx hb d_Lw_dark_19 (by decide) ?_
      exact W.iret (v := 2) hx hb hr (gs_end (Or.inr (Or.inr ⟨hp, rfl, rfl⟩)) hG hS) hS.2.2 d_Lw_dark_20
  obtain ⟨⟨v0, hv0⟩, ho1⟩ := po_dark hC ho hp
  subst hv0
  refine W.eq (g2 := F0 m 8 ls [.int v0, .int 0, .ref out]) rfl ?_
  refine lv_i2l hx hb d_Lw_dark_8 rfl ?_
  refine lv_topl (fun v_1 ev_1 => ?_)
  refine gn_last E hK.1 hG hS ho1 1 rfl (j := 0) (by decide) (by decide) d_Lw_dark_9 (fun H locs hG hS => ?_)
  obtain ⟨G_2, eG_2⟩ : ∃ z, z = gs_u G1 out (aLong (k 1) 1 (vp_updL ou 0 v_1)) := ⟨_, rfl⟩
  have hG : gs_W D classes zb G_2 H := by rw [eG_2]; exact hG
  have hc_3 : G_2 out = some (aLong (k 1) 1 (vp_updL ou 0 v_1)) := by rw [eG_2]; exact gs_us _ _ _
  refine lv_goto (tgt := 21) hx hb d_Lw_dark_10 (by decide) ?_
  refine lv_iconst (v := 0) hx hb d_Lw_dark_21 (by decide) ?_
  exact W.iret (v := 0) hx hb hr (gs_end (Or.inl ⟨v0, G1, hp, rfl, by rw [eG_2, ev_1]; rfl⟩) hG hS) hS.2.2 d_Lw_dark_22
set_option maxHeartbeats 4000000 in
set_option maxRecDepth 100000 in
theorem k_Lw_cell_c (l : Launch) (hnt : l.stackTraces = false) (D : va_G) (k : Nat → ClassId) (zb : Nat) (G : Nat → Option va_E) (o aB aW aH aS aT : Nat) (wn hn nb nw : Nat) (ba wa ha : Nat → Nat) (bf hf : Nat → Nat → Int32) (wf : Nat → Nat → Nat) (sh : Nat → Int64) (tk : Nat → Int32) (out : Nat) (ou : Nat → Int64) (b t : Int32) (hC : sC k G o aB aW aH aS aT wn hn nb nw ba wa ha bf hf wf sh tk) (ho : G out = some (aLong (k 1) 1 ou)) : Met l y_Lw_cell_c (wMW y_Lw_cell_c c_Lw_cell_c 5 (some .int) [(0, 10, 13, 13), (0, 10, 17, 15)]) ({ frames := 9, cells := 2, slots := 12, locals := 162 }) (gs_P D k zb G [.ref o, .int b, .int t, .ref out]) (gs_Q D zb (fun v G1 => wr_post (pc_cell k G o aB aW aH aS aT wn hn nb nw ba wa ha bf hf wf sh tk b t) (tc_cell k G o aB aW aH aS aT wn hn nb nw ba wa ha bf hf wf sh tk b t) k G out ou f_i v G1)) 2 12 (fun q : Nat => zb ≤ q) := by
  refine va_MetW (cc := c_Lw_cell_c) (maxL := 5) (ret := (some .int)) (hh := [(0, 10, 13, 13), (0, 10, 17, 15)]) (by decide) rfl ?_
  intro p e s m args below meth c s₁ B hml hv
  obtain ⟨rfl, hG, hK, hX⟩ := hv
  have hx := B.exec
  have hb := B.bytes
  have hr := B.returns
  have hts := atoms_spec (ws := wMW y_Lw_cell_c c_Lw_cell_c 5 (some .int) [(0, 10, 13, 13), (0, 10, 17, 15)]) B.pre
  have hw : ∀ w9 ∈ wW, w9.before ([.ref o, .int b, .int t, .ref out] : List Value).toArray s = true := fun w9 h9 => hts w9 (gi_in w9 h9)
  have hown : s.vm.findClass R_Lw = some m.cls := findClass_of_methodNamed B.named
  have hlocks := B.notSynchronized
  have E : gs_E p s m ([.ref o, .int b, .int t, .ref out] : List Value).toArray c c_Lw_cell_c wW R_Lw := ⟨hx, hb, hw, hown⟩
  have hS : gs_S zb s.heap s.heap [] := va_S.rf
  have hl := lv_entry ([.ref o, .int b, .int t, .ref out]) (n := 5) (Nat.le_of_ble_eq_true rfl)
  rw [lg_entry_eq]
  generalize (lg_sl ([.ref o, .int b, .int t, .ref out]) ++ List.replicate (5 - (lg_sl ([.ref o, .int b, .int t, .ref out])).length) Slot.unset).toArray = ls at hl ⊢
  have hl : lv_has ls 5 [(0, .ref o), (1, .int b), (2, .int t), (3, .ref out)] := hl
  have htab : c.exceptionTable.toList = tableOf [(0, 10, 13, 13), (0, 10, 17, 15)] := vx_table (x := y_Lw_cell_c) B (hts _ List.mem_cons_self)
  refine lv_aload_n hx hb d_Lw_cell_c_0 rfl (lv_at hl 3 rfl) ?_
  refine lv_iconst (v := 0) hx hb d_Lw_cell_c_1 (by decide) ?_
  refine lv_aload_n hx hb d_Lw_cell_c_2 rfl (lv_at hl 0 rfl) ?_
  refine lv_iload_n hx hb d_Lw_cell_c_3 rfl (lv_at hl 1 rfl) ?_
  refine lv_iload_n hx hb d_Lw_cell_c_4 rfl (lv_at hl 2 rfl) ?_
  refine gs_VX (As := [.int b, .int t]) (rest := [.int 0, .ref out]) (k_Ss_cell l hnt D k zb G o aB aW aH aS aT wn hn nb nw ba wa ha bf hf wf sh tk b t hC) E hml hl.1 (cg_V (C := R_Ss) hw w_388 w_385 w_1 w_386 sel_Ss_cell hd_Ss_cell ⟨by exact Nat.le_of_ble_eq_true rfl, by exact Nat.le_of_ble_eq_true rfl⟩) hG hK hX hS hC.1.1 rfl rfl rfl rfl (by exact Nat.le_of_ble_eq_true rfl) d_Lw_cell_c_5 ⟨by exact Nat.le_of_ble_eq_true rfl, by exact Nat.le_of_ble_eq_true rfl⟩ (fun E9 ce q9 H locs hp hG hS hq1 hq2 hq3 => ?_) (fun v G1 H locs hp hG hS => ?_)
  · have hE : E9 = e_IA ∨ E9 = e_IS := hp.elim (fun q => Or.inl q.1) (fun q => Or.inr q.1)
    rcases hE with rfl | rfl
    · refine vx_catch hown [] ⟨0, 10, 13, 13⟩ [⟨0, 10, 17, 15⟩] (htab.trans rfl) (fun z hz => absurd hz List.not_mem_nil) rfl (by decide) (name := e_IA) (hw _ w_94) (va_Nw.use rfl hK.2.2.2.1.1) hq1 hq2 hq3 ?_
      refine W.eq (g2 := F0 m 13 ls [.ref q9]) rfl ?_
      refine lv_astore (lv' := [(4, .ref q9), (0, .ref o), (1, .int b), (2, .int t), (3, .ref out)]) hx hb d_Lw_cell_c_13 hl (by decide) rfl (fun ls hl => ?_)
      refine lv_iconst (v := 1) hx hb d_Lw_cell_c_15 (by decide) ?_
      exact W.iret (v := 1) hx hb hr (gs_end (Or.inr (Or.inl ⟨hp, rfl, rfl⟩)) hG hS) hS.2.2 d_Lw_cell_c_16
    · refine vx_catch hown [⟨0, 10, 13, 13⟩] ⟨0, 10, 17, 15⟩ [] (htab.trans rfl) (fun z hz => Or.inr (by rw [List.mem_singleton.mp hz]; exact ⟨by decide, e_IA, hw _ w_94, hK.2.2.2.1.2.2⟩)) rfl (by decide) (name := e_IS) (hw _ w_95) (va_Nw.use rfl hK.2.2.2.1.2.1) hq1 hq2 hq3 ?_
      refine W.eq (g2 := F0 m 17 ls [.ref q9]) rfl ?_
      refine lv_astore (lv' := [(4, .ref q9), (0, .ref o), (1, .int b), (2, .int t), (3, .ref out)]) hx hb d_Lw_cell_c_17 hl (by decide) rfl (fun ls hl => ?_)
      refine lv_iconst (v := 2) hx hb d_Lw_cell_c_19 (by decide) ?_
      exact W.iret (v := 2) hx hb hr (gs_end (Or.inr (Or.inr ⟨hp, rfl, rfl⟩)) hG hS) hS.2.2 d_Lw_cell_c_20
  obtain ⟨⟨v0, hv0⟩, ho1⟩ := po_cell hC ho hp
  subst hv0
  refine W.eq (g2 := F0 m 8 ls [.int v0, .int 0, .ref out]) rfl ?_
  refine lv_i2l hx hb d_Lw_cell_c_8 rfl ?_
  refine lv_topl (fun v_1 ev_1 => ?_)
  refine gn_last E hK.1 hG hS ho1 1 rfl (j := 0) (by decide) (by decide) d_Lw_cell_c_9 (fun H locs hG hS => ?_)
  obtain ⟨G_2, eG_2⟩ : ∃ z, z = gs_u G1 out (aLong (k 1) 1 (vp_updL ou 0 v_1)) := ⟨_, rfl⟩
  have hG : gs_W D classes zb G_2 H := by rw [eG_2]; exact hG
  have hc_3 : G_2 out = some (aLong (k 1) 1 (vp_updL ou 0 v_1)) := by rw [eG_2]; exact gs_us _ _ _
  refine lv_goto (tgt := 21) hx hb d_Lw_cell_c_10 (by decide) ?_
  refine lv_iconst (v := 0) hx hb d_Lw_cell_c_21 (by decide) ?_
  exact W.iret (v := 0) hx hb hr (gs_end (Or.inl ⟨v0, G1, hp, rfl, by rw [eG_2, ev_1]; rfl⟩) hG hS) hS.2.2 d_Lw_cell_c_22
set_option maxHeartbeats 4000000 in
set_option maxRecDepth 100000 in
theorem k_Lw_lit (l : Launch) (hnt : l.stackTraces = false) (D : va_G) (k : Nat → ClassId) (zb : Nat) (G : Nat → Option va_E) (o aB aW aH aS aT : Nat) (wn hn nb nw : Nat) (ba wa ha : Nat → Nat) (bf hf : Nat → Nat → Int32) (wf : Nat → Nat → Nat) (sh : Nat → Int64) (tk : Nat → Int32) (out : Nat) (ou : Nat → Int64) (q t : Int32) (hC : sC k G o aB aW aH aS aT wn hn nb nw ba wa ha bf hf wf sh tk) (ho : G out = some (aLong (k 1) 1 ou)) : Met l y_Lw_lit (wMW y_Lw_lit c_Lw_lit 5 (some .int) [(0, 10, 13, 13)]) ({ frames := 8, cells := 2, slots := 12, locals := 184 }) (gs_P D k zb G [.ref o, .int q, .int t, .ref out]) (gs_Q D zb (fun v G1 => wr_post (pc_lit k G o aB aW aH aS aT wn hn nb nw ba wa ha bf hf wf sh tk q t) (tc_lit k G o aB aW aH aS aT wn hn nb nw ba wa ha bf hf wf sh tk q t) k G out ou f_i v G1)) 2 12 (fun q : Nat => zb ≤ q) := by
  refine va_MetW (cc := c_Lw_lit) (maxL := 5) (ret := (some .int)) (hh := [(0, 10, 13, 13)]) (by decide) rfl ?_
  intro p e s m args below meth c s₁ B hml hv
  obtain ⟨rfl, hG, hK, hX⟩ := hv
  have hx := B.exec
  have hb := B.bytes
  have hr := B.returns
  have hts := atoms_spec (ws := wMW y_Lw_lit c_Lw_lit 5 (some .int) [(0, 10, 13, 13)]) B.pre
  have hw : ∀ w9 ∈ wW, w9.before ([.ref o, .int q, .int t, .ref out] : List Value).toArray s = true := fun w9 h9 => hts w9 (gi_in w9 h9)
  have hown : s.vm.findClass R_Lw = some m.cls := findClass_of_methodNamed B.named
  have hlocks := B.notSynchronized
  have E : gs_E p s m ([.ref o, .int q, .int t, .ref out] : List Value).toArray c c_Lw_lit wW R_Lw := ⟨hx, hb, hw, hown⟩
  have hS : gs_S zb s.heap s.heap [] := va_S.rf
  have hl := lv_entry ([.ref o, .int q, .int t, .ref out]) (n := 5) (Nat.le_of_ble_eq_true rfl)
  rw [lg_entry_eq]
  generalize (lg_sl ([.ref o, .int q, .int t, .ref out]) ++ List.replicate (5 - (lg_sl ([.ref o, .int q, .int t, .ref out])).length) Slot.unset).toArray = ls at hl ⊢
  have hl : lv_has ls 5 [(0, .ref o), (1, .int q), (2, .int t), (3, .ref out)] := hl
  have htab : c.exceptionTable.toList = tableOf [(0, 10, 13, 13)] := vx_table (x := y_Lw_lit) B (hts _ List.mem_cons_self)
  refine lv_aload_n hx hb d_Lw_lit_0 rfl (lv_at hl 3 rfl) ?_
  refine lv_iconst (v := 0) hx hb d_Lw_lit_1 (by decide) ?_
  refine lv_aload_n hx hb d_Lw_lit_2 rfl (lv_at hl 0 rfl) ?_
  refine lv_iload_n hx hb d_Lw_lit_3 rfl (lv_at hl 1 rfl) ?_
  refine lv_iload_n hx hb d_Lw_lit_4 rfl (lv_at hl 2 rfl) ?_
  refine gs_VX (As := [.int q, .int t]) (rest := [.int 0, .ref out]) (k_Ss_lit l hnt D k zb G o aB aW aH aS aT wn hn nb nw ba wa ha bf hf wf sh tk q t hC) E hml hl.1 (cg_V (C := R_Ss) hw w_399 w_396 w_1 w_397 sel_Ss_lit hd_Ss_lit ⟨by exact Nat.le_of_ble_eq_true rfl, by exact Nat.le_of_ble_eq_true rfl⟩) hG hK hX hS hC.1.1 rfl rfl rfl rfl (by exact Nat.le_of_ble_eq_true rfl) d_Lw_lit_5 ⟨by exact Nat.le_of_ble_eq_true rfl, by exact Nat.le_of_ble_eq_true rfl⟩ (fun E9 ce q9 H locs hp hG hS hq1 hq2 hq3 => ?_) (fun v G1 H locs hp hG hS => ?_)
  · have hE : E9 = e_IA := hp.1
    subst hE
    refine vx_catch hown [] ⟨0, 10, 13, 13⟩ [] (htab.trans rfl) (fun z hz => absurd hz List.not_mem_nil) rfl (by decide) (name := e_IA) (hw _ w_94) (va_Nw.use rfl hK.2.2.2.1.1) hq1 hq2 hq3 ?_
    refine W.eq (g2 := F0 m 13 ls [.ref q9]) rfl ?_
    refine lv_astore (lv' := [(4, .ref q9), (0, .ref o), (1, .int q), (2, .int t), (3, .ref out)]) hx hb d_Lw_lit_13 hl (by decide) rfl (fun ls hl => ?_)
    refine lv_iconst (v := 1) hx hb d_Lw_lit_15 (by decide) ?_
    exact W.iret (v := 1) hx hb hr (gs_end (Or.inr (Or.inl ⟨hp, rfl, rfl⟩)) hG hS) hS.2.2 d_Lw_lit_16
  obtain ⟨⟨v0, hv0⟩, ho1⟩ := po_lit hC ho hp
  subst hv0
  refine W.eq (g2 := F0 m 8 ls [.int v0, .int 0, .ref out]) rfl ?_
  refine lv_i2l hx hb d_Lw_lit_8 rfl ?_
  refine lv_topl (fun v_1 ev_1 => ?_)
  refine gn_last E hK.1 hG hS ho1 1 rfl (j := 0) (by decide) (by decide) d_Lw_lit_9 (fun H locs hG hS => ?_)
  obtain ⟨G_2, eG_2⟩ : ∃ z, z = gs_u G1 out (aLong (k 1) 1 (vp_updL ou 0 v_1)) := ⟨_, rfl⟩
  have hG : gs_W D classes zb G_2 H := by rw [eG_2]; exact hG
  have hc_3 : G_2 out = some (aLong (k 1) 1 (vp_updL ou 0 v_1)) := by rw [eG_2]; exact gs_us _ _ _
  refine lv_goto (tgt := 17) hx hb d_Lw_lit_10 (by decide) ?_
  refine lv_iconst (v := 0) hx hb d_Lw_lit_17 (by decide) ?_
  exact W.iret (v := 0) hx hb hr (gs_end (Or.inl ⟨v0, G1, hp, rfl, by rw [eG_2, ev_1]; rfl⟩) hG hS) hS.2.2 d_Lw_lit_18
set_option maxHeartbeats 4000000 in
set_option maxRecDepth 100000 in
theorem k_Lw_brightest (l : Launch) (hnt : l.stackTraces = false) (D : va_G) (k : Nat → ClassId) (zb : Nat) (G : Nat → Option va_E) (o aB aW aH aS aT : Nat) (wn hn nb nw : Nat) (ba wa ha : Nat → Nat) (bf hf : Nat → Nat → Int32) (wf : Nat → Nat → Nat) (sh : Nat → Int64) (tk : Nat → Int32) (out : Nat) (ou : Nat → Int64) (q : Int32) (hC : sC k G o aB aW aH aS aT wn hn nb nw ba wa ha bf hf wf sh tk) (ho : G out = some (aLong (k 1) 1 ou)) : Met l y_Lw_brightest (wMW y_Lw_brightest c_Lw_brightest 4 (some .int) [(0, 9, 12, 13)]) ({ frames := 8, cells := 1, slots := 6, locals := 182 }) (gs_P D k zb G [.ref o, .int q, .ref out]) (gs_Q D zb (fun v G1 => wr_post (pc_brightest k G o aB aW aH aS aT wn hn nb nw ba wa ha bf hf wf sh tk q) (tc_brightest k G o aB aW aH aS aT wn hn nb nw ba wa ha bf hf wf sh tk q) k G out ou f_i v G1)) 1 6 (fun q : Nat => zb ≤ q) := by
  refine va_MetW (cc := c_Lw_brightest) (maxL := 4) (ret := (some .int)) (hh := [(0, 9, 12, 13)]) (by decide) rfl ?_
  intro p e s m args below meth c s₁ B hml hv
  obtain ⟨rfl, hG, hK, hX⟩ := hv
  have hx := B.exec
  have hb := B.bytes
  have hr := B.returns
  have hts := atoms_spec (ws := wMW y_Lw_brightest c_Lw_brightest 4 (some .int) [(0, 9, 12, 13)]) B.pre
  have hw : ∀ w9 ∈ wW, w9.before ([.ref o, .int q, .ref out] : List Value).toArray s = true := fun w9 h9 => hts w9 (gi_in w9 h9)
  have hown : s.vm.findClass R_Lw = some m.cls := findClass_of_methodNamed B.named
  have hlocks := B.notSynchronized
  have E : gs_E p s m ([.ref o, .int q, .ref out] : List Value).toArray c c_Lw_brightest wW R_Lw := ⟨hx, hb, hw, hown⟩
  have hS : gs_S zb s.heap s.heap [] := va_S.rf
  have hl := lv_entry ([.ref o, .int q, .ref out]) (n := 4) (Nat.le_of_ble_eq_true rfl)
  rw [lg_entry_eq]
  generalize (lg_sl ([.ref o, .int q, .ref out]) ++ List.replicate (4 - (lg_sl ([.ref o, .int q, .ref out])).length) Slot.unset).toArray = ls at hl ⊢
  have hl : lv_has ls 4 [(0, .ref o), (1, .int q), (2, .ref out)] := hl
  have htab : c.exceptionTable.toList = tableOf [(0, 9, 12, 13)] := vx_table (x := y_Lw_brightest) B (hts _ List.mem_cons_self)
  refine lv_aload_n hx hb d_Lw_brightest_0 rfl (lv_at hl 2 rfl) ?_
  refine lv_iconst (v := 0) hx hb d_Lw_brightest_1 (by decide) ?_
  refine lv_aload_n hx hb d_Lw_brightest_2 rfl (lv_at hl 0 rfl) ?_
  refine lv_iload_n hx hb d_Lw_brightest_3 rfl (lv_at hl 1 rfl) ?_
  refine gs_VX (As := [.int q]) (rest := [.int 0, .ref out]) (k_Ss_brightest l hnt D k zb G o aB aW aH aS aT wn hn nb nw ba wa ha bf hf wf sh tk q hC) E hml hl.1 (cg_V (C := R_Ss) hw w_414 w_411 w_1 w_412 sel_Ss_brightest hd_Ss_brightest ⟨by exact Nat.le_of_ble_eq_true rfl, by exact Nat.le_of_ble_eq_true rfl⟩) hG hK hX hS hC.1.1 rfl rfl rfl rfl (by exact Nat.le_of_ble_eq_true rfl) d_Lw_brightest_4 ⟨by exact Nat.le_of_ble_eq_true rfl, by exact Nat.le_of_ble_eq_true rfl⟩ (fun E9 ce q9 H locs hp hG hS hq1 hq2 hq3 => ?_) (fun v G1 H locs hp hG hS => ?_)
  · have hE : E9 = e_IA := hp.1
    subst hE
    refine vx_catch hown [] ⟨0, 9, 12, 13⟩ [] (htab.trans rfl) (fun z hz => absurd hz List.not_mem_nil) rfl (by decide) (name := e_IA) (hw _ w_94) (va_Nw.use rfl hK.2.2.2.1.1) hq1 hq2 hq3 ?_
    refine W.eq (g2 := F0 m 12 ls [.ref q9]) rfl ?_
    refine lv_astore_n (lv' := [(3, .ref q9), (0, .ref o), (1, .int q), (2, .ref out)]) hx hb d_Lw_brightest_12 rfl hl (by decide) rfl (fun ls hl => ?_)
    refine lv_iconst (v := 1) hx hb d_Lw_brightest_13 (by decide) ?_
    exact W.iret (v := 1) hx hb hr (gs_end (Or.inr (Or.inl ⟨hp, rfl, rfl⟩)) hG hS) hS.2.2 d_Lw_brightest_14
  obtain ⟨⟨v0, hv0⟩, ho1⟩ := po_brightest hC ho hp
  subst hv0
  refine W.eq (g2 := F0 m 7 ls [.int v0, .int 0, .ref out]) rfl ?_
  refine lv_i2l hx hb d_Lw_brightest_7 rfl ?_
  refine lv_topl (fun v_1 ev_1 => ?_)
  refine gn_last E hK.1 hG hS ho1 1 rfl (j := 0) (by decide) (by decide) d_Lw_brightest_8 (fun H locs hG hS => ?_)
  obtain ⟨G_2, eG_2⟩ : ∃ z, z = gs_u G1 out (aLong (k 1) 1 (vp_updL ou 0 v_1)) := ⟨_, rfl⟩
  have hG : gs_W D classes zb G_2 H := by rw [eG_2]; exact hG
  have hc_3 : G_2 out = some (aLong (k 1) 1 (vp_updL ou 0 v_1)) := by rw [eG_2]; exact gs_us _ _ _
  refine lv_goto (tgt := 15) hx hb d_Lw_brightest_9 (by decide) ?_
  refine lv_iconst (v := 0) hx hb d_Lw_brightest_15 (by decide) ?_
  exact W.iret (v := 0) hx hb hr (gs_end (Or.inl ⟨v0, G1, hp, rfl, by rw [eG_2, ev_1]; rfl⟩) hG hS) hS.2.2 d_Lw_brightest_16
set_option maxHeartbeats 4000000 in
set_option maxRecDepth 100000 in
theorem k_Lw_ledge (l : Launch) (hnt : l.stackTraces = false) (D : va_G) (k : Nat → ClassId) (zb : Nat) (G : Nat → Option va_E) (o aB aW aH aS aT : Nat) (wn hn nb nw : Nat) (ba wa ha : Nat → Nat) (bf hf : Nat → Nat → Int32) (wf : Nat → Nat → Nat) (sh : Nat → Int64) (tk : Nat → Int32) (out : Nat) (ou : Nat → Int64) (q t d : Int32) (hC : sC k G o aB aW aH aS aT wn hn nb nw ba wa ha bf hf wf sh tk) (ho : G out = some (aLong (k 1) 1 ou)) : Met l y_Lw_ledge (wMW y_Lw_ledge c_Lw_ledge 6 (some .int) [(0, 12, 15, 13), (0, 12, 19, 15)]) ({ frames := 9, cells := 4, slots := 25, locals := 158 }) (gs_P D k zb G [.ref o, .int q, .int t, .int d, .ref out]) (gs_Q D zb (fun v G1 => wr_post (pc_ledge k G o aB aW aH aS aT wn hn nb nw ba wa ha bf hf wf sh tk q t d) (tc_ledge k G o aB aW aH aS aT wn hn nb nw ba wa ha bf hf wf sh tk q t d) k G out ou f_i v G1)) 4 25 (fun q : Nat => zb ≤ q) := by
  refine va_MetW (cc := c_Lw_ledge) (maxL := 6) (ret := (some .int)) (hh := [(0, 12, 15, 13), (0, 12, 19, 15)]) (by decide) rfl ?_
  intro p e s m args below meth c s₁ B hml hv
  obtain ⟨rfl, hG, hK, hX⟩ := hv
  have hx := B.exec
  have hb := B.bytes
  have hr := B.returns
  have hts := atoms_spec (ws := wMW y_Lw_ledge c_Lw_ledge 6 (some .int) [(0, 12, 15, 13), (0, 12, 19, 15)]) B.pre
  have hw : ∀ w9 ∈ wW, w9.before ([.ref o, .int q, .int t, .int d, .ref out] : List Value).toArray s = true := fun w9 h9 => hts w9 (gi_in w9 h9)
  have hown : s.vm.findClass R_Lw = some m.cls := findClass_of_methodNamed B.named
  have hlocks := B.notSynchronized
  have E : gs_E p s m ([.ref o, .int q, .int t, .int d, .ref out] : List Value).toArray c c_Lw_ledge wW R_Lw := ⟨hx, hb, hw, hown⟩
  have hS : gs_S zb s.heap s.heap [] := va_S.rf
  have hl := lv_entry ([.ref o, .int q, .int t, .int d, .ref out]) (n := 6) (Nat.le_of_ble_eq_true rfl)
  rw [lg_entry_eq]
  generalize (lg_sl ([.ref o, .int q, .int t, .int d, .ref out]) ++ List.replicate (6 - (lg_sl ([.ref o, .int q, .int t, .int d, .ref out])).length) Slot.unset).toArray = ls at hl ⊢
  have hl : lv_has ls 6 [(0, .ref o), (1, .int q), (2, .int t), (3, .int d), (4, .ref out)] := hl
  have htab : c.exceptionTable.toList = tableOf [(0, 12, 15, 13), (0, 12, 19, 15)] := vx_table (x := y_Lw_ledge) B (hts _ List.mem_cons_self)
  refine lv_aload hx hb d_Lw_ledge_0 (lv_at hl 4 rfl) ?_
  refine lv_iconst (v := 0) hx hb d_Lw_ledge_2 (by decide) ?_
  refine lv_aload_n hx hb d_Lw_ledge_3 rfl (lv_at hl 0 rfl) ?_
  refine lv_iload_n hx hb d_Lw_ledge_4 rfl (lv_at hl 1 rfl) ?_
  refine lv_iload_n hx hb d_Lw_ledge_5 rfl (lv_at hl 2 rfl) ?_
  refine lv_iload_n hx hb d_Lw_ledge_6 rfl (lv_at hl 3 rfl) ?_
  refine gs_VX (As := [.int q, .int t, .int d]) (rest := [.int 0, .ref out]) (k_Ss_ledge l hnt D k zb G o aB aW aH aS aT wn hn nb nw ba wa ha bf hf wf sh tk q t d hC) E hml hl.1 (cg_V (C := R_Ss) hw w_421 w_418 w_1 w_419 sel_Ss_ledge hd_Ss_ledge ⟨by exact Nat.le_of_ble_eq_true rfl, by exact Nat.le_of_ble_eq_true rfl⟩) hG hK hX hS hC.1.1 rfl rfl rfl rfl (by exact Nat.le_of_ble_eq_true rfl) d_Lw_ledge_7 ⟨by exact Nat.le_of_ble_eq_true rfl, by exact Nat.le_of_ble_eq_true rfl⟩ (fun E9 ce q9 H locs hp hG hS hq1 hq2 hq3 => ?_) (fun v G1 H locs hp hG hS => ?_)
  · have hE : E9 = e_IA ∨ E9 = e_IS := hp.elim (fun q => Or.inl q.1) (fun q => Or.inr q.1)
    rcases hE with rfl | rfl
    · refine vx_catch hown [] ⟨0, 12, 15, 13⟩ [⟨0, 12, 19, 15⟩] (htab.trans rfl) (fun z hz => absurd hz List.not_mem_nil) rfl (by decide) (name := e_IA) (hw _ w_94) (va_Nw.use rfl hK.2.2.2.1.1) hq1 hq2 hq3 ?_
      refine W.eq (g2 := F0 m 15 ls [.ref q9]) rfl ?_
      refine lv_astore (lv' := [(5, .ref q9), (0, .ref o), (1, .int q), (2, .int t), (3, .int d), (4, .ref out)]) hx hb d_Lw_ledge_15 hl (by decide) rfl (fun ls hl => ?_)
      refine lv_iconst (v := 1) hx hb d_Lw_ledge_17 (by decide) ?_
      exact W.iret (v := 1) hx hb hr (gs_end (Or.inr (Or.inl ⟨hp, rfl, rfl⟩)) hG hS) hS.2.2 d_Lw_ledge_18
    · refine vx_catch hown [⟨0, 12, 15, 13⟩] ⟨0, 12, 19, 15⟩ [] (htab.trans rfl) (fun z hz => Or.inr (by rw [List.mem_singleton.mp hz]; exact ⟨by decide, e_IA, hw _ w_94, hK.2.2.2.1.2.2⟩)) rfl (by decide) (name := e_IS) (hw _ w_95) (va_Nw.use rfl hK.2.2.2.1.2.1) hq1 hq2 hq3 ?_
      refine W.eq (g2 := F0 m 19 ls [.ref q9]) rfl ?_
      refine lv_astore (lv' := [(5, .ref q9), (0, .ref o), (1, .int q), (2, .int t), (3, .int d), (4, .ref out)]) hx hb d_Lw_ledge_19 hl (by decide) rfl (fun ls hl => ?_)
      refine lv_iconst (v := 2) hx hb d_Lw_ledge_21 (by decide) ?_
      exact W.iret (v := 2) hx hb hr (gs_end (Or.inr (Or.inr ⟨hp, rfl, rfl⟩)) hG hS) hS.2.2 d_Lw_ledge_22
  obtain ⟨⟨v0, hv0⟩, ho1⟩ := po_ledge hC ho hp
  subst hv0
  refine W.eq (g2 := F0 m 10 ls [.int v0, .int 0, .ref out]) rfl ?_
  refine lv_i2l hx hb d_Lw_ledge_10 rfl ?_
  refine lv_topl (fun v_1 ev_1 => ?_)
  refine gn_last E hK.1 hG hS ho1 1 rfl (j := 0) (by decide) (by decide) d_Lw_ledge_11 (fun H locs hG hS => ?_)
  obtain ⟨G_2, eG_2⟩ : ∃ z, z = gs_u G1 out (aLong (k 1) 1 (vp_updL ou 0 v_1)) := ⟨_, rfl⟩
  have hG : gs_W D classes zb G_2 H := by rw [eG_2]; exact hG
  have hc_3 : G_2 out = some (aLong (k 1) 1 (vp_updL ou 0 v_1)) := by rw [eG_2]; exact gs_us _ _ _
  refine lv_goto (tgt := 23) hx hb d_Lw_ledge_12 (by decide) ?_
  refine lv_iconst (v := 0) hx hb d_Lw_ledge_23 (by decide) ?_
  exact W.iret (v := 0) hx hb hr (gs_end (Or.inl ⟨v0, G1, hp, rfl, by rw [eG_2, ev_1]; rfl⟩) hG hS) hS.2.2 d_Lw_ledge_24
set_option maxHeartbeats 4000000 in
set_option maxRecDepth 100000 in
theorem k_Lw_deep (l : Launch) (hnt : l.stackTraces = false) (D : va_G) (k : Nat → ClassId) (zb : Nat) (G : Nat → Option va_E) (o aB aW aH aS aT : Nat) (wn hn nb nw : Nat) (ba wa ha : Nat → Nat) (bf hf : Nat → Nat → Int32) (wf : Nat → Nat → Nat) (sh : Nat → Int64) (tk : Nat → Int32) (out : Nat) (ou : Nat → Int64) (q t cs : Int32) (hC : sC k G o aB aW aH aS aT wn hn nb nw ba wa ha bf hf wf sh tk) (ho : G out = some (aLong (k 1) 1 ou)) : Met l y_Lw_deep (wMW y_Lw_deep c_Lw_deep 6 (some .int) [(0, 12, 15, 13), (0, 12, 19, 15)]) ({ frames := 9, cells := 4, slots := 25, locals := 187 }) (gs_P D k zb G [.ref o, .int q, .int t, .int cs, .ref out]) (gs_Q D zb (fun v G1 => wr_post (pc_deep k G o aB aW aH aS aT wn hn nb nw ba wa ha bf hf wf sh tk q t cs) (tc_deep k G o aB aW aH aS aT wn hn nb nw ba wa ha bf hf wf sh tk q t cs) k G out ou f_i v G1)) 4 25 (fun q : Nat => zb ≤ q) := by
  refine va_MetW (cc := c_Lw_deep) (maxL := 6) (ret := (some .int)) (hh := [(0, 12, 15, 13), (0, 12, 19, 15)]) (by decide) rfl ?_
  intro p e s m args below meth c s₁ B hml hv
  obtain ⟨rfl, hG, hK, hX⟩ := hv
  have hx := B.exec
  have hb := B.bytes
  have hr := B.returns
  have hts := atoms_spec (ws := wMW y_Lw_deep c_Lw_deep 6 (some .int) [(0, 12, 15, 13), (0, 12, 19, 15)]) B.pre
  have hw : ∀ w9 ∈ wW, w9.before ([.ref o, .int q, .int t, .int cs, .ref out] : List Value).toArray s = true := fun w9 h9 => hts w9 (gi_in w9 h9)
  have hown : s.vm.findClass R_Lw = some m.cls := findClass_of_methodNamed B.named
  have hlocks := B.notSynchronized
  have E : gs_E p s m ([.ref o, .int q, .int t, .int cs, .ref out] : List Value).toArray c c_Lw_deep wW R_Lw := ⟨hx, hb, hw, hown⟩
  have hS : gs_S zb s.heap s.heap [] := va_S.rf
  have hl := lv_entry ([.ref o, .int q, .int t, .int cs, .ref out]) (n := 6) (Nat.le_of_ble_eq_true rfl)
  rw [lg_entry_eq]
  generalize (lg_sl ([.ref o, .int q, .int t, .int cs, .ref out]) ++ List.replicate (6 - (lg_sl ([.ref o, .int q, .int t, .int cs, .ref out])).length) Slot.unset).toArray = ls at hl ⊢
  have hl : lv_has ls 6 [(0, .ref o), (1, .int q), (2, .int t), (3, .int cs), (4, .ref out)] := hl
  have htab : c.exceptionTable.toList = tableOf [(0, 12, 15, 13), (0, 12, 19, 15)] := vx_table (x := y_Lw_deep) B (hts _ List.mem_cons_self)
  refine lv_aload hx hb d_Lw_deep_0 (lv_at hl 4 rfl) ?_
  refine lv_iconst (v := 0) hx hb d_Lw_deep_2 (by decide) ?_
  refine lv_aload_n hx hb d_Lw_deep_3 rfl (lv_at hl 0 rfl) ?_
  refine lv_iload_n hx hb d_Lw_deep_4 rfl (lv_at hl 1 rfl) ?_
  refine lv_iload_n hx hb d_Lw_deep_5 rfl (lv_at hl 2 rfl) ?_
  refine lv_iload_n hx hb d_Lw_deep_6 rfl (lv_at hl 3 rfl) ?_
  refine gs_VX (As := [.int q, .int t, .int cs]) (rest := [.int 0, .ref out]) (k_Ss_deep l hnt D k zb G o aB aW aH aS aT wn hn nb nw ba wa ha bf hf wf sh tk q t cs hC) E hml hl.1 (cg_V (C := R_Ss) hw w_435 w_432 w_1 w_433 sel_Ss_deep hd_Ss_deep ⟨by exact Nat.le_of_ble_eq_true rfl, by exact Nat.le_of_ble_eq_true rfl⟩) hG hK hX hS hC.1.1 rfl rfl rfl rfl (by exact Nat.le_of_ble_eq_true rfl) d_Lw_deep_7 ⟨by exact Nat.le_of_ble_eq_true rfl, by exact Nat.le_of_ble_eq_true rfl⟩ (fun E9 ce q9 H locs hp hG hS hq1 hq2 hq3 => ?_) (fun v G1 H locs hp hG hS => ?_)
  · have hE : E9 = e_IA ∨ E9 = e_IS := hp.elim (fun q => Or.inl q.1) (fun q => Or.inr q.1)
    rcases hE with rfl | rfl
    · refine vx_catch hown [] ⟨0, 12, 15, 13⟩ [⟨0, 12, 19, 15⟩] (htab.trans rfl) (fun z hz => absurd hz List.not_mem_nil) rfl (by decide) (name := e_IA) (hw _ w_94) (va_Nw.use rfl hK.2.2.2.1.1) hq1 hq2 hq3 ?_
      refine W.eq (g2 := F0 m 15 ls [.ref q9]) rfl ?_
      refine lv_astore (lv' := [(5, .ref q9), (0, .ref o), (1, .int q), (2, .int t), (3, .int cs), (4, .ref out)]) hx hb d_Lw_deep_15 hl (by decide) rfl (fun ls hl => ?_)
      refine lv_iconst (v := 1) hx hb d_Lw_deep_17 (by decide) ?_
      exact W.iret (v := 1) hx hb hr (gs_end (Or.inr (Or.inl ⟨hp, rfl, rfl⟩)) hG hS) hS.2.2 d_Lw_deep_18
    · refine vx_catch hown [⟨0, 12, 15, 13⟩] ⟨0, 12, 19, 15⟩ [] (htab.trans rfl) (fun z hz => Or.inr (by rw [List.mem_singleton.mp hz]; exact ⟨by decide, e_IA, hw _ w_94, hK.2.2.2.1.2.2⟩)) rfl (by decide) (name := e_IS) (hw _ w_95) (va_Nw.use rfl hK.2.2.2.1.2.1) hq1 hq2 hq3 ?_
      refine W.eq (g2 := F0 m 19 ls [.ref q9]) rfl ?_
      refine lv_astore (lv' := [(5, .ref q9), (0, .ref o), (1, .int q), (2, .int t), (3, .int cs), (4, .ref out)]) hx hb d_Lw_deep_19 hl (by decide) rfl (fun ls hl => ?_)
      refine lv_iconst (v := 2) hx hb d_Lw_deep_21 (by decide) ?_
      exact W.iret (v := 2) hx hb hr (gs_end (Or.inr (Or.inr ⟨hp, rfl, rfl⟩)) hG hS) hS.2.2 d_Lw_deep_22
  obtain ⟨⟨v0, hv0⟩, ho1⟩ := po_deep hC ho hp
  subst hv0
  refine W.eq (g2 := F0 m 10 ls [.int v0, .int 0, .ref out]) rfl ?_
  refine lv_i2l hx hb d_Lw_deep_10 rfl ?_
  refine lv_topl (fun v_1 ev_1 => ?_)
  refine gn_last E hK.1 hG hS ho1 1 rfl (j := 0) (by decide) (by decide) d_Lw_deep_11 (fun H locs hG hS => ?_)
  obtain ⟨G_2, eG_2⟩ : ∃ z, z = gs_u G1 out (aLong (k 1) 1 (vp_updL ou 0 v_1)) := ⟨_, rfl⟩
  have hG : gs_W D classes zb G_2 H := by rw [eG_2]; exact hG
  have hc_3 : G_2 out = some (aLong (k 1) 1 (vp_updL ou 0 v_1)) := by rw [eG_2]; exact gs_us _ _ _
  refine lv_goto (tgt := 23) hx hb d_Lw_deep_12 (by decide) ?_
  refine lv_iconst (v := 0) hx hb d_Lw_deep_23 (by decide) ?_
  exact W.iret (v := 0) hx hb hr (gs_end (Or.inl ⟨v0, G1, hp, rfl, by rw [eG_2, ev_1]; rfl⟩) hG hS) hS.2.2 d_Lw_deep_24
set_option maxHeartbeats 4000000 in
set_option maxRecDepth 100000 in
theorem k_Lw_worst (l : Launch) (hnt : l.stackTraces = false) (D : va_G) (k : Nat → ClassId) (zb : Nat) (G : Nat → Option va_E) (o aB aW aH aS aT : Nat) (wn hn nb nw : Nat) (ba wa ha : Nat → Nat) (bf hf : Nat → Nat → Int32) (wf : Nat → Nat → Nat) (sh : Nat → Int64) (tk : Nat → Int32) (out : Nat) (ou : Nat → Int64) (q : Int32) (hC : sC k G o aB aW aH aS aT wn hn nb nw ba wa ha bf hf wf sh tk) (ho : G out = some (aLong (k 1) 1 ou)) : Met l y_Lw_worst (wMW y_Lw_worst c_Lw_worst 4 (some .int) [(0, 9, 12, 13)]) ({ frames := 8, cells := 1, slots := 6, locals := 161 }) (gs_P D k zb G [.ref o, .int q, .ref out]) (gs_Q D zb (fun v G1 => wr_post (pc_worst k G o aB aW aH aS aT wn hn nb nw ba wa ha bf hf wf sh tk q) (tc_worst k G o aB aW aH aS aT wn hn nb nw ba wa ha bf hf wf sh tk q) k G out ou f_i v G1)) 1 6 (fun q : Nat => zb ≤ q) := by
  refine va_MetW (cc := c_Lw_worst) (maxL := 4) (ret := (some .int)) (hh := [(0, 9, 12, 13)]) (by decide) rfl ?_
  intro p e s m args below meth c s₁ B hml hv
  obtain ⟨rfl, hG, hK, hX⟩ := hv
  have hx := B.exec
  have hb := B.bytes
  have hr := B.returns
  have hts := atoms_spec (ws := wMW y_Lw_worst c_Lw_worst 4 (some .int) [(0, 9, 12, 13)]) B.pre
  have hw : ∀ w9 ∈ wW, w9.before ([.ref o, .int q, .ref out] : List Value).toArray s = true := fun w9 h9 => hts w9 (gi_in w9 h9)
  have hown : s.vm.findClass R_Lw = some m.cls := findClass_of_methodNamed B.named
  have hlocks := B.notSynchronized
  have E : gs_E p s m ([.ref o, .int q, .ref out] : List Value).toArray c c_Lw_worst wW R_Lw := ⟨hx, hb, hw, hown⟩
  have hS : gs_S zb s.heap s.heap [] := va_S.rf
  have hl := lv_entry ([.ref o, .int q, .ref out]) (n := 4) (Nat.le_of_ble_eq_true rfl)
  rw [lg_entry_eq]
  generalize (lg_sl ([.ref o, .int q, .ref out]) ++ List.replicate (4 - (lg_sl ([.ref o, .int q, .ref out])).length) Slot.unset).toArray = ls at hl ⊢
  have hl : lv_has ls 4 [(0, .ref o), (1, .int q), (2, .ref out)] := hl
  have htab : c.exceptionTable.toList = tableOf [(0, 9, 12, 13)] := vx_table (x := y_Lw_worst) B (hts _ List.mem_cons_self)
  refine lv_aload_n hx hb d_Lw_worst_0 rfl (lv_at hl 2 rfl) ?_
  refine lv_iconst (v := 0) hx hb d_Lw_worst_1 (by decide) ?_
  refine lv_aload_n hx hb d_Lw_worst_2 rfl (lv_at hl 0 rfl) ?_
  refine lv_iload_n hx hb d_Lw_worst_3 rfl (lv_at hl 1 rfl) ?_
  refine gs_VX (As := [.int q]) (rest := [.int 0, .ref out]) (k_Ss_worst l hnt D k zb G o aB aW aH aS aT wn hn nb nw ba wa ha bf hf wf sh tk q hC) E hml hl.1 (cg_V (C := R_Ss) hw w_447 w_444 w_1 w_445 sel_Ss_worst hd_Ss_worst ⟨by exact Nat.le_of_ble_eq_true rfl, by exact Nat.le_of_ble_eq_true rfl⟩) hG hK hX hS hC.1.1 rfl rfl rfl rfl (by exact Nat.le_of_ble_eq_true rfl) d_Lw_worst_4 ⟨by exact Nat.le_of_ble_eq_true rfl, by exact Nat.le_of_ble_eq_true rfl⟩ (fun E9 ce q9 H locs hp hG hS hq1 hq2 hq3 => ?_) (fun v G1 H locs hp hG hS => ?_)
  · have hE : E9 = e_IA := hp.1
    subst hE
    refine vx_catch hown [] ⟨0, 9, 12, 13⟩ [] (htab.trans rfl) (fun z hz => absurd hz List.not_mem_nil) rfl (by decide) (name := e_IA) (hw _ w_94) (va_Nw.use rfl hK.2.2.2.1.1) hq1 hq2 hq3 ?_
    refine W.eq (g2 := F0 m 12 ls [.ref q9]) rfl ?_
    refine lv_astore_n (lv' := [(3, .ref q9), (0, .ref o), (1, .int q), (2, .ref out)]) hx hb d_Lw_worst_12 rfl hl (by decide) rfl (fun ls hl => ?_)
    refine lv_iconst (v := 1) hx hb d_Lw_worst_13 (by decide) ?_
    exact W.iret (v := 1) hx hb hr (gs_end (Or.inr (Or.inl ⟨hp, rfl, rfl⟩)) hG hS) hS.2.2 d_Lw_worst_14
  obtain ⟨⟨v0, hv0⟩, ho1⟩ := po_worst hC ho hp
  subst hv0
  refine W.eq (g2 := F0 m 7 ls [.int v0, .int 0, .ref out]) rfl ?_
  refine lv_i2l hx hb d_Lw_worst_7 rfl ?_
  refine lv_topl (fun v_1 ev_1 => ?_)
  refine gn_last E hK.1 hG hS ho1 1 rfl (j := 0) (by decide) (by decide) d_Lw_worst_8 (fun H locs hG hS => ?_)
  obtain ⟨G_2, eG_2⟩ : ∃ z, z = gs_u G1 out (aLong (k 1) 1 (vp_updL ou 0 v_1)) := ⟨_, rfl⟩
  have hG : gs_W D classes zb G_2 H := by rw [eG_2]; exact hG
  have hc_3 : G_2 out = some (aLong (k 1) 1 (vp_updL ou 0 v_1)) := by rw [eG_2]; exact gs_us _ _ _
  refine lv_goto (tgt := 15) hx hb d_Lw_worst_9 (by decide) ?_
  refine lv_iconst (v := 0) hx hb d_Lw_worst_15 (by decide) ?_
  exact W.iret (v := 0) hx hb hr (gs_end (Or.inl ⟨v0, G1, hp, rfl, by rw [eG_2, ev_1]; rfl⟩) hG hS) hS.2.2 d_Lw_worst_16
