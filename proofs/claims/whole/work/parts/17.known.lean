/-! contracts, by program -/
set_option maxHeartbeats 4000000 in
set_option maxRecDepth 100000 in
theorem k_Ss_knownBox (l : Launch) (hnt : l.stackTraces = false) (D : va_G) (k : Nat → ClassId) (zb : Nat) (G : Nat → Option va_E) (o aB aW aH aS aT : Nat) (wn hn nb nw : Nat) (ba wa ha : Nat → Nat) (bf hf : Nat → Nat → Int32) (wf : Nat → Nat → Nat) (sh : Nat → Int64) (tk : Nat → Int32) (n : Int32) (hC : sC k G o aB aW aH aS aT wn hn nb nw ba wa ha bf hf wf sh tk) : vx_Met l y_Ss_knownBox (wM y_Ss_knownBox c_Ss_knownBox 3 (some (.object "SunShadows$Box"))) ({ frames := 6, cells := 1, slots := 6, locals := 90 }) (gs_P D k zb G [.ref o, .int n]) (gs_Q D zb (fun v G1 => ∃ i : Nat, i < nb ∧ n = nI i ∧ v = some (.ref (ba i)) ∧ G1 = G)) (gs_T D zb G (fun E => E = e_IA ∧ ¬ ∃ i : Nat, i < nb ∧ n = nI i)) 1 6 (fun q : Nat => zb ≤ q) := by
  refine vx_ofW (cc := c_Ss_knownBox) (maxL := 3) (ret := (some (.object "SunShadows$Box"))) (by decide) rfl ?_
  intro p e s m args below meth c s₁ B hml ht hv
  obtain ⟨rfl, hG, hK, hX⟩ := hv
  have hx := B.exec
  have hb := B.bytes
  have hr := B.returns
  have hts := atoms_spec (ws := wM y_Ss_knownBox c_Ss_knownBox 3 (some (.object "SunShadows$Box"))) B.pre
  have hw : ∀ w9 ∈ wW, w9.before ([.ref o, .int n] : List Value).toArray s = true := fun w9 h9 => hts w9 (gi_in w9 h9)
  have hown : s.vm.findClass R_Ss = some m.cls := findClass_of_methodNamed B.named
  have hlocks := B.notSynchronized
  have E : gs_E p s m ([.ref o, .int n] : List Value).toArray c c_Ss_knownBox wW R_Ss := ⟨hx, hb, hw, hown⟩
  have hS : gs_S zb s.heap s.heap [] := va_S.rf
  have hl := lv_entry ([.ref o, .int n]) (n := 3) (Nat.le_of_ble_eq_true rfl)
  rw [lg_entry_eq]
  generalize (lg_sl ([.ref o, .int n]) ++ List.replicate (3 - (lg_sl ([.ref o, .int n])).length) Slot.unset).toArray = ls at hl ⊢
  have hl : lv_has ls 3 [(0, .ref o), (1, .int n)] := hl
  refine lv_iload_n hx hb d_Ss_knownBox_0 rfl (lv_at hl 1 rfl) ?_
  refine lv_if_lt (tgt := 22) hx hb d_Ss_knownBox_1 (by decide) (fun c_1 => ?_) (fun c_1 => ?_)
  · refine lv_null hx hb d_Ss_knownBox_22 ?_
    refine lv_astore_nN (lv' := [(2, .null), (0, .ref o), (1, .int n)]) hx hb d_Ss_knownBox_23 rfl hl (by decide) rfl (fun ls hl => ?_)
    refine lv_aload_nN hx hb d_Ss_knownBox_24 rfl (lv_at hl 0 rfl) ?_
    refine lv_ifnonnullN hx hb d_Ss_knownBox_25 ?_
    exact gs_throwIA (text := "no such box") hnt E hG hK hX hS ht (hl.1.trans hml.symm) w_103 w_9 (by decide) (⟨rfl, kb_no1 (by have := hC.2.1; omega) c_1⟩) d_Ss_knownBox_28 d_Ss_knownBox_31 d_Ss_knownBox_32 d_Ss_knownBox_34 d_Ss_knownBox_37 (by exact Nat.le_of_ble_eq_true rfl) (by exact Nat.le_of_ble_eq_true rfl) (by exact Nat.le_of_ble_eq_true rfl) (by exact Nat.le_of_ble_eq_true rfl) hlocks (by decide) (by decide)
  · refine lv_iload_n hx hb d_Ss_knownBox_4 rfl (lv_at hl 1 rfl) ?_
    refine lv_aload_n hx hb d_Ss_knownBox_5 rfl (lv_at hl 0 rfl) ?_
    refine gs_get E hK.1 hG hC.1.1 (C := R_Ss) (T := F_Ss) (N := 9) rfl i_Ss 2 (by decide) w_62 (v := .ref aB) rfl d_Ss_knownBox_6 ?_
    refine gs_alen E hK.1 hG hC.1.2.1 3 rfl (v := 10) rfl d_Ss_knownBox_9 ?_
    refine lv_icmp_ge (tgt := 22) hx hb d_Ss_knownBox_10 (by decide) (fun c_2 => ?_) (fun c_2 => ?_)
    · refine lv_null hx hb d_Ss_knownBox_22 ?_
      refine lv_astore_nN (lv' := [(2, .null), (0, .ref o), (1, .int n)]) hx hb d_Ss_knownBox_23 rfl hl (by decide) rfl (fun ls hl => ?_)
      refine lv_aload_nN hx hb d_Ss_knownBox_24 rfl (lv_at hl 0 rfl) ?_
      refine lv_ifnonnullN hx hb d_Ss_knownBox_25 ?_
      exact gs_throwIA (text := "no such box") hnt E hG hK hX hS ht (hl.1.trans hml.symm) w_103 w_9 (by decide) (⟨rfl, kb_no2 (M := 10) (by have := hC.2.1; omega) (by decide) c_2⟩) d_Ss_knownBox_28 d_Ss_knownBox_31 d_Ss_knownBox_32 d_Ss_knownBox_34 d_Ss_knownBox_37 (by exact Nat.le_of_ble_eq_true rfl) (by exact Nat.le_of_ble_eq_true rfl) (by exact Nat.le_of_ble_eq_true rfl) (by exact Nat.le_of_ble_eq_true rfl) hlocks (by decide) (by decide)
    · refine lv_aload_n hx hb d_Ss_knownBox_13 rfl (lv_at hl 0 rfl) ?_
      refine gs_get E hK.1 hG hC.1.1 (C := R_Ss) (T := F_Ss) (N := 9) rfl i_Ss 2 (by decide) w_62 (v := .ref aB) rfl d_Ss_knownBox_14 ?_
      refine lv_iload_n hx hb d_Ss_knownBox_17 rfl (lv_at hl 1 rfl) ?_
      obtain ⟨j, hj, rfl⟩ := ix_of (n := 10) (by decide) c_1 c_2
      by_cases hq_3 : j < nb
      · refine gn_aldS E hK.1 hG hC.1.2.1 3 rfl (j := j) hj (by decide) (upTo_in hq_3) d_Ss_knownBox_18 ?_
        refine lv_goto (tgt := 23) hx hb d_Ss_knownBox_19 (by decide) ?_
        refine lv_astore_n (lv' := [(2, .ref (ba j)), (0, .ref o), (1, .int (nI j))]) hx hb d_Ss_knownBox_23 rfl hl (by decide) rfl (fun ls hl => ?_)
        refine lv_aload_n hx hb d_Ss_knownBox_24 rfl (lv_at hl 0 rfl) ?_
        refine lv_ifnonnull (tgt := 38) hx hb d_Ss_knownBox_25 (by decide) ?_
        refine lv_aload_n hx hb d_Ss_knownBox_38 rfl (lv_at hl 0 rfl) ?_
        refine W.widen (k := 1) (n := 6) (by decide) (by decide) ?_
        refine vx_ret ?_
        exact W.aret (v := .ref (ba j)) hx hb hr (Or.inl ⟨_, rfl⟩) (Or.inr ⟨_, rfl⟩) (gs_end ⟨j, hq_3, rfl, rfl, rfl⟩ hG hS) hS.2.2 d_Ss_knownBox_39
      · refine gn_aldN E hK.1 hG hC.1.2.1 3 rfl (j := j) hj (by decide) (upTo_out hq_3) d_Ss_knownBox_18 ?_
        refine lv_goto (tgt := 23) hx hb d_Ss_knownBox_19 (by decide) ?_
        refine lv_astore_nN (lv' := [(2, .null), (0, .ref o), (1, .int (nI j))]) hx hb d_Ss_knownBox_23 rfl hl (by decide) rfl (fun ls hl => ?_)
        refine lv_aload_nN hx hb d_Ss_knownBox_24 rfl (lv_at hl 0 rfl) ?_
        refine lv_ifnonnullN hx hb d_Ss_knownBox_25 ?_
        exact gs_throwIA (text := "no such box") hnt E hG hK hX hS ht (hl.1.trans hml.symm) w_103 w_9 (by decide) (⟨rfl, kb_no3 (by have := hC.2.1; omega) (by omega) hq_3⟩) d_Ss_knownBox_28 d_Ss_knownBox_31 d_Ss_knownBox_32 d_Ss_knownBox_34 d_Ss_knownBox_37 (by exact Nat.le_of_ble_eq_true rfl) (by exact Nat.le_of_ble_eq_true rfl) (by exact Nat.le_of_ble_eq_true rfl) (by exact Nat.le_of_ble_eq_true rfl) hlocks (by decide) (by decide)
set_option maxHeartbeats 4000000 in
set_option maxRecDepth 100000 in
theorem k_Ss_knownWindow (l : Launch) (hnt : l.stackTraces = false) (D : va_G) (k : Nat → ClassId) (zb : Nat) (G : Nat → Option va_E) (o aB aW aH aS aT : Nat) (wn hn nb nw : Nat) (ba wa ha : Nat → Nat) (bf hf : Nat → Nat → Int32) (wf : Nat → Nat → Nat) (sh : Nat → Int64) (tk : Nat → Int32) (n : Int32) (hC : sC k G o aB aW aH aS aT wn hn nb nw ba wa ha bf hf wf sh tk) : vx_Met l y_Ss_knownWindow (wM y_Ss_knownWindow c_Ss_knownWindow 3 (some (.object "SunShadows$Window"))) ({ frames := 6, cells := 1, slots := 6, locals := 90 }) (gs_P D k zb G [.ref o, .int n]) (gs_Q D zb (fun v G1 => ∃ i : Nat, i < nw ∧ n = nI i ∧ v = some (.ref (wa i)) ∧ G1 = G)) (gs_T D zb G (fun E => E = e_IA ∧ ¬ ∃ i : Nat, i < nw ∧ n = nI i)) 1 6 (fun q : Nat => zb ≤ q) := by
  refine vx_ofW (cc := c_Ss_knownWindow) (maxL := 3) (ret := (some (.object "SunShadows$Window"))) (by decide) rfl ?_
  intro p e s m args below meth c s₁ B hml ht hv
  obtain ⟨rfl, hG, hK, hX⟩ := hv
  have hx := B.exec
  have hb := B.bytes
  have hr := B.returns
  have hts := atoms_spec (ws := wM y_Ss_knownWindow c_Ss_knownWindow 3 (some (.object "SunShadows$Window"))) B.pre
  have hw : ∀ w9 ∈ wW, w9.before ([.ref o, .int n] : List Value).toArray s = true := fun w9 h9 => hts w9 (gi_in w9 h9)
  have hown : s.vm.findClass R_Ss = some m.cls := findClass_of_methodNamed B.named
  have hlocks := B.notSynchronized
  have E : gs_E p s m ([.ref o, .int n] : List Value).toArray c c_Ss_knownWindow wW R_Ss := ⟨hx, hb, hw, hown⟩
  have hS : gs_S zb s.heap s.heap [] := va_S.rf
  have hl := lv_entry ([.ref o, .int n]) (n := 3) (Nat.le_of_ble_eq_true rfl)
  rw [lg_entry_eq]
  generalize (lg_sl ([.ref o, .int n]) ++ List.replicate (3 - (lg_sl ([.ref o, .int n])).length) Slot.unset).toArray = ls at hl ⊢
  have hl : lv_has ls 3 [(0, .ref o), (1, .int n)] := hl
  refine lv_iload_n hx hb d_Ss_knownWindow_0 rfl (lv_at hl 1 rfl) ?_
  refine lv_if_lt (tgt := 22) hx hb d_Ss_knownWindow_1 (by decide) (fun c_1 => ?_) (fun c_1 => ?_)
  · refine lv_null hx hb d_Ss_knownWindow_22 ?_
    refine lv_astore_nN (lv' := [(2, .null), (0, .ref o), (1, .int n)]) hx hb d_Ss_knownWindow_23 rfl hl (by decide) rfl (fun ls hl => ?_)
    refine lv_aload_nN hx hb d_Ss_knownWindow_24 rfl (lv_at hl 0 rfl) ?_
    refine lv_ifnonnullN hx hb d_Ss_knownWindow_25 ?_
    exact gs_throwIA (text := "no such window") hnt E hG hK hX hS ht (hl.1.trans hml.symm) w_103 w_9 (by decide) (⟨rfl, kb_no1 (by have := hC.2.1; omega) c_1⟩) d_Ss_knownWindow_28 d_Ss_knownWindow_31 d_Ss_knownWindow_32 d_Ss_knownWindow_34 d_Ss_knownWindow_37 (by exact Nat.le_of_ble_eq_true rfl) (by exact Nat.le_of_ble_eq_true rfl) (by exact Nat.le_of_ble_eq_true rfl) (by exact Nat.le_of_ble_eq_true rfl) hlocks (by decide) (by decide)
  · refine lv_iload_n hx hb d_Ss_knownWindow_4 rfl (lv_at hl 1 rfl) ?_
    refine lv_aload_n hx hb d_Ss_knownWindow_5 rfl (lv_at hl 0 rfl) ?_
    refine gs_get E hK.1 hG hC.1.1 (C := R_Ss) (T := F_Ss) (N := 9) rfl i_Ss 3 (by decide) w_63 (v := .ref aW) rfl d_Ss_knownWindow_6 ?_
    refine gs_alen E hK.1 hG hC.1.2.2.1 4 rfl (v := 10) rfl d_Ss_knownWindow_9 ?_
    refine lv_icmp_ge (tgt := 22) hx hb d_Ss_knownWindow_10 (by decide) (fun c_2 => ?_) (fun c_2 => ?_)
    · refine lv_null hx hb d_Ss_knownWindow_22 ?_
      refine lv_astore_nN (lv' := [(2, .null), (0, .ref o), (1, .int n)]) hx hb d_Ss_knownWindow_23 rfl hl (by decide) rfl (fun ls hl => ?_)
      refine lv_aload_nN hx hb d_Ss_knownWindow_24 rfl (lv_at hl 0 rfl) ?_
      refine lv_ifnonnullN hx hb d_Ss_knownWindow_25 ?_
      exact gs_throwIA (text := "no such window") hnt E hG hK hX hS ht (hl.1.trans hml.symm) w_103 w_9 (by decide) (⟨rfl, kb_no2 (M := 10) (by have := hC.2.1; omega) (by decide) c_2⟩) d_Ss_knownWindow_28 d_Ss_knownWindow_31 d_Ss_knownWindow_32 d_Ss_knownWindow_34 d_Ss_knownWindow_37 (by exact Nat.le_of_ble_eq_true rfl) (by exact Nat.le_of_ble_eq_true rfl) (by exact Nat.le_of_ble_eq_true rfl) (by exact Nat.le_of_ble_eq_true rfl) hlocks (by decide) (by decide)
    · refine lv_aload_n hx hb d_Ss_knownWindow_13 rfl (lv_at hl 0 rfl) ?_
      refine gs_get E hK.1 hG hC.1.1 (C := R_Ss) (T := F_Ss) (N := 9) rfl i_Ss 3 (by decide) w_63 (v := .ref aW) rfl d_Ss_knownWindow_14 ?_
      refine lv_iload_n hx hb d_Ss_knownWindow_17 rfl (lv_at hl 1 rfl) ?_
      obtain ⟨j, hj, rfl⟩ := ix_of (n := 10) (by decide) c_1 c_2
      by_cases hq_3 : j < nw
      · refine gn_aldS E hK.1 hG hC.1.2.2.1 4 rfl (j := j) hj (by decide) (upTo_in hq_3) d_Ss_knownWindow_18 ?_
        refine lv_goto (tgt := 23) hx hb d_Ss_knownWindow_19 (by decide) ?_
        refine lv_astore_n (lv' := [(2, .ref (wa j)), (0, .ref o), (1, .int (nI j))]) hx hb d_Ss_knownWindow_23 rfl hl (by decide) rfl (fun ls hl => ?_)
        refine lv_aload_n hx hb d_Ss_knownWindow_24 rfl (lv_at hl 0 rfl) ?_
        refine lv_ifnonnull (tgt := 38) hx hb d_Ss_knownWindow_25 (by decide) ?_
        refine lv_aload_n hx hb d_Ss_knownWindow_38 rfl (lv_at hl 0 rfl) ?_
        refine W.widen (k := 1) (n := 6) (by decide) (by decide) ?_
        refine vx_ret ?_
        exact W.aret (v := .ref (wa j)) hx hb hr (Or.inl ⟨_, rfl⟩) (Or.inr ⟨_, rfl⟩) (gs_end ⟨j, hq_3, rfl, rfl, rfl⟩ hG hS) hS.2.2 d_Ss_knownWindow_39
      · refine gn_aldN E hK.1 hG hC.1.2.2.1 4 rfl (j := j) hj (by decide) (upTo_out hq_3) d_Ss_knownWindow_18 ?_
        refine lv_goto (tgt := 23) hx hb d_Ss_knownWindow_19 (by decide) ?_
        refine lv_astore_nN (lv' := [(2, .null), (0, .ref o), (1, .int (nI j))]) hx hb d_Ss_knownWindow_23 rfl hl (by decide) rfl (fun ls hl => ?_)
        refine lv_aload_nN hx hb d_Ss_knownWindow_24 rfl (lv_at hl 0 rfl) ?_
        refine lv_ifnonnullN hx hb d_Ss_knownWindow_25 ?_
        exact gs_throwIA (text := "no such window") hnt E hG hK hX hS ht (hl.1.trans hml.symm) w_103 w_9 (by decide) (⟨rfl, kb_no3 (by have := hC.2.1; omega) (by omega) hq_3⟩) d_Ss_knownWindow_28 d_Ss_knownWindow_31 d_Ss_knownWindow_32 d_Ss_knownWindow_34 d_Ss_knownWindow_37 (by exact Nat.le_of_ble_eq_true rfl) (by exact Nat.le_of_ble_eq_true rfl) (by exact Nat.le_of_ble_eq_true rfl) (by exact Nat.le_of_ble_eq_true rfl) hlocks (by decide) (by decide)
set_option maxHeartbeats 4000000 in
set_option maxRecDepth 100000 in
theorem k_Ss_knownHour (l : Launch) (hnt : l.stackTraces = false) (D : va_G) (k : Nat → ClassId) (zb : Nat) (G : Nat → Option va_E) (o aB aW aH aS aT : Nat) (wn hn nb nw : Nat) (ba wa ha : Nat → Nat) (bf hf : Nat → Nat → Int32) (wf : Nat → Nat → Nat) (sh : Nat → Int64) (tk : Nat → Int32) (n : Int32) (hC : sC k G o aB aW aH aS aT wn hn nb nw ba wa ha bf hf wf sh tk) : vx_Met l y_Ss_knownHour (wM y_Ss_knownHour c_Ss_knownHour 3 (some (.object "SunShadows$Hour"))) ({ frames := 6, cells := 1, slots := 6, locals := 90 }) (gs_P D k zb G [.ref o, .int n]) (gs_Q D zb (fun v G1 => ∃ i : Nat, i < 24 ∧ n = nI i ∧ v = some (.ref (ha i)) ∧ G1 = G)) (gs_T D zb G (fun E => E = e_IA ∧ ¬ ∃ i : Nat, i < 24 ∧ n = nI i)) 1 6 (fun q : Nat => zb ≤ q) := by
  refine vx_ofW (cc := c_Ss_knownHour) (maxL := 3) (ret := (some (.object "SunShadows$Hour"))) (by decide) rfl ?_
  intro p e s m args below meth c s₁ B hml ht hv
  obtain ⟨rfl, hG, hK, hX⟩ := hv
  have hx := B.exec
  have hb := B.bytes
  have hr := B.returns
  have hts := atoms_spec (ws := wM y_Ss_knownHour c_Ss_knownHour 3 (some (.object "SunShadows$Hour"))) B.pre
  have hw : ∀ w9 ∈ wW, w9.before ([.ref o, .int n] : List Value).toArray s = true := fun w9 h9 => hts w9 (gi_in w9 h9)
  have hown : s.vm.findClass R_Ss = some m.cls := findClass_of_methodNamed B.named
  have hlocks := B.notSynchronized
  have E : gs_E p s m ([.ref o, .int n] : List Value).toArray c c_Ss_knownHour wW R_Ss := ⟨hx, hb, hw, hown⟩
  have hS : gs_S zb s.heap s.heap [] := va_S.rf
  have hl := lv_entry ([.ref o, .int n]) (n := 3) (Nat.le_of_ble_eq_true rfl)
  rw [lg_entry_eq]
  generalize (lg_sl ([.ref o, .int n]) ++ List.replicate (3 - (lg_sl ([.ref o, .int n])).length) Slot.unset).toArray = ls at hl ⊢
  have hl : lv_has ls 3 [(0, .ref o), (1, .int n)] := hl
  refine lv_iload_n hx hb d_Ss_knownHour_0 rfl (lv_at hl 1 rfl) ?_
  refine lv_if_lt (tgt := 22) hx hb d_Ss_knownHour_1 (by decide) (fun c_1 => ?_) (fun c_1 => ?_)
  · refine lv_null hx hb d_Ss_knownHour_22 ?_
    refine lv_astore_nN (lv' := [(2, .null), (0, .ref o), (1, .int n)]) hx hb d_Ss_knownHour_23 rfl hl (by decide) rfl (fun ls hl => ?_)
    refine lv_aload_nN hx hb d_Ss_knownHour_24 rfl (lv_at hl 0 rfl) ?_
    refine lv_ifnonnullN hx hb d_Ss_knownHour_25 ?_
    exact gs_throwIA (text := "no such hour") hnt E hG hK hX hS ht (hl.1.trans hml.symm) w_103 w_9 (by decide) (⟨rfl, kb_no1 (by decide) c_1⟩) d_Ss_knownHour_28 d_Ss_knownHour_31 d_Ss_knownHour_32 d_Ss_knownHour_34 d_Ss_knownHour_37 (by exact Nat.le_of_ble_eq_true rfl) (by exact Nat.le_of_ble_eq_true rfl) (by exact Nat.le_of_ble_eq_true rfl) (by exact Nat.le_of_ble_eq_true rfl) hlocks (by decide) (by decide)
  · refine lv_iload_n hx hb d_Ss_knownHour_4 rfl (lv_at hl 1 rfl) ?_
    refine lv_aload_n hx hb d_Ss_knownHour_5 rfl (lv_at hl 0 rfl) ?_
    refine gs_get E hK.1 hG hC.1.1 (C := R_Ss) (T := F_Ss) (N := 9) rfl i_Ss 4 (by decide) w_64 (v := .ref aH) rfl d_Ss_knownHour_6 ?_
    refine gs_alen E hK.1 hG hC.1.2.2.2.1 5 rfl (v := 24) rfl d_Ss_knownHour_9 ?_
    refine lv_icmp_ge (tgt := 22) hx hb d_Ss_knownHour_10 (by decide) (fun c_2 => ?_) (fun c_2 => ?_)
    · refine lv_null hx hb d_Ss_knownHour_22 ?_
      refine lv_astore_nN (lv' := [(2, .null), (0, .ref o), (1, .int n)]) hx hb d_Ss_knownHour_23 rfl hl (by decide) rfl (fun ls hl => ?_)
      refine lv_aload_nN hx hb d_Ss_knownHour_24 rfl (lv_at hl 0 rfl) ?_
      refine lv_ifnonnullN hx hb d_Ss_knownHour_25 ?_
      exact gs_throwIA (text := "no such hour") hnt E hG hK hX hS ht (hl.1.trans hml.symm) w_103 w_9 (by decide) (⟨rfl, kb_no2 (M := 24) (by decide) (by decide) c_2⟩) d_Ss_knownHour_28 d_Ss_knownHour_31 d_Ss_knownHour_32 d_Ss_knownHour_34 d_Ss_knownHour_37 (by exact Nat.le_of_ble_eq_true rfl) (by exact Nat.le_of_ble_eq_true rfl) (by exact Nat.le_of_ble_eq_true rfl) (by exact Nat.le_of_ble_eq_true rfl) hlocks (by decide) (by decide)
    · refine lv_aload_n hx hb d_Ss_knownHour_13 rfl (lv_at hl 0 rfl) ?_
      refine gs_get E hK.1 hG hC.1.1 (C := R_Ss) (T := F_Ss) (N := 9) rfl i_Ss 4 (by decide) w_64 (v := .ref aH) rfl d_Ss_knownHour_14 ?_
      refine lv_iload_n hx hb d_Ss_knownHour_17 rfl (lv_at hl 1 rfl) ?_
      obtain ⟨j, hj, rfl⟩ := ix_of (n := 24) (by decide) c_1 c_2
      refine gn_aldS E hK.1 hG hC.1.2.2.2.1 5 rfl (j := j) hj (by decide) (upTo_in hj) d_Ss_knownHour_18 ?_
      refine lv_goto (tgt := 23) hx hb d_Ss_knownHour_19 (by decide) ?_
      refine lv_astore_n (lv' := [(2, .ref (ha j)), (0, .ref o), (1, .int (nI j))]) hx hb d_Ss_knownHour_23 rfl hl (by decide) rfl (fun ls hl => ?_)
      refine lv_aload_n hx hb d_Ss_knownHour_24 rfl (lv_at hl 0 rfl) ?_
      refine lv_ifnonnull (tgt := 38) hx hb d_Ss_knownHour_25 (by decide) ?_
      refine lv_aload_n hx hb d_Ss_knownHour_38 rfl (lv_at hl 0 rfl) ?_
      refine W.widen (k := 1) (n := 6) (by decide) (by decide) ?_
      refine vx_ret ?_
      exact W.aret (v := .ref (ha j)) hx hb hr (Or.inl ⟨_, rfl⟩) (Or.inr ⟨_, rfl⟩) (gs_end ⟨j, hj, rfl, rfl, rfl⟩ hG hS) hS.2.2 d_Ss_knownHour_39
set_option maxHeartbeats 4000000 in
set_option maxRecDepth 100000 in
theorem k_Ss_sunnyHour (l : Launch) (hnt : l.stackTraces = false) (D : va_G) (k : Nat → ClassId) (zb : Nat) (G : Nat → Option va_E) (o aB aW aH aS aT : Nat) (wn hn nb nw : Nat) (ba wa ha : Nat → Nat) (bf hf : Nat → Nat → Int32) (wf : Nat → Nat → Nat) (sh : Nat → Int64) (tk : Nat → Int32) (n : Int32) (hC : sC k G o aB aW aH aS aT wn hn nb nw ba wa ha bf hf wf sh tk) : vx_Met l y_Ss_sunnyHour (wM y_Ss_sunnyHour c_Ss_sunnyHour 3 (some (.object "SunShadows$Hour"))) ({ frames := 7, cells := 2, slots := 12, locals := 112 }) (gs_P D k zb G [.ref o, .int n]) (gs_Q D zb (fun v G1 => ∃ i : Nat, i < 24 ∧ n = nI i ∧ ¬ jc_hasSun (hf i 2) = 0 ∧ v = some (.ref (ha i)) ∧ G1 = G)) (gs_T D zb G (fun E => (E = e_IA ∧ ¬ ∃ i : Nat, i < 24 ∧ n = nI i) ∨ (E = e_IS ∧ ∃ i : Nat, i < 24 ∧ n = nI i ∧ jc_hasSun (hf i 2) = 0))) 2 12 (fun q : Nat => zb ≤ q) := by
  refine vx_ofW (cc := c_Ss_sunnyHour) (maxL := 3) (ret := (some (.object "SunShadows$Hour"))) (by decide) rfl ?_
  intro p e s m args below meth c s₁ B hml ht hv
  obtain ⟨rfl, hG, hK, hX⟩ := hv
  have hx := B.exec
  have hb := B.bytes
  have hr := B.returns
  have hts := atoms_spec (ws := wM y_Ss_sunnyHour c_Ss_sunnyHour 3 (some (.object "SunShadows$Hour"))) B.pre
  have hw : ∀ w9 ∈ wW, w9.before ([.ref o, .int n] : List Value).toArray s = true := fun w9 h9 => hts w9 (gi_in w9 h9)
  have hown : s.vm.findClass R_Ss = some m.cls := findClass_of_methodNamed B.named
  have hlocks := B.notSynchronized
  have E : gs_E p s m ([.ref o, .int n] : List Value).toArray c c_Ss_sunnyHour wW R_Ss := ⟨hx, hb, hw, hown⟩
  have hS : gs_S zb s.heap s.heap [] := va_S.rf
  have hl := lv_entry ([.ref o, .int n]) (n := 3) (Nat.le_of_ble_eq_true rfl)
  rw [lg_entry_eq]
  generalize (lg_sl ([.ref o, .int n]) ++ List.replicate (3 - (lg_sl ([.ref o, .int n])).length) Slot.unset).toArray = ls at hl ⊢
  have hl : lv_has ls 3 [(0, .ref o), (1, .int n)] := hl
  refine lv_aload_n hx hb d_Ss_sunnyHour_0 rfl (lv_at hl 0 rfl) ?_
  refine lv_iload_n hx hb d_Ss_sunnyHour_1 rfl (lv_at hl 1 rfl) ?_
  refine gs_VX (As := [.int n]) (rest := []) (k_Ss_knownHour l hnt D k zb G o aB aW aH aS aT wn hn nb nw ba wa ha bf hf wf sh tk n hC) E hml hl.1 (cg_V (C := R_Ss) hw w_253 w_250 w_1 w_252 sel_Ss_knownHour hd_Ss_knownHour ⟨by exact Nat.le_of_ble_eq_true rfl, by exact Nat.le_of_ble_eq_true rfl⟩) hG hK hX hS hC.1.1 rfl rfl rfl rfl (by exact Nat.le_of_ble_eq_true rfl) d_Ss_sunnyHour_2 ⟨by exact Nat.le_of_ble_eq_true rfl, by exact Nat.le_of_ble_eq_true rfl⟩ (fun E9 ce q9 H locs hp hG hS hq1 hq2 hq3 => ?_) (fun v G1 H locs hp hG hS => ?_)
  · exact gs_on ht hlocks (Or.inl hp) hG hS hq1 hq2 hq3 (by decide) (by decide)
  obtain ⟨i, hi, ei, hv1, hG1⟩ := hp
  subst hv1
  rw [hG1] at hG
  refine W.eq (g2 := F0 m 5 ls [.ref (ha i)]) rfl ?_
  refine lv_astore_n (lv' := [(2, .ref (ha i)), (0, .ref o), (1, .int n)]) hx hb d_Ss_sunnyHour_5 rfl hl (by decide) rfl (fun ls hl => ?_)
  refine lv_aload_n hx hb d_Ss_sunnyHour_6 rfl (lv_at hl 0 rfl) ?_
  refine gs_V (As := []) (rest := []) (k_Hr_hasSun l D k zb G (ha i) (hf i 0) (hf i 1) (hf i 2) (hf i 3) (hC.2.2.2.2.1 i hi)) E hml hl.1 (cg_V (C := R_Hr) hw w_308 w_305 w_3 w_306 sel_Hr_hasSun hd_Hr_hasSun ⟨by exact Nat.le_of_ble_eq_true rfl, by exact Nat.le_of_ble_eq_true rfl⟩) hG hK hX hS (hC.2.2.2.2.1 i hi) rfl rfl rfl rfl (by exact Nat.le_of_ble_eq_true rfl) d_Ss_sunnyHour_7 ⟨by exact Nat.le_of_ble_eq_true rfl, by exact Nat.le_of_ble_eq_true rfl⟩ (fun v G1 H locs hp hG hS => ?_)
  obtain ⟨hv1, hG1⟩ := hp
  subst hv1
  rw [hG1] at hG
  refine W.eq (g2 := F0 m 10 ls [.int (jc_hasSun (hf i 2))]) rfl ?_
  refine lv_if_ne (tgt := 23) hx hb d_Ss_sunnyHour_10 (by decide) (fun c_1 => ?_) (fun c_1 => ?_)
  · refine lv_aload_n hx hb d_Ss_sunnyHour_23 rfl (lv_at hl 0 rfl) ?_
    refine W.widen (k := 2) (n := 12) (by decide) (by decide) ?_
    refine vx_ret ?_
    exact W.aret (v := .ref (ha i)) hx hb hr (Or.inl ⟨_, rfl⟩) (Or.inr ⟨_, rfl⟩) (gs_end ⟨i, hi, ei, c_1, rfl, rfl⟩ hG hS) hS.2.2 d_Ss_sunnyHour_24
  · exact gs_throwIS (text := "the hour has no sun") hnt E hG hK hX hS ht (hl.1.trans hml.symm) w_170 w_10 (by decide) (Or.inr ⟨rfl, i, hi, ei, c_1⟩) d_Ss_sunnyHour_13 d_Ss_sunnyHour_16 d_Ss_sunnyHour_17 d_Ss_sunnyHour_19 d_Ss_sunnyHour_22 (by exact Nat.le_of_ble_eq_true rfl) (by exact Nat.le_of_ble_eq_true rfl) (by exact Nat.le_of_ble_eq_true rfl) (by exact Nat.le_of_ble_eq_true rfl) hlocks (by decide) (by decide)
set_option maxHeartbeats 4000000 in
set_option maxRecDepth 100000 in
theorem k_Ss_shadeOfRow (l : Launch) (D : va_G) (k : Nat → ClassId) (zb : Nat) (G : Nat → Option va_E) (o aB aW aH aS aT : Nat) (wn hn nb nw : Nat) (ba wa ha : Nat → Nat) (bf hf : Nat → Nat → Int32) (wf : Nat → Nat → Nat) (sh : Nat → Int64) (tk : Nat → Int32) (a1 : Nat) (X Y Z am : Int32) (y : Int32) (hC : sC k G o aB aW aH aS aT wn hn nb nw ba wa ha bf hf wf sh tk) (hb1 : G a1 = some (.inr (1, [.int X, .int Y, .int Z, .int am]))) : Met l y_Ss_shadeOfRow (wM y_Ss_shadeOfRow c_Ss_shadeOfRow 9 (some .long)) ({ frames := 3, cells := 0, slots := 0, locals := 77 }) (gs_P D k zb G [.ref o, .int y, .ref a1]) (gs_Q D zb (fun v G1 => v = some (.long (jc_row nb bf X Y Z y (nI wn) 10)) ∧ G1 = G)) 0 0 (fun q : Nat => zb ≤ q) := by
  refine Met.ofW (cc := c_Ss_shadeOfRow) (maxL := 9) (ret := (some .long)) (by decide) rfl ?_
  intro p e s m args below meth c s₁ B hml hv
  obtain ⟨rfl, hG, hK, hX⟩ := hv
  have hx := B.exec
  have hb := B.bytes
  have hr := B.returns
  have hts := atoms_spec (ws := wM y_Ss_shadeOfRow c_Ss_shadeOfRow 9 (some .long)) B.pre
  have hw : ∀ w9 ∈ wW, w9.before ([.ref o, .int y, .ref a1] : List Value).toArray s = true := fun w9 h9 => hts w9 (gi_in w9 h9)
  have hown : s.vm.findClass R_Ss = some m.cls := findClass_of_methodNamed B.named
  have hlocks := B.notSynchronized
  have E : gs_E p s m ([.ref o, .int y, .ref a1] : List Value).toArray c c_Ss_shadeOfRow wW R_Ss := ⟨hx, hb, hw, hown⟩
  have hS : gs_S zb s.heap s.heap [] := va_S.rf
  have hl := lv_entry ([.ref o, .int y, .ref a1]) (n := 9) (Nat.le_of_ble_eq_true rfl)
  rw [lg_entry_eq]
  generalize (lg_sl ([.ref o, .int y, .ref a1]) ++ List.replicate (9 - (lg_sl ([.ref o, .int y, .ref a1])).length) Slot.unset).toArray = ls at hl ⊢
  have hl : lv_has ls 9 [(0, .ref o), (1, .int y), (2, .ref a1)] := hl
  refine lv_lconst (v := 0) hx hb d_Ss_shadeOfRow_0 (by decide) ?_
  refine lv_lstore_n (lv' := [(3, .long 0), (0, .ref o), (1, .int y), (2, .ref a1)]) hx hb d_Ss_shadeOfRow_1 rfl hl (by decide) rfl (fun ls hl => ?_)
  refine lv_aload_n hx hb d_Ss_shadeOfRow_2 rfl (lv_at hl 1 rfl) ?_
  refine gs_get E hK.1 hG hC.1.1 (C := R_Ss) (T := F_Ss) (N := 9) rfl i_Ss 2 (by decide) w_62 (v := .ref aB) rfl d_Ss_shadeOfRow_3 ?_
  refine lv_astore (lv' := [(5, .ref aB), (3, .long 0), (0, .ref o), (1, .int y), (2, .ref a1)]) hx hb d_Ss_shadeOfRow_6 hl (by decide) rfl (fun ls hl => ?_)
  refine lv_aload hx hb d_Ss_shadeOfRow_8 (lv_at hl 0 rfl) ?_
  refine gs_alen E hK.1 hG hC.1.2.1 3 rfl (v := 10) rfl d_Ss_shadeOfRow_10 ?_
  refine lv_istore (lv' := [(6, .int 10), (5, .ref aB), (3, .long 0), (0, .ref o), (1, .int y), (2, .ref a1)]) hx hb d_Ss_shadeOfRow_11 hl (by decide) rfl (fun ls hl => ?_)
  refine lv_iconst (v := 0) hx hb d_Ss_shadeOfRow_13 (by decide) ?_
  refine lv_istore (lv' := [(7, .int 0), (6, .int 10), (5, .ref aB), (3, .long 0), (0, .ref o), (1, .int y), (2, .ref a1)]) hx hb d_Ss_shadeOfRow_14 hl (by decide) rfl (fun ls hl => ?_)
  have lp : ∀ (fu : Nat) (i : Nat) (acc : Int64), i ≤ 10 → 10 + 1 ≤ i + fu → (hacc : acc = jc_row nb bf X Y Z y (nI wn) i) → ∀ (H : Heap) (locs : List Loc), gs_W D classes zb G H → gs_S zb s.heap H locs → ∀ (ls : Array Slot), lv_has ls 9 [(0, .ref o), (1, .int y), (2, .ref a1), (3, .long acc), (5, .ref aB), (6, .int 10), (7, .int (nI i))] → W p l e (headSpec (wM y_Ss_shadeOfRow c_Ss_shadeOfRow 9 (some .long)) ({ frames := 3, cells := 0, slots := 0, locals := 77 })).room s m ([.ref o, .int y, .ref a1] : List Value).toArray below meth c H locs 0 0 (MQ below (gs_Q D zb (fun v G1 => v = some (.long (jc_row nb bf X Y Z y (nI wn) 10)) ∧ G1 = G)) ([.ref o, .int y, .ref a1] : List Value).toArray s 0 0 (fun q : Nat => zb ≤ q)) (F0 m 16 ls []) := by
    intro fu
    induction fu with
    | zero => intro i acc hle hfu; exact absurd hfu (by omega)
    | succ fu IH =>
      intro i acc hle hfu hacc H locs hG hS ls hl
      refine lv_iload hx hb d_Ss_shadeOfRow_16 (lv_at hl 6 rfl) ?_
      refine lv_iload hx hb d_Ss_shadeOfRow_18 (lv_at hl 5 rfl) ?_
      refine lv_icmp_ge (tgt := 55) hx hb d_Ss_shadeOfRow_20 (by decide) (fun c_1 => ?_) (fun c_1 => ?_)
      · have hi : i = 10 := cl_eq (N := 10) (by decide) hle c_1
        subst hi
        refine lv_lload_n hx hb d_Ss_shadeOfRow_55 rfl (lv_at hl 3 rfl) ?_
        refine W.lret (v := acc) hx hb hr (gs_end ⟨?_, rfl⟩ hG hS) hS.2.2 d_Ss_shadeOfRow_56
        rw [hacc]
      · have hi : i < 10 := cl_lt (N := 10) (by decide) hle c_1
        refine lv_aload hx hb d_Ss_shadeOfRow_23 (lv_at hl 4 rfl) ?_
        refine lv_iload hx hb d_Ss_shadeOfRow_25 (lv_at hl 6 rfl) ?_
        by_cases hq_2 : i < nb
        · refine gn_aldS E hK.1 hG hC.1.2.1 3 rfl (j := i) hi (by decide) (upTo_in hq_2) d_Ss_shadeOfRow_27 ?_
          refine lv_astore (lv' := [(8, .ref (ba i)), (0, .ref o), (1, .int y), (2, .ref a1), (3, .long acc), (5, .ref aB), (6, .int 10), (7, .int (nI i))]) hx hb d_Ss_shadeOfRow_28 hl (by decide) rfl (fun ls hl => ?_)
          refine lv_aload hx hb d_Ss_shadeOfRow_30 (lv_at hl 0 rfl) ?_
          refine lv_ifnull hx hb d_Ss_shadeOfRow_32 ?_
          refine lv_lload_n hx hb d_Ss_shadeOfRow_35 rfl (lv_at hl 4 rfl) ?_
          refine lv_aload hx hb d_Ss_shadeOfRow_36 (lv_at hl 0 rfl) ?_
          refine lv_iload_n hx hb d_Ss_shadeOfRow_38 rfl (lv_at hl 2 rfl) ?_
          refine lv_aload_n hx hb d_Ss_shadeOfRow_39 rfl (lv_at hl 3 rfl) ?_
          refine lv_aload_n hx hb d_Ss_shadeOfRow_40 rfl (lv_at hl 1 rfl) ?_
          refine gs_get E hK.1 hG hC.1.1 (C := R_Ss) (T := F_Ss) (N := 9) rfl i_Ss 0 (by decide) w_60 (v := .int (nI wn)) rfl d_Ss_shadeOfRow_41 ?_
          refine gs_V (As := [.int y, .ref a1, .int (nI wn)]) (rest := [.long acc]) (k_Bx_shadeThrownOnRow l D k zb G (ba i) (bf i 0) (bf i 1) (bf i 2) (bf i 3) (bf i 4) (bf i 5) (bf i 6) a1 X Y Z am y (nI wn) (hC.2.2.1 i hq_2) hb1) E hml hl.1 (cg_V (C := R_Bx) hw w_317 w_314 w_5 w_315 sel_Bx_shadeThrownOnRow hd_Bx_shadeThrownOnRow ⟨by exact Nat.le_of_ble_eq_true rfl, by exact Nat.le_of_ble_eq_true rfl⟩) hG hK hX hS (hC.2.2.1 i hq_2) rfl rfl rfl rfl (by exact Nat.le_of_ble_eq_true rfl) d_Ss_shadeOfRow_44 ⟨by exact Nat.le_of_ble_eq_true rfl, by exact Nat.le_of_ble_eq_true rfl⟩ (fun v G1 H locs hp hG hS => ?_)
          obtain ⟨hv1, hG1⟩ := hp
          subst hv1
          rw [hG1] at hG
          refine W.eq (g2 := F0 m 47 ls [.long (jc_shade (bf i 6) (bf i 0) (bf i 1) (bf i 2) (bf i 3) (bf i 4) (bf i 5) X Y Z y (nI wn)), .long acc]) rfl ?_
          refine lv_lor hx hb d_Ss_shadeOfRow_47 ?_
          refine lv_topl (fun v_3 ev_3 => ?_)
          refine lv_lstore_n (lv' := [(3, .long v_3), (8, .ref (ba i)), (0, .ref o), (1, .int y), (2, .ref a1), (5, .ref aB), (6, .int 10), (7, .int (nI i))]) hx hb d_Ss_shadeOfRow_48 rfl hl (by decide) rfl (fun ls hl => ?_)
          refine lv_iinc (v := nI (i + 1)) (lv' := [(7, .int (nI (i + 1))), (3, .long v_3), (8, .ref (ba i)), (0, .ref o), (1, .int y), (2, .ref a1), (5, .ref aB), (6, .int 10)]) hx hb d_Ss_shadeOfRow_49 hl (k := 7) rfl (nI_1 _) (by decide) rfl (fun ls hl => ?_)
          refine lv_goto (tgt := 16) hx hb d_Ss_shadeOfRow_52 (by decide) ?_
          exact IH (i + 1) v_3 (by omega) (by omega) (by rw [ev_3, hacc, jc_row_in hq_2]) _ _ hG hS ls (lv_sub hl [3, 4, 5, 1, 6, 7, 0] rfl)
        · refine gn_aldN E hK.1 hG hC.1.2.1 3 rfl (j := i) hi (by decide) (upTo_out hq_2) d_Ss_shadeOfRow_27 ?_
          refine lv_astoreN (lv' := [(8, .null), (0, .ref o), (1, .int y), (2, .ref a1), (3, .long acc), (5, .ref aB), (6, .int 10), (7, .int (nI i))]) hx hb d_Ss_shadeOfRow_28 hl (by decide) rfl (fun ls hl => ?_)
          refine lv_aloadN hx hb d_Ss_shadeOfRow_30 (lv_at hl 0 rfl) ?_
          refine lv_ifnullN (tgt := 49) hx hb d_Ss_shadeOfRow_32 (by decide) ?_
          refine lv_iinc (v := nI (i + 1)) (lv' := [(7, .int (nI (i + 1))), (8, .null), (0, .ref o), (1, .int y), (2, .ref a1), (3, .long acc), (5, .ref aB), (6, .int 10)]) hx hb d_Ss_shadeOfRow_49 hl (k := 7) rfl (nI_1 _) (by decide) rfl (fun ls hl => ?_)
          refine lv_goto (tgt := 16) hx hb d_Ss_shadeOfRow_52 (by decide) ?_
          exact IH (i + 1) acc (by omega) (by omega) (by rw [hacc, jc_row_out hq_2]) _ _ hG hS ls (lv_sub hl [2, 3, 4, 5, 6, 7, 0] rfl)
  exact lp (10 + 1) 0 0 (by omega) (by omega) rfl _ _ hG hS ls (lv_sub hl [4, 5, 6, 3, 2, 1, 0] rfl)
