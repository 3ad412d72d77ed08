/-! contracts, by program -/
set_option maxHeartbeats 4000000 in
set_option maxRecDepth 100000 in
theorem k_Ss_shadow (l : Launch) (hnt : l.stackTraces = false) (D : va_G) (k : Nat → ClassId) (zb : Nat) (G : Nat → Option va_E) (o aB aW aH aS aT : Nat) (wn hn nb nw : Nat) (ba wa ha : Nat → Nat) (bf hf : Nat → Nat → Int32) (wf : Nat → Nat → Nat) (sh : Nat → Int64) (tk : Nat → Int32) (x y t : Int32) (hC : sC k G o aB aW aH aS aT wn hn nb nw ba wa ha bf hf wf sh tk) : vx_Met l y_Ss_shadow (wM y_Ss_shadow c_Ss_shadow 4 (some .boolean)) ({ frames := 8, cells := 2, slots := 12, locals := 134 }) (gs_P D k zb G [.ref o, .int x, .int y, .int t]) (gs_Q D zb (fun v G1 => ∃ i : Nat, i < 24 ∧ t = nI i ∧ ¬ jc_hasSun (hf i 2) = 0 ∧ ¬ jc_within x 0 (nI wn - 1) = 0 ∧ ¬ jc_within y 0 (nI hn - 1) = 0 ∧ v = some (.int (jc_hasCell (jc_row nb bf (hf i 0) (hf i 1) (hf i 2) y (nI wn) 10) x)) ∧ G1 = G)) (gs_T D zb G (fun E => (E = e_IA ∧ (jc_within x 0 (nI wn - 1) = 0 ∨ jc_within y 0 (nI hn - 1) = 0 ∨ (¬ ∃ i : Nat, i < 24 ∧ t = nI i))) ∨ (E = e_IS ∧ ¬ jc_within x 0 (nI wn - 1) = 0 ∧ ¬ jc_within y 0 (nI hn - 1) = 0 ∧ (∃ i : Nat, i < 24 ∧ t = nI i ∧ jc_hasSun (hf i 2) = 0)))) 2 12 (fun q : Nat => zb ≤ q) := by
  refine vx_ofW (cc := c_Ss_shadow) (maxL := 4) (ret := (some .boolean)) (by decide) rfl ?_
  intro p e s m args below meth c s₁ B hml ht hv
  obtain ⟨rfl, hG, hK, hX⟩ := hv
  have hx := B.exec
  have hb := B.bytes
  have hr := B.returns
  have hts := atoms_spec (ws := wM y_Ss_shadow c_Ss_shadow 4 (some .boolean)) B.pre
  have hw : ∀ w9 ∈ wW, w9.before ([.ref o, .int x, .int y, .int t] : List Value).toArray s = true := fun w9 h9 => hts w9 (gi_in w9 h9)
  have hown : s.vm.findClass R_Ss = some m.cls := findClass_of_methodNamed B.named
  have hlocks := B.notSynchronized
  have E : gs_E p s m ([.ref o, .int x, .int y, .int t] : List Value).toArray c c_Ss_shadow wW R_Ss := ⟨hx, hb, hw, hown⟩
  have hS : gs_S zb s.heap s.heap [] := va_S.rf
  have hl := lv_entry ([.ref o, .int x, .int y, .int t]) (n := 4) (Nat.le_of_ble_eq_true rfl)
  rw [lg_entry_eq]
  generalize (lg_sl ([.ref o, .int x, .int y, .int t]) ++ List.replicate (4 - (lg_sl ([.ref o, .int x, .int y, .int t])).length) Slot.unset).toArray = ls at hl ⊢
  have hl : lv_has ls 4 [(0, .ref o), (1, .int x), (2, .int y), (3, .int t)] := hl
  refine lv_iload_n hx hb d_Ss_shadow_0 rfl (lv_at hl 1 rfl) ?_
  refine lv_iconst (v := 0) hx hb d_Ss_shadow_1 (by decide) ?_
  refine lv_aload_n hx hb d_Ss_shadow_2 rfl (lv_at hl 0 rfl) ?_
  refine gs_get E hK.1 hG hC.1.1 (C := R_Ss) (T := F_Ss) (N := 9) rfl i_Ss 0 (by decide) w_60 (v := .int (nI wn)) rfl d_Ss_shadow_3 ?_
  refine lv_iconst (v := 1) hx hb d_Ss_shadow_6 (by decide) ?_
  refine lv_isub hx hb d_Ss_shadow_7 ?_
  refine gs_St (As := [.int x, .int 0, .int ((nI wn) - 1)]) (rest := []) (k_Ss_isWithin l D k zb G x 0 ((nI wn) - 1)) E hml hl.1 (cg_S hw w_229 w_227 w_1 w_228 hd_Ss_isWithin ⟨by exact Nat.le_of_ble_eq_true rfl, by exact Nat.le_of_ble_eq_true rfl⟩) hG hK hX hS rfl rfl (by exact Nat.le_of_ble_eq_true rfl) d_Ss_shadow_8 ⟨by exact Nat.le_of_ble_eq_true rfl, by exact Nat.le_of_ble_eq_true rfl⟩ (fun v G1 H locs hp hG hS => ?_)
  obtain ⟨hv1, hG1⟩ := hp
  subst hv1
  rw [hG1] at hG
  refine W.eq (g2 := F0 m 11 ls [.int (jc_within x 0 ((nI wn) - 1))]) rfl ?_
  refine lv_if_eq (tgt := 28) hx hb d_Ss_shadow_11 (by decide) (fun c_1 => ?_) (fun c_1 => ?_)
  · exact gs_throwIA (text := "no such cell") hnt E hG hK hX hS ht (hl.1.trans hml.symm) w_103 w_9 (by decide) (Or.inl ⟨rfl, Or.inl c_1⟩) d_Ss_shadow_28 d_Ss_shadow_31 d_Ss_shadow_32 d_Ss_shadow_34 d_Ss_shadow_37 (by exact Nat.le_of_ble_eq_true rfl) (by exact Nat.le_of_ble_eq_true rfl) (by exact Nat.le_of_ble_eq_true rfl) (by exact Nat.le_of_ble_eq_true rfl) hlocks (by decide) (by decide)
  · refine lv_iload_n hx hb d_Ss_shadow_14 rfl (lv_at hl 2 rfl) ?_
    refine lv_iconst (v := 0) hx hb d_Ss_shadow_15 (by decide) ?_
    refine lv_aload_n hx hb d_Ss_shadow_16 rfl (lv_at hl 0 rfl) ?_
    refine gs_get E hK.1 hG hC.1.1 (C := R_Ss) (T := F_Ss) (N := 9) rfl i_Ss 1 (by decide) w_61 (v := .int (nI hn)) rfl d_Ss_shadow_17 ?_
    refine lv_iconst (v := 1) hx hb d_Ss_shadow_20 (by decide) ?_
    refine lv_isub hx hb d_Ss_shadow_21 ?_
    refine gs_St (As := [.int y, .int 0, .int ((nI hn) - 1)]) (rest := []) (k_Ss_isWithin l D k zb G y 0 ((nI hn) - 1)) E hml hl.1 (cg_S hw w_229 w_227 w_1 w_228 hd_Ss_isWithin ⟨by exact Nat.le_of_ble_eq_true rfl, by exact Nat.le_of_ble_eq_true rfl⟩) hG hK hX hS rfl rfl (by exact Nat.le_of_ble_eq_true rfl) d_Ss_shadow_22 ⟨by exact Nat.le_of_ble_eq_true rfl, by exact Nat.le_of_ble_eq_true rfl⟩ (fun v G1 H locs hp hG hS => ?_)
    obtain ⟨hv1, hG1⟩ := hp
    subst hv1
    rw [hG1] at hG
    refine W.eq (g2 := F0 m 25 ls [.int (jc_within y 0 ((nI hn) - 1))]) rfl ?_
    refine lv_if_ne (tgt := 38) hx hb d_Ss_shadow_25 (by decide) (fun c_2 => ?_) (fun c_2 => ?_)
    · refine lv_aload_n hx hb d_Ss_shadow_38 rfl (lv_at hl 0 rfl) ?_
      refine lv_iload_n hx hb d_Ss_shadow_39 rfl (lv_at hl 2 rfl) ?_
      refine lv_aload_n hx hb d_Ss_shadow_40 rfl (lv_at hl 0 rfl) ?_
      refine lv_iload_n hx hb d_Ss_shadow_41 rfl (lv_at hl 3 rfl) ?_
      refine gs_VX (As := [.int t]) (rest := [.int y, .ref o]) (k_Ss_sunnyHour l hnt D k zb G o aB aW aH aS aT wn hn nb nw ba wa ha bf hf wf sh tk t hC) E hml hl.1 (cg_V (C := R_Ss) hw w_304 w_301 w_1 w_303 sel_Ss_sunnyHour hd_Ss_sunnyHour ⟨by exact Nat.le_of_ble_eq_true rfl, by exact Nat.le_of_ble_eq_true rfl⟩) hG hK hX hS hC.1.1 rfl rfl rfl rfl (by exact Nat.le_of_ble_eq_true rfl) d_Ss_shadow_42 ⟨by exact Nat.le_of_ble_eq_true rfl, by exact Nat.le_of_ble_eq_true rfl⟩ (fun E9 ce q9 H locs hp hG hS hq1 hq2 hq3 => ?_) (fun v G1 H locs hp hG hS => ?_)
      · exact gs_on ht hlocks (hp.elim (fun q => Or.inl ⟨q.1, Or.inr (Or.inr q.2)⟩) (fun q => Or.inr ⟨q.1, c_1, c_2, q.2⟩)) hG hS hq1 hq2 hq3 (by decide) (by decide)
      obtain ⟨ih, hih, eih, hsun, hv1, hG1⟩ := hp
      subst hv1
      rw [hG1] at hG
      refine W.eq (g2 := F0 m 45 ls [.ref (ha ih), .int y, .ref o]) rfl ?_
      refine gs_V (As := [.int y, .ref (ha ih)]) (rest := []) (k_Ss_shadeOfRow l D k zb G o aB aW aH aS aT wn hn nb nw ba wa ha bf hf wf sh tk (ha ih) (hf ih 0) (hf ih 1) (hf ih 2) (hf ih 3) y hC (hC.2.2.2.2.1 ih hih)) E hml hl.1 (cg_V (C := R_Ss) hw w_313 w_310 w_1 w_312 sel_Ss_shadeOfRow hd_Ss_shadeOfRow ⟨by exact Nat.le_of_ble_eq_true rfl, by exact Nat.le_of_ble_eq_true rfl⟩) hG hK hX hS hC.1.1 rfl rfl rfl rfl (by exact Nat.le_of_ble_eq_true rfl) d_Ss_shadow_45 ⟨by exact Nat.le_of_ble_eq_true rfl, by exact Nat.le_of_ble_eq_true rfl⟩ (fun v G1 H locs hp hG hS => ?_)
      obtain ⟨hv1, hG1⟩ := hp
      subst hv1
      rw [hG1] at hG
      refine W.eq (g2 := F0 m 48 ls [.long (jc_row nb bf (hf ih 0) (hf ih 1) (hf ih 2) y (nI wn) 10)]) rfl ?_
      refine lv_iload_n hx hb d_Ss_shadow_48 rfl (lv_at hl 1 rfl) ?_
      refine gs_St (As := [.long (jc_row nb bf (hf ih 0) (hf ih 1) (hf ih 2) y (nI wn) 10), .int x]) (rest := []) (k_Ss_hasCell l D k zb G (jc_row nb bf (hf ih 0) (hf ih 1) (hf ih 2) y (nI wn) 10) x) E hml hl.1 (cg_S hw w_347 w_345 w_1 w_346 hd_Ss_hasCell ⟨by exact Nat.le_of_ble_eq_true rfl, by exact Nat.le_of_ble_eq_true rfl⟩) hG hK hX hS rfl rfl (by exact Nat.le_of_ble_eq_true rfl) d_Ss_shadow_49 ⟨by exact Nat.le_of_ble_eq_true rfl, by exact Nat.le_of_ble_eq_true rfl⟩ (fun v G1 H locs hp hG hS => ?_)
      obtain ⟨hv1, hG1⟩ := hp
      subst hv1
      rw [hG1] at hG
      refine W.eq (g2 := F0 m 52 ls [.int (jc_hasCell (jc_row nb bf (hf ih 0) (hf ih 1) (hf ih 2) y (nI wn) 10) x)]) rfl ?_
      refine vx_ret ?_
      refine W.zret (v := (jc_hasCell (jc_row nb bf (hf ih 0) (hf ih 1) (hf ih 2) y (nI wn) 10) x)) hx hb hr (by unfold jc_hasCell; split <;> rfl) (gs_end ?_ hG hS) hS.2.2 d_Ss_shadow_52
      exact ⟨ih, hih, eih, hsun, c_1, c_2, rfl, rfl⟩
    · exact gs_throwIA (text := "no such cell") hnt E hG hK hX hS ht (hl.1.trans hml.symm) w_103 w_9 (by decide) (Or.inl ⟨rfl, Or.inr (Or.inl c_2)⟩) d_Ss_shadow_28 d_Ss_shadow_31 d_Ss_shadow_32 d_Ss_shadow_34 d_Ss_shadow_37 (by exact Nat.le_of_ble_eq_true rfl) (by exact Nat.le_of_ble_eq_true rfl) (by exact Nat.le_of_ble_eq_true rfl) (by exact Nat.le_of_ble_eq_true rfl) hlocks (by decide) (by decide)
set_option maxHeartbeats 4000000 in
set_option maxRecDepth 100000 in
theorem k_Ss_shadows (l : Launch) (hnt : l.stackTraces = false) (D : va_G) (k : Nat → ClassId) (zb : Nat) (G : Nat → Option va_E) (o aB aW aH aS aT : Nat) (wn hn nb nw : Nat) (ba wa ha : Nat → Nat) (bf hf : Nat → Nat → Int32) (wf : Nat → Nat → Nat) (sh : Nat → Int64) (tk : Nat → Int32) (b t : Int32) (hC : sC k G o aB aW aH aS aT wn hn nb nw ba wa ha bf hf wf sh tk) : vx_Met l y_Ss_shadows (wM y_Ss_shadows c_Ss_shadows 9 (some .int)) ({ frames := 8, cells := 3, slots := 18, locals := 134 }) (gs_P D k zb G [.ref o, .int b, .int t]) (gs_Q D zb (fun v G1 => ∃ i : Nat, i < 24 ∧ t = nI i ∧ ¬ jc_hasSun (hf i 2) = 0 ∧ ((b = (-1) ∧ v = some (.int (jc_sum (fun y => jc_bits (jc_row nb bf (hf i 0) (hf i 1) (hf i 2) (nI y) (nI wn) 10)) hn))) ∨ (¬ b = (-1) ∧ ∃ j : Nat, j < nb ∧ b = nI j ∧ v = some (.int (jc_sum (fun y => jc_bits (jc_shade (bf j 6) (bf j 0) (bf j 1) (bf j 2) (bf j 3) (bf j 4) (bf j 5) (hf i 0) (hf i 1) (hf i 2) (nI y) (nI wn))) hn)))) ∧ G1 = G)) (gs_T D zb G (fun E => (E = e_IA ∧ ((¬ b = (-1) ∧ (¬ ∃ i : Nat, i < nb ∧ b = nI i)) ∨ (¬ ∃ i : Nat, i < 24 ∧ t = nI i))) ∨ (E = e_IS ∧ (b = (-1) ∨ ∃ i : Nat, i < nb ∧ b = nI i) ∧ (∃ i : Nat, i < 24 ∧ t = nI i ∧ jc_hasSun (hf i 2) = 0)))) 3 18 (fun q : Nat => zb ≤ q) := by
  refine vx_ofW (cc := c_Ss_shadows) (maxL := 9) (ret := (some .int)) (by decide) rfl ?_
  intro p e s m args below meth c s₁ B hml ht hv
  obtain ⟨rfl, hG, hK, hX⟩ := hv
  have hx := B.exec
  have hb := B.bytes
  have hr := B.returns
  have hts := atoms_spec (ws := wM y_Ss_shadows c_Ss_shadows 9 (some .int)) B.pre
  have hw : ∀ w9 ∈ wW, w9.before ([.ref o, .int b, .int t] : List Value).toArray s = true := fun w9 h9 => hts w9 (gi_in w9 h9)
  have hown : s.vm.findClass R_Ss = some m.cls := findClass_of_methodNamed B.named
  have hlocks := B.notSynchronized
  have E : gs_E p s m ([.ref o, .int b, .int t] : List Value).toArray c c_Ss_shadows wW R_Ss := ⟨hx, hb, hw, hown⟩
  have hS : gs_S zb s.heap s.heap [] := va_S.rf
  have hl := lv_entry ([.ref o, .int b, .int t]) (n := 9) (Nat.le_of_ble_eq_true rfl)
  rw [lg_entry_eq]
  generalize (lg_sl ([.ref o, .int b, .int t]) ++ List.replicate (9 - (lg_sl ([.ref o, .int b, .int t])).length) Slot.unset).toArray = ls at hl ⊢
  have hl : lv_has ls 9 [(0, .ref o), (1, .int b), (2, .int t)] := hl
  refine lv_iload_n hx hb d_Ss_shadows_0 rfl (lv_at hl 1 rfl) ?_
  refine lv_iconst (v := (-1)) hx hb d_Ss_shadows_1 (by decide) ?_
  refine lv_icmp_ne (tgt := 9) hx hb d_Ss_shadows_2 (by decide) (fun c_1 => ?_) (fun c_1 => ?_)
  · refine lv_aload_n hx hb d_Ss_shadows_9 rfl (lv_at hl 0 rfl) ?_
    refine lv_iload_n hx hb d_Ss_shadows_10 rfl (lv_at hl 1 rfl) ?_
    refine gs_VX (As := [.int b]) (rest := []) (k_Ss_knownBox l hnt D k zb G o aB aW aH aS aT wn hn nb nw ba wa ha bf hf wf sh tk b hC) E hml hl.1 (cg_V (C := R_Ss) hw w_225 w_222 w_1 w_224 sel_Ss_knownBox hd_Ss_knownBox ⟨by exact Nat.le_of_ble_eq_true rfl, by exact Nat.le_of_ble_eq_true rfl⟩) hG hK hX hS hC.1.1 rfl rfl rfl rfl (by exact Nat.le_of_ble_eq_true rfl) d_Ss_shadows_11 ⟨by exact Nat.le_of_ble_eq_true rfl, by exact Nat.le_of_ble_eq_true rfl⟩ (fun E9 ce q9 H locs hp hG hS hq1 hq2 hq3 => ?_) (fun v G1 H locs hp hG hS => ?_)
    · exact gs_on ht hlocks (Or.inl ⟨hp.1, Or.inl ⟨c_1, hp.2⟩⟩) hG hS hq1 hq2 hq3 (by decide) (by decide)
    obtain ⟨ib, hib, eib, hv1, hG1⟩ := hp
    subst hv1
    rw [hG1] at hG
    refine W.eq (g2 := F0 m 14 ls [.ref (ba ib)]) rfl ?_
    refine lv_astore_n (lv' := [(3, .ref (ba ib)), (0, .ref o), (1, .int b), (2, .int t)]) hx hb d_Ss_shadows_14 rfl hl (by decide) rfl (fun ls hl => ?_)
    refine lv_aload_n hx hb d_Ss_shadows_15 rfl (lv_at hl 1 rfl) ?_
    refine lv_iload_n hx hb d_Ss_shadows_16 rfl (lv_at hl 3 rfl) ?_
    refine gs_VX (As := [.int t]) (rest := []) (k_Ss_sunnyHour l hnt D k zb G o aB aW aH aS aT wn hn nb nw ba wa ha bf hf wf sh tk t hC) E hml hl.1 (cg_V (C := R_Ss) hw w_304 w_301 w_1 w_303 sel_Ss_sunnyHour hd_Ss_sunnyHour ⟨by exact Nat.le_of_ble_eq_true rfl, by exact Nat.le_of_ble_eq_true rfl⟩) hG hK hX hS hC.1.1 rfl rfl rfl rfl (by exact Nat.le_of_ble_eq_true rfl) d_Ss_shadows_17 ⟨by exact Nat.le_of_ble_eq_true rfl, by exact Nat.le_of_ble_eq_true rfl⟩ (fun E9 ce q9 H locs hp hG hS hq1 hq2 hq3 => ?_) (fun v G1 H locs hp hG hS => ?_)
    · exact gs_on ht hlocks (hp.elim (fun q => Or.inl ⟨q.1, Or.inr q.2⟩) (fun q => Or.inr ⟨q.1, Or.inr ⟨ib, hib, eib⟩, q.2⟩)) hG hS hq1 hq2 hq3 (by decide) (by decide)
    obtain ⟨ih, hih, eih, hsun, hv1, hG1⟩ := hp
    subst hv1
    rw [hG1] at hG
    refine W.eq (g2 := F0 m 20 ls [.ref (ha ih)]) rfl ?_
    refine lv_astore (lv' := [(4, .ref (ha ih)), (3, .ref (ba ib)), (0, .ref o), (1, .int b), (2, .int t)]) hx hb d_Ss_shadows_20 hl (by decide) rfl (fun ls hl => ?_)
    refine lv_iconst (v := 0) hx hb d_Ss_shadows_22 (by decide) ?_
    refine lv_istore (lv' := [(5, .int 0), (4, .ref (ha ih)), (3, .ref (ba ib)), (0, .ref o), (1, .int b), (2, .int t)]) hx hb d_Ss_shadows_23 hl (by decide) rfl (fun ls hl => ?_)
    refine lv_iconst (v := 0) hx hb d_Ss_shadows_25 (by decide) ?_
    refine lv_istore (lv' := [(6, .int 0), (5, .int 0), (4, .ref (ha ih)), (3, .ref (ba ib)), (0, .ref o), (1, .int b), (2, .int t)]) hx hb d_Ss_shadows_26 hl (by decide) rfl (fun ls hl => ?_)
    have lp : ∀ (fu : Nat) (y : Nat) (acc : Int32), y ≤ hn → hn + 1 ≤ y + fu → (hacc : acc = jc_sum (fun y => jc_bits (jc_shade (bf ib 6) (bf ib 0) (bf ib 1) (bf ib 2) (bf ib 3) (bf ib 4) (bf ib 5) (hf ih 0) (hf ih 1) (hf ih 2) (nI y) (nI wn))) y) → ∀ (H : Heap) (locs : List Loc), gs_W D classes zb G H → gs_S zb s.heap H locs → ∀ (ls : Array Slot), lv_has ls 9 [(0, .ref o), (1, .int b), (2, .int t), (3, .ref (ba ib)), (4, .ref (ha ih)), (5, .int acc), (6, .int (nI y))] → W p l e (headSpec (wM y_Ss_shadows c_Ss_shadows 9 (some .int)) ({ frames := 8, cells := 3, slots := 18, locals := 134 })).room s m ([.ref o, .int b, .int t] : List Value).toArray below meth c H locs 3 18 (vx_MQ below (gs_Q D zb (fun v G1 => ∃ i : Nat, i < 24 ∧ t = nI i ∧ ¬ jc_hasSun (hf i 2) = 0 ∧ ((b = (-1) ∧ v = some (.int (jc_sum (fun y => jc_bits (jc_row nb bf (hf i 0) (hf i 1) (hf i 2) (nI y) (nI wn) 10)) hn))) ∨ (¬ b = (-1) ∧ ∃ j : Nat, j < nb ∧ b = nI j ∧ v = some (.int (jc_sum (fun y => jc_bits (jc_shade (bf j 6) (bf j 0) (bf j 1) (bf j 2) (bf j 3) (bf j 4) (bf j 5) (hf i 0) (hf i 1) (hf i 2) (nI y) (nI wn))) hn)))) ∧ G1 = G)) (gs_T D zb G (fun E => (E = e_IA ∧ ((¬ b = (-1) ∧ (¬ ∃ i : Nat, i < nb ∧ b = nI i)) ∨ (¬ ∃ i : Nat, i < 24 ∧ t = nI i))) ∨ (E = e_IS ∧ (b = (-1) ∨ ∃ i : Nat, i < nb ∧ b = nI i) ∧ (∃ i : Nat, i < 24 ∧ t = nI i ∧ jc_hasSun (hf i 2) = 0)))) ([.ref o, .int b, .int t] : List Value).toArray s 3 18 (fun q : Nat => zb ≤ q)) (F0 m 28 ls []) := by
      intro fu
      induction fu with
      | zero => intro y acc hle hfu; exact absurd hfu (by omega)
      | succ fu IH =>
        intro y acc hle hfu hacc H locs hG hS ls hl
        refine lv_iload hx hb d_Ss_shadows_28 (lv_at hl 6 rfl) ?_
        refine lv_aload_n hx hb d_Ss_shadows_30 rfl (lv_at hl 0 rfl) ?_
        refine gs_get E hK.1 hG hC.1.1 (C := R_Ss) (T := F_Ss) (N := 9) rfl i_Ss 1 (by decide) w_61 (v := .int (nI hn)) rfl d_Ss_shadows_31 ?_
        refine lv_icmp_ge (tgt := 82) hx hb d_Ss_shadows_34 (by decide) (fun c_2 => ?_) (fun c_2 => ?_)
        · have hend : y = hn := cl_eq (by have := hC.2.1; omega) hle c_2
          refine lv_iload hx hb d_Ss_shadows_82 (lv_at hl 5 rfl) ?_
          refine vx_ret ?_
          refine W.iret (v := acc) hx hb hr (gs_end ?_ hG hS) hS.2.2 d_Ss_shadows_84
          exact ⟨ih, hih, eih, hsun, Or.inr ⟨c_1, ib, hib, eib, by rw [hacc, hend]⟩, rfl⟩
        · have hlt : y < hn := cl_lt (by have := hC.2.1; omega) hle c_2
          refine lv_aload_n hx hb d_Ss_shadows_37 rfl (lv_at hl 3 rfl) ?_
          refine lv_ifnonnull (tgt := 52) hx hb d_Ss_shadows_38 (by decide) ?_
          refine lv_aload_n hx hb d_Ss_shadows_52 rfl (lv_at hl 3 rfl) ?_
          refine lv_iload hx hb d_Ss_shadows_53 (lv_at hl 6 rfl) ?_
          refine lv_aload hx hb d_Ss_shadows_55 (lv_at hl 4 rfl) ?_
          refine lv_aload_n hx hb d_Ss_shadows_57 rfl (lv_at hl 0 rfl) ?_
          refine gs_get E hK.1 hG hC.1.1 (C := R_Ss) (T := F_Ss) (N := 9) rfl i_Ss 0 (by decide) w_60 (v := .int (nI wn)) rfl d_Ss_shadows_58 ?_
          refine gs_V (As := [.int (nI y), .ref (ha ih), .int (nI wn)]) (rest := []) (k_Bx_shadeThrownOnRow l D k zb G (ba ib) (bf ib 0) (bf ib 1) (bf ib 2) (bf ib 3) (bf ib 4) (bf ib 5) (bf ib 6) (ha ih) (hf ih 0) (hf ih 1) (hf ih 2) (hf ih 3) (nI y) (nI wn) (hC.2.2.1 ib hib) (hC.2.2.2.2.1 ih hih)) E hml hl.1 (cg_V (C := R_Bx) hw w_317 w_314 w_5 w_315 sel_Bx_shadeThrownOnRow hd_Bx_shadeThrownOnRow ⟨by exact Nat.le_of_ble_eq_true rfl, by exact Nat.le_of_ble_eq_true rfl⟩) hG hK hX hS (hC.2.2.1 ib hib) rfl rfl rfl rfl (by exact Nat.le_of_ble_eq_true rfl) d_Ss_shadows_61 ⟨by exact Nat.le_of_ble_eq_true rfl, by exact Nat.le_of_ble_eq_true rfl⟩ (fun v G1 H locs hp hG hS => ?_)
          obtain ⟨hv1, hG1⟩ := hp
          subst hv1
          rw [hG1] at hG
          refine W.eq (g2 := F0 m 64 ls [.long (jc_shade (bf ib 6) (bf ib 0) (bf ib 1) (bf ib 2) (bf ib 3) (bf ib 4) (bf ib 5) (hf ih 0) (hf ih 1) (hf ih 2) (nI y) (nI wn))]) rfl ?_
          refine lv_topl (fun v_3 ev_3 => ?_)
          refine lv_lstore (lv' := [(7, .long v_3), (0, .ref o), (1, .int b), (2, .int t), (3, .ref (ba ib)), (4, .ref (ha ih)), (5, .int acc), (6, .int (nI y))]) hx hb d_Ss_shadows_64 hl (by decide) rfl (fun ls hl => ?_)
          refine lv_iload hx hb d_Ss_shadows_66 (lv_at hl 6 rfl) ?_
          refine lv_lload hx hb d_Ss_shadows_68 (lv_at hl 0 rfl) ?_
          refine gs_St (As := [.long v_3]) (rest := [.int acc]) (k_Lo_bitCount l D k zb G v_3) E hml hl.1 (cg_S hw w_357 w_355 w_12 w_356 hd_Lo_bitCount ⟨by exact Nat.le_of_ble_eq_true rfl, by exact Nat.le_of_ble_eq_true rfl⟩) hG hK hX hS rfl rfl (by exact Nat.le_of_ble_eq_true rfl) d_Ss_shadows_70 ⟨by exact Nat.le_of_ble_eq_true rfl, by exact Nat.le_of_ble_eq_true rfl⟩ (fun v G1 H locs hp hG hS => ?_)
          obtain ⟨hv1, hG1⟩ := hp
          subst hv1
          rw [hG1] at hG
          refine W.eq (g2 := F0 m 73 ls [.int (jc_bits v_3), .int acc]) rfl ?_
          refine lv_iadd hx hb d_Ss_shadows_73 ?_
          refine lv_topi (fun v_4 ev_4 => ?_)
          refine lv_istore (lv' := [(5, .int v_4), (7, .long v_3), (0, .ref o), (1, .int b), (2, .int t), (3, .ref (ba ib)), (4, .ref (ha ih)), (6, .int (nI y))]) hx hb d_Ss_shadows_74 hl (by decide) rfl (fun ls hl => ?_)
          refine lv_iinc (v := nI (y + 1)) (lv' := [(6, .int (nI (y + 1))), (5, .int v_4), (7, .long v_3), (0, .ref o), (1, .int b), (2, .int t), (3, .ref (ba ib)), (4, .ref (ha ih))]) hx hb d_Ss_shadows_76 hl (k := 7) rfl (nI_1 _) (by decide) rfl (fun ls hl => ?_)
          refine lv_goto (tgt := 28) hx hb d_Ss_shadows_79 (by decide) ?_
          exact IH (y + 1) v_4 (by omega) (by omega) (by subst ev_4 ev_3; rw [hacc]; rfl) _ _ hG hS ls (lv_sub hl [3, 4, 5, 6, 7, 1, 0] rfl)
    exact lp (hn + 1) 0 0 (by omega) (by omega) rfl _ _ hG hS ls (lv_sub hl [4, 5, 6, 3, 2, 1, 0] rfl)
  · refine lv_null hx hb d_Ss_shadows_5 ?_
    refine lv_goto (tgt := 14) hx hb d_Ss_shadows_6 (by decide) ?_
    refine lv_astore_nN (lv' := [(3, .null), (0, .ref o), (1, .int b), (2, .int t)]) hx hb d_Ss_shadows_14 rfl hl (by decide) rfl (fun ls hl => ?_)
    refine lv_aload_n hx hb d_Ss_shadows_15 rfl (lv_at hl 1 rfl) ?_
    refine lv_iload_n hx hb d_Ss_shadows_16 rfl (lv_at hl 3 rfl) ?_
    refine gs_VX (As := [.int t]) (rest := []) (k_Ss_sunnyHour l hnt D k zb G o aB aW aH aS aT wn hn nb nw ba wa ha bf hf wf sh tk t hC) E hml hl.1 (cg_V (C := R_Ss) hw w_304 w_301 w_1 w_303 sel_Ss_sunnyHour hd_Ss_sunnyHour ⟨by exact Nat.le_of_ble_eq_true rfl, by exact Nat.le_of_ble_eq_true rfl⟩) hG hK hX hS hC.1.1 rfl rfl rfl rfl (by exact Nat.le_of_ble_eq_true rfl) d_Ss_shadows_17 ⟨by exact Nat.le_of_ble_eq_true rfl, by exact Nat.le_of_ble_eq_true rfl⟩ (fun E9 ce q9 H locs hp hG hS hq1 hq2 hq3 => ?_) (fun v G1 H locs hp hG hS => ?_)
    · exact gs_on ht hlocks (hp.elim (fun q => Or.inl ⟨q.1, Or.inr q.2⟩) (fun q => Or.inr ⟨q.1, Or.inl c_1, q.2⟩)) hG hS hq1 hq2 hq3 (by decide) (by decide)
    obtain ⟨ih, hih, eih, hsun, hv1, hG1⟩ := hp
    subst hv1
    rw [hG1] at hG
    refine W.eq (g2 := F0 m 20 ls [.ref (ha ih)]) rfl ?_
    refine lv_astore (lv' := [(4, .ref (ha ih)), (3, .null), (0, .ref o), (1, .int b), (2, .int t)]) hx hb d_Ss_shadows_20 hl (by decide) rfl (fun ls hl => ?_)
    refine lv_iconst (v := 0) hx hb d_Ss_shadows_22 (by decide) ?_
    refine lv_istore (lv' := [(5, .int 0), (4, .ref (ha ih)), (3, .null), (0, .ref o), (1, .int b), (2, .int t)]) hx hb d_Ss_shadows_23 hl (by decide) rfl (fun ls hl => ?_)
    refine lv_iconst (v := 0) hx hb d_Ss_shadows_25 (by decide) ?_
    refine lv_istore (lv' := [(6, .int 0), (5, .int 0), (4, .ref (ha ih)), (3, .null), (0, .ref o), (1, .int b), (2, .int t)]) hx hb d_Ss_shadows_26 hl (by decide) rfl (fun ls hl => ?_)
    have lp : ∀ (fu : Nat) (y : Nat) (acc : Int32), y ≤ hn → hn + 1 ≤ y + fu → (hacc : acc = jc_sum (fun y => jc_bits (jc_row nb bf (hf ih 0) (hf ih 1) (hf ih 2) (nI y) (nI wn) 10)) y) → ∀ (H : Heap) (locs : List Loc), gs_W D classes zb G H → gs_S zb s.heap H locs → ∀ (ls : Array Slot), lv_has ls 9 [(0, .ref o), (1, .int b), (2, .int t), (3, .null), (4, .ref (ha ih)), (5, .int acc), (6, .int (nI y))] → W p l e (headSpec (wM y_Ss_shadows c_Ss_shadows 9 (some .int)) ({ frames := 8, cells := 3, slots := 18, locals := 134 })).room s m ([.ref o, .int b, .int t] : List Value).toArray below meth c H locs 2 12 (vx_MQ below (gs_Q D zb (fun v G1 => ∃ i : Nat, i < 24 ∧ t = nI i ∧ ¬ jc_hasSun (hf i 2) = 0 ∧ ((b = (-1) ∧ v = some (.int (jc_sum (fun y => jc_bits (jc_row nb bf (hf i 0) (hf i 1) (hf i 2) (nI y) (nI wn) 10)) hn))) ∨ (¬ b = (-1) ∧ ∃ j : Nat, j < nb ∧ b = nI j ∧ v = some (.int (jc_sum (fun y => jc_bits (jc_shade (bf j 6) (bf j 0) (bf j 1) (bf j 2) (bf j 3) (bf j 4) (bf j 5) (hf i 0) (hf i 1) (hf i 2) (nI y) (nI wn))) hn)))) ∧ G1 = G)) (gs_T D zb G (fun E => (E = e_IA ∧ ((¬ b = (-1) ∧ (¬ ∃ i : Nat, i < nb ∧ b = nI i)) ∨ (¬ ∃ i : Nat, i < 24 ∧ t = nI i))) ∨ (E = e_IS ∧ (b = (-1) ∨ ∃ i : Nat, i < nb ∧ b = nI i) ∧ (∃ i : Nat, i < 24 ∧ t = nI i ∧ jc_hasSun (hf i 2) = 0)))) ([.ref o, .int b, .int t] : List Value).toArray s 3 18 (fun q : Nat => zb ≤ q)) (F0 m 28 ls []) := by
      intro fu
      induction fu with
      | zero => intro y acc hle hfu; exact absurd hfu (by omega)
      | succ fu IH =>
        intro y acc hle hfu hacc H locs hG hS ls hl
        refine lv_iload hx hb d_Ss_shadows_28 (lv_at hl 6 rfl) ?_
        refine lv_aload_n hx hb d_Ss_shadows_30 rfl (lv_at hl 0 rfl) ?_
        refine gs_get E hK.1 hG hC.1.1 (C := R_Ss) (T := F_Ss) (N := 9) rfl i_Ss 1 (by decide) w_61 (v := .int (nI hn)) rfl d_Ss_shadows_31 ?_
        refine lv_icmp_ge (tgt := 82) hx hb d_Ss_shadows_34 (by decide) (fun c_5 => ?_) (fun c_5 => ?_)
        · have hend : y = hn := cl_eq (by have := hC.2.1; omega) hle c_5
          refine lv_iload hx hb d_Ss_shadows_82 (lv_at hl 5 rfl) ?_
          refine W.widen (k := 3) (n := 18) (by decide) (by decide) ?_
          refine vx_ret ?_
          refine W.iret (v := acc) hx hb hr (gs_end ?_ hG hS) hS.2.2 d_Ss_shadows_84
          exact ⟨ih, hih, eih, hsun, Or.inl ⟨c_1, by rw [hacc, hend]⟩, rfl⟩
        · have hlt : y < hn := cl_lt (by have := hC.2.1; omega) hle c_5
          refine lv_aload_nN hx hb d_Ss_shadows_37 rfl (lv_at hl 3 rfl) ?_
          refine lv_ifnonnullN hx hb d_Ss_shadows_38 ?_
          refine lv_aload_n hx hb d_Ss_shadows_41 rfl (lv_at hl 0 rfl) ?_
          refine lv_iload hx hb d_Ss_shadows_42 (lv_at hl 6 rfl) ?_
          refine lv_aload hx hb d_Ss_shadows_44 (lv_at hl 4 rfl) ?_
          refine gs_V (As := [.int (nI y), .ref (ha ih)]) (rest := []) (k_Ss_shadeOfRow l D k zb G o aB aW aH aS aT wn hn nb nw ba wa ha bf hf wf sh tk (ha ih) (hf ih 0) (hf ih 1) (hf ih 2) (hf ih 3) (nI y) hC (hC.2.2.2.2.1 ih hih)) E hml hl.1 (cg_V (C := R_Ss) hw w_313 w_310 w_1 w_312 sel_Ss_shadeOfRow hd_Ss_shadeOfRow ⟨by exact Nat.le_of_ble_eq_true rfl, by exact Nat.le_of_ble_eq_true rfl⟩) hG hK hX hS hC.1.1 rfl rfl rfl rfl (by exact Nat.le_of_ble_eq_true rfl) d_Ss_shadows_46 ⟨by exact Nat.le_of_ble_eq_true rfl, by exact Nat.le_of_ble_eq_true rfl⟩ (fun v G1 H locs hp hG hS => ?_)
          obtain ⟨hv1, hG1⟩ := hp
          subst hv1
          rw [hG1] at hG
          refine W.eq (g2 := F0 m 49 ls [.long (jc_row nb bf (hf ih 0) (hf ih 1) (hf ih 2) (nI y) (nI wn) 10)]) rfl ?_
          refine lv_goto (tgt := 64) hx hb d_Ss_shadows_49 (by decide) ?_
          refine lv_topl (fun v_6 ev_6 => ?_)
          refine lv_lstore (lv' := [(7, .long v_6), (0, .ref o), (1, .int b), (2, .int t), (3, .null), (4, .ref (ha ih)), (5, .int acc), (6, .int (nI y))]) hx hb d_Ss_shadows_64 hl (by decide) rfl (fun ls hl => ?_)
          refine lv_iload hx hb d_Ss_shadows_66 (lv_at hl 6 rfl) ?_
          refine lv_lload hx hb d_Ss_shadows_68 (lv_at hl 0 rfl) ?_
          refine gs_St (As := [.long v_6]) (rest := [.int acc]) (k_Lo_bitCount l D k zb G v_6) E hml hl.1 (cg_S hw w_357 w_355 w_12 w_356 hd_Lo_bitCount ⟨by exact Nat.le_of_ble_eq_true rfl, by exact Nat.le_of_ble_eq_true rfl⟩) hG hK hX hS rfl rfl (by exact Nat.le_of_ble_eq_true rfl) d_Ss_shadows_70 ⟨by exact Nat.le_of_ble_eq_true rfl, by exact Nat.le_of_ble_eq_true rfl⟩ (fun v G1 H locs hp hG hS => ?_)
          obtain ⟨hv1, hG1⟩ := hp
          subst hv1
          rw [hG1] at hG
          refine W.eq (g2 := F0 m 73 ls [.int (jc_bits v_6), .int acc]) rfl ?_
          refine lv_iadd hx hb d_Ss_shadows_73 ?_
          refine lv_topi (fun v_7 ev_7 => ?_)
          refine lv_istore (lv' := [(5, .int v_7), (7, .long v_6), (0, .ref o), (1, .int b), (2, .int t), (3, .null), (4, .ref (ha ih)), (6, .int (nI y))]) hx hb d_Ss_shadows_74 hl (by decide) rfl (fun ls hl => ?_)
          refine lv_iinc (v := nI (y + 1)) (lv' := [(6, .int (nI (y + 1))), (5, .int v_7), (7, .long v_6), (0, .ref o), (1, .int b), (2, .int t), (3, .null), (4, .ref (ha ih))]) hx hb d_Ss_shadows_76 hl (k := 7) rfl (nI_1 _) (by decide) rfl (fun ls hl => ?_)
          refine lv_goto (tgt := 28) hx hb d_Ss_shadows_79 (by decide) ?_
          exact IH (y + 1) v_7 (by omega) (by omega) (by subst ev_7 ev_6; rw [hacc]; rfl) _ _ hG hS ls (lv_sub hl [3, 4, 5, 6, 7, 1, 0] rfl)
    exact lp (hn + 1) 0 0 (by omega) (by omega) rfl _ _ hG hS ls (lv_sub hl [4, 5, 6, 3, 2, 1, 0] rfl)
set_option maxHeartbeats 4000000 in
set_option maxRecDepth 100000 in
theorem k_Ss_dark (l : Launch) (hnt : l.stackTraces = false) (D : va_G) (k : Nat → ClassId) (zb : Nat) (G : Nat → Option va_E) (o aB aW aH aS aT : Nat) (wn hn nb nw : Nat) (ba wa ha : Nat → Nat) (bf hf : Nat → Nat → Int32) (wf : Nat → Nat → Nat) (sh : Nat → Int64) (tk : Nat → Int32) (q t : Int32) (hC : sC k G o aB aW aH aS aT wn hn nb nw ba wa ha bf hf wf sh tk) : vx_Met l y_Ss_dark (wM y_Ss_dark c_Ss_dark 4 (some .int)) ({ frames := 8, cells := 3, slots := 18, locals := 134 }) (gs_P D k zb G [.ref o, .int q, .int t]) (gs_Q D zb (fun v G1 => ∃ i j : Nat, i < 24 ∧ t = nI i ∧ ¬ jc_hasSun (hf i 2) = 0 ∧ j < nw ∧ q = nI j ∧ v = some (.int (jc_dark nb bf (hf i 0) (hf i 1) (hf i 2) (nI wn) ld_no (wf j 0) (wf j 1) (wf j 2) (wf j 3))) ∧ G1 = G)) (gs_T D zb G (fun E => (E = e_IA ∧ ((¬ ∃ i : Nat, i < nw ∧ q = nI i) ∨ (¬ ∃ i : Nat, i < 24 ∧ t = nI i))) ∨ (E = e_IS ∧ (∃ i : Nat, i < nw ∧ q = nI i) ∧ (∃ i : Nat, i < 24 ∧ t = nI i ∧ jc_hasSun (hf i 2) = 0)))) 3 18 (fun q : Nat => zb ≤ q) := by
  refine vx_ofW (cc := c_Ss_dark) (maxL := 4) (ret := (some .int)) (by decide) rfl ?_
  intro p e s m args below meth c s₁ B hml ht hv
  obtain ⟨rfl, hG, hK, hX⟩ := hv
  have hx := B.exec
  have hb := B.bytes
  have hr := B.returns
  have hts := atoms_spec (ws := wM y_Ss_dark c_Ss_dark 4 (some .int)) B.pre
  have hw : ∀ w9 ∈ wW, w9.before ([.ref o, .int q, .int t] : List Value).toArray s = true := fun w9 h9 => hts w9 (gi_in w9 h9)
  have hown : s.vm.findClass R_Ss = some m.cls := findClass_of_methodNamed B.named
  have hlocks := B.notSynchronized
  have E : gs_E p s m ([.ref o, .int q, .int t] : List Value).toArray c c_Ss_dark wW R_Ss := ⟨hx, hb, hw, hown⟩
  have hS : gs_S zb s.heap s.heap [] := va_S.rf
  have hl := lv_entry ([.ref o, .int q, .int t]) (n := 4) (Nat.le_of_ble_eq_true rfl)
  rw [lg_entry_eq]
  generalize (lg_sl ([.ref o, .int q, .int t]) ++ List.replicate (4 - (lg_sl ([.ref o, .int q, .int t])).length) Slot.unset).toArray = ls at hl ⊢
  have hl : lv_has ls 4 [(0, .ref o), (1, .int q), (2, .int t)] := hl
  refine lv_aload_n hx hb d_Ss_dark_0 rfl (lv_at hl 0 rfl) ?_
  refine lv_iload_n hx hb d_Ss_dark_1 rfl (lv_at hl 1 rfl) ?_
  refine gs_VX (As := [.int q]) (rest := []) (k_Ss_knownWindow l hnt D k zb G o aB aW aH aS aT wn hn nb nw ba wa ha bf hf wf sh tk q hC) E hml hl.1 (cg_V (C := R_Ss) hw w_371 w_368 w_1 w_370 sel_Ss_knownWindow hd_Ss_knownWindow ⟨by exact Nat.le_of_ble_eq_true rfl, by exact Nat.le_of_ble_eq_true rfl⟩) hG hK hX hS hC.1.1 rfl rfl rfl rfl (by exact Nat.le_of_ble_eq_true rfl) d_Ss_dark_2 ⟨by exact Nat.le_of_ble_eq_true rfl, by exact Nat.le_of_ble_eq_true rfl⟩ (fun E9 ce q9 H locs hp hG hS hq1 hq2 hq3 => ?_) (fun v G1 H locs hp hG hS => ?_)
  · exact gs_on ht hlocks (Or.inl ⟨hp.1, Or.inl hp.2⟩) hG hS hq1 hq2 hq3 (by decide) (by decide)
  obtain ⟨iw, hiw, eiw, hv1, hG1⟩ := hp
  subst hv1
  rw [hG1] at hG
  refine W.eq (g2 := F0 m 5 ls [.ref (wa iw)]) rfl ?_
  refine lv_astore_n (lv' := [(3, .ref (wa iw)), (0, .ref o), (1, .int q), (2, .int t)]) hx hb d_Ss_dark_5 rfl hl (by decide) rfl (fun ls hl => ?_)
  refine lv_aload_n hx hb d_Ss_dark_6 rfl (lv_at hl 1 rfl) ?_
  refine lv_aload_n hx hb d_Ss_dark_7 rfl (lv_at hl 0 rfl) ?_
  refine lv_aload_n hx hb d_Ss_dark_8 rfl (lv_at hl 1 rfl) ?_
  refine lv_iload_n hx hb d_Ss_dark_9 rfl (lv_at hl 3 rfl) ?_
  refine gs_VX (As := [.int t]) (rest := [.ref (wa iw), .ref o]) (k_Ss_sunnyHour l hnt D k zb G o aB aW aH aS aT wn hn nb nw ba wa ha bf hf wf sh tk t hC) E hml hl.1 (cg_V (C := R_Ss) hw w_304 w_301 w_1 w_303 sel_Ss_sunnyHour hd_Ss_sunnyHour ⟨by exact Nat.le_of_ble_eq_true rfl, by exact Nat.le_of_ble_eq_true rfl⟩) hG hK hX hS hC.1.1 rfl rfl rfl rfl (by exact Nat.le_of_ble_eq_true rfl) d_Ss_dark_10 ⟨by exact Nat.le_of_ble_eq_true rfl, by exact Nat.le_of_ble_eq_true rfl⟩ (fun E9 ce q9 H locs hp hG hS hq1 hq2 hq3 => ?_) (fun v G1 H locs hp hG hS => ?_)
  · exact gs_on ht hlocks (hp.elim (fun q => Or.inl ⟨q.1, Or.inr q.2⟩) (fun q => Or.inr ⟨q.1, ⟨iw, hiw, eiw⟩, q.2⟩)) hG hS hq1 hq2 hq3 (by decide) (by decide)
  obtain ⟨ih, hih, eih, hsun, hv1, hG1⟩ := hp
  subst hv1
  rw [hG1] at hG
  refine W.eq (g2 := F0 m 13 ls [.ref (ha ih), .ref (wa iw), .ref o]) rfl ?_
  refine lv_null hx hb d_Ss_dark_13 ?_
  refine gs_V (As := [.ref (wa iw), .ref (ha ih), .null]) (rest := []) (k_dark0 l D k zb G o aB aW aH aS aT wn hn nb nw ba wa ha bf hf wf sh tk (wa iw) (wf iw 0) (wf iw 1) (wf iw 2) (wf iw 3) (ha ih) (hf ih 0) (hf ih 1) (hf ih 2) (hf ih 3) hC (hC.2.2.2.1 iw hiw) (Nat.le_of_lt (hC.2.2.2.2.2.2.2 iw hiw).2.2.1) (Nat.le_trans (hC.2.2.2.2.2.2.2 iw hiw).2.2.2 hC.2.1.2.2.2.2.2) (hC.2.2.2.2.1 ih hih)) E hml hl.1 (cg_V (C := R_Ss) hw w_376 w_373 w_1 w_375 sel_Ss_darkCells hd_Ss_darkCells ⟨by exact Nat.le_of_ble_eq_true rfl, by exact Nat.le_of_ble_eq_true rfl⟩) hG hK hX hS hC.1.1 rfl rfl rfl rfl (by exact Nat.le_of_ble_eq_true rfl) d_Ss_dark_14 ⟨by exact Nat.le_of_ble_eq_true rfl, by exact Nat.le_of_ble_eq_true rfl⟩ (fun v G1 H locs hp hG hS => ?_)
  obtain ⟨hv1, hG1⟩ := hp
  subst hv1
  rw [hG1] at hG
  refine W.eq (g2 := F0 m 17 ls [.int (jc_dark nb bf (hf ih 0) (hf ih 1) (hf ih 2) (nI wn) ld_no (wf iw 0) (wf iw 1) (wf iw 2) (wf iw 3))]) rfl ?_
  refine vx_ret ?_
  refine W.iret (v := (jc_dark nb bf (hf ih 0) (hf ih 1) (hf ih 2) (nI wn) ld_no (wf iw 0) (wf iw 1) (wf iw 2) (wf iw 3))) hx hb hr (gs_end ?_ hG hS) hS.2.2 d_Ss_dark_17
  exact ⟨ih, iw, hih, eih, hsun, hiw, eiw, rfl, rfl⟩
set_option maxHeartbeats 4000000 in
set_option maxRecDepth 100000 in
theorem k_Ss_cell (l : Launch) (hnt : l.stackTraces = false) (D : va_G) (k : Nat → ClassId) (zb : Nat) (G : Nat → Option va_E) (o aB aW aH aS aT : Nat) (wn hn nb nw : Nat) (ba wa ha : Nat → Nat) (bf hf : Nat → Nat → Int32) (wf : Nat → Nat → Nat) (sh : Nat → Int64) (tk : Nat → Int32) (b t : Int32) (hC : sC k G o aB aW aH aS aT wn hn nb nw ba wa ha bf hf wf sh tk) : vx_Met l y_Ss_cell (wM y_Ss_cell c_Ss_cell 9 (some .int)) ({ frames := 8, cells := 2, slots := 12, locals := 134 }) (gs_P D k zb G [.ref o, .int b, .int t]) (gs_Q D zb (fun v G1 => ∃ i : Nat, i < 24 ∧ t = nI i ∧ ¬ jc_hasSun (hf i 2) = 0 ∧ ¬ b < 0 ∧ v = some (.int (jc_cell (fun y => jc_row nb bf (hf i 0) (hf i 1) (hf i 2) (nI y) (nI wn) 10) hn 0 b)) ∧ G1 = G)) (gs_T D zb G (fun E => (E = e_IA ∧ (b < 0 ∨ (¬ ∃ i : Nat, i < 24 ∧ t = nI i))) ∨ (E = e_IS ∧ ¬ b < 0 ∧ (∃ i : Nat, i < 24 ∧ t = nI i ∧ jc_hasSun (hf i 2) = 0)))) 2 12 (fun q : Nat => zb ≤ q) := by
  refine vx_ofW (cc := c_Ss_cell) (maxL := 9) (ret := (some .int)) (by decide) rfl ?_
  intro p e s m args below meth c s₁ B hml ht hv
  obtain ⟨rfl, hG, hK, hX⟩ := hv
  have hx := B.exec
  have hb := B.bytes
  have hr := B.returns
  have hts := atoms_spec (ws := wM y_Ss_cell c_Ss_cell 9 (some .int)) B.pre
  have hw : ∀ w9 ∈ wW, w9.before ([.ref o, .int b, .int t] : List Value).toArray s = true := fun w9 h9 => hts w9 (gi_in w9 h9)
  have hown : s.vm.findClass R_Ss = some m.cls := findClass_of_methodNamed B.named
  have hlocks := B.notSynchronized
  have E : gs_E p s m ([.ref o, .int b, .int t] : List Value).toArray c c_Ss_cell wW R_Ss := ⟨hx, hb, hw, hown⟩
  have hS : gs_S zb s.heap s.heap [] := va_S.rf
  have hl := lv_entry ([.ref o, .int b, .int t]) (n := 9) (Nat.le_of_ble_eq_true rfl)
  rw [lg_entry_eq]
  generalize (lg_sl ([.ref o, .int b, .int t]) ++ List.replicate (9 - (lg_sl ([.ref o, .int b, .int t])).length) Slot.unset).toArray = ls at hl ⊢
  have hl : lv_has ls 9 [(0, .ref o), (1, .int b), (2, .int t)] := hl
  refine lv_iload_n hx hb d_Ss_cell_0 rfl (lv_at hl 1 rfl) ?_
  refine lv_if_ge (tgt := 14) hx hb d_Ss_cell_1 (by decide) (fun c_1 => ?_) (fun c_1 => ?_)
  · have hnb : ¬ b < 0 := by rw [i_lt]; rw [i_le] at c_1; omega
    refine lv_aload_n hx hb d_Ss_cell_14 rfl (lv_at hl 0 rfl) ?_
    refine lv_iload_n hx hb d_Ss_cell_15 rfl (lv_at hl 2 rfl) ?_
    refine gs_VX (As := [.int t]) (rest := []) (k_Ss_sunnyHour l hnt D k zb G o aB aW aH aS aT wn hn nb nw ba wa ha bf hf wf sh tk t hC) E hml hl.1 (cg_V (C := R_Ss) hw w_304 w_301 w_1 w_303 sel_Ss_sunnyHour hd_Ss_sunnyHour ⟨by exact Nat.le_of_ble_eq_true rfl, by exact Nat.le_of_ble_eq_true rfl⟩) hG hK hX hS hC.1.1 rfl rfl rfl rfl (by exact Nat.le_of_ble_eq_true rfl) d_Ss_cell_16 ⟨by exact Nat.le_of_ble_eq_true rfl, by exact Nat.le_of_ble_eq_true rfl⟩ (fun E9 ce q9 H locs hp hG hS hq1 hq2 hq3 => ?_) (fun v G1 H locs hp hG hS => ?_)
    · exact gs_on ht hlocks (hp.elim (fun q => Or.inl ⟨q.1, Or.inr q.2⟩) (fun q => Or.inr ⟨q.1, hnb, q.2⟩)) hG hS hq1 hq2 hq3 (by decide) (by decide)
    obtain ⟨ih, hih, eih, hsun, hv1, hG1⟩ := hp
    subst hv1
    rw [hG1] at hG
    refine W.eq (g2 := F0 m 19 ls [.ref (ha ih)]) rfl ?_
    refine lv_astore_n (lv' := [(3, .ref (ha ih)), (0, .ref o), (1, .int b), (2, .int t)]) hx hb d_Ss_cell_19 rfl hl (by decide) rfl (fun ls hl => ?_)
    refine lv_iload_n hx hb d_Ss_cell_20 rfl (lv_at hl 2 rfl) ?_
    refine lv_istore (lv' := [(4, .int b), (3, .ref (ha ih)), (0, .ref o), (1, .int b), (2, .int t)]) hx hb d_Ss_cell_21 hl (by decide) rfl (fun ls hl => ?_)
    refine lv_iconst (v := 0) hx hb d_Ss_cell_23 (by decide) ?_
    refine lv_istore (lv' := [(5, .int 0), (4, .int b), (3, .ref (ha ih)), (0, .ref o), (1, .int b), (2, .int t)]) hx hb d_Ss_cell_24 hl (by decide) rfl (fun ls hl => ?_)
    have lp : ∀ (fu : Nat) (y : Nat) (n : Nat) (b9 : Int32), y ≤ hn → hn + 1 ≤ y + fu → (hn0 : y + n = hn) → (hinv : jc_cell (fun y => jc_row nb bf (hf ih 0) (hf ih 1) (hf ih 2) (nI y) (nI wn) 10) hn 0 b = jc_cell (fun y => jc_row nb bf (hf ih 0) (hf ih 1) (hf ih 2) (nI y) (nI wn) 10) n y b9) → ∀ (H : Heap) (locs : List Loc), gs_W D classes zb G H → gs_S zb s.heap H locs → ∀ (ls : Array Slot), lv_has ls 9 [(0, .ref o), (1, .int b), (2, .int t), (3, .ref (ha ih)), (4, .int b9), (5, .int (nI y))] → W p l e (headSpec (wM y_Ss_cell c_Ss_cell 9 (some .int)) ({ frames := 8, cells := 2, slots := 12, locals := 134 })).room s m ([.ref o, .int b, .int t] : List Value).toArray below meth c H locs 2 12 (vx_MQ below (gs_Q D zb (fun v G1 => ∃ i : Nat, i < 24 ∧ t = nI i ∧ ¬ jc_hasSun (hf i 2) = 0 ∧ ¬ b < 0 ∧ v = some (.int (jc_cell (fun y => jc_row nb bf (hf i 0) (hf i 1) (hf i 2) (nI y) (nI wn) 10) hn 0 b)) ∧ G1 = G)) (gs_T D zb G (fun E => (E = e_IA ∧ (b < 0 ∨ (¬ ∃ i : Nat, i < 24 ∧ t = nI i))) ∨ (E = e_IS ∧ ¬ b < 0 ∧ (∃ i : Nat, i < 24 ∧ t = nI i ∧ jc_hasSun (hf i 2) = 0)))) ([.ref o, .int b, .int t] : List Value).toArray s 2 12 (fun q : Nat => zb ≤ q)) (F0 m 26 ls []) := by
      intro fu
      induction fu with
      | zero => intro y n b9 hle hfu; exact absurd hfu (by omega)
      | succ fu IH =>
        intro y n b9 hle hfu hn0 hinv H locs hG hS ls hl
        refine lv_iload hx hb d_Ss_cell_26 (lv_at hl 5 rfl) ?_
        refine lv_aload_n hx hb d_Ss_cell_28 rfl (lv_at hl 0 rfl) ?_
        refine gs_get E hK.1 hG hC.1.1 (C := R_Ss) (T := F_Ss) (N := 9) rfl i_Ss 1 (by decide) w_61 (v := .int (nI hn)) rfl d_Ss_cell_29 ?_
        refine lv_icmp_ge (tgt := 85) hx hb d_Ss_cell_32 (by decide) (fun c_2 => ?_) (fun c_2 => ?_)
        · have hend : y = hn := cl_eq (by have := hC.2.1; omega) hle c_2
          refine lv_iconst (v := (-1)) hx hb d_Ss_cell_85 (by decide) ?_
          refine vx_ret ?_
          refine W.iret (v := (-1)) hx hb hr (gs_end ?_ hG hS) hS.2.2 d_Ss_cell_86
          have h0 : n = 0 := by omega
          exact ⟨ih, hih, eih, hsun, hnb, by rw [hinv, h0]; rfl, rfl⟩
        · have hlt : y < hn := cl_lt (by have := hC.2.1; omega) hle c_2
          obtain ⟨n9, hn9⟩ : ∃ z, n = z + 1 := ⟨n - 1, by omega⟩
          subst hn9
          refine lv_aload_n hx hb d_Ss_cell_35 rfl (lv_at hl 0 rfl) ?_
          refine lv_iload hx hb d_Ss_cell_36 (lv_at hl 5 rfl) ?_
          refine lv_aload_n hx hb d_Ss_cell_38 rfl (lv_at hl 3 rfl) ?_
          refine gs_V (As := [.int (nI y), .ref (ha ih)]) (rest := []) (k_Ss_shadeOfRow l D k zb G o aB aW aH aS aT wn hn nb nw ba wa ha bf hf wf sh tk (ha ih) (hf ih 0) (hf ih 1) (hf ih 2) (hf ih 3) (nI y) hC (hC.2.2.2.2.1 ih hih)) E hml hl.1 (cg_V (C := R_Ss) hw w_313 w_310 w_1 w_312 sel_Ss_shadeOfRow hd_Ss_shadeOfRow ⟨by exact Nat.le_of_ble_eq_true rfl, by exact Nat.le_of_ble_eq_true rfl⟩) hG hK hX hS hC.1.1 rfl rfl rfl rfl (by exact Nat.le_of_ble_eq_true rfl) d_Ss_cell_39 ⟨by exact Nat.le_of_ble_eq_true rfl, by exact Nat.le_of_ble_eq_true rfl⟩ (fun v G1 H locs hp hG hS => ?_)
          obtain ⟨hv1, hG1⟩ := hp
          subst hv1
          rw [hG1] at hG
          refine W.eq (g2 := F0 m 42 ls [.long (jc_row nb bf (hf ih 0) (hf ih 1) (hf ih 2) (nI y) (nI wn) 10)]) rfl ?_
          refine lv_topl (fun v_3 ev_3 => ?_)
          refine lv_lstore (lv' := [(6, .long v_3), (0, .ref o), (1, .int b), (2, .int t), (3, .ref (ha ih)), (4, .int b9), (5, .int (nI y))]) hx hb d_Ss_cell_42 hl (by decide) rfl (fun ls hl => ?_)
          refine lv_lload hx hb d_Ss_cell_44 (lv_at hl 0 rfl) ?_
          refine gs_St (As := [.long v_3]) (rest := []) (k_Lo_bitCount l D k zb G v_3) E hml hl.1 (cg_S hw w_357 w_355 w_12 w_356 hd_Lo_bitCount ⟨by exact Nat.le_of_ble_eq_true rfl, by exact Nat.le_of_ble_eq_true rfl⟩) hG hK hX hS rfl rfl (by exact Nat.le_of_ble_eq_true rfl) d_Ss_cell_46 ⟨by exact Nat.le_of_ble_eq_true rfl, by exact Nat.le_of_ble_eq_true rfl⟩ (fun v G1 H locs hp hG hS => ?_)
          obtain ⟨hv1, hG1⟩ := hp
          subst hv1
          rw [hG1] at hG
          refine W.eq (g2 := F0 m 49 ls [.int (jc_bits v_3)]) rfl ?_
          refine lv_topi (fun v_4 ev_4 => ?_)
          refine lv_istore (lv' := [(8, .int v_4), (6, .long v_3), (0, .ref o), (1, .int b), (2, .int t), (3, .ref (ha ih)), (4, .int b9), (5, .int (nI y))]) hx hb d_Ss_cell_49 hl (by decide) rfl (fun ls hl => ?_)
          refine lv_iload hx hb d_Ss_cell_51 (lv_at hl 6 rfl) ?_
          refine lv_iload hx hb d_Ss_cell_53 (lv_at hl 0 rfl) ?_
          refine lv_icmp_ge (tgt := 72) hx hb d_Ss_cell_55 (by decide) (fun c_5 => ?_) (fun c_5 => ?_)
          · refine lv_iload hx hb d_Ss_cell_72 (lv_at hl 6 rfl) ?_
            refine lv_iload hx hb d_Ss_cell_74 (lv_at hl 0 rfl) ?_
            refine lv_isub hx hb d_Ss_cell_76 ?_
            refine lv_topi (fun v_6 ev_6 => ?_)
            refine lv_istore (lv' := [(4, .int v_6), (8, .int v_4), (6, .long v_3), (0, .ref o), (1, .int b), (2, .int t), (3, .ref (ha ih)), (5, .int (nI y))]) hx hb d_Ss_cell_77 hl (by decide) rfl (fun ls hl => ?_)
            refine lv_iinc (v := nI (y + 1)) (lv' := [(5, .int (nI (y + 1))), (4, .int v_6), (8, .int v_4), (6, .long v_3), (0, .ref o), (1, .int b), (2, .int t), (3, .ref (ha ih))]) hx hb d_Ss_cell_79 hl (k := 7) rfl (nI_1 _) (by decide) rfl (fun ls hl => ?_)
            refine lv_goto (tgt := 26) hx hb d_Ss_cell_82 (by decide) ?_
            exact IH (y + 1) n9 v_6 (by omega) (by omega) (by omega) (by subst ev_6 ev_4 ev_3; rw [hinv, jc_cell_s, if_pos c_5]) _ _ hG hS ls (lv_sub hl [4, 5, 6, 7, 1, 0] rfl)
          · refine lv_bipush (v := 100) hx hb d_Ss_cell_58 (by decide) ?_
            refine lv_iload hx hb d_Ss_cell_60 (lv_at hl 7 rfl) ?_
            refine lv_imul hx hb d_Ss_cell_62 ?_
            refine lv_lload hx hb d_Ss_cell_63 (lv_at hl 1 rfl) ?_
            refine lv_iload hx hb d_Ss_cell_65 (lv_at hl 6 rfl) ?_
            refine gs_St (As := [.long v_3, .int b9]) (rest := [.int (100 * (nI y))]) (k_Ss_cellWithBefore l D k zb G v_3 b9) E hml hl.1 (cg_S hw w_392 w_390 w_1 w_391 hd_Ss_cellWithBefore ⟨by exact Nat.le_of_ble_eq_true rfl, by exact Nat.le_of_ble_eq_true rfl⟩) hG hK hX hS rfl rfl (by exact Nat.le_of_ble_eq_true rfl) d_Ss_cell_67 ⟨by exact Nat.le_of_ble_eq_true rfl, by exact Nat.le_of_ble_eq_true rfl⟩ (fun v G1 H locs hp hG hS => ?_)
            obtain ⟨hv1, hG1⟩ := hp
            subst hv1
            rw [hG1] at hG
            refine W.eq (g2 := F0 m 70 ls [.int (jc_with v_3 60 0 b9), .int (100 * (nI y))]) rfl ?_
            refine lv_iadd hx hb d_Ss_cell_70 ?_
            refine vx_ret ?_
            refine W.iret (v := ((100 * (nI y)) + (jc_with v_3 60 0 b9))) hx hb hr (gs_end ?_ hG hS) hS.2.2 d_Ss_cell_71
            exact ⟨ih, hih, eih, hsun, hnb, by subst ev_4 ev_3; rw [hinv, jc_cell_s, if_neg c_5], rfl⟩
    exact lp (hn + 1) 0 hn b (by omega) (by omega) (by omega) rfl _ _ hG hS ls (lv_sub hl [3, 4, 5, 2, 1, 0] rfl)
  · have hnb : b < 0 := by rw [i_le] at c_1; rw [i_lt]; omega
    exact gs_throwIA (text := "a place is not below 0") hnt E hG hK hX hS ht (hl.1.trans hml.symm) w_103 w_9 (by decide) (Or.inl ⟨rfl, Or.inl hnb⟩) d_Ss_cell_4 d_Ss_cell_7 d_Ss_cell_8 d_Ss_cell_10 d_Ss_cell_13 (by exact Nat.le_of_ble_eq_true rfl) (by exact Nat.le_of_ble_eq_true rfl) (by exact Nat.le_of_ble_eq_true rfl) (by exact Nat.le_of_ble_eq_true rfl) hlocks (by decide) (by decide)
set_option maxHeartbeats 4000000 in
set_option maxRecDepth 100000 in
theorem k_Ss_lit (l : Launch) (hnt : l.stackTraces = false) (D : va_G) (k : Nat → ClassId) (zb : Nat) (G : Nat → Option va_E) (o aB aW aH aS aT : Nat) (wn hn nb nw : Nat) (ba wa ha : Nat → Nat) (bf hf : Nat → Nat → Int32) (wf : Nat → Nat → Nat) (sh : Nat → Int64) (tk : Nat → Int32) (q t : Int32) (hC : sC k G o aB aW aH aS aT wn hn nb nw ba wa ha bf hf wf sh tk) : vx_Met l y_Ss_lit (wM y_Ss_lit c_Ss_lit 9 (some .int)) ({ frames := 7, cells := 2, slots := 12, locals := 156 }) (gs_P D k zb G [.ref o, .int q, .int t]) (gs_Q D zb (fun v G1 => ∃ j : Nat, j < nw ∧ q = nI j ∧ ((t = (-1) ∧ v = some (.int (jc_sum (fun i => jc_lightOf nb bf (hf i 0) (hf i 1) (hf i 2) (hf i 3) (nI wn) (wf j 0) (wf j 1) (wf j 2) (wf j 3)) 24))) ∨ (¬ t = (-1) ∧ ∃ i : Nat, i < 24 ∧ t = nI i ∧ v = some (.int (jc_lightOf nb bf (hf i 0) (hf i 1) (hf i 2) (hf i 3) (nI wn) (wf j 0) (wf j 1) (wf j 2) (wf j 3))))) ∧ G1 = G)) (gs_T D zb G (fun E => E = e_IA ∧ ((¬ ∃ i : Nat, i < nw ∧ q = nI i) ∨ (¬ t = (-1) ∧ (¬ ∃ i : Nat, i < 24 ∧ t = nI i))))) 2 12 (fun q : Nat => zb ≤ q) := by
  refine vx_ofW (cc := c_Ss_lit) (maxL := 9) (ret := (some .int)) (by decide) rfl ?_
  intro p e s m args below meth c s₁ B hml ht hv
  obtain ⟨rfl, hG, hK, hX⟩ := hv
  have hx := B.exec
  have hb := B.bytes
  have hr := B.returns
  have hts := atoms_spec (ws := wM y_Ss_lit c_Ss_lit 9 (some .int)) B.pre
  have hw : ∀ w9 ∈ wW, w9.before ([.ref o, .int q, .int t] : List Value).toArray s = true := fun w9 h9 => hts w9 (gi_in w9 h9)
  have hown : s.vm.findClass R_Ss = some m.cls := findClass_of_methodNamed B.named
  have hlocks := B.notSynchronized
  have E : gs_E p s m ([.ref o, .int q, .int t] : List Value).toArray c c_Ss_lit wW R_Ss := ⟨hx, hb, hw, hown⟩
  have hS : gs_S zb s.heap s.heap [] := va_S.rf
  have hl := lv_entry ([.ref o, .int q, .int t]) (n := 9) (Nat.le_of_ble_eq_true rfl)
  rw [lg_entry_eq]
  generalize (lg_sl ([.ref o, .int q, .int t]) ++ List.replicate (9 - (lg_sl ([.ref o, .int q, .int t])).length) Slot.unset).toArray = ls at hl ⊢
  have hl : lv_has ls 9 [(0, .ref o), (1, .int q), (2, .int t)] := hl
  refine lv_aload_n hx hb d_Ss_lit_0 rfl (lv_at hl 0 rfl) ?_
  refine lv_iload_n hx hb d_Ss_lit_1 rfl (lv_at hl 1 rfl) ?_
  refine gs_VX (As := [.int q]) (rest := []) (k_Ss_knownWindow l hnt D k zb G o aB aW aH aS aT wn hn nb nw ba wa ha bf hf wf sh tk q hC) E hml hl.1 (cg_V (C := R_Ss) hw w_371 w_368 w_1 w_370 sel_Ss_knownWindow hd_Ss_knownWindow ⟨by exact Nat.le_of_ble_eq_true rfl, by exact Nat.le_of_ble_eq_true rfl⟩) hG hK hX hS hC.1.1 rfl rfl rfl rfl (by exact Nat.le_of_ble_eq_true rfl) d_Ss_lit_2 ⟨by exact Nat.le_of_ble_eq_true rfl, by exact Nat.le_of_ble_eq_true rfl⟩ (fun E9 ce q9 H locs hp hG hS hq1 hq2 hq3 => ?_) (fun v G1 H locs hp hG hS => ?_)
  · exact gs_on ht hlocks (⟨hp.1, Or.inl hp.2⟩) hG hS hq1 hq2 hq3 (by decide) (by decide)
  obtain ⟨iw, hiw, eiw, hv1, hG1⟩ := hp
  subst hv1
  rw [hG1] at hG
  refine W.eq (g2 := F0 m 5 ls [.ref (wa iw)]) rfl ?_
  refine lv_astore_n (lv' := [(3, .ref (wa iw)), (0, .ref o), (1, .int q), (2, .int t)]) hx hb d_Ss_lit_5 rfl hl (by decide) rfl (fun ls hl => ?_)
  refine lv_iload_n hx hb d_Ss_lit_6 rfl (lv_at hl 3 rfl) ?_
  refine lv_iconst (v := (-1)) hx hb d_Ss_lit_7 (by decide) ?_
  refine lv_icmp_eq (tgt := 22) hx hb d_Ss_lit_8 (by decide) (fun c_1 => ?_) (fun c_1 => ?_)
  · refine lv_iconst (v := 0) hx hb d_Ss_lit_22 (by decide) ?_
    refine lv_istore (lv' := [(4, .int 0), (3, .ref (wa iw)), (0, .ref o), (1, .int q), (2, .int t)]) hx hb d_Ss_lit_23 hl (by decide) rfl (fun ls hl => ?_)
    refine lv_aload_n hx hb d_Ss_lit_25 rfl (lv_at hl 2 rfl) ?_
    refine gs_get E hK.1 hG hC.1.1 (C := R_Ss) (T := F_Ss) (N := 9) rfl i_Ss 4 (by decide) w_64 (v := .ref aH) rfl d_Ss_lit_26 ?_
    refine lv_astore (lv' := [(5, .ref aH), (4, .int 0), (3, .ref (wa iw)), (0, .ref o), (1, .int q), (2, .int t)]) hx hb d_Ss_lit_29 hl (by decide) rfl (fun ls hl => ?_)
    refine lv_aload hx hb d_Ss_lit_31 (lv_at hl 0 rfl) ?_
    refine gs_alen E hK.1 hG hC.1.2.2.2.1 5 rfl (v := 24) rfl d_Ss_lit_33 ?_
    refine lv_istore (lv' := [(6, .int 24), (5, .ref aH), (4, .int 0), (3, .ref (wa iw)), (0, .ref o), (1, .int q), (2, .int t)]) hx hb d_Ss_lit_34 hl (by decide) rfl (fun ls hl => ?_)
    refine lv_iconst (v := 0) hx hb d_Ss_lit_36 (by decide) ?_
    refine lv_istore (lv' := [(7, .int 0), (6, .int 24), (5, .ref aH), (4, .int 0), (3, .ref (wa iw)), (0, .ref o), (1, .int q), (2, .int t)]) hx hb d_Ss_lit_37 hl (by decide) rfl (fun ls hl => ?_)
    have lp : ∀ (fu : Nat) (i : Nat) (acc : Int32), i ≤ 24 → 24 + 1 ≤ i + fu → (hacc : acc = jc_sum (fun i => jc_lightOf nb bf (hf i 0) (hf i 1) (hf i 2) (hf i 3) (nI wn) (wf iw 0) (wf iw 1) (wf iw 2) (wf iw 3)) i) → ∀ (H : Heap) (locs : List Loc), gs_W D classes zb G H → gs_S zb s.heap H locs → ∀ (ls : Array Slot), lv_has ls 9 [(0, .ref o), (1, .int q), (2, .int t), (3, .ref (wa iw)), (4, .int acc), (5, .ref aH), (6, .int 24), (7, .int (nI i))] → W p l e (headSpec (wM y_Ss_lit c_Ss_lit 9 (some .int)) ({ frames := 7, cells := 2, slots := 12, locals := 156 })).room s m ([.ref o, .int q, .int t] : List Value).toArray below meth c H locs 1 6 (vx_MQ below (gs_Q D zb (fun v G1 => ∃ j : Nat, j < nw ∧ q = nI j ∧ ((t = (-1) ∧ v = some (.int (jc_sum (fun i => jc_lightOf nb bf (hf i 0) (hf i 1) (hf i 2) (hf i 3) (nI wn) (wf j 0) (wf j 1) (wf j 2) (wf j 3)) 24))) ∨ (¬ t = (-1) ∧ ∃ i : Nat, i < 24 ∧ t = nI i ∧ v = some (.int (jc_lightOf nb bf (hf i 0) (hf i 1) (hf i 2) (hf i 3) (nI wn) (wf j 0) (wf j 1) (wf j 2) (wf j 3))))) ∧ G1 = G)) (gs_T D zb G (fun E => E = e_IA ∧ ((¬ ∃ i : Nat, i < nw ∧ q = nI i) ∨ (¬ t = (-1) ∧ (¬ ∃ i : Nat, i < 24 ∧ t = nI i))))) ([.ref o, .int q, .int t] : List Value).toArray s 2 12 (fun q : Nat => zb ≤ q)) (F0 m 39 ls []) := by
      intro fu
      induction fu with
      | zero => intro i acc hle hfu; exact absurd hfu (by omega)
      | succ fu IH =>
        intro i acc hle hfu hacc H locs hG hS ls hl
        refine lv_iload hx hb d_Ss_lit_39 (lv_at hl 7 rfl) ?_
        refine lv_iload hx hb d_Ss_lit_41 (lv_at hl 6 rfl) ?_
        refine lv_icmp_ge (tgt := 71) hx hb d_Ss_lit_43 (by decide) (fun c_2 => ?_) (fun c_2 => ?_)
        · have hend : i = 24 := cl_eq (N := 24) (by decide) hle c_2
          refine lv_iload hx hb d_Ss_lit_71 (lv_at hl 4 rfl) ?_
          refine W.widen (k := 2) (n := 12) (by decide) (by decide) ?_
          refine vx_ret ?_
          refine W.iret (v := acc) hx hb hr (gs_end ?_ hG hS) hS.2.2 d_Ss_lit_73
          exact ⟨iw, hiw, eiw, Or.inl ⟨c_1, by rw [hacc, hend]⟩, rfl⟩
        · have hlt : i < 24 := cl_lt (N := 24) (by decide) hle c_2
          refine lv_aload hx hb d_Ss_lit_46 (lv_at hl 5 rfl) ?_
          refine lv_iload hx hb d_Ss_lit_48 (lv_at hl 7 rfl) ?_
          refine gn_aldS E hK.1 hG hC.1.2.2.2.1 5 rfl (j := i) hlt (by decide) (upTo_in hlt) d_Ss_lit_50 ?_
          refine lv_astore (lv' := [(8, .ref (ha i)), (0, .ref o), (1, .int q), (2, .int t), (3, .ref (wa iw)), (4, .int acc), (5, .ref aH), (6, .int 24), (7, .int (nI i))]) hx hb d_Ss_lit_51 hl (by decide) rfl (fun ls hl => ?_)
          refine lv_iload hx hb d_Ss_lit_53 (lv_at hl 5 rfl) ?_
          refine lv_aload_n hx hb d_Ss_lit_55 rfl (lv_at hl 1 rfl) ?_
          refine lv_aload_n hx hb d_Ss_lit_56 rfl (lv_at hl 4 rfl) ?_
          refine lv_aload hx hb d_Ss_lit_57 (lv_at hl 0 rfl) ?_
          refine gs_V (As := [.ref (wa iw), .ref (ha i)]) (rest := [.int acc]) (k_Ss_lightOfHour l D k zb G o aB aW aH aS aT wn hn nb nw ba wa ha bf hf wf sh tk (wa iw) (wf iw 0) (wf iw 1) (wf iw 2) (wf iw 3) (ha i) (hf i 0) (hf i 1) (hf i 2) (hf i 3) hC (hC.2.2.2.1 iw hiw) (Nat.le_of_lt (hC.2.2.2.2.2.2.2 iw hiw).2.2.1) (Nat.le_trans (hC.2.2.2.2.2.2.2 iw hiw).2.2.2 hC.2.1.2.2.2.2.2) (hC.2.2.2.2.1 i hlt)) E hml hl.1 (cg_V (C := R_Ss) hw w_403 w_400 w_1 w_402 sel_Ss_lightOfHour hd_Ss_lightOfHour ⟨by exact Nat.le_of_ble_eq_true rfl, by exact Nat.le_of_ble_eq_true rfl⟩) hG hK hX hS hC.1.1 rfl rfl rfl rfl (by exact Nat.le_of_ble_eq_true rfl) d_Ss_lit_59 ⟨by exact Nat.le_of_ble_eq_true rfl, by exact Nat.le_of_ble_eq_true rfl⟩ (fun v G1 H locs hp hG hS => ?_)
          obtain ⟨hv1, hG1⟩ := hp
          subst hv1
          rw [hG1] at hG
          refine W.eq (g2 := F0 m 62 ls [.int (jc_lightOf nb bf (hf i 0) (hf i 1) (hf i 2) (hf i 3) (nI wn) (wf iw 0) (wf iw 1) (wf iw 2) (wf iw 3)), .int acc]) rfl ?_
          refine lv_iadd hx hb d_Ss_lit_62 ?_
          refine lv_topi (fun v_3 ev_3 => ?_)
          refine lv_istore (lv' := [(4, .int v_3), (8, .ref (ha i)), (0, .ref o), (1, .int q), (2, .int t), (3, .ref (wa iw)), (5, .ref aH), (6, .int 24), (7, .int (nI i))]) hx hb d_Ss_lit_63 hl (by decide) rfl (fun ls hl => ?_)
          refine lv_iinc (v := nI (i + 1)) (lv' := [(7, .int (nI (i + 1))), (4, .int v_3), (8, .ref (ha i)), (0, .ref o), (1, .int q), (2, .int t), (3, .ref (wa iw)), (5, .ref aH), (6, .int 24)]) hx hb d_Ss_lit_65 hl (k := 8) rfl (nI_1 _) (by decide) rfl (fun ls hl => ?_)
          refine lv_goto (tgt := 39) hx hb d_Ss_lit_68 (by decide) ?_
          exact IH (i + 1) v_3 (by omega) (by omega) (by subst ev_3; rw [hacc]; rfl) _ _ hG hS ls (lv_sub hl [3, 4, 5, 6, 1, 7, 8, 0] rfl)
    exact lp (24 + 1) 0 0 (by omega) (by omega) rfl _ _ hG hS ls (lv_sub hl [5, 6, 7, 4, 3, 2, 1, 0] rfl)
  · refine lv_aload_n hx hb d_Ss_lit_11 rfl (lv_at hl 1 rfl) ?_
    refine lv_aload_n hx hb d_Ss_lit_12 rfl (lv_at hl 0 rfl) ?_
    refine lv_aload_n hx hb d_Ss_lit_13 rfl (lv_at hl 1 rfl) ?_
    refine lv_iload_n hx hb d_Ss_lit_14 rfl (lv_at hl 3 rfl) ?_
    refine gs_VX (As := [.int t]) (rest := [.ref (wa iw), .ref o]) (k_Ss_knownHour l hnt D k zb G o aB aW aH aS aT wn hn nb nw ba wa ha bf hf wf sh tk t hC) E hml hl.1 (cg_V (C := R_Ss) hw w_253 w_250 w_1 w_252 sel_Ss_knownHour hd_Ss_knownHour ⟨by exact Nat.le_of_ble_eq_true rfl, by exact Nat.le_of_ble_eq_true rfl⟩) hG hK hX hS hC.1.1 rfl rfl rfl rfl (by exact Nat.le_of_ble_eq_true rfl) d_Ss_lit_15 ⟨by exact Nat.le_of_ble_eq_true rfl, by exact Nat.le_of_ble_eq_true rfl⟩ (fun E9 ce q9 H locs hp hG hS hq1 hq2 hq3 => ?_) (fun v G1 H locs hp hG hS => ?_)
    · exact gs_on ht hlocks (⟨hp.1, Or.inr ⟨c_1, hp.2⟩⟩) hG hS hq1 hq2 hq3 (by decide) (by decide)
    obtain ⟨ih, hih, eih, hv1, hG1⟩ := hp
    subst hv1
    rw [hG1] at hG
    refine W.eq (g2 := F0 m 18 ls [.ref (ha ih), .ref (wa iw), .ref o]) rfl ?_
    refine gs_V (As := [.ref (wa iw), .ref (ha ih)]) (rest := []) (k_Ss_lightOfHour l D k zb G o aB aW aH aS aT wn hn nb nw ba wa ha bf hf wf sh tk (wa iw) (wf iw 0) (wf iw 1) (wf iw 2) (wf iw 3) (ha ih) (hf ih 0) (hf ih 1) (hf ih 2) (hf ih 3) hC (hC.2.2.2.1 iw hiw) (Nat.le_of_lt (hC.2.2.2.2.2.2.2 iw hiw).2.2.1) (Nat.le_trans (hC.2.2.2.2.2.2.2 iw hiw).2.2.2 hC.2.1.2.2.2.2.2) (hC.2.2.2.2.1 ih hih)) E hml hl.1 (cg_V (C := R_Ss) hw w_403 w_400 w_1 w_402 sel_Ss_lightOfHour hd_Ss_lightOfHour ⟨by exact Nat.le_of_ble_eq_true rfl, by exact Nat.le_of_ble_eq_true rfl⟩) hG hK hX hS hC.1.1 rfl rfl rfl rfl (by exact Nat.le_of_ble_eq_true rfl) d_Ss_lit_18 ⟨by exact Nat.le_of_ble_eq_true rfl, by exact Nat.le_of_ble_eq_true rfl⟩ (fun v G1 H locs hp hG hS => ?_)
    obtain ⟨hv1, hG1⟩ := hp
    subst hv1
    rw [hG1] at hG
    refine W.eq (g2 := F0 m 21 ls [.int (jc_lightOf nb bf (hf ih 0) (hf ih 1) (hf ih 2) (hf ih 3) (nI wn) (wf iw 0) (wf iw 1) (wf iw 2) (wf iw 3))]) rfl ?_
    refine vx_ret ?_
    refine W.iret (v := (jc_lightOf nb bf (hf ih 0) (hf ih 1) (hf ih 2) (hf ih 3) (nI wn) (wf iw 0) (wf iw 1) (wf iw 2) (wf iw 3))) hx hb hr (gs_end ?_ hG hS) hS.2.2 d_Ss_lit_21
    exact ⟨iw, hiw, eiw, Or.inr ⟨c_1, ih, hih, eih, rfl⟩, rfl⟩
set_option maxHeartbeats 4000000 in
set_option maxRecDepth 100000 in
theorem k_Ss_brightest (l : Launch) (hnt : l.stackTraces = false) (D : va_G) (k : Nat → ClassId) (zb : Nat) (G : Nat → Option va_E) (o aB aW aH aS aT : Nat) (wn hn nb nw : Nat) (ba wa ha : Nat → Nat) (bf hf : Nat → Nat → Int32) (wf : Nat → Nat → Nat) (sh : Nat → Int64) (tk : Nat → Int32) (q : Int32) (hC : sC k G o aB aW aH aS aT wn hn nb nw ba wa ha bf hf wf sh tk) : vx_Met l y_Ss_brightest (wM y_Ss_brightest c_Ss_brightest 7 (some .int)) ({ frames := 7, cells := 1, slots := 6, locals := 156 }) (gs_P D k zb G [.ref o, .int q]) (gs_Q D zb (fun v G1 => ∃ j : Nat, j < nw ∧ q = nI j ∧ v = some (.int (jc_best (fun i => jc_lightOf nb bf (hf i 0) (hf i 1) (hf i 2) (hf i 3) (nI wn) (wf j 0) (wf j 1) (wf j 2) (wf j 3)) 24).1) ∧ G1 = G)) (gs_T D zb G (fun E => E = e_IA ∧ (¬ ∃ i : Nat, i < nw ∧ q = nI i))) 1 6 (fun q : Nat => zb ≤ q) := by
  refine vx_ofW (cc := c_Ss_brightest) (maxL := 7) (ret := (some .int)) (by decide) rfl ?_
  intro p e s m args below meth c s₁ B hml ht hv
  obtain ⟨rfl, hG, hK, hX⟩ := hv
  have hx := B.exec
  have hb := B.bytes
  have hr := B.returns
  have hts := atoms_spec (ws := wM y_Ss_brightest c_Ss_brightest 7 (some .int)) B.pre
  have hw : ∀ w9 ∈ wW, w9.before ([.ref o, .int q] : List Value).toArray s = true := fun w9 h9 => hts w9 (gi_in w9 h9)
  have hown : s.vm.findClass R_Ss = some m.cls := findClass_of_methodNamed B.named
  have hlocks := B.notSynchronized
  have E : gs_E p s m ([.ref o, .int q] : List Value).toArray c c_Ss_brightest wW R_Ss := ⟨hx, hb, hw, hown⟩
  have hS : gs_S zb s.heap s.heap [] := va_S.rf
  have hl := lv_entry ([.ref o, .int q]) (n := 7) (Nat.le_of_ble_eq_true rfl)
  rw [lg_entry_eq]
  generalize (lg_sl ([.ref o, .int q]) ++ List.replicate (7 - (lg_sl ([.ref o, .int q])).length) Slot.unset).toArray = ls at hl ⊢
  have hl : lv_has ls 7 [(0, .ref o), (1, .int q)] := hl
  refine lv_aload_n hx hb d_Ss_brightest_0 rfl (lv_at hl 0 rfl) ?_
  refine lv_iload_n hx hb d_Ss_brightest_1 rfl (lv_at hl 1 rfl) ?_
  refine gs_VX (As := [.int q]) (rest := []) (k_Ss_knownWindow l hnt D k zb G o aB aW aH aS aT wn hn nb nw ba wa ha bf hf wf sh tk q hC) E hml hl.1 (cg_V (C := R_Ss) hw w_371 w_368 w_1 w_370 sel_Ss_knownWindow hd_Ss_knownWindow ⟨by exact Nat.le_of_ble_eq_true rfl, by exact Nat.le_of_ble_eq_true rfl⟩) hG hK hX hS hC.1.1 rfl rfl rfl rfl (by exact Nat.le_of_ble_eq_true rfl) d_Ss_brightest_2 ⟨by exact Nat.le_of_ble_eq_true rfl, by exact Nat.le_of_ble_eq_true rfl⟩ (fun E9 ce q9 H locs hp hG hS hq1 hq2 hq3 => ?_) (fun v G1 H locs hp hG hS => ?_)
  · exact gs_on ht hlocks (hp) hG hS hq1 hq2 hq3 (by decide) (by decide)
  obtain ⟨iw, hiw, eiw, hv1, hG1⟩ := hp
  subst hv1
  rw [hG1] at hG
  refine W.eq (g2 := F0 m 5 ls [.ref (wa iw)]) rfl ?_
  refine lv_astore_n (lv' := [(2, .ref (wa iw)), (0, .ref o), (1, .int q)]) hx hb d_Ss_brightest_5 rfl hl (by decide) rfl (fun ls hl => ?_)
  refine lv_iconst (v := (-1)) hx hb d_Ss_brightest_6 (by decide) ?_
  refine lv_topi (fun v_1 ev_1 => ?_)
  refine lv_istore_n (lv' := [(3, .int v_1), (2, .ref (wa iw)), (0, .ref o), (1, .int q)]) hx hb d_Ss_brightest_7 rfl hl (by decide) rfl (fun ls hl => ?_)
  refine lv_iconst (v := 0) hx hb d_Ss_brightest_8 (by decide) ?_
  refine lv_istore (lv' := [(4, .int 0), (3, .int v_1), (2, .ref (wa iw)), (0, .ref o), (1, .int q)]) hx hb d_Ss_brightest_9 hl (by decide) rfl (fun ls hl => ?_)
  refine lv_iconst (v := 0) hx hb d_Ss_brightest_11 (by decide) ?_
  refine lv_istore (lv' := [(5, .int 0), (4, .int 0), (3, .int v_1), (2, .ref (wa iw)), (0, .ref o), (1, .int q)]) hx hb d_Ss_brightest_12 hl (by decide) rfl (fun ls hl => ?_)
  subst ev_1
  have lp : ∀ (fu : Nat) (i : Nat) (be : Int32) (mo : Int32), i ≤ 24 → 24 + 1 ≤ i + fu → (hbm : (be, mo) = jc_best (fun i => jc_lightOf nb bf (hf i 0) (hf i 1) (hf i 2) (hf i 3) (nI wn) (wf iw 0) (wf iw 1) (wf iw 2) (wf iw 3)) i) → ∀ (H : Heap) (locs : List Loc), gs_W D classes zb G H → gs_S zb s.heap H locs → ∀ (ls : Array Slot), lv_has ls 7 [(0, .ref o), (1, .int q), (2, .ref (wa iw)), (3, .int be), (4, .int mo), (5, .int (nI i))] → W p l e (headSpec (wM y_Ss_brightest c_Ss_brightest 7 (some .int)) ({ frames := 7, cells := 1, slots := 6, locals := 156 })).room s m ([.ref o, .int q] : List Value).toArray below meth c H locs 1 6 (vx_MQ below (gs_Q D zb (fun v G1 => ∃ j : Nat, j < nw ∧ q = nI j ∧ v = some (.int (jc_best (fun i => jc_lightOf nb bf (hf i 0) (hf i 1) (hf i 2) (hf i 3) (nI wn) (wf j 0) (wf j 1) (wf j 2) (wf j 3)) 24).1) ∧ G1 = G)) (gs_T D zb G (fun E => E = e_IA ∧ (¬ ∃ i : Nat, i < nw ∧ q = nI i))) ([.ref o, .int q] : List Value).toArray s 1 6 (fun q : Nat => zb ≤ q)) (F0 m 14 ls []) := by
    intro fu
    induction fu with
    | zero => intro i be mo hle hfu; exact absurd hfu (by omega)
    | succ fu IH =>
      intro i be mo hle hfu hbm H locs hG hS ls hl
      refine lv_iload hx hb d_Ss_brightest_14 (lv_at hl 5 rfl) ?_
      refine lv_aload_n hx hb d_Ss_brightest_16 rfl (lv_at hl 0 rfl) ?_
      refine gs_get E hK.1 hG hC.1.1 (C := R_Ss) (T := F_Ss) (N := 9) rfl i_Ss 4 (by decide) w_64 (v := .ref aH) rfl d_Ss_brightest_17 ?_
      refine gs_alen E hK.1 hG hC.1.2.2.2.1 5 rfl (v := 24) rfl d_Ss_brightest_20 ?_
      refine lv_icmp_ge (tgt := 58) hx hb d_Ss_brightest_21 (by decide) (fun c_2 => ?_) (fun c_2 => ?_)
      · have hend : i = 24 := cl_eq (N := 24) (by decide) hle c_2
        refine lv_iload_n hx hb d_Ss_brightest_58 rfl (lv_at hl 3 rfl) ?_
        refine vx_ret ?_
        refine W.iret (v := be) hx hb hr (gs_end ?_ hG hS) hS.2.2 d_Ss_brightest_59
        exact ⟨iw, hiw, eiw, by rw [← hend, ← hbm], rfl⟩
      · have hlt : i < 24 := cl_lt (N := 24) (by decide) hle c_2
        refine lv_aload_n hx hb d_Ss_brightest_24 rfl (lv_at hl 0 rfl) ?_
        refine lv_aload_n hx hb d_Ss_brightest_25 rfl (lv_at hl 2 rfl) ?_
        refine lv_aload_n hx hb d_Ss_brightest_26 rfl (lv_at hl 0 rfl) ?_
        refine gs_get E hK.1 hG hC.1.1 (C := R_Ss) (T := F_Ss) (N := 9) rfl i_Ss 4 (by decide) w_64 (v := .ref aH) rfl d_Ss_brightest_27 ?_
        refine lv_iload hx hb d_Ss_brightest_30 (lv_at hl 5 rfl) ?_
        refine gn_aldS E hK.1 hG hC.1.2.2.2.1 5 rfl (j := i) hlt (by decide) (upTo_in hlt) d_Ss_brightest_32 ?_
        refine gs_V (As := [.ref (wa iw), .ref (ha i)]) (rest := []) (k_Ss_lightOfHour l D k zb G o aB aW aH aS aT wn hn nb nw ba wa ha bf hf wf sh tk (wa iw) (wf iw 0) (wf iw 1) (wf iw 2) (wf iw 3) (ha i) (hf i 0) (hf i 1) (hf i 2) (hf i 3) hC (hC.2.2.2.1 iw hiw) (Nat.le_of_lt (hC.2.2.2.2.2.2.2 iw hiw).2.2.1) (Nat.le_trans (hC.2.2.2.2.2.2.2 iw hiw).2.2.2 hC.2.1.2.2.2.2.2) (hC.2.2.2.2.1 i hlt)) E hml hl.1 (cg_V (C := R_Ss) hw w_403 w_400 w_1 w_402 sel_Ss_lightOfHour hd_Ss_lightOfHour ⟨by exact Nat.le_of_ble_eq_true rfl, by exact Nat.le_of_ble_eq_true rfl⟩) hG hK hX hS hC.1.1 rfl rfl rfl rfl (by exact Nat.le_of_ble_eq_true rfl) d_Ss_brightest_33 ⟨by exact Nat.le_of_ble_eq_true rfl, by exact Nat.le_of_ble_eq_true rfl⟩ (fun v G1 H locs hp hG hS => ?_)
        obtain ⟨hv1, hG1⟩ := hp
        subst hv1
        rw [hG1] at hG
        refine W.eq (g2 := F0 m 36 ls [.int (jc_lightOf nb bf (hf i 0) (hf i 1) (hf i 2) (hf i 3) (nI wn) (wf iw 0) (wf iw 1) (wf iw 2) (wf iw 3))]) rfl ?_
        refine lv_topi (fun v_3 ev_3 => ?_)
        refine lv_istore (lv' := [(6, .int v_3), (0, .ref o), (1, .int q), (2, .ref (wa iw)), (3, .int be), (4, .int mo), (5, .int (nI i))]) hx hb d_Ss_brightest_36 hl (by decide) rfl (fun ls hl => ?_)
        refine lv_iload hx hb d_Ss_brightest_38 (lv_at hl 0 rfl) ?_
        refine lv_iload hx hb d_Ss_brightest_40 (lv_at hl 5 rfl) ?_
        refine lv_icmp_le (tgt := 52) hx hb d_Ss_brightest_42 (by decide) (fun c_4 => ?_) (fun c_4 => ?_)
        · refine lv_iinc (v := nI (i + 1)) (lv' := [(5, .int (nI (i + 1))), (6, .int v_3), (0, .ref o), (1, .int q), (2, .ref (wa iw)), (3, .int be), (4, .int mo)]) hx hb d_Ss_brightest_52 hl (k := 6) rfl (nI_1 _) (by decide) rfl (fun ls hl => ?_)
          refine lv_goto (tgt := 14) hx hb d_Ss_brightest_55 (by decide) ?_
          exact IH (i + 1) be mo (by omega) (by omega) (by subst ev_3; rw [hbm, jc_best_s, if_pos (by rw [← hbm]; exact c_4)]) _ _ hG hS ls (lv_sub hl [2, 3, 4, 5, 6, 0] rfl)
        · refine lv_iload hx hb d_Ss_brightest_45 (lv_at hl 6 rfl) ?_
          refine lv_topi (fun v_5 ev_5 => ?_)
          refine lv_istore_n (lv' := [(3, .int v_5), (6, .int v_3), (0, .ref o), (1, .int q), (2, .ref (wa iw)), (4, .int mo), (5, .int (nI i))]) hx hb d_Ss_brightest_47 rfl hl (by decide) rfl (fun ls hl => ?_)
          refine lv_iload hx hb d_Ss_brightest_48 (lv_at hl 1 rfl) ?_
          refine lv_istore (lv' := [(4, .int v_3), (3, .int v_5), (6, .int v_3), (0, .ref o), (1, .int q), (2, .ref (wa iw)), (5, .int (nI i))]) hx hb d_Ss_brightest_50 hl (by decide) rfl (fun ls hl => ?_)
          refine lv_iinc (v := nI (i + 1)) (lv' := [(5, .int (nI (i + 1))), (4, .int v_3), (3, .int v_5), (6, .int v_3), (0, .ref o), (1, .int q), (2, .ref (wa iw))]) hx hb d_Ss_brightest_52 hl (k := 6) rfl (nI_1 _) (by decide) rfl (fun ls hl => ?_)
          refine lv_goto (tgt := 14) hx hb d_Ss_brightest_55 (by decide) ?_
          exact IH (i + 1) v_5 v_3 (by omega) (by omega) (by subst ev_5 ev_3; rw [jc_best_s, if_neg (by rw [← hbm]; exact c_4)]) _ _ hG hS ls (lv_sub hl [4, 5, 6, 2, 1, 0] rfl)
  exact lp (24 + 1) 0 (-1) 0 (by omega) (by omega) rfl _ _ hG hS ls (lv_sub hl [4, 5, 3, 2, 1, 0] rfl)
