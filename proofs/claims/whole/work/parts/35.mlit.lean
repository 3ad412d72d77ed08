/-! contracts, by program -/
set_option maxHeartbeats 4000000 in
set_option maxRecDepth 100000 in
theorem k_Md_litIn (l : Launch) (D : va_G) (k : Nat → ClassId) (zb : Nat) (G : Nat → Option va_E) (mo cB cT cS cL cW : Nat) (th : Int32) (wn hn nb nw : Nat) (bx tr su li wi : Nat → Int32) (l1 l2 l3 l4 : Int64) (iw u0 v0 u1 v1 : Nat) (t : Nat) (wo : Int32) (hM : sM k G mo cB cT cS cL cW th wn hn nb nw bx tr su li wi l1 l2 l3 l4) (hnb : nb ≤ 10) (ht24 : t < 24) (hw0 : wi (4 * iw) = nI u0) (hw1 : wi (4 * iw + 1) = nI v0) (hw2 : wi (4 * iw + 2) = nI u1) (hw3 : wi (4 * iw + 3) = nI v1) (hiw : iw < 10) (hu : u0 ≤ u1) (hv : v0 ≤ v1) (hu1 : u1 ≤ 60) (hv1 : v1 ≤ 60) : Met l y_Md_litIn (wM y_Md_litIn c_Md_litIn 5 (some .int)) ({ frames := 5, cells := 0, slots := 0, locals := 137 }) (gs_P D k zb G [.ref mo, .int (nI iw), .int (nI t), .int wo]) (gs_Q D zb (fun v G1 => v = some (.int (jm_lit bx tr su li nb wo u0 v0 u1 v1 t)) ∧ ∃ m1 m2 m3 m4 : Int64, G1 = gs_u G mo (oMd th wn hn nb nw cB cT cS cL cW m1 m2 m3 m4))) 0 0 (fun q : Nat => zb ≤ q) := by
  refine Met.ofW (cc := c_Md_litIn) (maxL := 5) (ret := (some .int)) (by decide) rfl ?_
  intro p e s m args below meth c s₁ B hml hv
  obtain ⟨rfl, hG, hK, hX⟩ := hv
  have hx := B.exec
  have hb := B.bytes
  have hr := B.returns
  have hts := atoms_spec (ws := wM y_Md_litIn c_Md_litIn 5 (some .int)) B.pre
  have hw : ∀ w9 ∈ wW, w9.before ([.ref mo, .int (nI iw), .int (nI t), .int wo] : List Value).toArray s = true := fun w9 h9 => hts w9 (gi_in w9 h9)
  have hown : s.vm.findClass R_Md = some m.cls := findClass_of_methodNamed B.named
  have hlocks := B.notSynchronized
  have E : gs_E p s m ([.ref mo, .int (nI iw), .int (nI t), .int wo] : List Value).toArray c c_Md_litIn wW R_Md := ⟨hx, hb, hw, hown⟩
  have hS : gs_S zb s.heap s.heap [] := va_S.rf
  have hl := lv_entry ([.ref mo, .int (nI iw), .int (nI t), .int wo]) (n := 5) (Nat.le_of_ble_eq_true rfl)
  rw [lg_entry_eq]
  generalize (lg_sl ([.ref mo, .int (nI iw), .int (nI t), .int wo]) ++ List.replicate (5 - (lg_sl ([.ref mo, .int (nI iw), .int (nI t), .int wo])).length) Slot.unset).toArray = ls at hl ⊢
  have hl : lv_has ls 5 [(0, .ref mo), (1, .int (nI iw)), (2, .int (nI t)), (3, .int wo)] := hl
  refine lv_aload_n hx hb d_Md_litIn_0 rfl (lv_at hl 0 rfl) ?_
  refine gs_get E hK.1 hG hM.1 (C := R_Md) (T := F_Md) (N := 14) rfl i_Md 6 (by decide) w_469 (v := .ref cS) rfl d_Md_litIn_1 ?_
  refine lv_iconst (v := 3) hx hb d_Md_litIn_4 (by decide) ?_
  refine lv_iload_n hx hb d_Md_litIn_5 rfl (lv_at hl 2 rfl) ?_
  refine lv_imul hx hb d_Md_litIn_6 ?_
  refine lv_topE (show 3 * (nI t) = nI (3 * t) from pk_mul 3 t) ?_
  refine lv_iconst (v := 2) hx hb d_Md_litIn_7 (by decide) ?_
  refine lv_iadd hx hb d_Md_litIn_8 ?_
  refine lv_topE (show (nI (3 * t)) + 2 = nI (3 * t + 2) from nI_add (3 * t) 2) ?_
  refine gn_iald E hK.1 hG hM.2.2.2.1 0 rfl (j := (3 * t + 2)) (by omega) (by decide) d_Md_litIn_9 ?_
  refine lv_if_eq (tgt := 22) hx hb d_Md_litIn_10 (by decide) (fun c_1 => ?_) (fun c_1 => ?_)
  · refine lv_iconst (v := 0) hx hb d_Md_litIn_22 (by decide) ?_
    refine W.iret (v := 0) hx hb hr (gs_end ⟨?_, l1, l2, l3, l4, ?_⟩ hG hS) hS.2.2 d_Md_litIn_23
    · simp only [jm_lit, if_pos c_1]
    · exact (gs_id hM.1).symm
  · refine lv_aload_n hx hb d_Md_litIn_13 rfl (lv_at hl 0 rfl) ?_
    refine gs_get E hK.1 hG hM.1 (C := R_Md) (T := F_Md) (N := 14) rfl i_Md 7 (by decide) w_470 (v := .ref cL) rfl d_Md_litIn_14 ?_
    refine lv_iload_n hx hb d_Md_litIn_17 rfl (lv_at hl 2 rfl) ?_
    refine gn_iald E hK.1 hG hM.2.2.2.2.1 0 rfl (j := t) (by omega) (by decide) d_Md_litIn_18 ?_
    refine lv_if_ne (tgt := 24) hx hb d_Md_litIn_19 (by decide) (fun c_2 => ?_) (fun c_2 => ?_)
    · refine lv_aload_n hx hb d_Md_litIn_24 rfl (lv_at hl 0 rfl) ?_
      refine gs_get E hK.1 hG hM.1 (C := R_Md) (T := F_Md) (N := 14) rfl i_Md 9 (by decide) w_472 (v := .ref cW) rfl d_Md_litIn_25 ?_
      refine lv_iconst (v := 4) hx hb d_Md_litIn_28 (by decide) ?_
      refine lv_iload_n hx hb d_Md_litIn_29 rfl (lv_at hl 1 rfl) ?_
      refine lv_imul hx hb d_Md_litIn_30 ?_
      refine lv_topE (show 4 * (nI iw) = nI (4 * iw) from pk_mul 4 iw) ?_
      refine lv_iconst (v := 2) hx hb d_Md_litIn_31 (by decide) ?_
      refine lv_iadd hx hb d_Md_litIn_32 ?_
      refine lv_topE (show (nI (4 * iw)) + 2 = nI (4 * iw + 2) from nI_add (4 * iw) 2) ?_
      refine gn_iald E hK.1 hG hM.2.2.2.2.2 0 rfl (j := (4 * iw + 2)) (by omega) (by decide) d_Md_litIn_33 ?_
      refine lv_topE hw2 ?_
      refine lv_aload_n hx hb d_Md_litIn_34 rfl (lv_at hl 0 rfl) ?_
      refine gs_get E hK.1 hG hM.1 (C := R_Md) (T := F_Md) (N := 14) rfl i_Md 9 (by decide) w_472 (v := .ref cW) rfl d_Md_litIn_35 ?_
      refine lv_iconst (v := 4) hx hb d_Md_litIn_38 (by decide) ?_
      refine lv_iload_n hx hb d_Md_litIn_39 rfl (lv_at hl 1 rfl) ?_
      refine lv_imul hx hb d_Md_litIn_40 ?_
      refine lv_topE (show 4 * (nI iw) = nI (4 * iw) from pk_mul 4 iw) ?_
      refine gn_iald E hK.1 hG hM.2.2.2.2.2 0 rfl (j := (4 * iw)) (by omega) (by decide) d_Md_litIn_41 ?_
      refine lv_topE hw0 ?_
      refine lv_isub hx hb d_Md_litIn_42 ?_
      refine lv_aload_n hx hb d_Md_litIn_43 rfl (lv_at hl 0 rfl) ?_
      refine gs_get E hK.1 hG hM.1 (C := R_Md) (T := F_Md) (N := 14) rfl i_Md 9 (by decide) w_472 (v := .ref cW) rfl d_Md_litIn_44 ?_
      refine lv_iconst (v := 4) hx hb d_Md_litIn_47 (by decide) ?_
      refine lv_iload_n hx hb d_Md_litIn_48 rfl (lv_at hl 1 rfl) ?_
      refine lv_imul hx hb d_Md_litIn_49 ?_
      refine lv_topE (show 4 * (nI iw) = nI (4 * iw) from pk_mul 4 iw) ?_
      refine lv_iconst (v := 3) hx hb d_Md_litIn_50 (by decide) ?_
      refine lv_iadd hx hb d_Md_litIn_51 ?_
      refine lv_topE (show (nI (4 * iw)) + 3 = nI (4 * iw + 3) from nI_add (4 * iw) 3) ?_
      refine gn_iald E hK.1 hG hM.2.2.2.2.2 0 rfl (j := (4 * iw + 3)) (by omega) (by decide) d_Md_litIn_52 ?_
      refine lv_topE hw3 ?_
      refine lv_aload_n hx hb d_Md_litIn_53 rfl (lv_at hl 0 rfl) ?_
      refine gs_get E hK.1 hG hM.1 (C := R_Md) (T := F_Md) (N := 14) rfl i_Md 9 (by decide) w_472 (v := .ref cW) rfl d_Md_litIn_54 ?_
      refine lv_iconst (v := 4) hx hb d_Md_litIn_57 (by decide) ?_
      refine lv_iload_n hx hb d_Md_litIn_58 rfl (lv_at hl 1 rfl) ?_
      refine lv_imul hx hb d_Md_litIn_59 ?_
      refine lv_topE (show 4 * (nI iw) = nI (4 * iw) from pk_mul 4 iw) ?_
      refine lv_iconst (v := 1) hx hb d_Md_litIn_60 (by decide) ?_
      refine lv_iadd hx hb d_Md_litIn_61 ?_
      refine lv_topE (show (nI (4 * iw)) + 1 = nI (4 * iw + 1) from nI_add (4 * iw) 1) ?_
      refine gn_iald E hK.1 hG hM.2.2.2.2.2 0 rfl (j := (4 * iw + 1)) (by omega) (by decide) d_Md_litIn_62 ?_
      refine lv_topE hw1 ?_
      refine lv_isub hx hb d_Md_litIn_63 ?_
      refine lv_imul hx hb d_Md_litIn_64 ?_
      refine lv_topi (fun v_3 ev_3 => ?_)
      refine lv_istore (lv' := [(4, .int v_3), (0, .ref mo), (1, .int (nI iw)), (2, .int (nI t)), (3, .int wo)]) hx hb d_Md_litIn_65 hl (by decide) rfl (fun ls hl => ?_)
      refine lv_aload_n hx hb d_Md_litIn_67 rfl (lv_at hl 1 rfl) ?_
      refine gs_get E hK.1 hG hM.1 (C := R_Md) (T := F_Md) (N := 14) rfl i_Md 7 (by decide) w_470 (v := .ref cL) rfl d_Md_litIn_68 ?_
      refine lv_iload_n hx hb d_Md_litIn_71 rfl (lv_at hl 3 rfl) ?_
      refine gn_iald E hK.1 hG hM.2.2.2.2.1 0 rfl (j := t) (by omega) (by decide) d_Md_litIn_72 ?_
      refine lv_iload hx hb d_Md_litIn_73 (lv_at hl 0 rfl) ?_
      refine lv_aload_n hx hb d_Md_litIn_75 rfl (lv_at hl 1 rfl) ?_
      refine lv_iload_n hx hb d_Md_litIn_76 rfl (lv_at hl 2 rfl) ?_
      refine lv_iload_n hx hb d_Md_litIn_77 rfl (lv_at hl 3 rfl) ?_
      refine lv_iload_n hx hb d_Md_litIn_78 rfl (lv_at hl 4 rfl) ?_
      refine lv_iconst (v := 0) hx hb d_Md_litIn_79 (by decide) ?_
      refine gs_V (As := [.int (nI iw), .int (nI t), .int wo, .int 0]) (rest := [.int v_3, .int (li t)]) (k_Md_darkOf l D k zb G mo cB cT cS cL cW th wn hn nb nw bx tr su li wi l1 l2 l3 l4 iw u0 v0 u1 v1 t wo 0 ⟨hM.1, hM.2.1, hM.2.2.1, hM.2.2.2.1, hM.2.2.2.2.1, hM.2.2.2.2.2⟩ hnb ht24 hw0 hw1 hw2 hw3 hiw hu hv hu1 hv1) E hml hl.1 (cg_V (C := R_Md) hw w_596 w_593 w_4 w_595 sel_Md_darkOf hd_Md_darkOf ⟨by exact Nat.le_of_ble_eq_true rfl, by exact Nat.le_of_ble_eq_true rfl⟩) hG hK hX hS hM.1 rfl rfl rfl rfl (by exact Nat.le_of_ble_eq_true rfl) d_Md_litIn_80 ⟨by exact Nat.le_of_ble_eq_true rfl, by exact Nat.le_of_ble_eq_true rfl⟩ (fun v G1 H locs hp hG hS => ?_)
      obtain ⟨hv1, n_4, n_5, n_6, n_7, hG1⟩ := hp
      subst hv1
      rw [hG1] at hG
      obtain ⟨G_8, eG_8⟩ : ∃ z, z = gs_u G mo (.inr (4, [.int th, .int (nI wn), .int (nI hn), .int (nI nb), .ref cB, .ref cT, .ref cS, .ref cL, .int (nI nw), .ref cW, .long n_4, .long n_5, .long n_6, .long n_7])) := ⟨_, rfl⟩
      have hG : gs_W D classes zb G_8 H := by rw [eG_8]; exact hG
      have hc_9 : G_8 cB = some (aInt (k 0) 66 bx) := by rw [eG_8]; exact gs_keep hM.2.1 hM.1 (by simp)
      have hc_10 : G_8 cT = some (aInt (k 2) 11 tr) := by rw [eG_8]; exact gs_keep hM.2.2.1 hM.1 (by simp)
      have hc_11 : G_8 cS = some (aInt (k 0) 72 su) := by rw [eG_8]; exact gs_keep hM.2.2.2.1 hM.1 (by simp)
      have hc_12 : G_8 cL = some (aInt (k 0) 24 li) := by rw [eG_8]; exact gs_keep hM.2.2.2.2.1 hM.1 (by simp)
      have hc_13 : G_8 cW = some (aInt (k 0) 40 wi) := by rw [eG_8]; exact gs_keep hM.2.2.2.2.2 hM.1 (by simp)
      have hc_14 : G_8 mo = some (.inr (4, [.int th, .int (nI wn), .int (nI hn), .int (nI nb), .ref cB, .ref cT, .ref cS, .ref cL, .int (nI nw), .ref cW, .long n_4, .long n_5, .long n_6, .long n_7])) := by rw [eG_8]; exact gs_us _ _ _
      refine W.eq (g2 := F0 m 83 ls [.int (nI (jm_dark bx tr su nb wo 0 t u0 v0 u1 v1)), .int v_3, .int (li t)]) rfl ?_
      refine lv_isub hx hb d_Md_litIn_83 ?_
      refine lv_imul hx hb d_Md_litIn_84 ?_
      refine W.iret (v := ((li t) * (v_3 - (nI (jm_dark bx tr su nb wo 0 t u0 v0 u1 v1))))) hx hb hr (gs_end ⟨?_, n_4, n_5, n_6, n_7, ?_⟩ hG hS) hS.2.2 d_Md_litIn_85
      · subst ev_3; simp only [jm_lit, if_neg c_1, if_neg c_2]
      · simp only [eG_8, gs_uu]
    · refine lv_iconst (v := 0) hx hb d_Md_litIn_22 (by decide) ?_
      refine W.iret (v := 0) hx hb hr (gs_end ⟨?_, l1, l2, l3, l4, ?_⟩ hG hS) hS.2.2 d_Md_litIn_23
      · simp only [jm_lit, if_neg c_1, if_pos c_2]
      · exact (gs_id hM.1).symm
set_option maxHeartbeats 4000000 in
set_option maxRecDepth 100000 in
theorem k_Md_day (l : Launch) (D : va_G) (k : Nat → ClassId) (zb : Nat) (G : Nat → Option va_E) (mo cB cT cS cL cW : Nat) (th : Int32) (wn hn nb nw : Nat) (bx tr su li wi : Nat → Int32) (l1 l2 l3 l4 : Int64) (iw u0 v0 u1 v1 : Nat) (wo : Int32) (hM : sM k G mo cB cT cS cL cW th wn hn nb nw bx tr su li wi l1 l2 l3 l4) (hnb : nb ≤ 10) (hw0 : wi (4 * iw) = nI u0) (hw1 : wi (4 * iw + 1) = nI v0) (hw2 : wi (4 * iw + 2) = nI u1) (hw3 : wi (4 * iw + 3) = nI v1) (hiw : iw < 10) (hu : u0 ≤ u1) (hv : v0 ≤ v1) (hu1 : u1 ≤ 60) (hv1 : v1 ≤ 60) : Met l y_Md_day (wM y_Md_day c_Md_day 5 (some .int)) ({ frames := 6, cells := 0, slots := 0, locals := 161 }) (gs_P D k zb G [.ref mo, .int (nI iw), .int wo]) (gs_Q D zb (fun v G1 => v = some (.int (jm_day bx tr su li nb wo u0 v0 u1 v1)) ∧ ∃ m1 m2 m3 m4 : Int64, G1 = gs_u G mo (oMd th wn hn nb nw cB cT cS cL cW m1 m2 m3 m4))) 0 0 (fun q : Nat => zb ≤ q) := by
  refine Met.ofW (cc := c_Md_day) (maxL := 5) (ret := (some .int)) (by decide) rfl ?_
  intro p e s m args below meth c s₁ B hml hv
  obtain ⟨rfl, hG, hK, hX⟩ := hv
  have hx := B.exec
  have hb := B.bytes
  have hr := B.returns
  have hts := atoms_spec (ws := wM y_Md_day c_Md_day 5 (some .int)) B.pre
  have hw : ∀ w9 ∈ wW, w9.before ([.ref mo, .int (nI iw), .int wo] : List Value).toArray s = true := fun w9 h9 => hts w9 (gi_in w9 h9)
  have hown : s.vm.findClass R_Md = some m.cls := findClass_of_methodNamed B.named
  have hlocks := B.notSynchronized
  have E : gs_E p s m ([.ref mo, .int (nI iw), .int wo] : List Value).toArray c c_Md_day wW R_Md := ⟨hx, hb, hw, hown⟩
  have hS : gs_S zb s.heap s.heap [] := va_S.rf
  have hl := lv_entry ([.ref mo, .int (nI iw), .int wo]) (n := 5) (Nat.le_of_ble_eq_true rfl)
  rw [lg_entry_eq]
  generalize (lg_sl ([.ref mo, .int (nI iw), .int wo]) ++ List.replicate (5 - (lg_sl ([.ref mo, .int (nI iw), .int wo])).length) Slot.unset).toArray = ls at hl ⊢
  have hl : lv_has ls 5 [(0, .ref mo), (1, .int (nI iw)), (2, .int wo)] := hl
  refine lv_iconst (v := 0) hx hb d_Md_day_0 (by decide) ?_
  refine lv_istore_n (lv' := [(3, .int 0), (0, .ref mo), (1, .int (nI iw)), (2, .int wo)]) hx hb d_Md_day_1 rfl hl (by decide) rfl (fun ls hl => ?_)
  refine lv_iconst (v := 0) hx hb d_Md_day_2 (by decide) ?_
  refine lv_istore (lv' := [(4, .int 0), (3, .int 0), (0, .ref mo), (1, .int (nI iw)), (2, .int wo)]) hx hb d_Md_day_3 hl (by decide) rfl (fun ls hl => ?_)
  rw [← gs_id hM.1] at hG
  have lp : ∀ (fu : Nat) (i : Nat) (acc : Int32) (m1 : Int64) (m2 : Int64) (m3 : Int64) (m4 : Int64), i ≤ 24 → 24 + 1 ≤ i + fu → (hacc : acc = jc_sum (fun t => jm_lit bx tr su li nb wo u0 v0 u1 v1 t) i) → ∀ (H : Heap) (locs : List Loc), gs_W D classes zb (gs_u G mo (oMd th wn hn nb nw cB cT cS cL cW m1 m2 m3 m4)) H → gs_S zb s.heap H locs → ∀ (ls : Array Slot), lv_has ls 5 [(0, .ref mo), (1, .int (nI iw)), (2, .int wo), (3, .int acc), (4, .int (nI i))] → W p l e (headSpec (wM y_Md_day c_Md_day 5 (some .int)) ({ frames := 6, cells := 0, slots := 0, locals := 161 })).room s m ([.ref mo, .int (nI iw), .int wo] : List Value).toArray below meth c H locs 0 0 (MQ below (gs_Q D zb (fun v G1 => v = some (.int (jm_day bx tr su li nb wo u0 v0 u1 v1)) ∧ ∃ m1 m2 m3 m4 : Int64, G1 = gs_u G mo (oMd th wn hn nb nw cB cT cS cL cW m1 m2 m3 m4))) ([.ref mo, .int (nI iw), .int wo] : List Value).toArray s 0 0 (fun q : Nat => zb ≤ q)) (F0 m 5 ls []) := by
    intro fu
    induction fu with
    | zero => intro i acc m1 m2 m3 m4 hle hfu; exact absurd hfu (by omega)
    | succ fu IHlp =>
      intro i acc m1 m2 m3 m4 hle hfu hacc H locs hG hS ls hl
      obtain ⟨G_1, eG_1⟩ : ∃ z, z = gs_u G mo (oMd th wn hn nb nw cB cT cS cL cW m1 m2 m3 m4) := ⟨_, rfl⟩
      rw [← eG_1] at hG
      have hM9 := sM_o hM th nb nw m1 m2 m3 m4
      rw [← eG_1] at hM9
      refine lv_iload hx hb d_Md_day_5 (lv_at hl 4 rfl) ?_
      refine lv_bipush (v := 24) hx hb d_Md_day_7 (by decide) ?_
      refine lv_icmp_ge (tgt := 29) hx hb d_Md_day_9 (by decide) (fun c_2 => ?_) (fun c_2 => ?_)
      · have hend : i = 24 := cl_eq (N := 24) (by decide) hle c_2
        refine lv_iload_n hx hb d_Md_day_29 rfl (lv_at hl 3 rfl) ?_
        simp only [eG_1, gs_uu] at hG
        exact W.iret (v := acc) hx hb hr (gs_end ⟨by rw [hacc, hend]; rfl, m1, m2, m3, m4, rfl⟩ hG hS) hS.2.2 d_Md_day_30
      · have hlt : i < 24 := cl_lt (N := 24) (by decide) hle c_2
        refine lv_iload_n hx hb d_Md_day_12 rfl (lv_at hl 3 rfl) ?_
        refine lv_aload_n hx hb d_Md_day_13 rfl (lv_at hl 0 rfl) ?_
        refine lv_iload_n hx hb d_Md_day_14 rfl (lv_at hl 1 rfl) ?_
        refine lv_iload hx hb d_Md_day_15 (lv_at hl 4 rfl) ?_
        refine lv_iload_n hx hb d_Md_day_17 rfl (lv_at hl 2 rfl) ?_
        refine gs_V (As := [.int (nI iw), .int (nI i), .int wo]) (rest := [.int acc]) (k_Md_litIn l D k zb G_1 mo cB cT cS cL cW th wn hn nb nw bx tr su li wi m1 m2 m3 m4 iw u0 v0 u1 v1 i wo ⟨hM9.1, hM9.2.1, hM9.2.2.1, hM9.2.2.2.1, hM9.2.2.2.2.1, hM9.2.2.2.2.2⟩ hnb hlt hw0 hw1 hw2 hw3 hiw hu hv hu1 hv1) E hml hl.1 (cg_V (C := R_Md) hw w_612 w_609 w_4 w_611 sel_Md_litIn hd_Md_litIn ⟨by exact Nat.le_of_ble_eq_true rfl, by exact Nat.le_of_ble_eq_true rfl⟩) hG hK hX hS hM9.1 rfl rfl rfl rfl (by exact Nat.le_of_ble_eq_true rfl) d_Md_day_18 ⟨by exact Nat.le_of_ble_eq_true rfl, by exact Nat.le_of_ble_eq_true rfl⟩ (fun v G1 H locs hp hG hS => ?_)
        obtain ⟨hv1, n_3, n_4, n_5, n_6, hG1⟩ := hp
        subst hv1
        rw [hG1] at hG
        obtain ⟨G_7, eG_7⟩ : ∃ z, z = gs_u G_1 mo (.inr (4, [.int th, .int (nI wn), .int (nI hn), .int (nI nb), .ref cB, .ref cT, .ref cS, .ref cL, .int (nI nw), .ref cW, .long n_3, .long n_4, .long n_5, .long n_6])) := ⟨_, rfl⟩
        have hG : gs_W D classes zb G_7 H := by rw [eG_7]; exact hG
        have hc_8 : G_7 cB = some (aInt (k 0) 66 bx) := by rw [eG_7]; exact gs_keep hM9.2.1 hM9.1 (by simp)
        have hc_9 : G_7 cT = some (aInt (k 2) 11 tr) := by rw [eG_7]; exact gs_keep hM9.2.2.1 hM9.1 (by simp)
        have hc_10 : G_7 cS = some (aInt (k 0) 72 su) := by rw [eG_7]; exact gs_keep hM9.2.2.2.1 hM9.1 (by simp)
        have hc_11 : G_7 cL = some (aInt (k 0) 24 li) := by rw [eG_7]; exact gs_keep hM9.2.2.2.2.1 hM9.1 (by simp)
        have hc_12 : G_7 cW = some (aInt (k 0) 40 wi) := by rw [eG_7]; exact gs_keep hM9.2.2.2.2.2 hM9.1 (by simp)
        have hc_13 : G_7 mo = some (.inr (4, [.int th, .int (nI wn), .int (nI hn), .int (nI nb), .ref cB, .ref cT, .ref cS, .ref cL, .int (nI nw), .ref cW, .long n_3, .long n_4, .long n_5, .long n_6])) := by rw [eG_7]; exact gs_us _ _ _
        refine W.eq (g2 := F0 m 21 ls [.int (jm_lit bx tr su li nb wo u0 v0 u1 v1 i), .int acc]) rfl ?_
        refine lv_iadd hx hb d_Md_day_21 ?_
        refine lv_topi (fun v_14 ev_14 => ?_)
        refine lv_istore_n (lv' := [(3, .int v_14), (0, .ref mo), (1, .int (nI iw)), (2, .int wo), (4, .int (nI i))]) hx hb d_Md_day_22 rfl hl (by decide) rfl (fun ls hl => ?_)
        refine lv_iinc (v := nI (i + 1)) (lv' := [(4, .int (nI (i + 1))), (3, .int v_14), (0, .ref mo), (1, .int (nI iw)), (2, .int wo)]) hx hb d_Md_day_23 hl (k := 4) rfl (nI_1 _) (by decide) rfl (fun ls hl => ?_)
        refine lv_goto (tgt := 5) hx hb d_Md_day_26 (by decide) ?_
        simp only [eG_7, eG_1, gs_uu] at hG
        exact IHlp (i + 1) v_14 n_3 n_4 n_5 n_6 (by omega) (by omega) (by subst ev_14; rw [hacc]; rfl) _ _ hG hS ls (lv_sub hl [2, 3, 4, 1, 0] rfl)
  exact lp (24 + 1) 0 0 l1 l2 l3 l4 (by omega) (by omega) rfl _ _ hG hS ls (lv_sub hl [2, 3, 4, 1, 0] rfl)
set_option maxHeartbeats 4000000 in
set_option maxRecDepth 100000 in
theorem k_Md_lay (l : Launch) (D : va_G) (k : Nat → ClassId) (zb : Nat) (G : Nat → Option va_E) (mo cB cT cS cL cW : Nat) (th : Int32) (wn hn nb nw : Nat) (bx tr su li wi : Nat → Int32) (l1 l2 l3 l4 : Int64) (b : Nat) (x0 y0 z0 x1 y1 z1 : Int32) (hM : sM k G mo cB cT cS cL cW th wn hn nb nw bx tr su li wi l1 l2 l3 l4) (hb10 : b ≤ 10) : Met l y_Md_lay (wM y_Md_lay c_Md_lay 8 none) ({ frames := 0, cells := 0, slots := 0, locals := 0 }) (gs_P D k zb G [.ref mo, .int (nI b), .int x0, .int y0, .int z0, .int x1, .int y1, .int z1]) (gs_Q D zb (fun v G1 => v = none ∧ G1 = gs_u (gs_u G cB (aInt (k 0) 66 (jm_lay bx b x0 y0 z0 x1 y1 z1))) cT (aInt (k 2) 11 (upd tr b 1)))) 0 0 (fun q : Nat => zb ≤ q) := by
  refine Met.ofW (cc := c_Md_lay) (maxL := 8) (ret := none) (by decide) rfl ?_
  intro p e s m args below meth c s₁ B hml hv
  obtain ⟨rfl, hG, hK, hX⟩ := hv
  have hx := B.exec
  have hb := B.bytes
  have hr := B.returns
  have hts := atoms_spec (ws := wM y_Md_lay c_Md_lay 8 none) B.pre
  have hw : ∀ w9 ∈ wW, w9.before ([.ref mo, .int (nI b), .int x0, .int y0, .int z0, .int x1, .int y1, .int z1] : List Value).toArray s = true := fun w9 h9 => hts w9 (gi_in w9 h9)
  have hown : s.vm.findClass R_Md = some m.cls := findClass_of_methodNamed B.named
  have hlocks := B.notSynchronized
  have E : gs_E p s m ([.ref mo, .int (nI b), .int x0, .int y0, .int z0, .int x1, .int y1, .int z1] : List Value).toArray c c_Md_lay wW R_Md := ⟨hx, hb, hw, hown⟩
  have hS : gs_S zb s.heap s.heap [] := va_S.rf
  have hl := lv_entry ([.ref mo, .int (nI b), .int x0, .int y0, .int z0, .int x1, .int y1, .int z1]) (n := 8) (Nat.le_of_ble_eq_true rfl)
  rw [lg_entry_eq]
  generalize (lg_sl ([.ref mo, .int (nI b), .int x0, .int y0, .int z0, .int x1, .int y1, .int z1]) ++ List.replicate (8 - (lg_sl ([.ref mo, .int (nI b), .int x0, .int y0, .int z0, .int x1, .int y1, .int z1])).length) Slot.unset).toArray = ls at hl ⊢
  have hl : lv_has ls 8 [(0, .ref mo), (1, .int (nI b)), (2, .int x0), (3, .int y0), (4, .int z0), (5, .int x1), (6, .int y1), (7, .int z1)] := hl
  refine lv_aload_n hx hb d_Md_lay_0 rfl (lv_at hl 0 rfl) ?_
  refine gs_get E hK.1 hG hM.1 (C := R_Md) (T := F_Md) (N := 14) rfl i_Md 4 (by decide) w_467 (v := .ref cB) rfl d_Md_lay_1 ?_
  refine lv_bipush (v := 6) hx hb d_Md_lay_4 (by decide) ?_
  refine lv_iload_n hx hb d_Md_lay_6 rfl (lv_at hl 1 rfl) ?_
  refine lv_imul hx hb d_Md_lay_7 ?_
  refine lv_topE (show 6 * (nI b) = nI (6 * b) from pk_mul 6 b) ?_
  refine lv_iload_n hx hb d_Md_lay_8 rfl (lv_at hl 2 rfl) ?_
  refine gn_iast E hK.1 hG hS hM.2.1 0 rfl (j := (6 * b)) (by omega) (by decide) d_Md_lay_9 (fun H locs hG hS => ?_)
  obtain ⟨G_1, eG_1⟩ : ∃ z, z = gs_u G cB (aInt (k 0) 66 (upd bx (6 * b) x0)) := ⟨_, rfl⟩
  have hG : gs_W D classes zb G_1 H := by rw [eG_1]; exact hG
  have hc_2 : G_1 mo = some (.inr (4, [.int th, .int (nI wn), .int (nI hn), .int (nI nb), .ref cB, .ref cT, .ref cS, .ref cL, .int (nI nw), .ref cW, .long l1, .long l2, .long l3, .long l4])) := by rw [eG_1]; exact gs_keep hM.1 hM.2.1 (by simp)
  have hc_3 : G_1 cT = some (aInt (k 2) 11 tr) := by rw [eG_1]; exact gs_keep hM.2.2.1 hM.2.1 (by simp)
  have hc_4 : G_1 cB = some (aInt (k 0) 66 (upd bx (6 * b) x0)) := by rw [eG_1]; exact gs_us _ _ _
  refine lv_aload_n hx hb d_Md_lay_10 rfl (lv_at hl 0 rfl) ?_
  refine gs_get E hK.1 hG hc_2 (C := R_Md) (T := F_Md) (N := 14) rfl i_Md 4 (by decide) w_467 (v := .ref cB) rfl d_Md_lay_11 ?_
  refine lv_bipush (v := 6) hx hb d_Md_lay_14 (by decide) ?_
  refine lv_iload_n hx hb d_Md_lay_16 rfl (lv_at hl 1 rfl) ?_
  refine lv_imul hx hb d_Md_lay_17 ?_
  refine lv_topE (show 6 * (nI b) = nI (6 * b) from pk_mul 6 b) ?_
  refine lv_iconst (v := 1) hx hb d_Md_lay_18 (by decide) ?_
  refine lv_iadd hx hb d_Md_lay_19 ?_
  refine lv_topE (show (nI (6 * b)) + 1 = nI (6 * b + 1) from nI_add (6 * b) 1) ?_
  refine lv_iload_n hx hb d_Md_lay_20 rfl (lv_at hl 3 rfl) ?_
  refine gn_iast E hK.1 hG hS hc_4 0 rfl (j := (6 * b + 1)) (by omega) (by decide) d_Md_lay_21 (fun H locs hG hS => ?_)
  obtain ⟨G_5, eG_5⟩ : ∃ z, z = gs_u G_1 cB (aInt (k 0) 66 (upd (upd bx (6 * b) x0) (6 * b + 1) y0)) := ⟨_, rfl⟩
  have hG : gs_W D classes zb G_5 H := by rw [eG_5]; exact hG
  have hc_6 : G_5 mo = some (.inr (4, [.int th, .int (nI wn), .int (nI hn), .int (nI nb), .ref cB, .ref cT, .ref cS, .ref cL, .int (nI nw), .ref cW, .long l1, .long l2, .long l3, .long l4])) := by rw [eG_5]; exact gs_keep hc_2 hc_4 (by simp)
  have hc_7 : G_5 cT = some (aInt (k 2) 11 tr) := by rw [eG_5]; exact gs_keep hc_3 hc_4 (by simp)
  have hc_8 : G_5 cB = some (aInt (k 0) 66 (upd (upd bx (6 * b) x0) (6 * b + 1) y0)) := by rw [eG_5]; exact gs_us _ _ _
  refine lv_aload_n hx hb d_Md_lay_22 rfl (lv_at hl 0 rfl) ?_
  refine gs_get E hK.1 hG hc_6 (C := R_Md) (T := F_Md) (N := 14) rfl i_Md 4 (by decide) w_467 (v := .ref cB) rfl d_Md_lay_23 ?_
  refine lv_bipush (v := 6) hx hb d_Md_lay_26 (by decide) ?_
  refine lv_iload_n hx hb d_Md_lay_28 rfl (lv_at hl 1 rfl) ?_
  refine lv_imul hx hb d_Md_lay_29 ?_
  refine lv_topE (show 6 * (nI b) = nI (6 * b) from pk_mul 6 b) ?_
  refine lv_iconst (v := 2) hx hb d_Md_lay_30 (by decide) ?_
  refine lv_iadd hx hb d_Md_lay_31 ?_
  refine lv_topE (show (nI (6 * b)) + 2 = nI (6 * b + 2) from nI_add (6 * b) 2) ?_
  refine lv_iload hx hb d_Md_lay_32 (lv_at hl 4 rfl) ?_
  refine gn_iast E hK.1 hG hS hc_8 0 rfl (j := (6 * b + 2)) (by omega) (by decide) d_Md_lay_34 (fun H locs hG hS => ?_)
  obtain ⟨G_9, eG_9⟩ : ∃ z, z = gs_u G_5 cB (aInt (k 0) 66 (upd (upd (upd bx (6 * b) x0) (6 * b + 1) y0) (6 * b + 2) z0)) := ⟨_, rfl⟩
  have hG : gs_W D classes zb G_9 H := by rw [eG_9]; exact hG
  have hc_10 : G_9 mo = some (.inr (4, [.int th, .int (nI wn), .int (nI hn), .int (nI nb), .ref cB, .ref cT, .ref cS, .ref cL, .int (nI nw), .ref cW, .long l1, .long l2, .long l3, .long l4])) := by rw [eG_9]; exact gs_keep hc_6 hc_8 (by simp)
  have hc_11 : G_9 cT = some (aInt (k 2) 11 tr) := by rw [eG_9]; exact gs_keep hc_7 hc_8 (by simp)
  have hc_12 : G_9 cB = some (aInt (k 0) 66 (upd (upd (upd bx (6 * b) x0) (6 * b + 1) y0) (6 * b + 2) z0)) := by rw [eG_9]; exact gs_us _ _ _
  refine lv_aload_n hx hb d_Md_lay_35 rfl (lv_at hl 0 rfl) ?_
  refine gs_get E hK.1 hG hc_10 (C := R_Md) (T := F_Md) (N := 14) rfl i_Md 4 (by decide) w_467 (v := .ref cB) rfl d_Md_lay_36 ?_
  refine lv_bipush (v := 6) hx hb d_Md_lay_39 (by decide) ?_
  refine lv_iload_n hx hb d_Md_lay_41 rfl (lv_at hl 1 rfl) ?_
  refine lv_imul hx hb d_Md_lay_42 ?_
  refine lv_topE (show 6 * (nI b) = nI (6 * b) from pk_mul 6 b) ?_
  refine lv_iconst (v := 3) hx hb d_Md_lay_43 (by decide) ?_
  refine lv_iadd hx hb d_Md_lay_44 ?_
  refine lv_topE (show (nI (6 * b)) + 3 = nI (6 * b + 3) from nI_add (6 * b) 3) ?_
  refine lv_iload hx hb d_Md_lay_45 (lv_at hl 5 rfl) ?_
  refine gn_iast E hK.1 hG hS hc_12 0 rfl (j := (6 * b + 3)) (by omega) (by decide) d_Md_lay_47 (fun H locs hG hS => ?_)
  obtain ⟨G_13, eG_13⟩ : ∃ z, z = gs_u G_9 cB (aInt (k 0) 66 (upd (upd (upd (upd bx (6 * b) x0) (6 * b + 1) y0) (6 * b + 2) z0) (6 * b + 3) x1)) := ⟨_, rfl⟩
  have hG : gs_W D classes zb G_13 H := by rw [eG_13]; exact hG
  have hc_14 : G_13 mo = some (.inr (4, [.int th, .int (nI wn), .int (nI hn), .int (nI nb), .ref cB, .ref cT, .ref cS, .ref cL, .int (nI nw), .ref cW, .long l1, .long l2, .long l3, .long l4])) := by rw [eG_13]; exact gs_keep hc_10 hc_12 (by simp)
  have hc_15 : G_13 cT = some (aInt (k 2) 11 tr) := by rw [eG_13]; exact gs_keep hc_11 hc_12 (by simp)
  have hc_16 : G_13 cB = some (aInt (k 0) 66 (upd (upd (upd (upd bx (6 * b) x0) (6 * b + 1) y0) (6 * b + 2) z0) (6 * b + 3) x1)) := by rw [eG_13]; exact gs_us _ _ _
  refine lv_aload_n hx hb d_Md_lay_48 rfl (lv_at hl 0 rfl) ?_
  refine gs_get E hK.1 hG hc_14 (C := R_Md) (T := F_Md) (N := 14) rfl i_Md 4 (by decide) w_467 (v := .ref cB) rfl d_Md_lay_49 ?_
  refine lv_bipush (v := 6) hx hb d_Md_lay_52 (by decide) ?_
  refine lv_iload_n hx hb d_Md_lay_54 rfl (lv_at hl 1 rfl) ?_
  refine lv_imul hx hb d_Md_lay_55 ?_
  refine lv_topE (show 6 * (nI b) = nI (6 * b) from pk_mul 6 b) ?_
  refine lv_iconst (v := 4) hx hb d_Md_lay_56 (by decide) ?_
  refine lv_iadd hx hb d_Md_lay_57 ?_
  refine lv_topE (show (nI (6 * b)) + 4 = nI (6 * b + 4) from nI_add (6 * b) 4) ?_
  refine lv_iload hx hb d_Md_lay_58 (lv_at hl 6 rfl) ?_
  refine gn_iast E hK.1 hG hS hc_16 0 rfl (j := (6 * b + 4)) (by omega) (by decide) d_Md_lay_60 (fun H locs hG hS => ?_)
  obtain ⟨G_17, eG_17⟩ : ∃ z, z = gs_u G_13 cB (aInt (k 0) 66 (upd (upd (upd (upd (upd bx (6 * b) x0) (6 * b + 1) y0) (6 * b + 2) z0) (6 * b + 3) x1) (6 * b + 4) y1)) := ⟨_, rfl⟩
  have hG : gs_W D classes zb G_17 H := by rw [eG_17]; exact hG
  have hc_18 : G_17 mo = some (.inr (4, [.int th, .int (nI wn), .int (nI hn), .int (nI nb), .ref cB, .ref cT, .ref cS, .ref cL, .int (nI nw), .ref cW, .long l1, .long l2, .long l3, .long l4])) := by rw [eG_17]; exact gs_keep hc_14 hc_16 (by simp)
  have hc_19 : G_17 cT = some (aInt (k 2) 11 tr) := by rw [eG_17]; exact gs_keep hc_15 hc_16 (by simp)
  have hc_20 : G_17 cB = some (aInt (k 0) 66 (upd (upd (upd (upd (upd bx (6 * b) x0) (6 * b + 1) y0) (6 * b + 2) z0) (6 * b + 3) x1) (6 * b + 4) y1)) := by rw [eG_17]; exact gs_us _ _ _
  refine lv_aload_n hx hb d_Md_lay_61 rfl (lv_at hl 0 rfl) ?_
  refine gs_get E hK.1 hG hc_18 (C := R_Md) (T := F_Md) (N := 14) rfl i_Md 4 (by decide) w_467 (v := .ref cB) rfl d_Md_lay_62 ?_
  refine lv_bipush (v := 6) hx hb d_Md_lay_65 (by decide) ?_
  refine lv_iload_n hx hb d_Md_lay_67 rfl (lv_at hl 1 rfl) ?_
  refine lv_imul hx hb d_Md_lay_68 ?_
  refine lv_topE (show 6 * (nI b) = nI (6 * b) from pk_mul 6 b) ?_
  refine lv_iconst (v := 5) hx hb d_Md_lay_69 (by decide) ?_
  refine lv_iadd hx hb d_Md_lay_70 ?_
  refine lv_topE (show (nI (6 * b)) + 5 = nI (6 * b + 5) from nI_add (6 * b) 5) ?_
  refine lv_iload hx hb d_Md_lay_71 (lv_at hl 7 rfl) ?_
  refine gn_iast E hK.1 hG hS hc_20 0 rfl (j := (6 * b + 5)) (by omega) (by decide) d_Md_lay_73 (fun H locs hG hS => ?_)
  obtain ⟨G_21, eG_21⟩ : ∃ z, z = gs_u G_17 cB (aInt (k 0) 66 (upd (upd (upd (upd (upd (upd bx (6 * b) x0) (6 * b + 1) y0) (6 * b + 2) z0) (6 * b + 3) x1) (6 * b + 4) y1) (6 * b + 5) z1)) := ⟨_, rfl⟩
  have hG : gs_W D classes zb G_21 H := by rw [eG_21]; exact hG
  have hc_22 : G_21 mo = some (.inr (4, [.int th, .int (nI wn), .int (nI hn), .int (nI nb), .ref cB, .ref cT, .ref cS, .ref cL, .int (nI nw), .ref cW, .long l1, .long l2, .long l3, .long l4])) := by rw [eG_21]; exact gs_keep hc_18 hc_20 (by simp)
  have hc_23 : G_21 cT = some (aInt (k 2) 11 tr) := by rw [eG_21]; exact gs_keep hc_19 hc_20 (by simp)
  have hc_24 : G_21 cB = some (aInt (k 0) 66 (upd (upd (upd (upd (upd (upd bx (6 * b) x0) (6 * b + 1) y0) (6 * b + 2) z0) (6 * b + 3) x1) (6 * b + 4) y1) (6 * b + 5) z1)) := by rw [eG_21]; exact gs_us _ _ _
  refine lv_aload_n hx hb d_Md_lay_74 rfl (lv_at hl 0 rfl) ?_
  refine gs_get E hK.1 hG hc_22 (C := R_Md) (T := F_Md) (N := 14) rfl i_Md 5 (by decide) w_468 (v := .ref cT) rfl d_Md_lay_75 ?_
  refine lv_iload_n hx hb d_Md_lay_78 rfl (lv_at hl 1 rfl) ?_
  refine lv_iconst (v := 1) hx hb d_Md_lay_79 (by decide) ?_
  refine gn_zast E hK.1 hG hS hc_23 2 rfl (by decide) (j := b) (by omega) (by decide) d_Md_lay_80 (fun H locs hG hS => ?_)
  obtain ⟨G_25, eG_25⟩ : ∃ z, z = gs_u G_21 cT (aInt (k 2) 11 (upd tr b 1)) := ⟨_, rfl⟩
  have hG : gs_W D classes zb G_25 H := by rw [eG_25]; exact hG
  have hc_26 : G_25 mo = some (.inr (4, [.int th, .int (nI wn), .int (nI hn), .int (nI nb), .ref cB, .ref cT, .ref cS, .ref cL, .int (nI nw), .ref cW, .long l1, .long l2, .long l3, .long l4])) := by rw [eG_25]; exact gs_keep hc_22 hc_23 (by simp)
  have hc_27 : G_25 cB = some (aInt (k 0) 66 (upd (upd (upd (upd (upd (upd bx (6 * b) x0) (6 * b + 1) y0) (6 * b + 2) z0) (6 * b + 3) x1) (6 * b + 4) y1) (6 * b + 5) z1)) := by rw [eG_25]; exact gs_keep hc_24 hc_23 (by simp)
  have hc_28 : G_25 cT = some (aInt (k 2) 11 (upd tr b 1)) := by rw [eG_25]; exact gs_us _ _ _
  refine W.vret hx hb hr (gs_end ⟨rfl, ?_⟩ hG hS) hS.2.2 d_Md_lay_81
  simp only [eG_25, eG_21, eG_17, eG_13, eG_9, eG_5, eG_1, gs_uu, jm_lay]
set_option maxHeartbeats 4000000 in
set_option maxRecDepth 100000 in
theorem k_Md_check (l : Launch) (D : va_G) (k : Nat → ClassId) (zb : Nat) (G : Nat → Option va_E) (mo cB cT cS cL cW : Nat) (th : Int32) (wn hn nb nw : Nat) (bx tr su li wi : Nat → Int32) (l1 l2 l3 l4 : Int64) (g t : Int32) (hM : sM k G mo cB cT cS cL cW th wn hn nb nw bx tr su li wi l1 l2 l3 l4) : Met l y_Md_check (wM y_Md_check c_Md_check 3 (some .int)) ({ frames := 1, cells := 0, slots := 0, locals := 20 }) (gs_P D k zb G [.ref mo, .int g, .int t]) (gs_Q D zb (fun v G1 => (∃ (c : Int32) (j : Nat), jm_Ck (¬ g = 0) t su c j ∧ v = some (.int c)) ∧ G1 = G)) 0 0 (fun q : Nat => zb ≤ q) := by
  refine Met.ofW (cc := c_Md_check) (maxL := 3) (ret := (some .int)) (by decide) rfl ?_
  intro p e s m args below meth c s₁ B hml hv
  obtain ⟨rfl, hG, hK, hX⟩ := hv
  have hx := B.exec
  have hb := B.bytes
  have hr := B.returns
  have hts := atoms_spec (ws := wM y_Md_check c_Md_check 3 (some .int)) B.pre
  have hw : ∀ w9 ∈ wW, w9.before ([.ref mo, .int g, .int t] : List Value).toArray s = true := fun w9 h9 => hts w9 (gi_in w9 h9)
  have hown : s.vm.findClass R_Md = some m.cls := findClass_of_methodNamed B.named
  have hlocks := B.notSynchronized
  have E : gs_E p s m ([.ref mo, .int g, .int t] : List Value).toArray c c_Md_check wW R_Md := ⟨hx, hb, hw, hown⟩
  have hS : gs_S zb s.heap s.heap [] := va_S.rf
  have hl := lv_entry ([.ref mo, .int g, .int t]) (n := 3) (Nat.le_of_ble_eq_true rfl)
  rw [lg_entry_eq]
  generalize (lg_sl ([.ref mo, .int g, .int t]) ++ List.replicate (3 - (lg_sl ([.ref mo, .int g, .int t])).length) Slot.unset).toArray = ls at hl ⊢
  have hl : lv_has ls 3 [(0, .ref mo), (1, .int g), (2, .int t)] := hl
  refine lv_iload_n hx hb d_Md_check_0 rfl (lv_at hl 1 rfl) ?_
  refine lv_if_eq (tgt := 11) hx hb d_Md_check_1 (by decide) (fun c_1 => ?_) (fun c_1 => ?_)
  · refine lv_iconst (v := 1) hx hb d_Md_check_11 (by decide) ?_
    refine lv_goto (tgt := 33) hx hb d_Md_check_12 (by decide) ?_
    exact W.iret (v := 1) hx hb hr (gs_end ⟨⟨1, 0, Or.inl ⟨rfl, Or.inl (fun q => q c_1)⟩, rfl⟩, rfl⟩ hG hS) hS.2.2 d_Md_check_33
  · refine lv_iload_n hx hb d_Md_check_4 rfl (lv_at hl 2 rfl) ?_
    refine gs_St (As := [.int t]) (rest := []) (k_Md_noHour l D k zb G t) E hml hl.1 (cg_S hw w_543 w_541 w_4 w_542 hd_Md_noHour ⟨by exact Nat.le_of_ble_eq_true rfl, by exact Nat.le_of_ble_eq_true rfl⟩) hG hK hX hS rfl rfl (by exact Nat.le_of_ble_eq_true rfl) d_Md_check_5 ⟨by exact Nat.le_of_ble_eq_true rfl, by exact Nat.le_of_ble_eq_true rfl⟩ (fun v G1 H locs hp hG hS => ?_)
    obtain ⟨hv1, hG1⟩ := hp
    subst hv1
    rw [hG1] at hG
    refine W.eq (g2 := F0 m 8 ls [.int (jm_noH t)]) rfl ?_
    refine lv_if_eq (tgt := 15) hx hb d_Md_check_8 (by decide) (fun c_2 => ?_) (fun c_2 => ?_)
    · obtain ⟨j, hj, rfl⟩ := noH_1 c_2
      refine lv_aload_n hx hb d_Md_check_15 rfl (lv_at hl 0 rfl) ?_
      refine gs_get E hK.1 hG hM.1 (C := R_Md) (T := F_Md) (N := 14) rfl i_Md 6 (by decide) w_469 (v := .ref cS) rfl d_Md_check_16 ?_
      refine lv_iconst (v := 3) hx hb d_Md_check_19 (by decide) ?_
      refine lv_iload_n hx hb d_Md_check_20 rfl (lv_at hl 2 rfl) ?_
      refine lv_imul hx hb d_Md_check_21 ?_
      refine lv_topE (show 3 * (nI j) = nI (3 * j) from pk_mul 3 j) ?_
      refine lv_iconst (v := 2) hx hb d_Md_check_22 (by decide) ?_
      refine lv_iadd hx hb d_Md_check_23 ?_
      refine lv_topE (show (nI (3 * j)) + 2 = nI (3 * j + 2) from nI_add (3 * j) 2) ?_
      refine gn_iald E hK.1 hG hM.2.2.2.1 0 rfl (j := (3 * j + 2)) (by omega) (by decide) d_Md_check_24 ?_
      refine lv_if_ne (tgt := 32) hx hb d_Md_check_25 (by decide) (fun c_3 => ?_) (fun c_3 => ?_)
      · refine lv_iconst (v := 0) hx hb d_Md_check_32 (by decide) ?_
        exact W.iret (v := 0) hx hb hr (gs_end ⟨⟨0, j, Or.inr (Or.inr ⟨rfl, c_1, hj, rfl, c_3⟩), rfl⟩, rfl⟩ hG hS) hS.2.2 d_Md_check_33
      · refine lv_iconst (v := 2) hx hb d_Md_check_28 (by decide) ?_
        refine lv_goto (tgt := 33) hx hb d_Md_check_29 (by decide) ?_
        exact W.iret (v := 2) hx hb hr (gs_end ⟨⟨2, j, Or.inr (Or.inl ⟨rfl, c_1, hj, rfl, c_3⟩), rfl⟩, rfl⟩ hG hS) hS.2.2 d_Md_check_33
    · have hno := noH_0 c_2
      refine lv_iconst (v := 1) hx hb d_Md_check_11 (by decide) ?_
      refine lv_goto (tgt := 33) hx hb d_Md_check_12 (by decide) ?_
      exact W.iret (v := 1) hx hb hr (gs_end ⟨⟨1, 0, Or.inl ⟨rfl, Or.inr hno⟩, rfl⟩, rfl⟩ hG hS) hS.2.2 d_Md_check_33
set_option maxHeartbeats 4000000 in
set_option maxRecDepth 100000 in
theorem k_Md_thrown (l : Launch) (D : va_G) (k : Nat → ClassId) (zb : Nat) (G : Nat → Option va_E) (mo cB cT cS cL cW : Nat) (th : Int32) (wn hn nb nw : Nat) (bx tr su li wi : Nat → Int32) (l1 l2 l3 l4 : Int64) (hM : sM k G mo cB cT cS cL cW th wn hn nb nw bx tr su li wi l1 l2 l3 l4) : Met l y_Md_thrown (wM y_Md_thrown c_Md_thrown 1 (some .int)) ({ frames := 0, cells := 0, slots := 0, locals := 0 }) (gs_P D k zb G [.ref mo]) (gs_Q D zb (fun v G1 => v = some (.int (th)) ∧ G1 = G)) 0 0 (fun q : Nat => zb ≤ q) := by
  refine Met.ofW (cc := c_Md_thrown) (maxL := 1) (ret := (some .int)) (by decide) rfl ?_
  intro p e s m args below meth c s₁ B hml hv
  obtain ⟨rfl, hG, hK, hX⟩ := hv
  have hx := B.exec
  have hb := B.bytes
  have hr := B.returns
  have hts := atoms_spec (ws := wM y_Md_thrown c_Md_thrown 1 (some .int)) B.pre
  have hw : ∀ w9 ∈ wW, w9.before ([.ref mo] : List Value).toArray s = true := fun w9 h9 => hts w9 (gi_in w9 h9)
  have hown : s.vm.findClass R_Md = some m.cls := findClass_of_methodNamed B.named
  have hlocks := B.notSynchronized
  have E : gs_E p s m ([.ref mo] : List Value).toArray c c_Md_thrown wW R_Md := ⟨hx, hb, hw, hown⟩
  have hS : gs_S zb s.heap s.heap [] := va_S.rf
  have hl := lv_entry ([.ref mo]) (n := 1) (Nat.le_of_ble_eq_true rfl)
  rw [lg_entry_eq]
  generalize (lg_sl ([.ref mo]) ++ List.replicate (1 - (lg_sl ([.ref mo])).length) Slot.unset).toArray = ls at hl ⊢
  have hl : lv_has ls 1 [(0, .ref mo)] := hl
  refine lv_aload_n hx hb d_Md_thrown_0 rfl (lv_at hl 0 rfl) ?_
  refine gs_get E hK.1 hG hM.1 (C := R_Md) (T := F_Md) (N := 14) rfl i_Md 0 (by decide) w_463 (v := .int th) rfl d_Md_thrown_1 ?_
  refine W.iret (v := th) hx hb hr (gs_end ⟨?_, rfl⟩ hG hS) hS.2.2 d_Md_thrown_4
  rfl
