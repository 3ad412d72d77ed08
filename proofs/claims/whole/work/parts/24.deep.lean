/-! contracts, by program -/
set_option maxHeartbeats 4000000 in
set_option maxRecDepth 100000 in
theorem k_Ss_deepestTooLittle (l : Launch) (D : va_G) (k : Nat → ClassId) (zb : Nat) (G : Nat → Option va_E) (o aB aW aH aS aT : Nat) (wn hn nb nw : Nat) (ba wa ha : Nat → Nat) (bf hf : Nat → Nat → Int32) (wf : Nat → Nat → Nat) (sh : Nat → Int64) (tk : Nat → Int32) (a2 m0 m1 m2 m3 : Nat) (a1 : Nat) (X Y Z am : Int32) (cs : Int32) (hC : sC k G o aB aW aH aS aT wn hn nb nw ba wa ha bf hf wf sh tk) (hb2 : G a2 = some (.inr (2, [.int (nI m0), .int (nI m1), .int (nI m2), .int (nI m3)]))) (hm : m1 ≤ m3) (hm3 : m3 ≤ 60) (hb1 : G a1 = some (.inr (1, [.int X, .int Y, .int Z, .int am]))) : Met l y_Ss_deepestTooLittle (wM y_Ss_deepestTooLittle c_Ss_deepestTooLittle 8 (some .int)) ({ frames := 5, cells := 1, slots := 7, locals := 134 }) (gs_P D k zb G [.ref o, .ref a2, .ref a1, .int cs]) (gs_Q D zb (fun v G1 => ∃ (a : Nat) (z9 : Int32), G a = none ∧ v = some (.int (jc_tl (fun d => jc_dark nb bf X Y Z (nI wn) (ld_box 1 (nI m0) (nI m3) 0 (nI m2) (nI m3 + 1) d X Y Z (nI wn)) m0 m1 m2 m3) cs 8 64 0)) ∧ G1 = gs_u G a (.inr (0, [.int (nI m0), .int (nI m3), .int 0, .int (nI m2), .int (nI m3 + 1), .int z9, .int 1])))) 1 7 (fun q : Nat => zb ≤ q) := by
  refine Met.ofW (cc := c_Ss_deepestTooLittle) (maxL := 8) (ret := (some .int)) (by decide) rfl ?_
  intro p e s m args below meth c s₁ B hml hv
  obtain ⟨rfl, hG, hK, hX⟩ := hv
  have hx := B.exec
  have hb := B.bytes
  have hr := B.returns
  have hts := atoms_spec (ws := wM y_Ss_deepestTooLittle c_Ss_deepestTooLittle 8 (some .int)) B.pre
  have hw : ∀ w9 ∈ wW, w9.before ([.ref o, .ref a2, .ref a1, .int cs] : List Value).toArray s = true := fun w9 h9 => hts w9 (gi_in w9 h9)
  have hown : s.vm.findClass R_Ss = some m.cls := findClass_of_methodNamed B.named
  have hlocks := B.notSynchronized
  have E : gs_E p s m ([.ref o, .ref a2, .ref a1, .int cs] : List Value).toArray c c_Ss_deepestTooLittle wW R_Ss := ⟨hx, hb, hw, hown⟩
  have hS : gs_S zb s.heap s.heap [] := va_S.rf
  have hl := lv_entry ([.ref o, .ref a2, .ref a1, .int cs]) (n := 8) (Nat.le_of_ble_eq_true rfl)
  rw [lg_entry_eq]
  generalize (lg_sl ([.ref o, .ref a2, .ref a1, .int cs]) ++ List.replicate (8 - (lg_sl ([.ref o, .ref a2, .ref a1, .int cs])).length) Slot.unset).toArray = ls at hl ⊢
  have hl : lv_has ls 8 [(0, .ref o), (1, .ref a2), (2, .ref a1), (3, .int cs)] := hl
  have hC0 := hC
  refine lv_aload_n hx hb d_Ss_deepestTooLittle_0 rfl (lv_at hl 1 rfl) ?_
  refine lv_iconst (v := 0) hx hb d_Ss_deepestTooLittle_1 (by decide) ?_
  refine gs_V (As := [.int 0]) (rest := []) (k_Wn_ledgeOf l D k zb G a2 (nI m0) (nI m1) (nI m2) (nI m3) 0 hb2) E hml hl.1 (cg_V (C := R_Wn) hw w_426 w_423 w_11 w_424 sel_Wn_ledgeOf hd_Wn_ledgeOf ⟨by exact Nat.le_of_ble_eq_true rfl, by exact Nat.le_of_ble_eq_true rfl⟩) hG hK hX hS hb2 rfl rfl rfl rfl (by exact Nat.le_of_ble_eq_true rfl) d_Ss_deepestTooLittle_2 ⟨by exact Nat.le_of_ble_eq_true rfl, by exact Nat.le_of_ble_eq_true rfl⟩ (fun v G1 H locs hp hG hS => ?_)
  obtain ⟨q_1, hfq_1, hv1, hG1⟩ := hp
  subst hv1
  obtain ⟨G_2, eG_2⟩ : ∃ z, z = gs_u G q_1 (.inr (0, [.int (nI m0), .int (nI m3), .int 0, .int (nI m2), .int ((nI m3) + 1), .int 0, .int 1])) := ⟨_, rfl⟩
  rw [hG1, ← eG_2] at hG
  have hc_3 : G_2 o = some (.inr (3, [.int (nI wn), .int (nI hn), .ref aB, .ref aW, .ref aH, .ref aS, .ref aT, .int (nI nb), .int (nI nw)])) := by rw [eG_2]; exact gs_keepN hC.1.1 hfq_1
  have hc_4 : G_2 a2 = some (.inr (2, [.int (nI m0), .int (nI m1), .int (nI m2), .int (nI m3)])) := by rw [eG_2]; exact gs_keepN hb2 hfq_1
  have hc_5 : G_2 a1 = some (.inr (1, [.int X, .int Y, .int Z, .int am])) := by rw [eG_2]; exact gs_keepN hb1 hfq_1
  have hc_6 : G_2 q_1 = some (.inr (0, [.int (nI m0), .int (nI m3), .int 0, .int (nI m2), .int ((nI m3) + 1), .int 0, .int 1])) := by rw [eG_2]; exact gs_us _ _ _
  have hC : sC k G_2 o aB aW aH aS aT wn hn nb nw ba wa ha bf hf wf sh tk := by rw [eG_2]; exact sC_at hC hfq_1
  refine W.eq (g2 := F0 m 5 ls [.ref q_1]) rfl ?_
  refine lv_astore (lv' := [(4, .ref q_1), (0, .ref o), (1, .ref a2), (2, .ref a1), (3, .int cs)]) hx hb d_Ss_deepestTooLittle_5 hl (by decide) rfl (fun ls hl => ?_)
  refine lv_iconst (v := 0) hx hb d_Ss_deepestTooLittle_7 (by decide) ?_
  refine lv_istore (lv' := [(5, .int 0), (4, .ref q_1), (0, .ref o), (1, .ref a2), (2, .ref a1), (3, .int cs)]) hx hb d_Ss_deepestTooLittle_8 hl (by decide) rfl (fun ls hl => ?_)
  refine lv_bipush (v := 64) hx hb d_Ss_deepestTooLittle_10 (by decide) ?_
  refine lv_istore (lv' := [(6, .int 64), (5, .int 0), (4, .ref q_1), (0, .ref o), (1, .ref a2), (2, .ref a1), (3, .int cs)]) hx hb d_Ss_deepestTooLittle_12 hl (by decide) rfl (fun ls hl => ?_)
  rw [eG_2] at hG
  have lp : ∀ (fu : Nat) (s9 : Nat) (f0 : Nat) (tl : Int32) (z9 : Int32), 64 - s9 ≤ 64 → 64 + 1 ≤ 64 - s9 + fu → (hs64 : s9 ≤ 64) → (hsf : s9 < 2 ^ f0) → (hinv : jc_tl (fun d => jc_dark nb bf X Y Z (nI wn) (ld_box 1 (nI m0) (nI m3) 0 (nI m2) (nI m3 + 1) d X Y Z (nI wn)) m0 m1 m2 m3) cs 8 64 0 = jc_tl (fun d => jc_dark nb bf X Y Z (nI wn) (ld_box 1 (nI m0) (nI m3) 0 (nI m2) (nI m3 + 1) d X Y Z (nI wn)) m0 m1 m2 m3) cs f0 s9 tl) → ∀ (H : Heap) (locs : List Loc), gs_W D classes zb (gs_u G q_1 (.inr (0, [.int (nI m0), .int (nI m3), .int 0, .int (nI m2), .int (nI m3 + 1), .int z9, .int 1]))) H → gs_S zb s.heap H locs → ∀ (ls : Array Slot), lv_has ls 8 [(0, .ref o), (1, .ref a2), (2, .ref a1), (3, .int cs), (4, .ref q_1), (5, .int tl), (6, .int (nI s9))] → W p l e (headSpec (wM y_Ss_deepestTooLittle c_Ss_deepestTooLittle 8 (some .int)) ({ frames := 5, cells := 1, slots := 7, locals := 134 })).room s m ([.ref o, .ref a2, .ref a1, .int cs] : List Value).toArray below meth c H locs 1 7 (MQ below (gs_Q D zb (fun v G1 => ∃ (a : Nat) (z9 : Int32), G a = none ∧ v = some (.int (jc_tl (fun d => jc_dark nb bf X Y Z (nI wn) (ld_box 1 (nI m0) (nI m3) 0 (nI m2) (nI m3 + 1) d X Y Z (nI wn)) m0 m1 m2 m3) cs 8 64 0)) ∧ G1 = gs_u G a (.inr (0, [.int (nI m0), .int (nI m3), .int 0, .int (nI m2), .int (nI m3 + 1), .int z9, .int 1])))) ([.ref o, .ref a2, .ref a1, .int cs] : List Value).toArray s 1 7 (fun q : Nat => zb ≤ q)) (F0 m 14 ls []) := by
    intro fu
    induction fu with
    | zero => intro s9 f0 tl z9 hle hfu; exact absurd hfu (by omega)
    | succ fu IH =>
      intro s9 f0 tl z9 hle hfu hs64 hsf hinv H locs hG hS ls hl
      obtain ⟨G_7, eG_7⟩ : ∃ z, z = gs_u G q_1 (.inr (0, [.int (nI m0), .int (nI m3), .int 0, .int (nI m2), .int (nI m3 + 1), .int z9, .int 1])) := ⟨_, rfl⟩
      rw [← eG_7] at hG
      have hC : sC k G_7 o aB aW aH aS aT wn hn nb nw ba wa ha bf hf wf sh tk := by rw [eG_7]; exact sC_at hC0 hfq_1
      have hc_8 : G_7 o = some (.inr (3, [.int (nI wn), .int (nI hn), .ref aB, .ref aW, .ref aH, .ref aS, .ref aT, .int (nI nb), .int (nI nw)])) := by rw [eG_7]; exact gs_keepN hC0.1.1 hfq_1
      have hc_9 : G_7 a2 = some (.inr (2, [.int (nI m0), .int (nI m1), .int (nI m2), .int (nI m3)])) := by rw [eG_7]; exact gs_keepN hb2 hfq_1
      have hc_10 : G_7 a1 = some (.inr (1, [.int X, .int Y, .int Z, .int am])) := by rw [eG_7]; exact gs_keepN hb1 hfq_1
      have hc_11 : G_7 q_1 = some (.inr (0, [.int (nI m0), .int (nI m3), .int 0, .int (nI m2), .int (nI m3 + 1), .int z9, .int 1])) := by rw [eG_7]; exact gs_us _ _ _
      refine lv_iload hx hb d_Ss_deepestTooLittle_14 (lv_at hl 6 rfl) ?_
      refine lv_if_le (tgt := 65) hx hb d_Ss_deepestTooLittle_16 (by decide) (fun c_12 => ?_) (fun c_12 => ?_)
      · have h0 : s9 = 0 := npos_nI (by omega) c_12
        refine lv_iload hx hb d_Ss_deepestTooLittle_65 (lv_at hl 5 rfl) ?_
        rw [eG_7] at hG
        exact W.iret (v := tl) hx hb hr (gs_end ⟨q_1, z9, hfq_1, by rw [hinv, h0, jc_tl_0], rfl⟩ hG hS) hS.2.2 d_Ss_deepestTooLittle_67
      · have h0 : ¬ s9 = 0 := pos_nI (by omega) c_12
        obtain ⟨f9, rfl⟩ := tl_f hsf h0
        have hs2 : s9 / 2 < 2 ^ f9 := by rw [Nat.pow_succ] at hsf; omega
        refine lv_iload hx hb d_Ss_deepestTooLittle_19 (lv_at hl 5 rfl) ?_
        refine lv_iload hx hb d_Ss_deepestTooLittle_21 (lv_at hl 6 rfl) ?_
        refine lv_iadd hx hb d_Ss_deepestTooLittle_23 ?_
        refine lv_topi (fun v_13 ev_13 => ?_)
        refine lv_istore (lv' := [(7, .int v_13), (0, .ref o), (1, .ref a2), (2, .ref a1), (3, .int cs), (4, .ref q_1), (5, .int tl), (6, .int (nI s9))]) hx hb d_Ss_deepestTooLittle_24 hl (by decide) rfl (fun ls hl => ?_)
        refine lv_aload hx hb d_Ss_deepestTooLittle_26 (lv_at hl 5 rfl) ?_
        refine lv_iload hx hb d_Ss_deepestTooLittle_28 (lv_at hl 0 rfl) ?_
        refine gs_put E hK.1 hG hS hc_11 (C := R_Bx) (T := F_Bx) (N := 7) rfl i_Bx t_Bx t_Bx_ok n_Bx 5 (by decide) w_197 rfl (v := .int v_13) rfl rfl (Nat.le_of_ble_eq_true rfl) d_Ss_deepestTooLittle_30 (fun H locs hG hS => ?_)
        obtain ⟨G_14, eG_14⟩ : ∃ z, z = gs_u G_7 q_1 (.inr (0, [.int (nI m0), .int (nI m3), .int 0, .int (nI m2), .int (nI m3 + 1), .int v_13, .int 1])) := ⟨_, rfl⟩
        have hG : gs_W D classes zb G_14 H := by rw [eG_14]; exact hG
        have hc_15 : G_14 o = some (.inr (3, [.int (nI wn), .int (nI hn), .ref aB, .ref aW, .ref aH, .ref aS, .ref aT, .int (nI nb), .int (nI nw)])) := by rw [eG_14]; exact gs_keep hc_8 hc_11 (by simp)
        have hc_16 : G_14 a2 = some (.inr (2, [.int (nI m0), .int (nI m1), .int (nI m2), .int (nI m3)])) := by rw [eG_14]; exact gs_keep hc_9 hc_11 (by simp)
        have hc_17 : G_14 a1 = some (.inr (1, [.int X, .int Y, .int Z, .int am])) := by rw [eG_14]; exact gs_keep hc_10 hc_11 (by simp)
        have hc_18 : G_14 q_1 = some (.inr (0, [.int (nI m0), .int (nI m3), .int 0, .int (nI m2), .int (nI m3 + 1), .int v_13, .int 1])) := by rw [eG_14]; exact gs_us _ _ _
        have hC : sC k G_14 o aB aW aH aS aT wn hn nb nw ba wa ha bf hf wf sh tk := by rw [eG_14, eG_7, gs_uu]; exact sC_at hC0 hfq_1
        refine lv_iload hx hb d_Ss_deepestTooLittle_33 (lv_at hl 0 rfl) ?_
        refine lv_bipush (v := 100) hx hb d_Ss_deepestTooLittle_35 (by decide) ?_
        refine lv_icmp_gt (tgt := 56) hx hb d_Ss_deepestTooLittle_37 (by decide) (fun c_19 => ?_) (fun c_19 => ?_)
        · refine lv_iload hx hb d_Ss_deepestTooLittle_56 (lv_at hl 7 rfl) ?_
          refine lv_iconst (v := 2) hx hb d_Ss_deepestTooLittle_58 (by decide) ?_
          refine lv_idiv hx hb d_Ss_deepestTooLittle_59 (by decide) ?_
          rw [show nI s9 / 2 = nI (s9 / 2) from pk_div (d := 2) (by omega) (by decide) (by decide)]
          refine lv_istore (lv' := [(6, .int (nI (s9 / 2))), (7, .int v_13), (0, .ref o), (1, .ref a2), (2, .ref a1), (3, .int cs), (4, .ref q_1), (5, .int tl)]) hx hb d_Ss_deepestTooLittle_60 hl (by decide) rfl (fun ls hl => ?_)
          refine lv_goto (tgt := 14) hx hb d_Ss_deepestTooLittle_62 (by decide) ?_
          rw [eG_14, eG_7, gs_uu] at hG
          exact IH (s9 / 2) f9 tl v_13 (by omega) (by omega) (by omega) hs2 (by subst ev_13; rw [hinv, jc_tl_s _ _ _ _ _ h0, if_pos c_19]) _ _ hG hS ls (lv_sub hl [2, 3, 4, 5, 6, 7, 0] rfl)
        · refine lv_aload_n hx hb d_Ss_deepestTooLittle_40 rfl (lv_at hl 1 rfl) ?_
          refine lv_aload_n hx hb d_Ss_deepestTooLittle_41 rfl (lv_at hl 2 rfl) ?_
          refine lv_aload_n hx hb d_Ss_deepestTooLittle_42 rfl (lv_at hl 3 rfl) ?_
          refine lv_aload hx hb d_Ss_deepestTooLittle_43 (lv_at hl 5 rfl) ?_
          refine gs_V (As := [.ref a2, .ref a1, .ref q_1]) (rest := []) (k_dark1 l D k zb G_14 o aB aW aH aS aT wn hn nb nw ba wa ha bf hf wf sh tk a2 m0 m1 m2 m3 a1 X Y Z am q_1 (nI m0) (nI m3) 0 (nI m2) (nI m3 + 1) v_13 1 hC hc_16 hm hm3 hc_17 hc_18) E hml hl.1 (cg_V (C := R_Ss) hw w_376 w_373 w_1 w_375 sel_Ss_darkCells hd_Ss_darkCells ⟨by exact Nat.le_of_ble_eq_true rfl, by exact Nat.le_of_ble_eq_true rfl⟩) hG hK hX hS hc_15 rfl rfl rfl rfl (by exact Nat.le_of_ble_eq_true rfl) d_Ss_deepestTooLittle_45 ⟨by exact Nat.le_of_ble_eq_true rfl, by exact Nat.le_of_ble_eq_true rfl⟩ (fun v G1 H locs hp hG hS => ?_)
          obtain ⟨hv1, hG1⟩ := hp
          subst hv1
          rw [hG1] at hG
          refine W.eq (g2 := F0 m 48 ls [.int (jc_dark nb bf X Y Z (nI wn) (ld_box 1 (nI m0) (nI m3) 0 (nI m2) (nI m3 + 1) v_13 X Y Z (nI wn)) m0 m1 m2 m3)]) rfl ?_
          refine lv_iload_n hx hb d_Ss_deepestTooLittle_48 rfl (lv_at hl 4 rfl) ?_
          refine lv_icmp_ge (tgt := 56) hx hb d_Ss_deepestTooLittle_49 (by decide) (fun c_20 => ?_) (fun c_20 => ?_)
          · refine lv_iload hx hb d_Ss_deepestTooLittle_56 (lv_at hl 7 rfl) ?_
            refine lv_iconst (v := 2) hx hb d_Ss_deepestTooLittle_58 (by decide) ?_
            refine lv_idiv hx hb d_Ss_deepestTooLittle_59 (by decide) ?_
            rw [show nI s9 / 2 = nI (s9 / 2) from pk_div (d := 2) (by omega) (by decide) (by decide)]
            refine lv_istore (lv' := [(6, .int (nI (s9 / 2))), (7, .int v_13), (0, .ref o), (1, .ref a2), (2, .ref a1), (3, .int cs), (4, .ref q_1), (5, .int tl)]) hx hb d_Ss_deepestTooLittle_60 hl (by decide) rfl (fun ls hl => ?_)
            refine lv_goto (tgt := 14) hx hb d_Ss_deepestTooLittle_62 (by decide) ?_
            rw [eG_14, eG_7, gs_uu] at hG
            exact IH (s9 / 2) f9 tl v_13 (by omega) (by omega) (by omega) hs2 (by subst ev_13; rw [hinv, jc_tl_s _ _ _ _ _ h0, if_neg c_19, if_pos c_20]) _ _ hG hS ls (lv_sub hl [2, 3, 4, 5, 6, 7, 0] rfl)
          · refine lv_iload hx hb d_Ss_deepestTooLittle_52 (lv_at hl 0 rfl) ?_
            refine lv_istore (lv' := [(5, .int v_13), (7, .int v_13), (0, .ref o), (1, .ref a2), (2, .ref a1), (3, .int cs), (4, .ref q_1), (6, .int (nI s9))]) hx hb d_Ss_deepestTooLittle_54 hl (by decide) rfl (fun ls hl => ?_)
            refine lv_iload hx hb d_Ss_deepestTooLittle_56 (lv_at hl 7 rfl) ?_
            refine lv_iconst (v := 2) hx hb d_Ss_deepestTooLittle_58 (by decide) ?_
            refine lv_idiv hx hb d_Ss_deepestTooLittle_59 (by decide) ?_
            rw [show nI s9 / 2 = nI (s9 / 2) from pk_div (d := 2) (by omega) (by decide) (by decide)]
            refine lv_istore (lv' := [(6, .int (nI (s9 / 2))), (5, .int v_13), (7, .int v_13), (0, .ref o), (1, .ref a2), (2, .ref a1), (3, .int cs), (4, .ref q_1)]) hx hb d_Ss_deepestTooLittle_60 hl (by decide) rfl (fun ls hl => ?_)
            refine lv_goto (tgt := 14) hx hb d_Ss_deepestTooLittle_62 (by decide) ?_
            rw [eG_14, eG_7, gs_uu] at hG
            exact IH (s9 / 2) f9 v_13 v_13 (by omega) (by omega) (by omega) hs2 (by subst ev_13; rw [hinv, jc_tl_s _ _ _ _ _ h0, if_neg c_19, if_neg c_20]) _ _ hG hS ls (lv_sub hl [3, 4, 5, 6, 7, 1, 0] rfl)
  exact lp (64 + 1) 64 8 0 0 (by omega) (by omega) (by decide) (by decide) rfl _ _ hG hS ls (lv_sub hl [3, 4, 5, 6, 2, 1, 0] rfl)
set_option maxHeartbeats 4000000 in
set_option maxRecDepth 100000 in
theorem k_Ss_deep (l : Launch) (hnt : l.stackTraces = false) (D : va_G) (k : Nat → ClassId) (zb : Nat) (G : Nat → Option va_E) (o aB aW aH aS aT : Nat) (wn hn nb nw : Nat) (ba wa ha : Nat → Nat) (bf hf : Nat → Nat → Int32) (wf : Nat → Nat → Nat) (sh : Nat → Int64) (tk : Nat → Int32) (q t cs : Int32) (hC : sC k G o aB aW aH aS aT wn hn nb nw ba wa ha bf hf wf sh tk) : vx_Met l y_Ss_deep (wM y_Ss_deep c_Ss_deep 7 (some .int)) ({ frames := 8, cells := 4, slots := 25, locals := 161 }) (gs_P D k zb G [.ref o, .int q, .int t, .int cs]) (gs_Q D zb (fun v G1 => ∃ i j : Nat, i < 24 ∧ t = nI i ∧ ¬ jc_hasSun (hf i 2) = 0 ∧ j < nw ∧ q = nI j ∧ ¬ cs < 0 ∧ ((¬ jc_dark nb bf (hf i 0) (hf i 1) (hf i 2) (nI wn) ld_no (wf j 0) (wf j 1) (wf j 2) (wf j 3) < cs ∧ v = some (.int 0) ∧ G1 = G) ∨ (jc_dark nb bf (hf i 0) (hf i 1) (hf i 2) (nI wn) ld_no (wf j 0) (wf j 1) (wf j 2) (wf j 3) < cs ∧ v = some (.int (if 100 ≤ jc_tl (fun d => jc_dark nb bf (hf i 0) (hf i 1) (hf i 2) (nI wn) (ld_box 1 (nI (wf j 0)) (nI (wf j 3)) 0 (nI (wf j 2)) (nI (wf j 3) + 1) d (hf i 0) (hf i 1) (hf i 2) (nI wn)) (wf j 0) (wf j 1) (wf j 2) (wf j 3)) cs 8 64 0 then (-1) else jc_tl (fun d => jc_dark nb bf (hf i 0) (hf i 1) (hf i 2) (nI wn) (ld_box 1 (nI (wf j 0)) (nI (wf j 3)) 0 (nI (wf j 2)) (nI (wf j 3) + 1) d (hf i 0) (hf i 1) (hf i 2) (nI wn)) (wf j 0) (wf j 1) (wf j 2) (wf j 3)) cs 8 64 0 + 1)) ∧ ∃ (a : Nat) (z9 : Int32), G a = none ∧ G1 = gs_u G a (.inr (0, [.int (nI (wf j 0)), .int (nI (wf j 3)), .int 0, .int (nI (wf j 2)), .int (nI (wf j 3) + 1), .int z9, .int 1])))))) (gs_T D zb G (fun E => (E = e_IA ∧ ((¬ ∃ i : Nat, i < nw ∧ q = nI i) ∨ cs < 0 ∨ (¬ ∃ i : Nat, i < 24 ∧ t = nI i))) ∨ (E = e_IS ∧ (∃ i : Nat, i < nw ∧ q = nI i) ∧ ¬ cs < 0 ∧ (∃ i : Nat, i < 24 ∧ t = nI i ∧ jc_hasSun (hf i 2) = 0)))) 4 25 (fun q : Nat => zb ≤ q) := by
  refine vx_ofW (cc := c_Ss_deep) (maxL := 7) (ret := (some .int)) (by decide) rfl ?_
  intro p e s m args below meth c s₁ B hml ht hv
  obtain ⟨rfl, hG, hK, hX⟩ := hv
  have hx := B.exec
  have hb := B.bytes
  have hr := B.returns
  have hts := atoms_spec (ws := wM y_Ss_deep c_Ss_deep 7 (some .int)) B.pre
  have hw : ∀ w9 ∈ wW, w9.before ([.ref o, .int q, .int t, .int cs] : List Value).toArray s = true := fun w9 h9 => hts w9 (gi_in w9 h9)
  have hown : s.vm.findClass R_Ss = some m.cls := findClass_of_methodNamed B.named
  have hlocks := B.notSynchronized
  have E : gs_E p s m ([.ref o, .int q, .int t, .int cs] : List Value).toArray c c_Ss_deep wW R_Ss := ⟨hx, hb, hw, hown⟩
  have hS : gs_S zb s.heap s.heap [] := va_S.rf
  have hl := lv_entry ([.ref o, .int q, .int t, .int cs]) (n := 7) (Nat.le_of_ble_eq_true rfl)
  rw [lg_entry_eq]
  generalize (lg_sl ([.ref o, .int q, .int t, .int cs]) ++ List.replicate (7 - (lg_sl ([.ref o, .int q, .int t, .int cs])).length) Slot.unset).toArray = ls at hl ⊢
  have hl : lv_has ls 7 [(0, .ref o), (1, .int q), (2, .int t), (3, .int cs)] := hl
  refine lv_aload_n hx hb d_Ss_deep_0 rfl (lv_at hl 0 rfl) ?_
  refine lv_iload_n hx hb d_Ss_deep_1 rfl (lv_at hl 1 rfl) ?_
  refine gs_VX (As := [.int q]) (rest := []) (k_Ss_knownWindow l hnt D k zb G o aB aW aH aS aT wn hn nb nw ba wa ha bf hf wf sh tk q hC) E hml hl.1 (cg_V (C := R_Ss) hw w_371 w_368 w_1 w_370 sel_Ss_knownWindow hd_Ss_knownWindow ⟨by exact Nat.le_of_ble_eq_true rfl, by exact Nat.le_of_ble_eq_true rfl⟩) hG hK hX hS hC.1.1 rfl rfl rfl rfl (by exact Nat.le_of_ble_eq_true rfl) d_Ss_deep_2 ⟨by exact Nat.le_of_ble_eq_true rfl, by exact Nat.le_of_ble_eq_true rfl⟩ (fun E9 ce q9 H locs hp hG hS hq1 hq2 hq3 => ?_) (fun v G1 H locs hp hG hS => ?_)
  · exact gs_on ht hlocks (Or.inl ⟨hp.1, Or.inl hp.2⟩) hG hS hq1 hq2 hq3 (by decide) (by decide)
  obtain ⟨iw, hiw, eiw, hv1, hG1⟩ := hp
  subst hv1
  rw [hG1] at hG
  refine W.eq (g2 := F0 m 5 ls [.ref (wa iw)]) rfl ?_
  refine lv_astore (lv' := [(4, .ref (wa iw)), (0, .ref o), (1, .int q), (2, .int t), (3, .int cs)]) hx hb d_Ss_deep_5 hl (by decide) rfl (fun ls hl => ?_)
  refine lv_iload_n hx hb d_Ss_deep_7 rfl (lv_at hl 4 rfl) ?_
  refine lv_if_ge (tgt := 21) hx hb d_Ss_deep_8 (by decide) (fun c_1 => ?_) (fun c_1 => ?_)
  · have hnb : ¬ cs < 0 := by rw [i_lt]; rw [i_le] at c_1; omega
    refine lv_aload_n hx hb d_Ss_deep_21 rfl (lv_at hl 1 rfl) ?_
    refine lv_iload_n hx hb d_Ss_deep_22 rfl (lv_at hl 3 rfl) ?_
    refine gs_VX (As := [.int t]) (rest := []) (k_Ss_sunnyHour l hnt D k zb G o aB aW aH aS aT wn hn nb nw ba wa ha bf hf wf sh tk t hC) E hml hl.1 (cg_V (C := R_Ss) hw w_304 w_301 w_1 w_303 sel_Ss_sunnyHour hd_Ss_sunnyHour ⟨by exact Nat.le_of_ble_eq_true rfl, by exact Nat.le_of_ble_eq_true rfl⟩) hG hK hX hS hC.1.1 rfl rfl rfl rfl (by exact Nat.le_of_ble_eq_true rfl) d_Ss_deep_23 ⟨by exact Nat.le_of_ble_eq_true rfl, by exact Nat.le_of_ble_eq_true rfl⟩ (fun E9 ce q9 H locs hp hG hS hq1 hq2 hq3 => ?_) (fun v G1 H locs hp hG hS => ?_)
    · exact gs_on ht hlocks (hp.elim (fun q => Or.inl ⟨q.1, Or.inr (Or.inr q.2)⟩) (fun q => Or.inr ⟨q.1, ⟨iw, hiw, eiw⟩, hnb, q.2⟩)) hG hS hq1 hq2 hq3 (by decide) (by decide)
    obtain ⟨ih, hih, eih, hsun, hv1, hG1⟩ := hp
    subst hv1
    rw [hG1] at hG
    refine W.eq (g2 := F0 m 26 ls [.ref (ha ih)]) rfl ?_
    refine lv_astore (lv' := [(5, .ref (ha ih)), (4, .ref (wa iw)), (0, .ref o), (1, .int q), (2, .int t), (3, .int cs)]) hx hb d_Ss_deep_26 hl (by decide) rfl (fun ls hl => ?_)
    refine lv_aload_n hx hb d_Ss_deep_28 rfl (lv_at hl 2 rfl) ?_
    refine lv_aload hx hb d_Ss_deep_29 (lv_at hl 1 rfl) ?_
    refine lv_aload hx hb d_Ss_deep_31 (lv_at hl 0 rfl) ?_
    refine lv_null hx hb d_Ss_deep_33 ?_
    refine gs_V (As := [.ref (wa iw), .ref (ha ih), .null]) (rest := []) (k_dark0 l D k zb G o aB aW aH aS aT wn hn nb nw ba wa ha bf hf wf sh tk (wa iw) (wf iw 0) (wf iw 1) (wf iw 2) (wf iw 3) (ha ih) (hf ih 0) (hf ih 1) (hf ih 2) (hf ih 3) hC (hC.2.2.2.1 iw hiw) (Nat.le_of_lt (hC.2.2.2.2.2.2.2 iw hiw).2.2.1) (Nat.le_trans (hC.2.2.2.2.2.2.2 iw hiw).2.2.2 hC.2.1.2.2.2.2.2) (hC.2.2.2.2.1 ih hih)) E hml hl.1 (cg_V (C := R_Ss) hw w_376 w_373 w_1 w_375 sel_Ss_darkCells hd_Ss_darkCells ⟨by exact Nat.le_of_ble_eq_true rfl, by exact Nat.le_of_ble_eq_true rfl⟩) hG hK hX hS hC.1.1 rfl rfl rfl rfl (by exact Nat.le_of_ble_eq_true rfl) d_Ss_deep_34 ⟨by exact Nat.le_of_ble_eq_true rfl, by exact Nat.le_of_ble_eq_true rfl⟩ (fun v G1 H locs hp hG hS => ?_)
    obtain ⟨hv1, hG1⟩ := hp
    subst hv1
    rw [hG1] at hG
    refine W.eq (g2 := F0 m 37 ls [.int (jc_dark nb bf (hf ih 0) (hf ih 1) (hf ih 2) (nI wn) ld_no (wf iw 0) (wf iw 1) (wf iw 2) (wf iw 3))]) rfl ?_
    refine lv_iload_n hx hb d_Ss_deep_37 rfl (lv_at hl 5 rfl) ?_
    refine lv_icmp_lt (tgt := 43) hx hb d_Ss_deep_38 (by decide) (fun c_2 => ?_) (fun c_2 => ?_)
    · refine lv_aload_n hx hb d_Ss_deep_43 rfl (lv_at hl 2 rfl) ?_
      refine lv_aload hx hb d_Ss_deep_44 (lv_at hl 1 rfl) ?_
      refine lv_aload hx hb d_Ss_deep_46 (lv_at hl 0 rfl) ?_
      refine lv_iload_n hx hb d_Ss_deep_48 rfl (lv_at hl 5 rfl) ?_
      refine gs_V (As := [.ref (wa iw), .ref (ha ih), .int cs]) (rest := []) (k_Ss_deepestTooLittle l D k zb G o aB aW aH aS aT wn hn nb nw ba wa ha bf hf wf sh tk (wa iw) (wf iw 0) (wf iw 1) (wf iw 2) (wf iw 3) (ha ih) (hf ih 0) (hf ih 1) (hf ih 2) (hf ih 3) cs hC (hC.2.2.2.1 iw hiw) (Nat.le_of_lt (hC.2.2.2.2.2.2.2 iw hiw).2.2.1) (Nat.le_trans (hC.2.2.2.2.2.2.2 iw hiw).2.2.2 hC.2.1.2.2.2.2.2) (hC.2.2.2.2.1 ih hih)) E hml hl.1 (cg_V (C := R_Ss) hw w_440 w_437 w_1 w_439 sel_Ss_deepestTooLittle hd_Ss_deepestTooLittle ⟨by exact Nat.le_of_ble_eq_true rfl, by exact Nat.le_of_ble_eq_true rfl⟩) hG hK hX hS hC.1.1 rfl rfl rfl rfl (by exact Nat.le_of_ble_eq_true rfl) d_Ss_deep_49 ⟨by exact Nat.le_of_ble_eq_true rfl, by exact Nat.le_of_ble_eq_true rfl⟩ (fun v G1 H locs hp hG hS => ?_)
      obtain ⟨q_3, z9, hfq_3, hv1, hG1⟩ := hp
      subst hv1
      refine W.eq (g2 := F0 m 52 ls [.int (jc_tl (fun d => jc_dark nb bf (hf ih 0) (hf ih 1) (hf ih 2) (nI wn) (ld_box 1 (nI (wf iw 0)) (nI (wf iw 3)) 0 (nI (wf iw 2)) (nI (wf iw 3) + 1) d (hf ih 0) (hf ih 1) (hf ih 2) (nI wn)) (wf iw 0) (wf iw 1) (wf iw 2) (wf iw 3)) cs 8 64 0)]) rfl ?_
      refine lv_topi (fun v_4 ev_4 => ?_)
      refine lv_istore (lv' := [(6, .int v_4), (5, .ref (ha ih)), (4, .ref (wa iw)), (0, .ref o), (1, .int q), (2, .int t), (3, .int cs)]) hx hb d_Ss_deep_52 hl (by decide) rfl (fun ls hl => ?_)
      refine lv_iload hx hb d_Ss_deep_54 (lv_at hl 0 rfl) ?_
      refine lv_bipush (v := 100) hx hb d_Ss_deep_56 (by decide) ?_
      refine lv_icmp_ge (tgt := 68) hx hb d_Ss_deep_58 (by decide) (fun c_5 => ?_) (fun c_5 => ?_)
      · refine lv_iconst (v := (-1)) hx hb d_Ss_deep_68 (by decide) ?_
        refine vx_ret ?_
        refine W.iret (v := (-1)) hx hb hr (gs_end ?_ hG hS) hS.2.2 d_Ss_deep_69
        exact ⟨ih, iw, hih, eih, hsun, hiw, eiw, hnb, Or.inr ⟨c_2, by subst ev_4; rw [if_pos c_5], q_3, z9, hfq_3, hG1⟩⟩
      · refine lv_iload hx hb d_Ss_deep_61 (lv_at hl 0 rfl) ?_
        refine lv_iconst (v := 1) hx hb d_Ss_deep_63 (by decide) ?_
        refine lv_iadd hx hb d_Ss_deep_64 ?_
        refine lv_goto (tgt := 69) hx hb d_Ss_deep_65 (by decide) ?_
        refine vx_ret ?_
        refine W.iret (v := (v_4 + 1)) hx hb hr (gs_end ?_ hG hS) hS.2.2 d_Ss_deep_69
        exact ⟨ih, iw, hih, eih, hsun, hiw, eiw, hnb, Or.inr ⟨c_2, by subst ev_4; rw [if_neg c_5], q_3, z9, hfq_3, hG1⟩⟩
    · refine lv_iconst (v := 0) hx hb d_Ss_deep_41 (by decide) ?_
      refine W.widen (k := 4) (n := 25) (by decide) (by decide) ?_
      refine vx_ret ?_
      refine W.iret (v := 0) hx hb hr (gs_end ?_ hG hS) hS.2.2 d_Ss_deep_42
      exact ⟨ih, iw, hih, eih, hsun, hiw, eiw, hnb, Or.inl ⟨c_2, rfl, rfl⟩⟩
  · have hnb : cs < 0 := by rw [i_le] at c_1; rw [i_lt]; omega
    exact gs_throwIA (text := "cells are not below 0") hnt E hG hK hX hS ht (hl.1.trans hml.symm) w_103 w_9 (by decide) (Or.inl ⟨rfl, Or.inr (Or.inl hnb)⟩) d_Ss_deep_11 d_Ss_deep_14 d_Ss_deep_15 d_Ss_deep_17 d_Ss_deep_20 (by exact Nat.le_of_ble_eq_true rfl) (by exact Nat.le_of_ble_eq_true rfl) (by exact Nat.le_of_ble_eq_true rfl) (by exact Nat.le_of_ble_eq_true rfl) hlocks (by decide) (by decide)
set_option maxHeartbeats 4000000 in
set_option maxRecDepth 100000 in
theorem k_Ss_shadeOfOneBoxOnly (l : Launch) (D : va_G) (k : Nat → ClassId) (zb : Nat) (G : Nat → Option va_E) (o aB aW aH aS aT : Nat) (wn hn nb nw : Nat) (ba wa ha : Nat → Nat) (bf hf : Nat → Nat → Int32) (wf : Nat → Nat → Nat) (sh : Nat → Int64) (tk : Nat → Int32) (a1 : Nat) (X Y Z am : Int32) (y : Int32) (hC : sC k G o aB aW aH aS aT wn hn nb nw ba wa ha bf hf wf sh tk) (hb1 : G a1 = some (.inr (1, [.int X, .int Y, .int Z, .int am]))) : Met l y_Ss_shadeOfOneBoxOnly (wM y_Ss_shadeOfOneBoxOnly c_Ss_shadeOfOneBoxOnly 11 (some .long)) ({ frames := 3, cells := 0, slots := 0, locals := 77 }) (gs_P D k zb G [.ref o, .int y, .ref a1]) (gs_Q D zb (fun v G1 => v = some (.long (jc_alone (jc_shi nb bf X Y Z y (nI wn)))) ∧ ∃ sh9 : Nat → Int64, (∀ j, j < 10 → sh9 j = (jc_shi nb bf X Y Z y (nI wn)) j) ∧ G1 = gs_u G aS (aLong (k 1) 10 sh9))) 0 0 (fun q : Nat => zb ≤ q) := by
  refine Met.ofW (cc := c_Ss_shadeOfOneBoxOnly) (maxL := 11) (ret := (some .long)) (by decide) rfl ?_
  intro p e s m args below meth c s₁ B hml hv
  obtain ⟨rfl, hG, hK, hX⟩ := hv
  have hx := B.exec
  have hb := B.bytes
  have hr := B.returns
  have hts := atoms_spec (ws := wM y_Ss_shadeOfOneBoxOnly c_Ss_shadeOfOneBoxOnly 11 (some .long)) B.pre
  have hw : ∀ w9 ∈ wW, w9.before ([.ref o, .int y, .ref a1] : List Value).toArray s = true := fun w9 h9 => hts w9 (gi_in w9 h9)
  have hown : s.vm.findClass R_Ss = some m.cls := findClass_of_methodNamed B.named
  have hlocks := B.notSynchronized
  have E : gs_E p s m ([.ref o, .int y, .ref a1] : List Value).toArray c c_Ss_shadeOfOneBoxOnly wW R_Ss := ⟨hx, hb, hw, hown⟩
  have hS : gs_S zb s.heap s.heap [] := va_S.rf
  have hl := lv_entry ([.ref o, .int y, .ref a1]) (n := 11) (Nat.le_of_ble_eq_true rfl)
  rw [lg_entry_eq]
  generalize (lg_sl ([.ref o, .int y, .ref a1]) ++ List.replicate (11 - (lg_sl ([.ref o, .int y, .ref a1])).length) Slot.unset).toArray = ls at hl ⊢
  have hl : lv_has ls 11 [(0, .ref o), (1, .int y), (2, .ref a1)] := hl
  have hC0 := hC
  refine lv_lconst (v := 0) hx hb d_Ss_shadeOfOneBoxOnly_0 (by decide) ?_
  refine lv_lstore_n (lv' := [(3, .long 0), (0, .ref o), (1, .int y), (2, .ref a1)]) hx hb d_Ss_shadeOfOneBoxOnly_1 rfl hl (by decide) rfl (fun ls hl => ?_)
  refine lv_lconst (v := 0) hx hb d_Ss_shadeOfOneBoxOnly_2 (by decide) ?_
  refine lv_lstore (lv' := [(5, .long 0), (3, .long 0), (0, .ref o), (1, .int y), (2, .ref a1)]) hx hb d_Ss_shadeOfOneBoxOnly_3 hl (by decide) rfl (fun ls hl => ?_)
  refine lv_iconst (v := 0) hx hb d_Ss_shadeOfOneBoxOnly_5 (by decide) ?_
  refine lv_istore (lv' := [(7, .int 0), (5, .long 0), (3, .long 0), (0, .ref o), (1, .int y), (2, .ref a1)]) hx hb d_Ss_shadeOfOneBoxOnly_6 hl (by decide) rfl (fun ls hl => ?_)
  rw [← gs_id hC0.1.2.2.2.2.1] at hG
  have lp : ∀ (fu : Nat) (i : Nat) (o1 : Int64) (o2 : Int64) (sh9 : Nat → Int64), i ≤ 10 → 10 + 1 ≤ i + fu → (h1 : o1 = jc_one (jc_shi nb bf X Y Z y (nI wn)) i) → (h2 : o2 = jc_more (jc_shi nb bf X Y Z y (nI wn)) i) → (h3 : ∀ j, j < i → sh9 j = (jc_shi nb bf X Y Z y (nI wn)) j) → ∀ (H : Heap) (locs : List Loc), gs_W D classes zb (gs_u G aS (aLong (k 1) 10 sh9)) H → gs_S zb s.heap H locs → ∀ (ls : Array Slot), lv_has ls 11 [(0, .ref o), (1, .int y), (2, .ref a1), (3, .long o1), (5, .long o2), (7, .int (nI i))] → W p l e (headSpec (wM y_Ss_shadeOfOneBoxOnly c_Ss_shadeOfOneBoxOnly 11 (some .long)) ({ frames := 3, cells := 0, slots := 0, locals := 77 })).room s m ([.ref o, .int y, .ref a1] : List Value).toArray below meth c H locs 0 0 (MQ below (gs_Q D zb (fun v G1 => v = some (.long (jc_alone (jc_shi nb bf X Y Z y (nI wn)))) ∧ ∃ sh9 : Nat → Int64, (∀ j, j < 10 → sh9 j = (jc_shi nb bf X Y Z y (nI wn)) j) ∧ G1 = gs_u G aS (aLong (k 1) 10 sh9))) ([.ref o, .int y, .ref a1] : List Value).toArray s 0 0 (fun q : Nat => zb ≤ q)) (F0 m 8 ls []) := by
    intro fu
    induction fu with
    | zero => intro i o1 o2 sh9 hle hfu; exact absurd hfu (by omega)
    | succ fu IH =>
      intro i o1 o2 sh9 hle hfu h1 h2 h3 H locs hG hS ls hl
      obtain ⟨G_1, eG_1⟩ : ∃ z, z = gs_u G aS (aLong (k 1) 10 sh9) := ⟨_, rfl⟩
      rw [← eG_1] at hG
      have hC : sC k G_1 o aB aW aH aS aT wn hn nb nw ba wa ha bf hf wf sh9 tk := by rw [eG_1]; exact sC_S hC0 sh9
      have hc_2 : G_1 a1 = some (.inr (1, [.int X, .int Y, .int Z, .int am])) := by rw [eG_1]; exact gs_keep hb1 hC0.1.2.2.2.2.1 (by simp)
      refine lv_iload hx hb d_Ss_shadeOfOneBoxOnly_8 (lv_at hl 5 rfl) ?_
      refine lv_aload_n hx hb d_Ss_shadeOfOneBoxOnly_10 rfl (lv_at hl 0 rfl) ?_
      refine gs_get E hK.1 hG hC.1.1 (C := R_Ss) (T := F_Ss) (N := 9) rfl i_Ss 2 (by decide) w_62 (v := .ref aB) rfl d_Ss_shadeOfOneBoxOnly_11 ?_
      refine gs_alen E hK.1 hG hC.1.2.1 3 rfl (v := 10) rfl d_Ss_shadeOfOneBoxOnly_14 ?_
      refine lv_icmp_ge (tgt := 88) hx hb d_Ss_shadeOfOneBoxOnly_15 (by decide) (fun c_3 => ?_) (fun c_3 => ?_)
      · have hi : i = 10 := cl_eq (N := 10) (by decide) hle c_3
        refine lv_lload_n hx hb d_Ss_shadeOfOneBoxOnly_88 rfl (lv_at hl 3 rfl) ?_
        refine lv_lload hx hb d_Ss_shadeOfOneBoxOnly_89 (lv_at hl 4 rfl) ?_
        refine lv_ldc2 hx hb hown (v := (-1)) (hw _ w_456) d_Ss_shadeOfOneBoxOnly_91 ?_
        refine lv_lxor hx hb d_Ss_shadeOfOneBoxOnly_94 ?_
        refine lv_land hx hb d_Ss_shadeOfOneBoxOnly_95 ?_
        rw [eG_1] at hG
        exact W.lret (v := (o1 &&& (o2 ^^^ (-1)))) hx hb hr (gs_end ⟨by rw [h1, h2, hi]; rfl, sh9, fun j hj => h3 j (by omega), rfl⟩ hG hS) hS.2.2 d_Ss_shadeOfOneBoxOnly_96
      · have hi : i < 10 := cl_lt (N := 10) (by decide) hle c_3
        refine lv_iload hx hb d_Ss_shadeOfOneBoxOnly_18 (lv_at hl 5 rfl) ?_
        refine lv_aload_n hx hb d_Ss_shadeOfOneBoxOnly_20 rfl (lv_at hl 0 rfl) ?_
        refine gs_get E hK.1 hG hC.1.1 (C := R_Ss) (T := F_Ss) (N := 9) rfl i_Ss 5 (by decide) w_65 (v := .ref aS) rfl d_Ss_shadeOfOneBoxOnly_21 ?_
        refine gs_alen E hK.1 hG hC.1.2.2.2.2.1 1 rfl (v := 10) rfl d_Ss_shadeOfOneBoxOnly_24 ?_
        refine lv_icmp_ge (tgt := 88) hx hb d_Ss_shadeOfOneBoxOnly_25 (by decide) (fun c_4 => ?_) (fun c_4 => ?_)
        · exact absurd c_4 c_3
        · have hi : i < 10 := cl_lt (N := 10) (by decide) hle c_4
          refine lv_aload_n hx hb d_Ss_shadeOfOneBoxOnly_28 rfl (lv_at hl 0 rfl) ?_
          refine gs_get E hK.1 hG hC.1.1 (C := R_Ss) (T := F_Ss) (N := 9) rfl i_Ss 2 (by decide) w_62 (v := .ref aB) rfl d_Ss_shadeOfOneBoxOnly_29 ?_
          refine lv_iload hx hb d_Ss_shadeOfOneBoxOnly_32 (lv_at hl 5 rfl) ?_
          by_cases hq_5 : i < nb
          · refine gn_aldS E hK.1 hG hC.1.2.1 3 rfl (j := i) hi (by decide) (upTo_in hq_5) d_Ss_shadeOfOneBoxOnly_34 ?_
            refine lv_astore (lv' := [(8, .ref (ba i)), (0, .ref o), (1, .int y), (2, .ref a1), (3, .long o1), (5, .long o2), (7, .int (nI i))]) hx hb d_Ss_shadeOfOneBoxOnly_35 hl (by decide) rfl (fun ls hl => ?_)
            refine lv_aload hx hb d_Ss_shadeOfOneBoxOnly_37 (lv_at hl 0 rfl) ?_
            refine lv_ifnonnull (tgt := 46) hx hb d_Ss_shadeOfOneBoxOnly_39 (by decide) ?_
            refine lv_aload hx hb d_Ss_shadeOfOneBoxOnly_46 (lv_at hl 0 rfl) ?_
            refine lv_iload_n hx hb d_Ss_shadeOfOneBoxOnly_48 rfl (lv_at hl 2 rfl) ?_
            refine lv_aload_n hx hb d_Ss_shadeOfOneBoxOnly_49 rfl (lv_at hl 3 rfl) ?_
            refine lv_aload_n hx hb d_Ss_shadeOfOneBoxOnly_50 rfl (lv_at hl 1 rfl) ?_
            refine gs_get E hK.1 hG hC.1.1 (C := R_Ss) (T := F_Ss) (N := 9) rfl i_Ss 0 (by decide) w_60 (v := .int (nI wn)) rfl d_Ss_shadeOfOneBoxOnly_51 ?_
            refine gs_V (As := [.int y, .ref a1, .int (nI wn)]) (rest := []) (k_Bx_shadeThrownOnRow l D k zb G_1 (ba i) (bf i 0) (bf i 1) (bf i 2) (bf i 3) (bf i 4) (bf i 5) (bf i 6) a1 X Y Z am y (nI wn) (hC.2.2.1 i hq_5) hc_2) E hml hl.1 (cg_V (C := R_Bx) hw w_317 w_314 w_5 w_315 sel_Bx_shadeThrownOnRow hd_Bx_shadeThrownOnRow ⟨by exact Nat.le_of_ble_eq_true rfl, by exact Nat.le_of_ble_eq_true rfl⟩) hG hK hX hS (hC.2.2.1 i hq_5) rfl rfl rfl rfl (by exact Nat.le_of_ble_eq_true rfl) d_Ss_shadeOfOneBoxOnly_54 ⟨by exact Nat.le_of_ble_eq_true rfl, by exact Nat.le_of_ble_eq_true rfl⟩ (fun v G1 H locs hp hG hS => ?_)
            obtain ⟨hv1, hG1⟩ := hp
            subst hv1
            rw [hG1] at hG
            refine W.eq (g2 := F0 m 57 ls [.long (jc_shade (bf i 6) (bf i 0) (bf i 1) (bf i 2) (bf i 3) (bf i 4) (bf i 5) X Y Z y (nI wn))]) rfl ?_
            refine lv_topl (fun v_6 ev_6 => ?_)
            refine lv_lstore (lv' := [(9, .long v_6), (8, .ref (ba i)), (0, .ref o), (1, .int y), (2, .ref a1), (3, .long o1), (5, .long o2), (7, .int (nI i))]) hx hb d_Ss_shadeOfOneBoxOnly_57 hl (by decide) rfl (fun ls hl => ?_)
            refine lv_aload_n hx hb d_Ss_shadeOfOneBoxOnly_59 rfl (lv_at hl 2 rfl) ?_
            refine gs_get E hK.1 hG hC.1.1 (C := R_Ss) (T := F_Ss) (N := 9) rfl i_Ss 5 (by decide) w_65 (v := .ref aS) rfl d_Ss_shadeOfOneBoxOnly_60 ?_
            refine lv_iload hx hb d_Ss_shadeOfOneBoxOnly_63 (lv_at hl 7 rfl) ?_
            refine lv_lload hx hb d_Ss_shadeOfOneBoxOnly_65 (lv_at hl 0 rfl) ?_
            refine gn_last E hK.1 hG hS hC.1.2.2.2.2.1 1 rfl (j := i) hi (by decide) d_Ss_shadeOfOneBoxOnly_67 (fun H locs hG hS => ?_)
            obtain ⟨G_7, eG_7⟩ : ∃ z, z = gs_u G_1 aS (aLong (k 1) 10 (vp_updL sh9 i v_6)) := ⟨_, rfl⟩
            have hG : gs_W D classes zb G_7 H := by rw [eG_7]; exact hG
            have hc_8 : G_7 o = some (.inr (3, [.int (nI wn), .int (nI hn), .ref aB, .ref aW, .ref aH, .ref aS, .ref aT, .int (nI nb), .int (nI nw)])) := by rw [eG_7]; exact gs_keep hC.1.1 hC.1.2.2.2.2.1 (by simp)
            have hc_9 : G_7 aB = some (aRef (k 3) 10 (upTo nb ba)) := by rw [eG_7]; exact gs_keep hC.1.2.1 hC.1.2.2.2.2.1 (by simp)
            have hc_10 : G_7 a1 = some (.inr (1, [.int X, .int Y, .int Z, .int am])) := by rw [eG_7]; exact gs_keep hc_2 hC.1.2.2.2.2.1 (by simp)
            have hc_11 : G_7 (ba i) = some (.inr (0, [.int (bf i 0), .int (bf i 1), .int (bf i 2), .int (bf i 3), .int (bf i 4), .int (bf i 5), .int (bf i 6)])) := by rw [eG_7]; exact gs_keep (hC.2.2.1 i hq_5) hC.1.2.2.2.2.1 (by simp)
            have hc_12 : G_7 aS = some (aLong (k 1) 10 (vp_updL sh9 i v_6)) := by rw [eG_7]; exact gs_us _ _ _
            refine lv_lload hx hb d_Ss_shadeOfOneBoxOnly_68 (lv_at hl 6 rfl) ?_
            refine lv_lload_n hx hb d_Ss_shadeOfOneBoxOnly_70 rfl (lv_at hl 5 rfl) ?_
            refine lv_lload hx hb d_Ss_shadeOfOneBoxOnly_71 (lv_at hl 0 rfl) ?_
            refine lv_land hx hb d_Ss_shadeOfOneBoxOnly_73 ?_
            refine lv_lor hx hb d_Ss_shadeOfOneBoxOnly_74 ?_
            refine lv_topl (fun v_13 ev_13 => ?_)
            refine lv_lstore (lv' := [(5, .long v_13), (9, .long v_6), (8, .ref (ba i)), (0, .ref o), (1, .int y), (2, .ref a1), (3, .long o1), (7, .int (nI i))]) hx hb d_Ss_shadeOfOneBoxOnly_75 hl (by decide) rfl (fun ls hl => ?_)
            refine lv_lload_n hx hb d_Ss_shadeOfOneBoxOnly_77 rfl (lv_at hl 6 rfl) ?_
            refine lv_lload hx hb d_Ss_shadeOfOneBoxOnly_78 (lv_at hl 1 rfl) ?_
            refine lv_lor hx hb d_Ss_shadeOfOneBoxOnly_80 ?_
            refine lv_topl (fun v_14 ev_14 => ?_)
            refine lv_lstore_n (lv' := [(3, .long v_14), (5, .long v_13), (9, .long v_6), (8, .ref (ba i)), (0, .ref o), (1, .int y), (2, .ref a1), (7, .int (nI i))]) hx hb d_Ss_shadeOfOneBoxOnly_81 rfl hl (by decide) rfl (fun ls hl => ?_)
            refine lv_iinc (v := nI (i + 1)) (lv' := [(7, .int (nI (i + 1))), (3, .long v_14), (5, .long v_13), (9, .long v_6), (8, .ref (ba i)), (0, .ref o), (1, .int y), (2, .ref a1)]) hx hb d_Ss_shadeOfOneBoxOnly_82 hl (k := 7) rfl (nI_1 _) (by decide) rfl (fun ls hl => ?_)
            refine lv_goto (tgt := 8) hx hb d_Ss_shadeOfOneBoxOnly_85 (by decide) ?_
            have hshi : (jc_shi nb bf X Y Z y (nI wn)) i = jc_shade (bf i 6) (bf i 0) (bf i 1) (bf i 2) (bf i 3) (bf i 4) (bf i 5) X Y Z y (nI wn) := by unfold jc_shi; rw [if_pos hq_5]
            rw [eG_7, eG_1, gs_uu] at hG
            exact IH (i + 1) v_14 v_13 (vp_updL sh9 i v_6) (by omega) (by omega) (by subst ev_14 ev_13 ev_6; rw [jc_one, ← h1, hshi]) (by subst ev_14 ev_13 ev_6; rw [jc_more, ← h1, ← h2, hshi]) (upL_all h3 (by subst ev_14 ev_13 ev_6; rw [hshi])) _ _ hG hS ls (lv_sub hl [5, 6, 7, 1, 2, 0] rfl)
          · refine gn_aldN E hK.1 hG hC.1.2.1 3 rfl (j := i) hi (by decide) (upTo_out hq_5) d_Ss_shadeOfOneBoxOnly_34 ?_
            refine lv_astoreN (lv' := [(8, .null), (0, .ref o), (1, .int y), (2, .ref a1), (3, .long o1), (5, .long o2), (7, .int (nI i))]) hx hb d_Ss_shadeOfOneBoxOnly_35 hl (by decide) rfl (fun ls hl => ?_)
            refine lv_aloadN hx hb d_Ss_shadeOfOneBoxOnly_37 (lv_at hl 0 rfl) ?_
            refine lv_ifnonnullN hx hb d_Ss_shadeOfOneBoxOnly_39 ?_
            refine lv_lconst (v := 0) hx hb d_Ss_shadeOfOneBoxOnly_42 (by decide) ?_
            refine lv_goto (tgt := 57) hx hb d_Ss_shadeOfOneBoxOnly_43 (by decide) ?_
            refine lv_lstore (lv' := [(9, .long 0), (8, .null), (0, .ref o), (1, .int y), (2, .ref a1), (3, .long o1), (5, .long o2), (7, .int (nI i))]) hx hb d_Ss_shadeOfOneBoxOnly_57 hl (by decide) rfl (fun ls hl => ?_)
            refine lv_aload_n hx hb d_Ss_shadeOfOneBoxOnly_59 rfl (lv_at hl 2 rfl) ?_
            refine gs_get E hK.1 hG hC.1.1 (C := R_Ss) (T := F_Ss) (N := 9) rfl i_Ss 5 (by decide) w_65 (v := .ref aS) rfl d_Ss_shadeOfOneBoxOnly_60 ?_
            refine lv_iload hx hb d_Ss_shadeOfOneBoxOnly_63 (lv_at hl 7 rfl) ?_
            refine lv_lload hx hb d_Ss_shadeOfOneBoxOnly_65 (lv_at hl 0 rfl) ?_
            refine gn_last E hK.1 hG hS hC.1.2.2.2.2.1 1 rfl (j := i) hi (by decide) d_Ss_shadeOfOneBoxOnly_67 (fun H locs hG hS => ?_)
            obtain ⟨G_15, eG_15⟩ : ∃ z, z = gs_u G_1 aS (aLong (k 1) 10 (vp_updL sh9 i 0)) := ⟨_, rfl⟩
            have hG : gs_W D classes zb G_15 H := by rw [eG_15]; exact hG
            have hc_16 : G_15 o = some (.inr (3, [.int (nI wn), .int (nI hn), .ref aB, .ref aW, .ref aH, .ref aS, .ref aT, .int (nI nb), .int (nI nw)])) := by rw [eG_15]; exact gs_keep hC.1.1 hC.1.2.2.2.2.1 (by simp)
            have hc_17 : G_15 aB = some (aRef (k 3) 10 (upTo nb ba)) := by rw [eG_15]; exact gs_keep hC.1.2.1 hC.1.2.2.2.2.1 (by simp)
            have hc_18 : G_15 a1 = some (.inr (1, [.int X, .int Y, .int Z, .int am])) := by rw [eG_15]; exact gs_keep hc_2 hC.1.2.2.2.2.1 (by simp)
            have hc_19 : G_15 aS = some (aLong (k 1) 10 (vp_updL sh9 i 0)) := by rw [eG_15]; exact gs_us _ _ _
            refine lv_lload hx hb d_Ss_shadeOfOneBoxOnly_68 (lv_at hl 6 rfl) ?_
            refine lv_lload_n hx hb d_Ss_shadeOfOneBoxOnly_70 rfl (lv_at hl 5 rfl) ?_
            refine lv_lload hx hb d_Ss_shadeOfOneBoxOnly_71 (lv_at hl 0 rfl) ?_
            refine lv_land hx hb d_Ss_shadeOfOneBoxOnly_73 ?_
            refine lv_lor hx hb d_Ss_shadeOfOneBoxOnly_74 ?_
            refine lv_topl (fun v_20 ev_20 => ?_)
            refine lv_lstore (lv' := [(5, .long v_20), (9, .long 0), (8, .null), (0, .ref o), (1, .int y), (2, .ref a1), (3, .long o1), (7, .int (nI i))]) hx hb d_Ss_shadeOfOneBoxOnly_75 hl (by decide) rfl (fun ls hl => ?_)
            refine lv_lload_n hx hb d_Ss_shadeOfOneBoxOnly_77 rfl (lv_at hl 6 rfl) ?_
            refine lv_lload hx hb d_Ss_shadeOfOneBoxOnly_78 (lv_at hl 1 rfl) ?_
            refine lv_lor hx hb d_Ss_shadeOfOneBoxOnly_80 ?_
            refine lv_topl (fun v_21 ev_21 => ?_)
            refine lv_lstore_n (lv' := [(3, .long v_21), (5, .long v_20), (9, .long 0), (8, .null), (0, .ref o), (1, .int y), (2, .ref a1), (7, .int (nI i))]) hx hb d_Ss_shadeOfOneBoxOnly_81 rfl hl (by decide) rfl (fun ls hl => ?_)
            refine lv_iinc (v := nI (i + 1)) (lv' := [(7, .int (nI (i + 1))), (3, .long v_21), (5, .long v_20), (9, .long 0), (8, .null), (0, .ref o), (1, .int y), (2, .ref a1)]) hx hb d_Ss_shadeOfOneBoxOnly_82 hl (k := 7) rfl (nI_1 _) (by decide) rfl (fun ls hl => ?_)
            refine lv_goto (tgt := 8) hx hb d_Ss_shadeOfOneBoxOnly_85 (by decide) ?_
            have hshi : (jc_shi nb bf X Y Z y (nI wn)) i = 0 := by unfold jc_shi; rw [if_neg hq_5]
            rw [eG_15, eG_1, gs_uu] at hG
            exact IH (i + 1) v_21 v_20 (vp_updL sh9 i 0) (by omega) (by omega) (by subst ev_21 ev_20; rw [jc_one, ← h1, hshi]) (by subst ev_21 ev_20; rw [jc_more, ← h1, ← h2, hshi]) (upL_all h3 (by subst ev_21 ev_20; rw [hshi])) _ _ hG hS ls (lv_sub hl [5, 6, 7, 1, 2, 0] rfl)
  exact lp (10 + 1) 0 0 0 sh (by omega) (by omega) rfl rfl (fun j hj => absurd hj (Nat.not_lt_zero j)) _ _ hG hS ls (lv_sub hl [3, 4, 5, 2, 1, 0] rfl)
