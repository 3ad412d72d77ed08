/-! contracts, by program -/
set_option maxHeartbeats 4000000 in
set_option maxRecDepth 100000 in
theorem k_Ss_addTaken (l : Launch) (D : va_G) (k : Nat → ClassId) (zb : Nat) (G : Nat → Option va_E) (o aB aW aH aS aT : Nat) (wn hn nb nw : Nat) (ba wa ha : Nat → Nat) (bf hf : Nat → Nat → Int32) (wf : Nat → Nat → Nat) (sh : Nat → Int64) (tk : Nat → Int32) (a2 m0 m1 m2 m3 : Nat) (a1 : Nat) (X Y Z am : Int32) (hC : sC k G o aB aW aH aS aT wn hn nb nw ba wa ha bf hf wf sh tk) (hb2 : G a2 = some (.inr (2, [.int (nI m0), .int (nI m1), .int (nI m2), .int (nI m3)]))) (hm : m1 ≤ m3) (hm3 : m3 ≤ 60) (hb1 : G a1 = some (.inr (1, [.int X, .int Y, .int Z, .int am]))) : Met l y_Ss_addTaken (wM y_Ss_addTaken c_Ss_addTaken 9 none) ({ frames := 4, cells := 0, slots := 0, locals := 107 }) (gs_P D k zb G [.ref o, .ref a2, .ref a1]) (gs_Q D zb (fun v G1 => v = none ∧ ∃ (sh9 : Nat → Int64) (tk9 : Nat → Int32), (∀ i, i < 10 → tk9 i = tk i + jc_tks nb bf X Y Z am (nI wn) m0 m1 m2 (m3 - m1) i) ∧ G1 = gST k G aS aT sh9 tk9)) 0 0 (fun q : Nat => zb ≤ q) := by
  refine Met.ofW (cc := c_Ss_addTaken) (maxL := 9) (ret := none) (by decide) rfl ?_
  intro p e s m args below meth c s₁ B hml hv
  obtain ⟨rfl, hG, hK, hX⟩ := hv
  have hx := B.exec
  have hb := B.bytes
  have hr := B.returns
  have hts := atoms_spec (ws := wM y_Ss_addTaken c_Ss_addTaken 9 none) B.pre
  have hw : ∀ w9 ∈ wW, w9.before ([.ref o, .ref a2, .ref a1] : List Value).toArray s = true := fun w9 h9 => hts w9 (gi_in w9 h9)
  have hown : s.vm.findClass R_Ss = some m.cls := findClass_of_methodNamed B.named
  have hlocks := B.notSynchronized
  have E : gs_E p s m ([.ref o, .ref a2, .ref a1] : List Value).toArray c c_Ss_addTaken wW R_Ss := ⟨hx, hb, hw, hown⟩
  have hS : gs_S zb s.heap s.heap [] := va_S.rf
  have hl := lv_entry ([.ref o, .ref a2, .ref a1]) (n := 9) (Nat.le_of_ble_eq_true rfl)
  rw [lg_entry_eq]
  generalize (lg_sl ([.ref o, .ref a2, .ref a1]) ++ List.replicate (9 - (lg_sl ([.ref o, .ref a2, .ref a1])).length) Slot.unset).toArray = ls at hl ⊢
  have hl : lv_has ls 9 [(0, .ref o), (1, .ref a2), (2, .ref a1)] := hl
  have hC0 := hC
  refine lv_aload_n hx hb d_Ss_addTaken_0 rfl (lv_at hl 1 rfl) ?_
  refine gs_V (As := []) (rest := []) (k_Wn_columns l D k zb G a2 (nI m0) (nI m1) (nI m2) (nI m3) hb2) E hml hl.1 (cg_V (C := R_Wn) hw w_380 w_377 w_11 w_378 sel_Wn_columns hd_Wn_columns ⟨by exact Nat.le_of_ble_eq_true rfl, by exact Nat.le_of_ble_eq_true rfl⟩) hG hK hX hS hb2 rfl rfl rfl rfl (by exact Nat.le_of_ble_eq_true rfl) d_Ss_addTaken_1 ⟨by exact Nat.le_of_ble_eq_true rfl, by exact Nat.le_of_ble_eq_true rfl⟩ (fun v G1 H locs hp hG hS => ?_)
  obtain ⟨hv1, hG1⟩ := hp
  subst hv1
  rw [hG1] at hG
  refine W.eq (g2 := F0 m 4 ls [.long (jc_cells (nI m0) ((nI m2) - 1))]) rfl ?_
  refine lv_topl (fun v_1 ev_1 => ?_)
  refine lv_lstore_n (lv' := [(3, .long v_1), (0, .ref o), (1, .ref a2), (2, .ref a1)]) hx hb d_Ss_addTaken_4 rfl hl (by decide) rfl (fun ls hl => ?_)
  refine lv_aload_n hx hb d_Ss_addTaken_5 rfl (lv_at hl 2 rfl) ?_
  refine gs_get E hK.1 hG hb2 (C := R_Wn) (T := F_Wn) (N := 4) rfl i_Wn 1 (by decide) w_280 (v := .int (nI m1)) rfl d_Ss_addTaken_6 ?_
  refine lv_istore (lv' := [(5, .int (nI m1)), (3, .long v_1), (0, .ref o), (1, .ref a2), (2, .ref a1)]) hx hb d_Ss_addTaken_9 hl (by decide) rfl (fun ls hl => ?_)
  rw [← gST_id hC0] at hG
  subst ev_1
  have lpo : ∀ (fu : Nat) (j : Nat) (sh9 : Nat → Int64) (tk9 : Nat → Int32), m1 + j ≤ m3 → m3 + 1 ≤ m1 + j + fu → (h0 : ∀ i, i < 10 → tk9 i = tk i + jc_tks nb bf X Y Z am (nI wn) m0 m1 m2 j i) → ∀ (H : Heap) (locs : List Loc), gs_W D classes zb (gST k G aS aT sh9 tk9) H → gs_S zb s.heap H locs → ∀ (ls : Array Slot), lv_has ls 9 [(0, .ref o), (1, .ref a2), (2, .ref a1), (3, .long (jc_cells (nI m0) (nI m2 - 1))), (5, .int (nI (m1 + j)))] → W p l e (headSpec (wM y_Ss_addTaken c_Ss_addTaken 9 none) ({ frames := 4, cells := 0, slots := 0, locals := 107 })).room s m ([.ref o, .ref a2, .ref a1] : List Value).toArray below meth c H locs 0 0 (MQ below (gs_Q D zb (fun v G1 => v = none ∧ ∃ (sh9 : Nat → Int64) (tk9 : Nat → Int32), (∀ i, i < 10 → tk9 i = tk i + jc_tks nb bf X Y Z am (nI wn) m0 m1 m2 (m3 - m1) i) ∧ G1 = gST k G aS aT sh9 tk9)) ([.ref o, .ref a2, .ref a1] : List Value).toArray s 0 0 (fun q : Nat => zb ≤ q)) (F0 m 11 ls []) := by
    intro fu
    induction fu with
    | zero => intro j sh9 tk9 hle hfu; exact absurd hfu (by omega)
    | succ fu IHlpo =>
      intro j sh9 tk9 hle hfu h0 H locs hG hS ls hl
      obtain ⟨G_2, eG_2⟩ : ∃ z, z = gST k G aS aT sh9 tk9 := ⟨_, rfl⟩
      rw [← eG_2] at hG
      have hC : sC k G_2 o aB aW aH aS aT wn hn nb nw ba wa ha bf hf wf sh9 tk9 := by rw [eG_2]; exact sC_ST hC0 sh9 tk9
      have hc_3 : G_2 a2 = some (.inr (2, [.int (nI m0), .int (nI m1), .int (nI m2), .int (nI m3)])) := by rw [eG_2]; exact gST_keep hC0 hb2 (by simp) (by simp)
      have hc_4 : G_2 a1 = some (.inr (1, [.int X, .int Y, .int Z, .int am])) := by rw [eG_2]; exact gST_keep hC0 hb1 (by simp) (by simp)
      refine lv_iload hx hb d_Ss_addTaken_11 (lv_at hl 4 rfl) ?_
      refine lv_aload_n hx hb d_Ss_addTaken_13 rfl (lv_at hl 1 rfl) ?_
      refine gs_get E hK.1 hG hc_3 (C := R_Wn) (T := F_Wn) (N := 4) rfl i_Wn 3 (by decide) w_283 (v := .int (nI m3)) rfl d_Ss_addTaken_14 ?_
      refine lv_icmp_ge (tgt := 94) hx hb d_Ss_addTaken_17 (by decide) (fun c_5 => ?_) (fun c_5 => ?_)
      · have hend : (m1 + j) = m3 := cl_eq (by have := hC.2.1; omega) hle c_5
        rw [eG_2] at hG
        exact W.vret hx hb hr (gs_end ⟨rfl, sh9, tk9, fun i hi => by rw [h0 i hi, ← hend, Nat.add_sub_cancel_left], rfl⟩ hG hS) hS.2.2 d_Ss_addTaken_94
      · have hlt : (m1 + j) < m3 := cl_lt (by have := hC.2.1; omega) hle c_5
        refine lv_lload_n hx hb d_Ss_addTaken_20 rfl (lv_at hl 3 rfl) ?_
        refine lv_aload_n hx hb d_Ss_addTaken_21 rfl (lv_at hl 0 rfl) ?_
        refine lv_iload hx hb d_Ss_addTaken_22 (lv_at hl 4 rfl) ?_
        refine lv_aload_n hx hb d_Ss_addTaken_24 rfl (lv_at hl 2 rfl) ?_
        refine gs_V (As := [.int (nI (m1 + j)), .ref a1]) (rest := [.long (jc_cells (nI m0) (nI m2 - 1))]) (k_Ss_shadeOfOneBoxOnly l D k zb G_2 o aB aW aH aS aT wn hn nb nw ba wa ha bf hf wf sh9 tk9 a1 X Y Z am (nI (m1 + j)) hC hc_4) E hml hl.1 (cg_V (C := R_Ss) hw w_455 w_452 w_1 w_454 sel_Ss_shadeOfOneBoxOnly hd_Ss_shadeOfOneBoxOnly ⟨by exact Nat.le_of_ble_eq_true rfl, by exact Nat.le_of_ble_eq_true rfl⟩) hG hK hX hS hC.1.1 rfl rfl rfl rfl (by exact Nat.le_of_ble_eq_true rfl) d_Ss_addTaken_25 ⟨by exact Nat.le_of_ble_eq_true rfl, by exact Nat.le_of_ble_eq_true rfl⟩ (fun v G1 H locs hp hG hS => ?_)
        obtain ⟨hv1, sh8, hsh8, hG1⟩ := hp
        subst hv1
        rw [hG1, eG_2, gST_S hC0.ne] at hG
        obtain ⟨G_6, eG_6⟩ : ∃ z, z = gST k G aS aT sh8 tk9 := ⟨_, rfl⟩
        rw [← eG_6] at hG
        have hC : sC k G_6 o aB aW aH aS aT wn hn nb nw ba wa ha bf hf wf sh8 tk9 := by rw [eG_6]; exact sC_ST hC0 sh8 tk9
        have hc_7 : G_6 a2 = some (.inr (2, [.int (nI m0), .int (nI m1), .int (nI m2), .int (nI m3)])) := by rw [eG_6]; exact gST_keep hC0 hb2 (by simp) (by simp)
        have hc_8 : G_6 a1 = some (.inr (1, [.int X, .int Y, .int Z, .int am])) := by rw [eG_6]; exact gST_keep hC0 hb1 (by simp) (by simp)
        refine W.eq (g2 := F0 m 28 ls [.long (jc_alone (jc_shi nb bf X Y Z (nI (m1 + j)) (nI wn))), .long (jc_cells (nI m0) (nI m2 - 1))]) rfl ?_
        refine lv_land hx hb d_Ss_addTaken_28 ?_
        refine lv_topl (fun v_9 ev_9 => ?_)
        refine lv_lstore (lv' := [(6, .long v_9), (0, .ref o), (1, .ref a2), (2, .ref a1), (3, .long (jc_cells (nI m0) (nI m2 - 1))), (5, .int (nI (m1 + j)))]) hx hb d_Ss_addTaken_29 hl (by decide) rfl (fun ls hl => ?_)
        refine lv_iconst (v := 0) hx hb d_Ss_addTaken_31 (by decide) ?_
        refine lv_istore (lv' := [(8, .int 0), (6, .long v_9), (0, .ref o), (1, .ref a2), (2, .ref a1), (3, .long (jc_cells (nI m0) (nI m2 - 1))), (5, .int (nI (m1 + j)))]) hx hb d_Ss_addTaken_32 hl (by decide) rfl (fun ls hl => ?_)
        rw [eG_6] at hG
        subst ev_9
        have lpi : ∀ (fu : Nat) (i0 : Nat) (tk8 : Nat → Int32), i0 ≤ 10 → 10 + 1 ≤ i0 + fu → (h1 : ∀ i, i0 ≤ i → tk8 i = tk9 i) → (h2 : ∀ i, i < i0 → tk8 i = tk9 i + jc_tk nb bf X Y Z am (nI wn) m0 m1 m2 j i) → ∀ (H : Heap) (locs : List Loc), gs_W D classes zb (gST k G aS aT sh8 tk8) H → gs_S zb s.heap H locs → ∀ (ls : Array Slot), lv_has ls 9 [(0, .ref o), (1, .ref a2), (2, .ref a1), (3, .long (jc_cells (nI m0) (nI m2 - 1))), (5, .int (nI (m1 + j))), (6, .long ((jc_cells (nI m0) (nI m2 - 1)) &&& jc_alone (jc_shi nb bf X Y Z (nI (m1 + j)) (nI wn)))), (8, .int (nI i0))] → W p l e (headSpec (wM y_Ss_addTaken c_Ss_addTaken 9 none) ({ frames := 4, cells := 0, slots := 0, locals := 107 })).room s m ([.ref o, .ref a2, .ref a1] : List Value).toArray below meth c H locs 0 0 (MQ below (gs_Q D zb (fun v G1 => v = none ∧ ∃ (sh9 : Nat → Int64) (tk9 : Nat → Int32), (∀ i, i < 10 → tk9 i = tk i + jc_tks nb bf X Y Z am (nI wn) m0 m1 m2 (m3 - m1) i) ∧ G1 = gST k G aS aT sh9 tk9)) ([.ref o, .ref a2, .ref a1] : List Value).toArray s 0 0 (fun q : Nat => zb ≤ q)) (F0 m 34 ls []) := by
          intro fu
          induction fu with
          | zero => intro i0 tk8 hle hfu; exact absurd hfu (by omega)
          | succ fu IHlpi =>
            intro i0 tk8 hle hfu h1 h2 H locs hG hS ls hl
            obtain ⟨G_10, eG_10⟩ : ∃ z, z = gST k G aS aT sh8 tk8 := ⟨_, rfl⟩
            rw [← eG_10] at hG
            have hC : sC k G_10 o aB aW aH aS aT wn hn nb nw ba wa ha bf hf wf sh8 tk8 := by rw [eG_10]; exact sC_ST hC0 sh8 tk8
            have hc_11 : G_10 a2 = some (.inr (2, [.int (nI m0), .int (nI m1), .int (nI m2), .int (nI m3)])) := by rw [eG_10]; exact gST_keep hC0 hb2 (by simp) (by simp)
            have hc_12 : G_10 a1 = some (.inr (1, [.int X, .int Y, .int Z, .int am])) := by rw [eG_10]; exact gST_keep hC0 hb1 (by simp) (by simp)
            refine lv_iload hx hb d_Ss_addTaken_34 (lv_at hl 6 rfl) ?_
            refine lv_aload_n hx hb d_Ss_addTaken_36 rfl (lv_at hl 0 rfl) ?_
            refine gs_get E hK.1 hG hC.1.1 (C := R_Ss) (T := F_Ss) (N := 9) rfl i_Ss 5 (by decide) w_65 (v := .ref aS) rfl d_Ss_addTaken_37 ?_
            refine gs_alen E hK.1 hG hC.1.2.2.2.2.1 1 rfl (v := 10) rfl d_Ss_addTaken_40 ?_
            refine lv_icmp_ge (tgt := 88) hx hb d_Ss_addTaken_41 (by decide) (fun c_13 => ?_) (fun c_13 => ?_)
            · have hi0 : i0 = 10 := cl_eq (N := 10) (by decide) hle c_13
              refine lv_iinc (v := nI ((m1 + j) + 1)) (lv' := [(5, .int (nI ((m1 + j) + 1))), (0, .ref o), (1, .ref a2), (2, .ref a1), (3, .long (jc_cells (nI m0) (nI m2 - 1))), (6, .long ((jc_cells (nI m0) (nI m2 - 1)) &&& jc_alone (jc_shi nb bf X Y Z (nI (m1 + j)) (nI wn)))), (8, .int (nI i0))]) hx hb d_Ss_addTaken_88 hl (k := 4) rfl (nI_1 _) (by decide) rfl (fun ls hl => ?_)
              refine lv_goto (tgt := 11) hx hb d_Ss_addTaken_91 (by decide) ?_
              rw [eG_10] at hG
              exact IHlpo (j + 1) sh8 tk8 (by omega) (by omega) (fun i hi => by rw [h2 i (by omega), h0 i hi, i_assoc]; rfl) _ _ hG hS ls (lv_sub hl [1, 2, 3, 4, 0] rfl)
            · have hi0 : i0 < 10 := cl_lt (N := 10) (by decide) hle c_13
              refine lv_iload hx hb d_Ss_addTaken_44 (lv_at hl 6 rfl) ?_
              refine lv_aload_n hx hb d_Ss_addTaken_46 rfl (lv_at hl 0 rfl) ?_
              refine gs_get E hK.1 hG hC.1.1 (C := R_Ss) (T := F_Ss) (N := 9) rfl i_Ss 6 (by decide) w_66 (v := .ref aT) rfl d_Ss_addTaken_47 ?_
              refine gs_alen E hK.1 hG hC.1.2.2.2.2.2 0 rfl (v := 10) rfl d_Ss_addTaken_50 ?_
              refine lv_icmp_ge (tgt := 88) hx hb d_Ss_addTaken_51 (by decide) (fun c_14 => ?_) (fun c_14 => ?_)
              · exact absurd c_14 c_13
              · have hi0 : i0 < 10 := cl_lt (N := 10) (by decide) hle c_14
                refine lv_aload_n hx hb d_Ss_addTaken_54 rfl (lv_at hl 0 rfl) ?_
                refine gs_get E hK.1 hG hC.1.1 (C := R_Ss) (T := F_Ss) (N := 9) rfl i_Ss 6 (by decide) w_66 (v := .ref aT) rfl d_Ss_addTaken_55 ?_
                refine lv_iload hx hb d_Ss_addTaken_58 (lv_at hl 6 rfl) ?_
                refine lv_dup2_11 hx hb d_Ss_addTaken_60 rfl rfl ?_
                refine gn_iald E hK.1 hG hC.1.2.2.2.2.2 0 rfl (j := i0) hi0 (by decide) d_Ss_addTaken_61 ?_
                refine lv_aload_n hx hb d_Ss_addTaken_62 rfl (lv_at hl 2 rfl) ?_
                refine gs_get E hK.1 hG hc_12 (C := R_Hr) (T := F_Hr) (N := 4) rfl i_Hr 3 (by decide) w_48 (v := .int am) rfl d_Ss_addTaken_63 ?_
                refine lv_aload_n hx hb d_Ss_addTaken_66 rfl (lv_at hl 0 rfl) ?_
                refine gs_get E hK.1 hG hC.1.1 (C := R_Ss) (T := F_Ss) (N := 9) rfl i_Ss 5 (by decide) w_65 (v := .ref aS) rfl d_Ss_addTaken_67 ?_
                refine lv_iload hx hb d_Ss_addTaken_70 (lv_at hl 6 rfl) ?_
                refine gn_lald E hK.1 hG hC.1.2.2.2.2.1 1 rfl (j := i0) hi0 (by decide) d_Ss_addTaken_72 ?_
                refine lv_lload hx hb d_Ss_addTaken_73 (lv_at hl 5 rfl) ?_
                refine lv_land hx hb d_Ss_addTaken_75 ?_
                refine gs_St (As := [.long ((sh8 i0) &&& ((jc_cells (nI m0) (nI m2 - 1)) &&& jc_alone (jc_shi nb bf X Y Z (nI (m1 + j)) (nI wn))))]) (rest := [.int am, .int (tk8 i0), .int (nI i0), .ref aT]) (k_Lo_bitCount l D k zb G_10 ((sh8 i0) &&& ((jc_cells (nI m0) (nI m2 - 1)) &&& jc_alone (jc_shi nb bf X Y Z (nI (m1 + j)) (nI wn))))) E hml hl.1 (cg_S hw w_357 w_355 w_12 w_356 hd_Lo_bitCount ⟨by exact Nat.le_of_ble_eq_true rfl, by exact Nat.le_of_ble_eq_true rfl⟩) hG hK hX hS rfl rfl (by exact Nat.le_of_ble_eq_true rfl) d_Ss_addTaken_76 ⟨by exact Nat.le_of_ble_eq_true rfl, by exact Nat.le_of_ble_eq_true rfl⟩ (fun v G1 H locs hp hG hS => ?_)
                obtain ⟨hv1, hG1⟩ := hp
                subst hv1
                rw [hG1] at hG
                refine W.eq (g2 := F0 m 79 ls [.int (jc_bits ((sh8 i0) &&& ((jc_cells (nI m0) (nI m2 - 1)) &&& jc_alone (jc_shi nb bf X Y Z (nI (m1 + j)) (nI wn))))), .int am, .int (tk8 i0), .int (nI i0), .ref aT]) rfl ?_
                refine lv_imul hx hb d_Ss_addTaken_79 ?_
                refine lv_iadd hx hb d_Ss_addTaken_80 ?_
                refine lv_topi (fun v_15 ev_15 => ?_)
                refine gn_iast E hK.1 hG hS hC.1.2.2.2.2.2 0 rfl (j := i0) hi0 (by decide) d_Ss_addTaken_81 (fun H locs hG hS => ?_)
                obtain ⟨G_16, eG_16⟩ : ∃ z, z = gs_u G_10 aT (aInt (k 0) 10 (upd tk8 i0 v_15)) := ⟨_, rfl⟩
                have hG : gs_W D classes zb G_16 H := by rw [eG_16]; exact hG
                have hc_17 : G_16 o = some (.inr (3, [.int (nI wn), .int (nI hn), .ref aB, .ref aW, .ref aH, .ref aS, .ref aT, .int (nI nb), .int (nI nw)])) := by rw [eG_16]; exact gs_keep hC.1.1 hC.1.2.2.2.2.2 (by simp)
                have hc_18 : G_16 aB = some (aRef (k 3) 10 (upTo nb ba)) := by rw [eG_16]; exact gs_keep hC.1.2.1 hC.1.2.2.2.2.2 (by simp)
                have hc_19 : G_16 aW = some (aRef (k 4) 10 (upTo nw wa)) := by rw [eG_16]; exact gs_keep hC.1.2.2.1 hC.1.2.2.2.2.2 (by simp)
                have hc_20 : G_16 aH = some (aRef (k 5) 24 (upTo 24 ha)) := by rw [eG_16]; exact gs_keep hC.1.2.2.2.1 hC.1.2.2.2.2.2 (by simp)
                have hc_21 : G_16 aS = some (aLong (k 1) 10 sh8) := by rw [eG_16]; exact gs_keep hC.1.2.2.2.2.1 hC.1.2.2.2.2.2 (by simp)
                have hc_22 : G_16 a2 = some (.inr (2, [.int (nI m0), .int (nI m1), .int (nI m2), .int (nI m3)])) := by rw [eG_16]; exact gs_keep hc_11 hC.1.2.2.2.2.2 (by simp)
                have hc_23 : G_16 a1 = some (.inr (1, [.int X, .int Y, .int Z, .int am])) := by rw [eG_16]; exact gs_keep hc_12 hC.1.2.2.2.2.2 (by simp)
                have hc_24 : G_16 aT = some (aInt (k 0) 10 (upd tk8 i0 v_15)) := by rw [eG_16]; exact gs_us _ _ _
                refine lv_iinc (v := nI (i0 + 1)) (lv' := [(8, .int (nI (i0 + 1))), (0, .ref o), (1, .ref a2), (2, .ref a1), (3, .long (jc_cells (nI m0) (nI m2 - 1))), (5, .int (nI (m1 + j))), (6, .long ((jc_cells (nI m0) (nI m2 - 1)) &&& jc_alone (jc_shi nb bf X Y Z (nI (m1 + j)) (nI wn))))]) hx hb d_Ss_addTaken_82 hl (k := 6) rfl (nI_1 _) (by decide) rfl (fun ls hl => ?_)
                refine lv_goto (tgt := 34) hx hb d_Ss_addTaken_85 (by decide) ?_
                rw [eG_16, eG_10, gST_T] at hG
                exact IHlpi (i0 + 1) (upd tk8 i0 v_15) (by omega) (by omega) (fun i hi => by rw [pk_un (by omega)]; exact h1 i (by omega)) (upI_all (g := fun i => tk9 i + jc_tk nb bf X Y Z am (nI wn) m0 m1 m2 j i) h2 (by subst ev_15; rw [h1 i0 (by omega), hsh8 i0 hi0]; rfl)) _ _ hG hS ls (lv_sub hl [1, 2, 3, 4, 5, 6, 0] rfl)
        exact lpi (10 + 1) 0 tk9 (by omega) (by omega) (fun i _ => rfl) (fun i hi => absurd hi (Nat.not_lt_zero i)) _ _ hG hS ls (lv_sub hl [2, 3, 4, 5, 6, 1, 0] rfl)
  exact lpo (m3 + 1) 0 sh tk (by omega) (by omega) (fun i hi => (i_add0 _).symm) _ _ hG hS ls (lv_sub hl [2, 3, 4, 1, 0] rfl)
set_option maxHeartbeats 4000000 in
set_option maxRecDepth 100000 in
theorem k_Ss_worst (l : Launch) (hnt : l.stackTraces = false) (D : va_G) (k : Nat → ClassId) (zb : Nat) (G : Nat → Option va_E) (o aB aW aH aS aT : Nat) (wn hn nb nw : Nat) (ba wa ha : Nat → Nat) (bf hf : Nat → Nat → Int32) (wf : Nat → Nat → Nat) (sh : Nat → Int64) (tk : Nat → Int32) (q : Int32) (hC : sC k G o aB aW aH aS aT wn hn nb nw ba wa ha bf hf wf sh tk) : vx_Met l y_Ss_worst (wM y_Ss_worst c_Ss_worst 7 (some .int)) ({ frames := 7, cells := 1, slots := 6, locals := 135 }) (gs_P D k zb G [.ref o, .int q]) (gs_Q D zb (fun v G1 => ∃ j : Nat, j < nw ∧ q = nI j ∧ v = some (.int (jc_best (fun b => jc_tkd nb bf hf (nI wn) (wf j 0) (wf j 1) (wf j 2) (wf j 3) 24 b) 10).1) ∧ ∃ (sh9 : Nat → Int64) (tk9 : Nat → Int32), G1 = gST k G aS aT sh9 tk9)) (gs_T D zb G (fun E => E = e_IA ∧ (¬ ∃ i : Nat, i < nw ∧ q = nI i))) 1 6 (fun q : Nat => zb ≤ q) := by
  refine vx_ofW (cc := c_Ss_worst) (maxL := 7) (ret := (some .int)) (by decide) rfl ?_
  intro p e s m args below meth c s₁ B hml ht hv
  obtain ⟨rfl, hG, hK, hX⟩ := hv
  have hx := B.exec
  have hb := B.bytes
  have hr := B.returns
  have hts := atoms_spec (ws := wM y_Ss_worst c_Ss_worst 7 (some .int)) B.pre
  have hw : ∀ w9 ∈ wW, w9.before ([.ref o, .int q] : List Value).toArray s = true := fun w9 h9 => hts w9 (gi_in w9 h9)
  have hown : s.vm.findClass R_Ss = some m.cls := findClass_of_methodNamed B.named
  have hlocks := B.notSynchronized
  have E : gs_E p s m ([.ref o, .int q] : List Value).toArray c c_Ss_worst wW R_Ss := ⟨hx, hb, hw, hown⟩
  have hS : gs_S zb s.heap s.heap [] := va_S.rf
  have hl := lv_entry ([.ref o, .int q]) (n := 7) (Nat.le_of_ble_eq_true rfl)
  rw [lg_entry_eq]
  generalize (lg_sl ([.ref o, .int q]) ++ List.replicate (7 - (lg_sl ([.ref o, .int q])).length) Slot.unset).toArray = ls at hl ⊢
  have hl : lv_has ls 7 [(0, .ref o), (1, .int q)] := hl
  have hC0 := hC
  refine lv_aload_n hx hb d_Ss_worst_0 rfl (lv_at hl 0 rfl) ?_
  refine lv_iload_n hx hb d_Ss_worst_1 rfl (lv_at hl 1 rfl) ?_
  refine gs_VX (As := [.int q]) (rest := []) (k_Ss_knownWindow l hnt D k zb G o aB aW aH aS aT wn hn nb nw ba wa ha bf hf wf sh tk q hC) E hml hl.1 (cg_V (C := R_Ss) hw w_371 w_368 w_1 w_370 sel_Ss_knownWindow hd_Ss_knownWindow ⟨by exact Nat.le_of_ble_eq_true rfl, by exact Nat.le_of_ble_eq_true rfl⟩) hG hK hX hS hC.1.1 rfl rfl rfl rfl (by exact Nat.le_of_ble_eq_true rfl) d_Ss_worst_2 ⟨by exact Nat.le_of_ble_eq_true rfl, by exact Nat.le_of_ble_eq_true rfl⟩ (fun E9 ce q9 H locs hp hG hS hq1 hq2 hq3 => ?_) (fun v G1 H locs hp hG hS => ?_)
  · exact gs_on ht hlocks (hp) hG hS hq1 hq2 hq3 (by decide) (by decide)
  obtain ⟨iw, hiw, eiw, hv1, hG1⟩ := hp
  subst hv1
  rw [hG1] at hG
  refine W.eq (g2 := F0 m 5 ls [.ref (wa iw)]) rfl ?_
  refine lv_astore_n (lv' := [(2, .ref (wa iw)), (0, .ref o), (1, .int q)]) hx hb d_Ss_worst_5 rfl hl (by decide) rfl (fun ls hl => ?_)
  refine lv_iconst (v := 0) hx hb d_Ss_worst_6 (by decide) ?_
  refine lv_istore_n (lv' := [(3, .int 0), (2, .ref (wa iw)), (0, .ref o), (1, .int q)]) hx hb d_Ss_worst_7 rfl hl (by decide) rfl (fun ls hl => ?_)
  rw [← gST_id hC0] at hG
  have l1 : ∀ (fu : Nat) (i0 : Nat) (tk9 : Nat → Int32), i0 ≤ 10 → 10 + 1 ≤ i0 + fu → (h0 : ∀ i, i < i0 → tk9 i = 0) → ∀ (H : Heap) (locs : List Loc), gs_W D classes zb (gST k G aS aT sh tk9) H → gs_S zb s.heap H locs → ∀ (ls : Array Slot), lv_has ls 7 [(0, .ref o), (1, .int q), (2, .ref (wa iw)), (3, .int (nI i0))] → W p l e (headSpec (wM y_Ss_worst c_Ss_worst 7 (some .int)) ({ frames := 7, cells := 1, slots := 6, locals := 135 })).room s m ([.ref o, .int q] : List Value).toArray below meth c H locs 1 6 (vx_MQ below (gs_Q D zb (fun v G1 => ∃ j : Nat, j < nw ∧ q = nI j ∧ v = some (.int (jc_best (fun b => jc_tkd nb bf hf (nI wn) (wf j 0) (wf j 1) (wf j 2) (wf j 3) 24 b) 10).1) ∧ ∃ (sh9 : Nat → Int64) (tk9 : Nat → Int32), G1 = gST k G aS aT sh9 tk9)) (gs_T D zb G (fun E => E = e_IA ∧ (¬ ∃ i : Nat, i < nw ∧ q = nI i))) ([.ref o, .int q] : List Value).toArray s 1 6 (fun q : Nat => zb ≤ q)) (F0 m 8 ls []) := by
    intro fu
    induction fu with
    | zero => intro i0 tk9 hle hfu; exact absurd hfu (by omega)
    | succ fu IHl1 =>
      intro i0 tk9 hle hfu h0 H locs hG hS ls hl
      obtain ⟨G_1, eG_1⟩ : ∃ z, z = gST k G aS aT sh tk9 := ⟨_, rfl⟩
      rw [← eG_1] at hG
      have hC : sC k G_1 o aB aW aH aS aT wn hn nb nw ba wa ha bf hf wf sh tk9 := by rw [eG_1]; exact sC_ST hC0 sh tk9
      refine lv_iload_n hx hb d_Ss_worst_8 rfl (lv_at hl 3 rfl) ?_
      refine lv_aload_n hx hb d_Ss_worst_9 rfl (lv_at hl 0 rfl) ?_
      refine gs_get E hK.1 hG hC.1.1 (C := R_Ss) (T := F_Ss) (N := 9) rfl i_Ss 6 (by decide) w_66 (v := .ref aT) rfl d_Ss_worst_10 ?_
      refine gs_alen E hK.1 hG hC.1.2.2.2.2.2 0 rfl (v := 10) rfl d_Ss_worst_13 ?_
      refine lv_icmp_ge (tgt := 30) hx hb d_Ss_worst_14 (by decide) (fun c_2 => ?_) (fun c_2 => ?_)
      · have hendi0 : i0 = 10 := cl_eq (N := 10) (by decide) hle c_2
        refine lv_aload_n hx hb d_Ss_worst_30 rfl (lv_at hl 0 rfl) ?_
        refine gs_get E hK.1 hG hC.1.1 (C := R_Ss) (T := F_Ss) (N := 9) rfl i_Ss 4 (by decide) w_64 (v := .ref aH) rfl d_Ss_worst_31 ?_
        refine lv_astore_n (lv' := [(3, .ref aH), (0, .ref o), (1, .int q), (2, .ref (wa iw))]) hx hb d_Ss_worst_34 rfl hl (by decide) rfl (fun ls hl => ?_)
        refine lv_aload_n hx hb d_Ss_worst_35 rfl (lv_at hl 0 rfl) ?_
        refine gs_alen E hK.1 hG hC.1.2.2.2.1 5 rfl (v := 24) rfl d_Ss_worst_36 ?_
        refine lv_istore (lv' := [(4, .int 24), (3, .ref aH), (0, .ref o), (1, .int q), (2, .ref (wa iw))]) hx hb d_Ss_worst_37 hl (by decide) rfl (fun ls hl => ?_)
        refine lv_iconst (v := 0) hx hb d_Ss_worst_39 (by decide) ?_
        refine lv_istore (lv' := [(5, .int 0), (4, .int 24), (3, .ref aH), (0, .ref o), (1, .int q), (2, .ref (wa iw))]) hx hb d_Ss_worst_40 hl (by decide) rfl (fun ls hl => ?_)
        rw [eG_1] at hG
        have l2 : ∀ (fu : Nat) (i1 : Nat) (sh9 : Nat → Int64) (tk9 : Nat → Int32), i1 ≤ 24 → 24 + 1 ≤ i1 + fu → (h4 : ∀ i, i < 10 → tk9 i = jc_tkd nb bf hf (nI wn) (wf iw 0) (wf iw 1) (wf iw 2) (wf iw 3) i1 i) → ∀ (H : Heap) (locs : List Loc), gs_W D classes zb (gST k G aS aT sh9 tk9) H → gs_S zb s.heap H locs → ∀ (ls : Array Slot), lv_has ls 7 [(0, .ref o), (1, .int q), (2, .ref (wa iw)), (3, .ref aH), (4, .int 24), (5, .int (nI i1))] → W p l e (headSpec (wM y_Ss_worst c_Ss_worst 7 (some .int)) ({ frames := 7, cells := 1, slots := 6, locals := 135 })).room s m ([.ref o, .int q] : List Value).toArray below meth c H locs 1 6 (vx_MQ below (gs_Q D zb (fun v G1 => ∃ j : Nat, j < nw ∧ q = nI j ∧ v = some (.int (jc_best (fun b => jc_tkd nb bf hf (nI wn) (wf j 0) (wf j 1) (wf j 2) (wf j 3) 24 b) 10).1) ∧ ∃ (sh9 : Nat → Int64) (tk9 : Nat → Int32), G1 = gST k G aS aT sh9 tk9)) (gs_T D zb G (fun E => E = e_IA ∧ (¬ ∃ i : Nat, i < nw ∧ q = nI i))) ([.ref o, .int q] : List Value).toArray s 1 6 (fun q : Nat => zb ≤ q)) (F0 m 42 ls []) := by
          intro fu
          induction fu with
          | zero => intro i1 sh9 tk9 hle hfu; exact absurd hfu (by omega)
          | succ fu IHl2 =>
            intro i1 sh9 tk9 hle hfu h4 H locs hG hS ls hl
            obtain ⟨G_3, eG_3⟩ : ∃ z, z = gST k G aS aT sh9 tk9 := ⟨_, rfl⟩
            rw [← eG_3] at hG
            have hC : sC k G_3 o aB aW aH aS aT wn hn nb nw ba wa ha bf hf wf sh9 tk9 := by rw [eG_3]; exact sC_ST hC0 sh9 tk9
            refine lv_iload hx hb d_Ss_worst_42 (lv_at hl 5 rfl) ?_
            refine lv_iload hx hb d_Ss_worst_44 (lv_at hl 4 rfl) ?_
            refine lv_icmp_ge (tgt := 89) hx hb d_Ss_worst_46 (by decide) (fun c_4 => ?_) (fun c_4 => ?_)
            · have hendi1 : i1 = 24 := cl_eq (N := 24) (by decide) hle c_4
              have h5 : ∀ i, i < 10 → tk9 i = jc_tkd nb bf hf (nI wn) (wf iw 0) (wf iw 1) (wf iw 2) (wf iw 3) 24 i := fun i hi => by rw [h4 i hi, hendi1]
              refine lv_iconst (v := (-1)) hx hb d_Ss_worst_89 (by decide) ?_
              refine lv_istore_n (lv' := [(3, .int (-1)), (0, .ref o), (1, .int q), (2, .ref (wa iw)), (4, .int 24), (5, .int (nI i1))]) hx hb d_Ss_worst_90 rfl hl (by decide) rfl (fun ls hl => ?_)
              refine lv_iconst (v := 0) hx hb d_Ss_worst_91 (by decide) ?_
              refine lv_istore (lv' := [(4, .int 0), (3, .int (-1)), (0, .ref o), (1, .int q), (2, .ref (wa iw)), (5, .int (nI i1))]) hx hb d_Ss_worst_92 hl (by decide) rfl (fun ls hl => ?_)
              refine lv_iconst (v := 0) hx hb d_Ss_worst_94 (by decide) ?_
              refine lv_istore (lv' := [(5, .int 0), (4, .int 0), (3, .int (-1)), (0, .ref o), (1, .int q), (2, .ref (wa iw))]) hx hb d_Ss_worst_95 hl (by decide) rfl (fun ls hl => ?_)
              rw [eG_3] at hG
              have l3 : ∀ (fu : Nat) (i2 : Nat) (be : Int32) (mo : Int32), i2 ≤ 10 → 10 + 1 ≤ i2 + fu → (hbm : (be, mo) = jc_best (fun b => jc_tkd nb bf hf (nI wn) (wf iw 0) (wf iw 1) (wf iw 2) (wf iw 3) 24 b) i2) → ∀ (H : Heap) (locs : List Loc), gs_W D classes zb (gST k G aS aT sh9 tk9) H → gs_S zb s.heap H locs → ∀ (ls : Array Slot), lv_has ls 7 [(0, .ref o), (1, .int q), (2, .ref (wa iw)), (3, .int be), (4, .int mo), (5, .int (nI i2))] → W p l e (headSpec (wM y_Ss_worst c_Ss_worst 7 (some .int)) ({ frames := 7, cells := 1, slots := 6, locals := 135 })).room s m ([.ref o, .int q] : List Value).toArray below meth c H locs 1 6 (vx_MQ below (gs_Q D zb (fun v G1 => ∃ j : Nat, j < nw ∧ q = nI j ∧ v = some (.int (jc_best (fun b => jc_tkd nb bf hf (nI wn) (wf j 0) (wf j 1) (wf j 2) (wf j 3) 24 b) 10).1) ∧ ∃ (sh9 : Nat → Int64) (tk9 : Nat → Int32), G1 = gST k G aS aT sh9 tk9)) (gs_T D zb G (fun E => E = e_IA ∧ (¬ ∃ i : Nat, i < nw ∧ q = nI i))) ([.ref o, .int q] : List Value).toArray s 1 6 (fun q : Nat => zb ≤ q)) (F0 m 97 ls []) := by
                intro fu
                induction fu with
                | zero => intro i2 be mo hle hfu; exact absurd hfu (by omega)
                | succ fu IHl3 =>
                  intro i2 be mo hle hfu hbm H locs hG hS ls hl
                  obtain ⟨G_5, eG_5⟩ : ∃ z, z = gST k G aS aT sh9 tk9 := ⟨_, rfl⟩
                  rw [← eG_5] at hG
                  have hC : sC k G_5 o aB aW aH aS aT wn hn nb nw ba wa ha bf hf wf sh9 tk9 := by rw [eG_5]; exact sC_ST hC0 sh9 tk9
                  refine lv_iload hx hb d_Ss_worst_97 (lv_at hl 5 rfl) ?_
                  refine lv_aload_n hx hb d_Ss_worst_99 rfl (lv_at hl 0 rfl) ?_
                  refine gs_get E hK.1 hG hC.1.1 (C := R_Ss) (T := F_Ss) (N := 9) rfl i_Ss 6 (by decide) w_66 (v := .ref aT) rfl d_Ss_worst_100 ?_
                  refine gs_alen E hK.1 hG hC.1.2.2.2.2.2 0 rfl (v := 10) rfl d_Ss_worst_103 ?_
                  refine lv_icmp_ge (tgt := 137) hx hb d_Ss_worst_104 (by decide) (fun c_6 => ?_) (fun c_6 => ?_)
                  · have hendi2 : i2 = 10 := cl_eq (N := 10) (by decide) hle c_6
                    refine lv_iload_n hx hb d_Ss_worst_137 rfl (lv_at hl 3 rfl) ?_
                    refine vx_ret ?_
                    rw [eG_5] at hG
                    exact W.iret (v := be) hx hb hr (gs_end ⟨iw, hiw, eiw, by rw [← hendi2, ← hbm], sh9, tk9, rfl⟩ hG hS) hS.2.2 d_Ss_worst_138
                  · have hi2 : i2 < 10 := cl_lt (N := 10) (by decide) hle c_6
                    refine lv_aload_n hx hb d_Ss_worst_107 rfl (lv_at hl 0 rfl) ?_
                    refine gs_get E hK.1 hG hC.1.1 (C := R_Ss) (T := F_Ss) (N := 9) rfl i_Ss 6 (by decide) w_66 (v := .ref aT) rfl d_Ss_worst_108 ?_
                    refine lv_iload hx hb d_Ss_worst_111 (lv_at hl 5 rfl) ?_
                    refine gn_iald E hK.1 hG hC.1.2.2.2.2.2 0 rfl (j := i2) hi2 (by decide) d_Ss_worst_113 ?_
                    refine lv_iload hx hb d_Ss_worst_114 (lv_at hl 4 rfl) ?_
                    refine lv_icmp_le (tgt := 131) hx hb d_Ss_worst_116 (by decide) (fun c_7 => ?_) (fun c_7 => ?_)
                    · refine lv_iinc (v := nI (i2 + 1)) (lv' := [(5, .int (nI (i2 + 1))), (0, .ref o), (1, .int q), (2, .ref (wa iw)), (3, .int be), (4, .int mo)]) hx hb d_Ss_worst_131 hl (k := 5) rfl (nI_1 _) (by decide) rfl (fun ls hl => ?_)
                      refine lv_goto (tgt := 97) hx hb d_Ss_worst_134 (by decide) ?_
                      rw [eG_5] at hG
                      exact IHl3 (i2 + 1) be mo (by omega) (by omega) (by rw [hbm, jc_best_s, if_pos (by rw [← hbm]; show jc_tkd nb bf hf (nI wn) (wf iw 0) (wf iw 1) (wf iw 2) (wf iw 3) 24 i2 ≤ mo; rw [← h5 i2 hi2]; exact c_7)]) _ _ hG hS ls (lv_sub hl [1, 2, 3, 4, 5, 0] rfl)
                    · refine lv_iload hx hb d_Ss_worst_119 (lv_at hl 5 rfl) ?_
                      refine lv_istore_n (lv' := [(3, .int (nI i2)), (0, .ref o), (1, .int q), (2, .ref (wa iw)), (4, .int mo), (5, .int (nI i2))]) hx hb d_Ss_worst_121 rfl hl (by decide) rfl (fun ls hl => ?_)
                      refine lv_aload_n hx hb d_Ss_worst_122 rfl (lv_at hl 1 rfl) ?_
                      refine gs_get E hK.1 hG hC.1.1 (C := R_Ss) (T := F_Ss) (N := 9) rfl i_Ss 6 (by decide) w_66 (v := .ref aT) rfl d_Ss_worst_123 ?_
                      refine lv_iload hx hb d_Ss_worst_126 (lv_at hl 5 rfl) ?_
                      refine gn_iald E hK.1 hG hC.1.2.2.2.2.2 0 rfl (j := i2) hi2 (by decide) d_Ss_worst_128 ?_
                      refine lv_topi (fun v_8 ev_8 => ?_)
                      refine lv_istore (lv' := [(4, .int v_8), (3, .int (nI i2)), (0, .ref o), (1, .int q), (2, .ref (wa iw)), (5, .int (nI i2))]) hx hb d_Ss_worst_129 hl (by decide) rfl (fun ls hl => ?_)
                      refine lv_iinc (v := nI (i2 + 1)) (lv' := [(5, .int (nI (i2 + 1))), (4, .int v_8), (3, .int (nI i2)), (0, .ref o), (1, .int q), (2, .ref (wa iw))]) hx hb d_Ss_worst_131 hl (k := 5) rfl (nI_1 _) (by decide) rfl (fun ls hl => ?_)
                      refine lv_goto (tgt := 97) hx hb d_Ss_worst_134 (by decide) ?_
                      rw [eG_5] at hG
                      exact IHl3 (i2 + 1) (nI i2) v_8 (by omega) (by omega) (by subst ev_8; rw [jc_best_s, if_neg (by rw [← hbm]; show ¬ jc_tkd nb bf hf (nI wn) (wf iw 0) (wf iw 1) (wf iw 2) (wf iw 3) 24 i2 ≤ mo; rw [← h5 i2 hi2]; exact c_7), h5 i2 hi2]) _ _ hG hS ls (lv_sub hl [3, 4, 5, 2, 1, 0] rfl)
              exact l3 (10 + 1) 0 (-1) 0 (by omega) (by omega) rfl _ _ hG hS ls (lv_sub hl [3, 4, 5, 2, 1, 0] rfl)
            · have hi1 : i1 < 24 := cl_lt (N := 24) (by decide) hle c_4
              refine lv_aload_n hx hb d_Ss_worst_49 rfl (lv_at hl 3 rfl) ?_
              refine lv_iload hx hb d_Ss_worst_50 (lv_at hl 5 rfl) ?_
              refine gn_aldS E hK.1 hG hC.1.2.2.2.1 5 rfl (j := i1) hi1 (by decide) (upTo_in hi1) d_Ss_worst_52 ?_
              refine lv_astore (lv' := [(6, .ref (ha i1)), (0, .ref o), (1, .int q), (2, .ref (wa iw)), (3, .ref aH), (4, .int 24), (5, .int (nI i1))]) hx hb d_Ss_worst_53 hl (by decide) rfl (fun ls hl => ?_)
              refine lv_aload hx hb d_Ss_worst_55 (lv_at hl 0 rfl) ?_
              refine lv_ifnull hx hb d_Ss_worst_57 ?_
              refine lv_aload hx hb d_Ss_worst_60 (lv_at hl 0 rfl) ?_
              refine gs_V (As := []) (rest := []) (k_Hr_hasSun l D k zb G_3 (ha i1) (hf i1 0) (hf i1 1) (hf i1 2) (hf i1 3) (hC.2.2.2.2.1 i1 hi1)) E hml hl.1 (cg_V (C := R_Hr) hw w_308 w_305 w_3 w_306 sel_Hr_hasSun hd_Hr_hasSun ⟨by exact Nat.le_of_ble_eq_true rfl, by exact Nat.le_of_ble_eq_true rfl⟩) hG hK hX hS (hC.2.2.2.2.1 i1 hi1) rfl rfl rfl rfl (by exact Nat.le_of_ble_eq_true rfl) d_Ss_worst_62 ⟨by exact Nat.le_of_ble_eq_true rfl, by exact Nat.le_of_ble_eq_true rfl⟩ (fun v G1 H locs hp hG hS => ?_)
              obtain ⟨hv1, hG1⟩ := hp
              subst hv1
              rw [hG1] at hG
              refine W.eq (g2 := F0 m 65 ls [.int (jc_hasSun (hf i1 2))]) rfl ?_
              refine lv_if_eq (tgt := 83) hx hb d_Ss_worst_65 (by decide) (fun c_9 => ?_) (fun c_9 => ?_)
              · refine lv_iinc (v := nI (i1 + 1)) (lv' := [(5, .int (nI (i1 + 1))), (6, .ref (ha i1)), (0, .ref o), (1, .int q), (2, .ref (wa iw)), (3, .ref aH), (4, .int 24)]) hx hb d_Ss_worst_83 hl (k := 6) rfl (nI_1 _) (by decide) rfl (fun ls hl => ?_)
                refine lv_goto (tgt := 42) hx hb d_Ss_worst_86 (by decide) ?_
                rw [eG_3] at hG
                exact IHl2 (i1 + 1) sh9 tk9 (by omega) (by omega) (fun i hi => by rw [h4 i hi]; unfold jc_tkd; rw [jc_sum_s]; unfold jc_tkh; rw [if_pos c_9, i_add0]) _ _ hG hS ls (lv_sub hl [2, 3, 4, 5, 6, 0] rfl)
              · refine lv_aload hx hb d_Ss_worst_68 (lv_at hl 0 rfl) ?_
                refine gs_get E hK.1 hG (hC.2.2.2.2.1 i1 hi1) (C := R_Hr) (T := F_Hr) (N := 4) rfl i_Hr 3 (by decide) w_48 (v := .int (hf i1 3)) rfl d_Ss_worst_70 ?_
                refine lv_if_le (tgt := 83) hx hb d_Ss_worst_73 (by decide) (fun c_10 => ?_) (fun c_10 => ?_)
                · refine lv_iinc (v := nI (i1 + 1)) (lv' := [(5, .int (nI (i1 + 1))), (6, .ref (ha i1)), (0, .ref o), (1, .int q), (2, .ref (wa iw)), (3, .ref aH), (4, .int 24)]) hx hb d_Ss_worst_83 hl (k := 6) rfl (nI_1 _) (by decide) rfl (fun ls hl => ?_)
                  refine lv_goto (tgt := 42) hx hb d_Ss_worst_86 (by decide) ?_
                  rw [eG_3] at hG
                  exact IHl2 (i1 + 1) sh9 tk9 (by omega) (by omega) (fun i hi => by rw [h4 i hi]; unfold jc_tkd; rw [jc_sum_s]; unfold jc_tkh; rw [if_neg c_9, if_pos c_10, i_add0]) _ _ hG hS ls (lv_sub hl [2, 3, 4, 5, 6, 0] rfl)
                · refine lv_aload_n hx hb d_Ss_worst_76 rfl (lv_at hl 1 rfl) ?_
                  refine lv_aload_n hx hb d_Ss_worst_77 rfl (lv_at hl 3 rfl) ?_
                  refine lv_aload hx hb d_Ss_worst_78 (lv_at hl 0 rfl) ?_
                  refine gs_V (As := [.ref (wa iw), .ref (ha i1)]) (rest := []) (k_Ss_addTaken l D k zb G_3 o aB aW aH aS aT wn hn nb nw ba wa ha bf hf wf sh9 tk9 (wa iw) (wf iw 0) (wf iw 1) (wf iw 2) (wf iw 3) (ha i1) (hf i1 0) (hf i1 1) (hf i1 2) (hf i1 3) hC (hC.2.2.2.1 iw hiw) (Nat.le_of_lt (hC.2.2.2.2.2.2.2 iw hiw).2.2.1) (Nat.le_trans (hC.2.2.2.2.2.2.2 iw hiw).2.2.2 hC.2.1.2.2.2.2.2) (hC.2.2.2.2.1 i1 hi1)) E hml hl.1 (cg_V (C := R_Ss) hw w_451 w_448 w_1 w_450 sel_Ss_addTaken hd_Ss_addTaken ⟨by exact Nat.le_of_ble_eq_true rfl, by exact Nat.le_of_ble_eq_true rfl⟩) hG hK hX hS hC.1.1 rfl rfl rfl rfl (by exact Nat.le_of_ble_eq_true rfl) d_Ss_worst_80 ⟨by exact Nat.le_of_ble_eq_true rfl, by exact Nat.le_of_ble_eq_true rfl⟩ (fun v G1 H locs hp hG hS => ?_)
                  obtain ⟨hv1, sh7, tk7, htk7, hG1⟩ := hp
                  subst hv1
                  rw [hG1, eG_3, gST_S2 hC0.ne] at hG
                  refine W.eq (g2 := F0 m 83 ls []) rfl ?_
                  refine lv_iinc (v := nI (i1 + 1)) (lv' := [(5, .int (nI (i1 + 1))), (6, .ref (ha i1)), (0, .ref o), (1, .int q), (2, .ref (wa iw)), (3, .ref aH), (4, .int 24)]) hx hb d_Ss_worst_83 hl (k := 6) rfl (nI_1 _) (by decide) rfl (fun ls hl => ?_)
                  refine lv_goto (tgt := 42) hx hb d_Ss_worst_86 (by decide) ?_
                  exact IHl2 (i1 + 1) sh7 tk7 (by omega) (by omega) (fun i hi => by rw [htk7 i hi, h4 i hi]; unfold jc_tkd; rw [jc_sum_s]; congr 1; unfold jc_tkh; rw [if_neg c_9, if_neg c_10]) _ _ hG hS ls (lv_sub hl [2, 3, 4, 5, 6, 0] rfl)
        exact l2 (24 + 1) 0 sh tk9 (by omega) (by omega) (fun i hi => h0 i (by omega)) _ _ hG hS ls (lv_sub hl [3, 4, 5, 2, 1, 0] rfl)
      · have hi0 : i0 < 10 := cl_lt (N := 10) (by decide) hle c_2
        refine lv_aload_n hx hb d_Ss_worst_17 rfl (lv_at hl 0 rfl) ?_
        refine gs_get E hK.1 hG hC.1.1 (C := R_Ss) (T := F_Ss) (N := 9) rfl i_Ss 6 (by decide) w_66 (v := .ref aT) rfl d_Ss_worst_18 ?_
        refine lv_iload_n hx hb d_Ss_worst_21 rfl (lv_at hl 3 rfl) ?_
        refine lv_iconst (v := 0) hx hb d_Ss_worst_22 (by decide) ?_
        refine gn_iast E hK.1 hG hS hC.1.2.2.2.2.2 0 rfl (j := i0) hi0 (by decide) d_Ss_worst_23 (fun H locs hG hS => ?_)
        obtain ⟨G_11, eG_11⟩ : ∃ z, z = gs_u G_1 aT (aInt (k 0) 10 (upd tk9 i0 0)) := ⟨_, rfl⟩
        have hG : gs_W D classes zb G_11 H := by rw [eG_11]; exact hG
        have hc_12 : G_11 o = some (.inr (3, [.int (nI wn), .int (nI hn), .ref aB, .ref aW, .ref aH, .ref aS, .ref aT, .int (nI nb), .int (nI nw)])) := by rw [eG_11]; exact gs_keep hC.1.1 hC.1.2.2.2.2.2 (by simp)
        have hc_13 : G_11 aB = some (aRef (k 3) 10 (upTo nb ba)) := by rw [eG_11]; exact gs_keep hC.1.2.1 hC.1.2.2.2.2.2 (by simp)
        have hc_14 : G_11 aW = some (aRef (k 4) 10 (upTo nw wa)) := by rw [eG_11]; exact gs_keep hC.1.2.2.1 hC.1.2.2.2.2.2 (by simp)
        have hc_15 : G_11 aH = some (aRef (k 5) 24 (upTo 24 ha)) := by rw [eG_11]; exact gs_keep hC.1.2.2.2.1 hC.1.2.2.2.2.2 (by simp)
        have hc_16 : G_11 aS = some (aLong (k 1) 10 sh) := by rw [eG_11]; exact gs_keep hC.1.2.2.2.2.1 hC.1.2.2.2.2.2 (by simp)
        have hc_17 : G_11 (wa iw) = some (.inr (2, [.int (nI (wf iw 0)), .int (nI (wf iw 1)), .int (nI (wf iw 2)), .int (nI (wf iw 3))])) := by rw [eG_11]; exact gs_keep (hC.2.2.2.1 iw hiw) hC.1.2.2.2.2.2 (by simp)
        have hc_18 : G_11 aT = some (aInt (k 0) 10 (upd tk9 i0 0)) := by rw [eG_11]; exact gs_us _ _ _
        refine lv_iinc (v := nI (i0 + 1)) (lv' := [(3, .int (nI (i0 + 1))), (0, .ref o), (1, .int q), (2, .ref (wa iw))]) hx hb d_Ss_worst_24 hl (k := 3) rfl (nI_1 _) (by decide) rfl (fun ls hl => ?_)
        refine lv_goto (tgt := 8) hx hb d_Ss_worst_27 (by decide) ?_
        rw [eG_11, eG_1, gST_T] at hG
        exact IHl1 (i0 + 1) (upd tk9 i0 0) (by omega) (by omega) (upI_all (g := fun _ => 0) h0 rfl) _ _ hG hS ls (lv_sub hl [1, 2, 3, 0] rfl)
  exact l1 (10 + 1) 0 tk (by omega) (by omega) (fun i hi => absurd hi (Nat.not_lt_zero i)) _ _ hG hS ls (lv_sub hl [2, 3, 1, 0] rfl)
