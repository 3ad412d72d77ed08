/-! contracts, by program -/
set_option maxHeartbeats 4000000 in
set_option maxRecDepth 100000 in
theorem k_Ss_addTaken (l : Launch) (D : va_G) (k : Nat → ClassId) (zb : Nat) (G : Nat → Option va_E) (o aB aW aH aS aT : Nat) (wn hn nb nw : Nat) (ba wa ha : Nat → Nat) (bf hf : Nat → Nat → Int32) (wf : Nat → Nat → Nat) (sh : Nat → Int64) (tk : Nat → Int32) (a2 m0 m1 m2 m3 : Nat) (a1 : Nat) (X Y Z am : Int32) (hC : sC k G o aB aW aH aS aT wn hn nb nw ba wa ha bf hf wf sh tk) (hb2 : G a2 = some (.inr (2, [.int (nI m0), .int (nI m1), .int (nI m2), .int (nI m3)]))) (hm : m1 ≤ m3) (hm3 : m3 ≤ 60) (hb1 : G a1 = some (.inr (1, [.int X, .int Y, .int Z, .int am]))) : Met l y_Ss_addTaken (wM y_Ss_addTaken c_Ss_addTaken 9 none) ({ frames := 4, cells := 0, slots := 0, locals := 107 }) (gs_P D k zb G [.ref o, .ref a2, .ref a1]) (gs_Q D zb (fun v G1 => v = none ∧ ∃ (sh9 : Nat → Int64) (tk9 : Nat → Int32), (∀ i, i < 10 → tk9 i = tk i + jc_tks nb bf X Y Z am (nI wn) m0 m1 m2 (m3 - m1) i) ∧ G1 = gST k G aS aT sh9 tk9)) 0 0 (fun q : Nat => zb ≤ q) := by
  refine Met.ofW (cc := c_Ss_addTaken) (maxL := 9) (ret := none) (by decide) rfl ?_
  intro p e s m args below meth c s₁ B hml hv
  obtain ⟨rfl, hG, hK, hX⟩ := hv
  have hx := B.exec
  have hb := B.bytes
  have hr := B.returns
  have hts := atoms_spec (ws := wM y_Ss_addTaken c_Ss_addTaken 9 none) B.pre
  have hw : ∀ w9 ∈ wW, w9.before ([.ref o, .ref a2, .ref a1] : List Value).toArray s = true := fun w9 h9 => hts w9 (gi_in w9 h9)
  have hown : s.vm.findClass R_Ss = some m.cls := findClass_of_methodNamed B.named
  have hlocks := B.notSynchronized
  have E : gs_E p s m ([.ref o, .ref a2, .ref a1] : List Value).toArray c c_Ss_addTaken wW R_Ss := ⟨hx, hb, hw, hown⟩
  have hS : gs_S zb s.heap s.heap [] := va_S.rf
  have hl := lv_entry ([.ref o, .ref a2, .ref a1]) (n := 9) (Nat.le_of_ble_eq_true rfl)
  rw [lg_entry_eq]
  generalize (lg_sl ([.ref o, .ref a2, .ref a1]) ++ List.replicate (9 - (lg_sl ([.ref o, .ref a2, .ref a1])).length) Slot.unset).toArray = ls at hl ⊢
  have hl : lv_has ls 9 [(0, .ref o), (1, .ref a2), (2, .ref a1)] := hl
  have hC0 := hC
  refine lv_aload_n hx hb d_Ss_addTaken_0 rfl (lv_at hl 1 rfl) ?_
  refine gs_V (As := []) (rest := []) (k_Wn_columns l D k zb G a2 (nI m0) (nI m1) (nI m2) (nI m3) hb2) E hml hl.1 (cg_V (C := R_Wn) hw w_380 w_377 w_11 w_378 sel_Wn_columns hd_Wn_columns ⟨by exact Nat.le_of_ble_eq_true rfl, by exact Nat.le_of_ble_eq_true rfl⟩) hG hK hX hS hb2 rfl rfl rfl rfl (by exact Nat.le_of_ble_eq_true rfl) d_Ss_addTaken_1 ⟨by exact Nat.le_of_ble_eq_true rfl, by exact Nat.le_of_ble_eq_true rfl⟩ (fun v G1 H locs hp hG hS => ?_)
  obtain ⟨hv1, hG1⟩ := hp
  subst hv1
  rw [hG1] at hG
  refine W.eq (g2 := F0 m 4 ls [.long (jc_cells (nI m0) ((nI m2) - 1))]) rfl ?_
  refine lv_topl (fun v_1 ev_1 => ?_)
  refine lv_lstore_n (lv' := [(3, .long v_1), (0, .ref o), (1, .ref a2), (2, .ref a1)]) hx hb d_Ss_addTaken_4 rfl hl (by decide) rfl (fun ls hl => ?_)
  refine lv_aload_n hx hb d_Ss_addTaken_5 rfl (lv_at hl 2 rfl) ?_
  refine gs_get E hK.1 hG hb2 (C := R_Wn) (T := F_Wn) (N := 4) rfl i_Wn 1 (by decide) w_280 (v := .int (nI m1)) rfl d_Ss_addTaken_6 ?_
  refine lv_istore (lv' := [(5, .int (nI m1)), (3, .long v_1), (0, .ref o), (1, .ref a2), (2, .ref a1)]) hx hb d_Ss_addTaken_9 hl (by decide) rfl (fun ls hl => ?_)
  rw [← gST_id hC0] at hG
  subst ev_1
  have lpo : ∀ (fu : Nat) (j : Nat) (sh9 : Nat → Int64) (tk9 : Nat → Int32), m1 + j ≤ m3 → m3 + 1 ≤ m1 + j + fu → (h0 : ∀ i, i < 10 → tk9 i = tk i + jc_tks nb bf X Y Z am (nI wn) m0 m1 m2 j i) → ∀ (H : Heap) (locs : List Loc), gs_W D classes zb (gST k G aS aT sh9 tk9) H → gs_S zb s.heap H locs → ∀ (ls : Array Slot), lv_has ls 9 [(0, .ref o), (1, .ref a2), (2, .ref a1), (3, .long (jc_cells (nI m0) (nI m2 - 1))), (5, .int (nI (m1 + j)))] → W p l e (headSpec (wM y_Ss_addTaken c_Ss_addTaken 9 none) ({ frames := 4, cells := 0, slots := 0, locals := 107 })).room s m ([.ref o, .ref a2, .ref a1] : List Value).toArray below meth c H locs 0 0 (MQ below (gs_Q D zb (fun v G1 => v = none ∧ ∃ (sh9 : Nat → Int64) (tk9 : Nat → Int32), (∀ i, i < 10 → tk9 i = tk i + jc_tks nb bf X Y Z am (nI wn) m0 m1 m2 (m3 - m1) i) ∧ G1 = gST k G aS aT sh9 tk9)) ([.ref o, .ref a2, .ref a1] : List Value).toArray s 0 0 (fun q : Nat => zb ≤ q)) (F0 m 11 ls []) := by
    intro fu
    induction fu with
    | zero => intro j sh9 tk9 hle hfu; exact absurd hfu (by omega)
    | succ fu IHlpo =>
      intro j sh9 tk9 hle hfu h0 H locs hG hS ls hl
      obtain ⟨G_2, eG_2⟩ : ∃ z, z = gST k G aS aT sh9 tk9 := ⟨_, rfl⟩
      rw [← eG_2] at hG
      have hC : sC k G_2 o aB aW aH aS aT wn hn nb nw ba wa ha bf hf wf sh9 tk9 := by rw [eG_2]; exact sC_ST hC0 sh9 tk9
      have hc_3 : G_2 a2 = some (.inr (2, [.int (nI m0), .int (nI m1), .int (nI m2), .int (nI m3)])) := by rw [eG_2]; exact gST_keep hC0 hb2 (by simp) (by simp)
      have hc_4 : G_2 a1 = some (.inr (1, [.int X, .int Y, .int Z, .int am])) := by rw [eG_2]; exact gST_keep hC0 hb1 (by simp) (by simp)
      refine lv_iload hx hb d_Ss_addTaken_11 (lv_at hl 4 rfl) ?_
      refine lv_aload_n hx hb d_Ss_addTaken_13 rfl (lv_at hl 1 rfl) ?_
      refine gs_get E hK.1 hG hc_3 (C := R_Wn) (T := F_Wn) (N := 4) rfl i_Wn 3 (by decide) w_283 (v := .int (nI m3)) rfl d_Ss_addTaken_14 ?_
      refine lv_icmp_ge (tgt := 94) hx hb d_Ss_addTaken_17 (by decide) (fun c_5 => ?_) (fun c_5 => ?_)
      · have hend : (m1 + j) = m3 := cl_eq (by have := hC.2.1; omega) hle c_5
        rw [eG_2] at hG
        exact W.vret hx hb hr (gs_end ⟨rfl, sh9, tk9, fun i hi => by rw [h0 i hi, ← hend, Nat.add_sub_cancel_left], rfl⟩ hG hS) hS.2.2 d_Ss_addTaken_94
      · have hlt : (m1 + j) < m3 := cl_lt (by have := hC.2.1; omega) hle c_5
        refine lv_lload_n hx hb d_Ss_addTaken_20 rfl (lv_at hl 3 rfl) ?_
        refine lv_aload_n hx hb d_Ss_addTaken_21 rfl (lv_at hl 0 rfl) ?_
        refine lv_iload hx hb d_Ss_addTaken_22 (lv_at hl 4 rfl) ?_
        refine lv_aload_n hx hb d_Ss_addTaken_24 rfl (lv_at hl 2 rfl) ?_
        refine gs_V (As := [.int (nI (m1 + j)), .ref a1]) (rest := [.long (jc_cells (nI m0) (nI m2 - 1))]) (k_Ss_shadeOfOneBoxOnly l D k zb G_2 o aB aW aH aS aT wn hn nb nw ba wa ha bf hf wf sh9 tk9 a1 X Y Z am (nI (m1 + j)) hC hc_4) E hml hl.1 (cg_V (C := R_Ss) hw w_455 w_452 w_1 w_454 sel_Ss_shadeOfOneBoxOnly hd_Ss_shadeOfOneBoxOnly ⟨by exact Nat.le_of_ble_eq_true rfl, by exact Nat.le_of_ble_eq_true rfl⟩) hG hK hX hS hC.1.1 rfl rfl rfl rfl (by exact Nat.le_of_ble_eq_true rfl) d_Ss_addTaken_25 ⟨by exact Nat.le_of_ble_eq_true rfl, by exact Nat.le_of_ble_eq_true rfl⟩ (fun v G1 H locs hp hG hS => ?_)
        obtain ⟨hv1, sh8, hsh8, hG1⟩ := hp
        subst hv1
        rw [hG1, eG_2, gST_S hC0.ne] at hG
        obtain ⟨G_6, eG_6⟩ : ∃ z, z = gST k G aS aT sh8 tk9 := ⟨_, rfl⟩
        rw [← eG_6] at hG
        have hC : sC k G_6 o aB aW aH aS aT wn hn nb nw ba wa ha bf hf wf sh8 tk9 := by rw [eG_6]; exact sC_ST hC0 sh8 tk9
        have hc_7 : G_6 a2 = some (.inr (2, [.int (nI m0), .int (nI m1), .int (nI m2), .int (nI m3)])) := by rw [eG_6]; exact gST_keep hC0 hb2 (by simp) (by simp)
        have hc_8 : G_6 a1 = some (.inr (1, [.int X, .int Y, .int Z, .int am])) := by rw [eG_6]; exact gST_keep hC0 hb1 (by simp) (by simp)
        refine W.eq (g2 := F0 m 28 ls [.long (jc_alone (jc_shi nb bf X Y Z (nI (m1 + j)) (nI wn))), .long (jc_cells (nI m0) (nI m2 - 1))]) rfl ?_
        refine lv_land hx hb d_Ss_addTaken_28 ?_
        refine lv_topl (fun v_9 ev_9 => ?_)
        refine lv_lstore (lv' := [(6, .long v_9), (0, .ref o), (1, .ref a2), (2, .ref a1), (3, .long (jc_cells (nI m0) (nI m2 - 1))), (5, .int (nI (m1 + j)))]) hx hb d_Ss_addTaken_29 hl (by decide) rfl (fun ls hl => ?_)
        refine lv_iconst (v := 0) hx hb d_Ss_addTaken_31 (by decide) ?_
        refine lv_istore (lv' := [(8, .int 0), (6, .long v_9), (0, .ref o), (1, .ref a2), (2, .ref a1), (3, .long (jc_cells (nI m0) (nI m2 - 1))), (5, .int (nI (m1 + j)))]) hx hb d_Ss_addTaken_32 hl (by decide) rfl (fun ls hl => ?_)
        rw [eG_6] at hG
        subst ev_9
        have lpi : ∀ (fu : Nat) (i0 : Nat) (tk8 : Nat → Int32), i0 ≤ 10 → 10 + 1 ≤ i0 + fu → (h1 : ∀ i, i0 ≤ i → tk8 i = tk9 i) → (h2 : ∀ i, i < i0 → tk8 i = tk9 i + jc_tk nb bf X Y Z am (nI wn) m0 m1 m2 j i) → ∀ (H : Heap) (locs : List Loc), gs_W D classes zb (gST k G aS aT sh8 tk8) H → gs_S zb s.heap H locs → ∀ (ls : Array Slot), lv_has ls 9 [(0, .ref o), (1, .ref a2), (2, .ref a1), (3, .long (jc_cells (nI m0) (nI m2 - 1))), (5, .int (nI (m1 + j))), (6, .long ((jc_cells (nI m0) (nI m2 - 1)) &&& jc_alone (jc_shi nb bf X Y Z (nI (m1 + j)) (nI wn)))), (8, .int (nI i0))] → W p l e (headSpec (wM y_Ss_addTaken c_Ss_addTaken 9 none) ({ frames := 4, cells := 0, slots := 0, locals := 107 })).room s m ([.ref o, .ref a2, .ref a1] : List Value).toArray below meth c H locs 0 0 (MQ below (gs_Q D zb (fun v G1 => v = none ∧ ∃ (sh9 : Nat → Int64) (tk9 : Nat → Int32), (∀ i, i < 10 → tk9 i = tk i + jc_tks nb bf X Y Z am (nI wn) m0 m1 m2 (m3 - m1) i) ∧ G1 = gST k G aS aT sh9 tk9)) ([.ref o, .ref a2, .ref a1] : List Value).toArray s 0 0 (fun q : Nat => zb ≤ q)) (F0 m 34 ls []) := by
          intro fu
          induction fu with
          | zero => intro i0 tk8 hle hfu; exact absurd hfu (by omega)
          | succ fu IHlpi =>
            intro i0 tk8 hle hfu h1 h2 H locs hG hS ls hl
            obtain ⟨G_10, eG_10⟩ : ∃ z, z = gST k G aS aT sh8 tk8 := ⟨_, rfl⟩
            rw [← eG_10] at hG
            have hC : sC k G_10 o aB aW aH aS aT wn hn nb nw ba wa ha bf hf wf sh8 tk8 := by rw [eG_10]; exact sC_ST hC0 sh8 tk8
            have hc_11 : G_10 a2 = some (.inr (2, [.int (nI m0), .int (nI m1), .int (nI m2), .int (nI m3)])) := by rw [eG_10]; exact gST_keep hC0 hb2 (by simp) (by simp)
            have hc_12 : G_10 a1 = some (.inr (1, [.int X, .int Y, .int Z, .int am])) := by rw [eG_10]; exact gST_keep hC0 hb1 (by simp) (by simp)
            refine lv_iload hx hb d_Ss_addTaken_34 (lv_at hl 6 rfl) ?_
            refine lv_aload_n hx hb d_Ss_addTaken_36 rfl (lv_at hl 0 rfl) ?_
            refine gs_get E hK.1 hG hC.1.1 (C := R_Ss) (T := F_Ss) (N := 9) rfl i_Ss 5 (by decide) w_65 (v := .ref aS) rfl d_Ss_addTaken_37 ?_
            refine gs_alen E hK.1 hG hC.1.2.2.2.2.1 1 rfl (v := 10) rfl d_Ss_addTaken_40 ?_
            refine lv_icmp_ge (tgt := 88) hx hb d_Ss_addTaken_41 (by decide) (fun c_13 => ?_) (fun c_13 => ?_)
            · have hi0 : i0 = 10 := cl_eq (N := 10) (by decide) hle c_13
              refine lv_iinc (v := nI ((m1 + j) + 1)) (lv' := [(5, .int (nI ((m1 + j) + 1))), (0, .ref o), (1, .ref a2), (2, .ref a1), (3, .long (jc_cells (nI m0) (nI m2 - 1))), (6, .long ((jc_cells (nI m0) (nI m2 - 1)) &&& jc_alone (jc_shi nb bf X Y Z (nI (m1 + j)) (nI wn)))), (8, .int (nI i0))]) hx hb d_Ss_addTaken_88 hl (k := 4) rfl (nI_1 _) (by decide) rfl (fun ls hl => ?_)
              refine lv_goto (tgt := 11) hx hb d_Ss_addTaken_91 (by decide) ?_
              rw [eG_10] at hG
              exact IHlpo (j + 1) sh8 tk8 (by omega) (by omega) (fun i hi => by rw [h2 i (by omega), h0 i hi, i_assoc]; rfl) _ _ hG hS ls (lv_sub hl [1, 2, 3, 4, 0] rfl)
            · have hi0 : i0 < 10 := cl_lt (N := 10) (by decide) hle c_13
              refine lv_iload hx hb d_Ss_addTaken_44 (lv_at hl 6 rfl) ?_
              refine lv_aload_n hx hb d_Ss_addTaken_46 rfl (lv_at hl 0 rfl) ?_
              refine gs_get E hK.1 hG hC.1.1 (C := R_Ss) (T := F_Ss) (N := 9) rfl i_Ss 6 (by decide) w_66 (v := .ref aT) rfl d_Ss_addTaken_47 ?_
              refine gs_alen E hK.1 hG hC.1.2.2.2.2.2 0 rfl (v := 10) rfl d_Ss_addTaken_50 ?_
              refine lv_icmp_ge (tgt := 88) hx hb d_Ss_addTaken_51 (by decide) (fun c_14 => ?_) (fun c_14 => ?_)
              · exact absurd c_14 c_13
              · have hi0 : i0 < 10 := cl_lt (N := 10) (by decide) hle c_14
                refine lv_aload_n hx hb d_Ss_addTaken_54 rfl (lv_at hl 0 rfl) ?_
                refine gs_get E hK.1 hG hC.1.1 (C := R_Ss) (T := F_Ss) (N := 9) rfl i_Ss 6 (by decide) w_66 (v := .ref aT) rfl d_Ss_addTaken_55 ?_
                refine lv_iload hx hb d_Ss_addTaken_58 (lv_at hl 6 rfl) ?_
                refine lv_dup2_11 hx hb d_Ss_addTaken_60 rfl rfl ?_
                refine gn_iald E hK.1 hG hC.1.2.2.2.2.2 0 rfl (j := i0) hi0 (by decide) d_Ss_addTaken_61 ?_
                refine lv_aload_n hx hb d_Ss_addTaken_62 rfl (lv_at hl 2 rfl) ?_
                refine gs_get E hK.1 hG hc_12 (C := R_Hr) (T := F_Hr) (N := 4) rfl i_Hr 3 (by decide) w_48 (v := .int am) rfl d_Ss_addTaken_63 ?_
                refine lv_aload_n hx hb d_Ss_addTaken_66 rfl (lv_at hl 0 rfl) ?_
                refine gs_get E hK.1 hG hC.1.1 (C := R_Ss) (T := F_Ss) (N := 9) rfl i_Ss 5 (by decide) w_65 (v := .ref aS) rfl d_Ss_addTaken_67 ?_
                refine lv_iload hx hb d_Ss_addTaken_70 (lv_at hl 6 rfl) ?_
                refine gn_lald E hK.1 hG hC.1.2.2.2.2.1 1 rfl (j := i0) hi0 (by decide) d_Ss_addTaken_72 ?_
                refine lv_lload hx hb d_Ss_addTaken_73 (lv_at hl 5 rfl) ?_
                refine lv_land hx hb d_Ss_addTaken_75 ?_
                refine gs_St (As := [.long ((sh8 i0) &&& ((jc_cells (nI m0) (nI m2 - 1)) &&& jc_alone (jc_shi nb bf X Y Z (nI (m1 + j)) (nI wn))))]) (rest := [.int am, .int (tk8 i0), .int (nI i0), .ref aT]) (k_Lo_bitCount l D k zb G_10 ((sh8 i0) &&& ((jc_cells (nI m0) (nI m2 - 1)) &&& jc_alone (jc_shi nb bf X Y Z (nI (m1 + j)) (nI wn))))) E hml hl.1 (cg_S hw w_357 w_355 w_12 w_356 hd_Lo_bitCount ⟨by exact Nat.le_of_ble_eq_true rfl, by exact Nat.le_of_ble_eq_true rfl⟩) hG hK hX hS rfl rfl (by exact Nat.le_of_ble_eq_true rfl) d_Ss_addTaken_76 ⟨by exact Nat.le_of_ble_eq_true rfl, by exact Nat.le_of_ble_eq_true rfl⟩ (fun v G1 H locs hp hG hS => ?_)
                obtain ⟨hv1, hG1⟩ := hp
                subst hv1
                rw [hG1] at hG
                refine W.eq (g2 := F0 m 79 ls [.int (jc_bits ((sh8 i0) &&& ((jc_cells (nI m0) (nI m2 - 1)) &&& jc_alone (jc_shi nb bf X Y Z (nI (m1 + j)) (nI wn))))), .int am, .int (tk8 i0), .int (nI i0), .ref aT]) rfl ?_
                refine lv_imul hx hb d_Ss_addTaken_79 ?_
                refine lv_iadd hx hb d_Ss_addTaken_80 ?_
                refine lv_topi (fun v_15 ev_15 => ?_)
                refine gn_iast E hK.1 hG hS hC.1.2.2.2.2.2 0 rfl (j := i0) hi0 (by decide) d_Ss_addTaken_81 (fun H locs hG hS => ?_)
                obtain ⟨G_16, eG_16⟩ : ∃ z, z = gs_u G_10 aT (aInt (k 0) 10 (upd tk8 i0 v_15)) := ⟨_, rfl⟩
                have hG : gs_W D classes zb G_16 H := by rw [eG_16]; exact hG
                have hc_17 : G_16 o = some (.inr (3, [.int (nI wn), .int (nI hn), .ref aB, .ref aW, .ref aH, .ref aS, .ref aT, .int (nI nb), .int (nI nw)])) := by rw [eG_16]; exact gs_keep hC.1.1 hC.1.2.2.2.2.2 (by simp)
                have hc_18 : G_16 aB = some (aRef (k 3) 10 (upTo nb ba)) := by rw [eG_16]; exact gs_keep hC.1.2.1 hC.1.2.2.2.2.2 (by simp)
                have hc_19 : G_16 aW = some (aRef (k 4) 10 (upTo nw wa)) := by rw [eG_16]; exact gs_keep hC.1.2.2.1 hC.1.2.2.2.2.2 (by simp)
                have hc_20 : G_16 aH = some (aRef (k 5) 24 (upTo 24 ha)) := by rw [eG_16]; exact gs_keep hC.1.2.2.2.1 hC.1.2.2.2.2.2 (by simp)
                have hc_21 : G_16 aS = some (aLong (k 1) 10 sh8) := by rw [eG_16]; exact gs_keep hC.1.2.2.2.2.1 hC.1.2.2.2.2.2 (by simp)
                have hc_22 : G_16 a2 = some (.inr (2, [.int (nI m0), .int (nI m1), .int (nI m2), .int (nI m3)])) := by rw [eG_16]; exact gs_keep hc_11 hC.1.2.2.2.2.2 (by simp)
                have hc_23 : G_16 a1 = some (.inr (1, [.int X, .int Y, .int Z, .int am])) := by rw [eG_16]; exact gs_keep hc_12 hC.1.2.2.2.2.2 (by simp)
                have hc_24 : G_16 aT = some (aInt (k 0) 10 (upd tk8 i0 v_15)) := by rw [eG_16]; exact gs_us _ _ _
                refine lv_iinc (v := nI (i0 + 1)) (lv' := [(8, .int (nI (i0 + 1))), (0, .ref o), (1, .ref a2), (2, .ref a1), (3, .long (jc_cells (nI m0) (nI m2 - 1))), (5, .int (nI (m1 + j))), (6, .long ((jc_cells (nI m0) (nI m2 - 1)) &&& jc_alone (jc_shi nb bf X Y Z (nI (m1 + j)) (nI wn))))]) hx hb d_Ss_addTaken_82 hl (k := 6) rfl (nI_1 _) (by decide) rfl (fun ls hl => ?_)
                refine lv_goto (tgt := 34) hx hb d_Ss_addTaken_85 (by decide) ?_
                rw [eG_16, eG_10, gST_T] at hG
                exact IHlpi (i0 + 1) (upd tk8 i0 v_15) (by omega) (by omega) (fun i hi => by rw [pk_un (by omega)]; exact h1 i (by omega)) (upI_all (g := fun i => tk9 i + jc_tk nb bf X Y Z am (nI wn) m0 m1 m2 j i) h2 (by subst ev_15; rw [h1 i0 (by omega), hsh8 i0 hi0]; rfl)) _ _ hG hS ls (lv_sub hl [1, 2, 3, 4, 5, 6, 0] rfl)
        exact lpi (10 + 1) 0 tk9 (by omega) (by omega) (fun i _ => rfl) (fun i hi => absurd hi (Nat.not_lt_zero i)) _ _ hG hS ls (lv_sub hl [2, 3, 4, 5, 6, 1, 0] rfl)
  exact lpo (m3 + 1) 0 sh tk (by omega) (by omega) (fun i hi => (i_add0 _).symm) _ _ hG hS ls (lv_sub hl [2, 3, 4, 1, 0] rfl)
