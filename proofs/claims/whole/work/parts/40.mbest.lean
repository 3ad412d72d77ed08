/-! contracts, by program -/
set_option maxHeartbeats 4000000 in
set_option maxRecDepth 100000 in
theorem k_Md_brightest (l : Launch) (D : va_G) (k : Nat → ClassId) (zb : Nat) (G : Nat → Option va_E) (mo cB cT cS cL cW : Nat) (th : Int32) (wn hn nb nw : Nat) (bx tr su li wi : Nat → Int32) (l1 l2 l3 l4 : Int64) (wf : Nat → Nat → Nat) (q : Int32) (hM : sM k G mo cB cT cS cL cW th wn hn nb nw bx tr su li wi l1 l2 l3 l4) (hnb : nb ≤ 10) (hnw : nw ≤ 10) (hwn : 1 ≤ wn ∧ wn ≤ 60) (hhn : 1 ≤ hn ∧ hn ≤ 60) (hwf : jm_Wf nw wi wf) : Met l y_Md_brightest (wM y_Md_brightest c_Md_brightest 6 (some .int)) ({ frames := 6, cells := 0, slots := 0, locals := 161 }) (gs_P D k zb G [.ref mo, .int q]) (gs_Q D zb (fun v G1 => ∃ (c9 r : Int32) (m1 m2 m3 m4 : Int64), ((c9 = 1 ∧ ¬ jm_noB q nw = 0) ∨ (c9 = 0 ∧ jm_noB q nw = 0)) ∧ v = some (.int r) ∧ (c9 = 0 → ∃ i : Nat, i < nw ∧ q = nI i ∧ r = (jc_best (fun t => jm_lit bx tr su li nb (-1) (wf i 0) (wf i 1) (wf i 2) (wf i 3) t) 24).1) ∧ G1 = gs_u G mo (oMd c9 wn hn nb nw cB cT cS cL cW m1 m2 m3 m4))) 0 0 (fun q : Nat => zb ≤ q) := by
  refine Met.ofW (cc := c_Md_brightest) (maxL := 6) (ret := (some .int)) (by decide) rfl ?_
  intro p e s m args below meth c s₁ B hml hv
  obtain ⟨rfl, hG, hK, hX⟩ := hv
  have hx := B.exec
  have hb := B.bytes
  have hr := B.returns
  have hts := atoms_spec (ws := wM y_Md_brightest c_Md_brightest 6 (some .int)) B.pre
  have hw : ∀ w9 ∈ wW, w9.before ([.ref mo, .int q] : List Value).toArray s = true := fun w9 h9 => hts w9 (gi_in w9 h9)
  have hown : s.vm.findClass R_Md = some m.cls := findClass_of_methodNamed B.named
  have hlocks := B.notSynchronized
  have E : gs_E p s m ([.ref mo, .int q] : List Value).toArray c c_Md_brightest wW R_Md := ⟨hx, hb, hw, hown⟩
  have hS : gs_S zb s.heap s.heap [] := va_S.rf
  have hl := lv_entry ([.ref mo, .int q]) (n := 6) (Nat.le_of_ble_eq_true rfl)
  rw [lg_entry_eq]
  generalize (lg_sl ([.ref mo, .int q]) ++ List.replicate (6 - (lg_sl ([.ref mo, .int q])).length) Slot.unset).toArray = ls at hl ⊢
  have hl : lv_has ls 6 [(0, .ref mo), (1, .int q)] := hl
  refine lv_aload_n hx hb d_Md_brightest_0 rfl (lv_at hl 0 rfl) ?_
  refine lv_aload_n hx hb d_Md_brightest_1 rfl (lv_at hl 0 rfl) ?_
  refine lv_iload_n hx hb d_Md_brightest_2 rfl (lv_at hl 1 rfl) ?_
  refine gs_V (As := [.int q]) (rest := [.ref mo]) (k_Md_noWindow l D k zb G mo cB cT cS cL cW th wn hn nb nw bx tr su li wi l1 l2 l3 l4 q ⟨hM.1, hM.2.1, hM.2.2.1, hM.2.2.2.1, hM.2.2.2.2.1, hM.2.2.2.2.2⟩) E hml hl.1 (cg_V (C := R_Md) hw w_592 w_589 w_4 w_591 sel_Md_noWindow hd_Md_noWindow ⟨by exact Nat.le_of_ble_eq_true rfl, by exact Nat.le_of_ble_eq_true rfl⟩) hG hK hX hS hM.1 rfl rfl rfl rfl (by exact Nat.le_of_ble_eq_true rfl) d_Md_brightest_3 ⟨by exact Nat.le_of_ble_eq_true rfl, by exact Nat.le_of_ble_eq_true rfl⟩ (fun v G1 H locs hp hG hS => ?_)
  obtain ⟨hv1, hG1⟩ := hp
  subst hv1
  rw [hG1] at hG
  refine W.eq (g2 := F0 m 6 ls [.int (jm_noB q nw), .ref mo]) rfl ?_
  refine lv_if_eq (tgt := 13) hx hb d_Md_brightest_6 (by decide) (fun c_1 => ?_) (fun c_1 => ?_)
  · obtain ⟨iw, hiwn, hqi⟩ := noB_1 (by omega) c_1
    have hiw : iw < 10 := by omega
    obtain ⟨⟨hw0, hw1, hw2, hw3⟩, hu, hv, hu1, hv1⟩ := hwf iw hiwn
    rw [hqi] at hl
    refine lv_iconst (v := 0) hx hb d_Md_brightest_13 (by decide) ?_
    refine gs_put E hK.1 hG hS hM.1 (C := R_Md) (T := F_Md) (N := 14) rfl i_Md t_Md t_Md_ok n_Md 0 (by decide) w_463 rfl (v := .int 0) rfl rfl (Nat.le_of_ble_eq_true rfl) d_Md_brightest_14 (fun H locs hG hS => ?_)
    obtain ⟨G_2, eG_2⟩ : ∃ z, z = gs_u G mo (.inr (4, [.int 0, .int (nI wn), .int (nI hn), .int (nI nb), .ref cB, .ref cT, .ref cS, .ref cL, .int (nI nw), .ref cW, .long l1, .long l2, .long l3, .long l4])) := ⟨_, rfl⟩
    have hG : gs_W D classes zb G_2 H := by rw [eG_2]; exact hG
    have hc_3 : G_2 cB = some (aInt (k 0) 66 bx) := by rw [eG_2]; exact gs_keep hM.2.1 hM.1 (by simp)
    have hc_4 : G_2 cT = some (aInt (k 2) 11 tr) := by rw [eG_2]; exact gs_keep hM.2.2.1 hM.1 (by simp)
    have hc_5 : G_2 cS = some (aInt (k 0) 72 su) := by rw [eG_2]; exact gs_keep hM.2.2.2.1 hM.1 (by simp)
    have hc_6 : G_2 cL = some (aInt (k 0) 24 li) := by rw [eG_2]; exact gs_keep hM.2.2.2.2.1 hM.1 (by simp)
    have hc_7 : G_2 cW = some (aInt (k 0) 40 wi) := by rw [eG_2]; exact gs_keep hM.2.2.2.2.2 hM.1 (by simp)
    have hc_8 : G_2 mo = some (.inr (4, [.int 0, .int (nI wn), .int (nI hn), .int (nI nb), .ref cB, .ref cT, .ref cS, .ref cL, .int (nI nw), .ref cW, .long l1, .long l2, .long l3, .long l4])) := by rw [eG_2]; exact gs_us _ _ _
    refine lv_iconst (v := (-1)) hx hb d_Md_brightest_17 (by decide) ?_
    refine lv_istore_n (lv' := [(2, .int (-1)), (0, .ref mo), (1, .int (nI iw))]) hx hb d_Md_brightest_18 rfl hl (by decide) rfl (fun ls hl => ?_)
    refine lv_iconst (v := 0) hx hb d_Md_brightest_19 (by decide) ?_
    refine lv_istore_n (lv' := [(3, .int 0), (2, .int (-1)), (0, .ref mo), (1, .int (nI iw))]) hx hb d_Md_brightest_20 rfl hl (by decide) rfl (fun ls hl => ?_)
    refine lv_iconst (v := 0) hx hb d_Md_brightest_21 (by decide) ?_
    refine lv_istore (lv' := [(4, .int 0), (3, .int 0), (2, .int (-1)), (0, .ref mo), (1, .int (nI iw))]) hx hb d_Md_brightest_22 hl (by decide) rfl (fun ls hl => ?_)
    simp only [eG_2, gs_uu] at hG
    have lpb : ∀ (fu : Nat) (i : Nat) (be : Int32) (ms9 : Int32) (m1 : Int64) (m2 : Int64) (m3 : Int64) (m4 : Int64), i ≤ 24 → 24 + 1 ≤ i + fu → (hbm : (be, ms9) = jc_best (fun t => jm_lit bx tr su li nb (-1) (wf iw 0) (wf iw 1) (wf iw 2) (wf iw 3) t) i) → ∀ (H : Heap) (locs : List Loc), gs_W D classes zb (gs_u G mo (oMd 0 wn hn nb nw cB cT cS cL cW m1 m2 m3 m4)) H → gs_S zb s.heap H locs → ∀ (ls : Array Slot), lv_has ls 6 [(0, .ref mo), (1, .int (nI iw)), (2, .int be), (3, .int ms9), (4, .int (nI i))] → W p l e (headSpec (wM y_Md_brightest c_Md_brightest 6 (some .int)) ({ frames := 6, cells := 0, slots := 0, locals := 161 })).room s m ([.ref mo, .int q] : List Value).toArray below meth c H locs 0 0 (MQ below (gs_Q D zb (fun v G1 => ∃ (c9 r : Int32) (m1 m2 m3 m4 : Int64), ((c9 = 1 ∧ ¬ jm_noB q nw = 0) ∨ (c9 = 0 ∧ jm_noB q nw = 0)) ∧ v = some (.int r) ∧ (c9 = 0 → ∃ i : Nat, i < nw ∧ q = nI i ∧ r = (jc_best (fun t => jm_lit bx tr su li nb (-1) (wf i 0) (wf i 1) (wf i 2) (wf i 3) t) 24).1) ∧ G1 = gs_u G mo (oMd c9 wn hn nb nw cB cT cS cL cW m1 m2 m3 m4))) ([.ref mo, .int q] : List Value).toArray s 0 0 (fun q : Nat => zb ≤ q)) (F0 m 24 ls []) := by
      intro fu
      induction fu with
      | zero => intro i be ms9 m1 m2 m3 m4 hle hfu; exact absurd hfu (by omega)
      | succ fu IHlpb =>
        intro i be ms9 m1 m2 m3 m4 hle hfu hbm H locs hG hS ls hl
        obtain ⟨G_9, eG_9⟩ : ∃ z, z = gs_u G mo (oMd 0 wn hn nb nw cB cT cS cL cW m1 m2 m3 m4) := ⟨_, rfl⟩
        rw [← eG_9] at hG
        have hM9 := sM_o hM 0 nb nw m1 m2 m3 m4
        rw [← eG_9] at hM9
        refine lv_iload hx hb d_Md_brightest_24 (lv_at hl 4 rfl) ?_
        refine lv_bipush (v := 24) hx hb d_Md_brightest_26 (by decide) ?_
        refine lv_icmp_ge (tgt := 80) hx hb d_Md_brightest_28 (by decide) (fun c_10 => ?_) (fun c_10 => ?_)
        · have hend : i = 24 := cl_eq (N := 24) (by decide) hle c_10
          refine lv_aload_n hx hb d_Md_brightest_80 rfl (lv_at hl 0 rfl) ?_
          refine gs_get E hK.1 hG hM9.1 (C := R_Md) (T := F_Md) (N := 14) rfl i_Md 0 (by decide) w_463 (v := .int 0) rfl d_Md_brightest_81 ?_
          refine lv_if_le (tgt := 91) hx hb d_Md_brightest_84 (by decide) (fun c_11 => ?_) (fun c_11 => ?_)
          · refine lv_iload_n hx hb d_Md_brightest_91 rfl (lv_at hl 2 rfl) ?_
            refine W.iret (v := be) hx hb hr (gs_end ⟨0, _, m1, m2, m3, m4, Or.inr ⟨rfl, c_1⟩, rfl, fun _ => ⟨iw, hiwn, hqi, by rw [← hend, ← hbm]⟩, ?_⟩ hG hS) hS.2.2 d_Md_brightest_92
            simp only [eG_9, gs_uu]
          · exact absurd (by decide) c_11
        · have hlt : i < 24 := cl_lt (N := 24) (by decide) hle c_10
          refine lv_aload_n hx hb d_Md_brightest_31 rfl (lv_at hl 0 rfl) ?_
          refine gs_get E hK.1 hG hM9.1 (C := R_Md) (T := F_Md) (N := 14) rfl i_Md 0 (by decide) w_463 (v := .int 0) rfl d_Md_brightest_32 ?_
          refine lv_if_ne (tgt := 80) hx hb d_Md_brightest_35 (by decide) (fun c_12 => ?_) (fun c_12 => ?_)
          · exact absurd (by decide) c_12
          · refine lv_aload_n hx hb d_Md_brightest_38 rfl (lv_at hl 0 rfl) ?_
            refine lv_iload_n hx hb d_Md_brightest_39 rfl (lv_at hl 1 rfl) ?_
            refine lv_iload hx hb d_Md_brightest_40 (lv_at hl 4 rfl) ?_
            refine lv_iconst (v := (-1)) hx hb d_Md_brightest_42 (by decide) ?_
            refine gs_V (As := [.int (nI iw), .int (nI i), .int (-1)]) (rest := []) (k_Md_litIn l D k zb G_9 mo cB cT cS cL cW 0 wn hn nb nw bx tr su li wi m1 m2 m3 m4 iw (wf iw 0) (wf iw 1) (wf iw 2) (wf iw 3) i (-1) ⟨hM9.1, hM9.2.1, hM9.2.2.1, hM9.2.2.2.1, hM9.2.2.2.2.1, hM9.2.2.2.2.2⟩ hnb hlt hw0 hw1 hw2 hw3 hiw hu hv hu1 hv1) E hml hl.1 (cg_V (C := R_Md) hw w_612 w_609 w_4 w_611 sel_Md_litIn hd_Md_litIn ⟨by exact Nat.le_of_ble_eq_true rfl, by exact Nat.le_of_ble_eq_true rfl⟩) hG hK hX hS hM9.1 rfl rfl rfl rfl (by exact Nat.le_of_ble_eq_true rfl) d_Md_brightest_43 ⟨by exact Nat.le_of_ble_eq_true rfl, by exact Nat.le_of_ble_eq_true rfl⟩ (fun v G1 H locs hp hG hS => ?_)
            obtain ⟨hv1, n_13, n_14, n_15, n_16, hG1⟩ := hp
            subst hv1
            rw [hG1] at hG
            obtain ⟨G_17, eG_17⟩ : ∃ z, z = gs_u G_9 mo (.inr (4, [.int 0, .int (nI wn), .int (nI hn), .int (nI nb), .ref cB, .ref cT, .ref cS, .ref cL, .int (nI nw), .ref cW, .long n_13, .long n_14, .long n_15, .long n_16])) := ⟨_, rfl⟩
            have hG : gs_W D classes zb G_17 H := by rw [eG_17]; exact hG
            have hc_18 : G_17 cB = some (aInt (k 0) 66 bx) := by rw [eG_17]; exact gs_keep hM9.2.1 hM9.1 (by simp)
            have hc_19 : G_17 cT = some (aInt (k 2) 11 tr) := by rw [eG_17]; exact gs_keep hM9.2.2.1 hM9.1 (by simp)
            have hc_20 : G_17 cS = some (aInt (k 0) 72 su) := by rw [eG_17]; exact gs_keep hM9.2.2.2.1 hM9.1 (by simp)
            have hc_21 : G_17 cL = some (aInt (k 0) 24 li) := by rw [eG_17]; exact gs_keep hM9.2.2.2.2.1 hM9.1 (by simp)
            have hc_22 : G_17 cW = some (aInt (k 0) 40 wi) := by rw [eG_17]; exact gs_keep hM9.2.2.2.2.2 hM9.1 (by simp)
            have hc_23 : G_17 mo = some (.inr (4, [.int 0, .int (nI wn), .int (nI hn), .int (nI nb), .ref cB, .ref cT, .ref cS, .ref cL, .int (nI nw), .ref cW, .long n_13, .long n_14, .long n_15, .long n_16])) := by rw [eG_17]; exact gs_us _ _ _
            refine W.eq (g2 := F0 m 46 ls [.int (jm_lit bx tr su li nb (-1) (wf iw 0) (wf iw 1) (wf iw 2) (wf iw 3) i)]) rfl ?_
            refine lv_topi (fun v_24 ev_24 => ?_)
            refine lv_istore (lv' := [(5, .int v_24), (0, .ref mo), (1, .int (nI iw)), (2, .int be), (3, .int ms9), (4, .int (nI i))]) hx hb d_Md_brightest_46 hl (by decide) rfl (fun ls hl => ?_)
            refine lv_iload hx hb d_Md_brightest_48 (lv_at hl 0 rfl) ?_
            refine lv_iload_n hx hb d_Md_brightest_50 rfl (lv_at hl 4 rfl) ?_
            refine lv_icmp_le (tgt := 59) hx hb d_Md_brightest_51 (by decide) (fun c_25 => ?_) (fun c_25 => ?_)
            · refine lv_iload_n hx hb d_Md_brightest_59 rfl (lv_at hl 3 rfl) ?_
              refine lv_istore_n (lv' := [(2, .int be), (5, .int v_24), (0, .ref mo), (1, .int (nI iw)), (3, .int ms9), (4, .int (nI i))]) hx hb d_Md_brightest_60 rfl hl (by decide) rfl (fun ls hl => ?_)
              refine lv_iload hx hb d_Md_brightest_61 (lv_at hl 1 rfl) ?_
              refine lv_iload_n hx hb d_Md_brightest_63 rfl (lv_at hl 4 rfl) ?_
              refine lv_icmp_le (tgt := 72) hx hb d_Md_brightest_64 (by decide) (fun c_26 => ?_) (fun c_26 => ?_)
              · refine lv_iload_n hx hb d_Md_brightest_72 rfl (lv_at hl 4 rfl) ?_
                refine lv_istore_n (lv' := [(3, .int ms9), (2, .int be), (5, .int v_24), (0, .ref mo), (1, .int (nI iw)), (4, .int (nI i))]) hx hb d_Md_brightest_73 rfl hl (by decide) rfl (fun ls hl => ?_)
                refine lv_iinc (v := nI (i + 1)) (lv' := [(4, .int (nI (i + 1))), (3, .int ms9), (2, .int be), (5, .int v_24), (0, .ref mo), (1, .int (nI iw))]) hx hb d_Md_brightest_74 hl (k := 5) rfl (nI_1 _) (by decide) rfl (fun ls hl => ?_)
                refine lv_goto (tgt := 24) hx hb d_Md_brightest_77 (by decide) ?_
                simp only [eG_17, eG_9, gs_uu] at hG
                have hg9 : jm_lit bx tr su li nb (-1) (wf iw 0) (wf iw 1) (wf iw 2) (wf iw 3) i = v_24 := ev_24.symm
                exact IHlpb (i + 1) be ms9 n_13 n_14 n_15 n_16 (by omega) (by omega) (by rw [hbm, jc_best_s, if_pos (by rw [← hbm]; show jm_lit bx tr su li nb (-1) (wf iw 0) (wf iw 1) (wf iw 2) (wf iw 3) i ≤ ms9; rw [hg9]; exact c_26)]) _ _ hG hS ls (lv_sub hl [4, 5, 2, 1, 0] rfl)
              · exact absurd c_25 c_26
            · refine lv_iload hx hb d_Md_brightest_54 (lv_at hl 5 rfl) ?_
              refine lv_goto (tgt := 60) hx hb d_Md_brightest_56 (by decide) ?_
              refine lv_istore_n (lv' := [(2, .int (nI i)), (5, .int v_24), (0, .ref mo), (1, .int (nI iw)), (3, .int ms9), (4, .int (nI i))]) hx hb d_Md_brightest_60 rfl hl (by decide) rfl (fun ls hl => ?_)
              refine lv_iload hx hb d_Md_brightest_61 (lv_at hl 1 rfl) ?_
              refine lv_iload_n hx hb d_Md_brightest_63 rfl (lv_at hl 4 rfl) ?_
              refine lv_icmp_le (tgt := 72) hx hb d_Md_brightest_64 (by decide) (fun c_27 => ?_) (fun c_27 => ?_)
              · exact absurd c_27 c_25
              · refine lv_iload hx hb d_Md_brightest_67 (lv_at hl 1 rfl) ?_
                refine lv_goto (tgt := 73) hx hb d_Md_brightest_69 (by decide) ?_
                refine lv_istore_n (lv' := [(3, .int v_24), (2, .int (nI i)), (5, .int v_24), (0, .ref mo), (1, .int (nI iw)), (4, .int (nI i))]) hx hb d_Md_brightest_73 rfl hl (by decide) rfl (fun ls hl => ?_)
                refine lv_iinc (v := nI (i + 1)) (lv' := [(4, .int (nI (i + 1))), (3, .int v_24), (2, .int (nI i)), (5, .int v_24), (0, .ref mo), (1, .int (nI iw))]) hx hb d_Md_brightest_74 hl (k := 5) rfl (nI_1 _) (by decide) rfl (fun ls hl => ?_)
                refine lv_goto (tgt := 24) hx hb d_Md_brightest_77 (by decide) ?_
                simp only [eG_17, eG_9, gs_uu] at hG
                have hg9 : jm_lit bx tr su li nb (-1) (wf iw 0) (wf iw 1) (wf iw 2) (wf iw 3) i = v_24 := ev_24.symm
                exact IHlpb (i + 1) (nI i) v_24 n_13 n_14 n_15 n_16 (by omega) (by omega) (by rw [jc_best_s, if_neg (by rw [← hbm]; show ¬ jm_lit bx tr su li nb (-1) (wf iw 0) (wf iw 1) (wf iw 2) (wf iw 3) i ≤ ms9; rw [hg9]; exact c_27), hg9]) _ _ hG hS ls (lv_sub hl [4, 5, 2, 1, 0] rfl)
    exact lpb (24 + 1) 0 (-1) 0 l1 l2 l3 l4 (by omega) (by omega) rfl _ _ hG hS ls (lv_sub hl [3, 4, 2, 1, 0] rfl)
  · refine lv_iconst (v := 1) hx hb d_Md_brightest_9 (by decide) ?_
    refine lv_goto (tgt := 14) hx hb d_Md_brightest_10 (by decide) ?_
    refine gs_put E hK.1 hG hS hM.1 (C := R_Md) (T := F_Md) (N := 14) rfl i_Md t_Md t_Md_ok n_Md 0 (by decide) w_463 rfl (v := .int 1) rfl rfl (Nat.le_of_ble_eq_true rfl) d_Md_brightest_14 (fun H locs hG hS => ?_)
    obtain ⟨G_28, eG_28⟩ : ∃ z, z = gs_u G mo (.inr (4, [.int 1, .int (nI wn), .int (nI hn), .int (nI nb), .ref cB, .ref cT, .ref cS, .ref cL, .int (nI nw), .ref cW, .long l1, .long l2, .long l3, .long l4])) := ⟨_, rfl⟩
    have hG : gs_W D classes zb G_28 H := by rw [eG_28]; exact hG
    have hc_29 : G_28 cB = some (aInt (k 0) 66 bx) := by rw [eG_28]; exact gs_keep hM.2.1 hM.1 (by simp)
    have hc_30 : G_28 cT = some (aInt (k 2) 11 tr) := by rw [eG_28]; exact gs_keep hM.2.2.1 hM.1 (by simp)
    have hc_31 : G_28 cS = some (aInt (k 0) 72 su) := by rw [eG_28]; exact gs_keep hM.2.2.2.1 hM.1 (by simp)
    have hc_32 : G_28 cL = some (aInt (k 0) 24 li) := by rw [eG_28]; exact gs_keep hM.2.2.2.2.1 hM.1 (by simp)
    have hc_33 : G_28 cW = some (aInt (k 0) 40 wi) := by rw [eG_28]; exact gs_keep hM.2.2.2.2.2 hM.1 (by simp)
    have hc_34 : G_28 mo = some (.inr (4, [.int 1, .int (nI wn), .int (nI hn), .int (nI nb), .ref cB, .ref cT, .ref cS, .ref cL, .int (nI nw), .ref cW, .long l1, .long l2, .long l3, .long l4])) := by rw [eG_28]; exact gs_us _ _ _
    refine lv_iconst (v := (-1)) hx hb d_Md_brightest_17 (by decide) ?_
    refine lv_istore_n (lv' := [(2, .int (-1)), (0, .ref mo), (1, .int q)]) hx hb d_Md_brightest_18 rfl hl (by decide) rfl (fun ls hl => ?_)
    refine lv_iconst (v := 0) hx hb d_Md_brightest_19 (by decide) ?_
    refine lv_istore_n (lv' := [(3, .int 0), (2, .int (-1)), (0, .ref mo), (1, .int q)]) hx hb d_Md_brightest_20 rfl hl (by decide) rfl (fun ls hl => ?_)
    refine lv_iconst (v := 0) hx hb d_Md_brightest_21 (by decide) ?_
    refine lv_istore (lv' := [(4, .int 0), (3, .int 0), (2, .int (-1)), (0, .ref mo), (1, .int q)]) hx hb d_Md_brightest_22 hl (by decide) rfl (fun ls hl => ?_)
    refine lv_iload hx hb d_Md_brightest_24 (lv_at hl 0 rfl) ?_
    refine lv_bipush (v := 24) hx hb d_Md_brightest_26 (by decide) ?_
    refine lv_icmp_ge (tgt := 80) hx hb d_Md_brightest_28 (by decide) (fun c_35 => ?_) (fun c_35 => ?_)
    · exact absurd c_35 (by decide)
    · refine lv_aload_n hx hb d_Md_brightest_31 rfl (lv_at hl 3 rfl) ?_
      refine gs_get E hK.1 hG hc_34 (C := R_Md) (T := F_Md) (N := 14) rfl i_Md 0 (by decide) w_463 (v := .int 1) rfl d_Md_brightest_32 ?_
      refine lv_if_ne (tgt := 80) hx hb d_Md_brightest_35 (by decide) (fun c_36 => ?_) (fun c_36 => ?_)
      · refine lv_aload_n hx hb d_Md_brightest_80 rfl (lv_at hl 3 rfl) ?_
        refine gs_get E hK.1 hG hc_34 (C := R_Md) (T := F_Md) (N := 14) rfl i_Md 0 (by decide) w_463 (v := .int 1) rfl d_Md_brightest_81 ?_
        refine lv_if_le (tgt := 91) hx hb d_Md_brightest_84 (by decide) (fun c_37 => ?_) (fun c_37 => ?_)
        · exact absurd c_37 (by decide)
        · refine lv_iconst (v := 0) hx hb d_Md_brightest_87 (by decide) ?_
          refine lv_goto (tgt := 92) hx hb d_Md_brightest_88 (by decide) ?_
          refine W.iret (v := 0) hx hb hr (gs_end ⟨1, _, l1, l2, l3, l4, Or.inl ⟨rfl, c_1⟩, rfl, fun q9 => absurd q9 (by decide), ?_⟩ hG hS) hS.2.2 d_Md_brightest_92
          simp only [eG_28, gs_uu]
      · exact absurd c_36 (by decide)
set_option maxHeartbeats 4000000 in
set_option maxRecDepth 100000 in
theorem k_Md_worst (l : Launch) (D : va_G) (k : Nat → ClassId) (zb : Nat) (G : Nat → Option va_E) (mo cB cT cS cL cW : Nat) (th : Int32) (wn hn nb nw : Nat) (bx tr su li wi : Nat → Int32) (l1 l2 l3 l4 : Int64) (wf : Nat → Nat → Nat) (q : Int32) (hM : sM k G mo cB cT cS cL cW th wn hn nb nw bx tr su li wi l1 l2 l3 l4) (hnb : nb ≤ 10) (hnw : nw ≤ 10) (hwn : 1 ≤ wn ∧ wn ≤ 60) (hhn : 1 ≤ hn ∧ hn ≤ 60) (hwf : jm_Wf nw wi wf) : Met l y_Md_worst (wM y_Md_worst c_Md_worst 6 (some .int)) ({ frames := 7, cells := 0, slots := 0, locals := 185 }) (gs_P D k zb G [.ref mo, .int q]) (gs_Q D zb (fun v G1 => ∃ (c9 r : Int32) (m1 m2 m3 m4 : Int64), ((c9 = 1 ∧ ¬ jm_noB q nw = 0) ∨ (c9 = 0 ∧ jm_noB q nw = 0)) ∧ v = some (.int r) ∧ (c9 = 0 → ∃ i : Nat, i < nw ∧ q = nI i ∧ r = (jc_best (fun b => jm_more bx tr su li nb (wf i 0) (wf i 1) (wf i 2) (wf i 3) b) nb).1) ∧ G1 = gs_u G mo (oMd c9 wn hn nb nw cB cT cS cL cW m1 m2 m3 m4))) 0 0 (fun q : Nat => zb ≤ q) := by
  refine Met.ofW (cc := c_Md_worst) (maxL := 6) (ret := (some .int)) (by decide) rfl ?_
  intro p e s m args below meth c s₁ B hml hv
  obtain ⟨rfl, hG, hK, hX⟩ := hv
  have hx := B.exec
  have hb := B.bytes
  have hr := B.returns
  have hts := atoms_spec (ws := wM y_Md_worst c_Md_worst 6 (some .int)) B.pre
  have hw : ∀ w9 ∈ wW, w9.before ([.ref mo, .int q] : List Value).toArray s = true := fun w9 h9 => hts w9 (gi_in w9 h9)
  have hown : s.vm.findClass R_Md = some m.cls := findClass_of_methodNamed B.named
  have hlocks := B.notSynchronized
  have E : gs_E p s m ([.ref mo, .int q] : List Value).toArray c c_Md_worst wW R_Md := ⟨hx, hb, hw, hown⟩
  have hS : gs_S zb s.heap s.heap [] := va_S.rf
  have hl := lv_entry ([.ref mo, .int q]) (n := 6) (Nat.le_of_ble_eq_true rfl)
  rw [lg_entry_eq]
  generalize (lg_sl ([.ref mo, .int q]) ++ List.replicate (6 - (lg_sl ([.ref mo, .int q])).length) Slot.unset).toArray = ls at hl ⊢
  have hl : lv_has ls 6 [(0, .ref mo), (1, .int q)] := hl
  refine lv_aload_n hx hb d_Md_worst_0 rfl (lv_at hl 0 rfl) ?_
  refine lv_aload_n hx hb d_Md_worst_1 rfl (lv_at hl 0 rfl) ?_
  refine lv_iload_n hx hb d_Md_worst_2 rfl (lv_at hl 1 rfl) ?_
  refine gs_V (As := [.int q]) (rest := [.ref mo]) (k_Md_noWindow l D k zb G mo cB cT cS cL cW th wn hn nb nw bx tr su li wi l1 l2 l3 l4 q ⟨hM.1, hM.2.1, hM.2.2.1, hM.2.2.2.1, hM.2.2.2.2.1, hM.2.2.2.2.2⟩) E hml hl.1 (cg_V (C := R_Md) hw w_592 w_589 w_4 w_591 sel_Md_noWindow hd_Md_noWindow ⟨by exact Nat.le_of_ble_eq_true rfl, by exact Nat.le_of_ble_eq_true rfl⟩) hG hK hX hS hM.1 rfl rfl rfl rfl (by exact Nat.le_of_ble_eq_true rfl) d_Md_worst_3 ⟨by exact Nat.le_of_ble_eq_true rfl, by exact Nat.le_of_ble_eq_true rfl⟩ (fun v G1 H locs hp hG hS => ?_)
  obtain ⟨hv1, hG1⟩ := hp
  subst hv1
  rw [hG1] at hG
  refine W.eq (g2 := F0 m 6 ls [.int (jm_noB q nw), .ref mo]) rfl ?_
  refine lv_if_eq (tgt := 13) hx hb d_Md_worst_6 (by decide) (fun c_1 => ?_) (fun c_1 => ?_)
  · obtain ⟨iw, hiwn, hqi⟩ := noB_1 (by omega) c_1
    have hiw : iw < 10 := by omega
    obtain ⟨⟨hw0, hw1, hw2, hw3⟩, hu, hv, hu1, hv1⟩ := hwf iw hiwn
    rw [hqi] at hl
    refine lv_iconst (v := 0) hx hb d_Md_worst_13 (by decide) ?_
    refine gs_put E hK.1 hG hS hM.1 (C := R_Md) (T := F_Md) (N := 14) rfl i_Md t_Md t_Md_ok n_Md 0 (by decide) w_463 rfl (v := .int 0) rfl rfl (Nat.le_of_ble_eq_true rfl) d_Md_worst_14 (fun H locs hG hS => ?_)
    obtain ⟨G_2, eG_2⟩ : ∃ z, z = gs_u G mo (.inr (4, [.int 0, .int (nI wn), .int (nI hn), .int (nI nb), .ref cB, .ref cT, .ref cS, .ref cL, .int (nI nw), .ref cW, .long l1, .long l2, .long l3, .long l4])) := ⟨_, rfl⟩
    have hG : gs_W D classes zb G_2 H := by rw [eG_2]; exact hG
    have hc_3 : G_2 cB = some (aInt (k 0) 66 bx) := by rw [eG_2]; exact gs_keep hM.2.1 hM.1 (by simp)
    have hc_4 : G_2 cT = some (aInt (k 2) 11 tr) := by rw [eG_2]; exact gs_keep hM.2.2.1 hM.1 (by simp)
    have hc_5 : G_2 cS = some (aInt (k 0) 72 su) := by rw [eG_2]; exact gs_keep hM.2.2.2.1 hM.1 (by simp)
    have hc_6 : G_2 cL = some (aInt (k 0) 24 li) := by rw [eG_2]; exact gs_keep hM.2.2.2.2.1 hM.1 (by simp)
    have hc_7 : G_2 cW = some (aInt (k 0) 40 wi) := by rw [eG_2]; exact gs_keep hM.2.2.2.2.2 hM.1 (by simp)
    have hc_8 : G_2 mo = some (.inr (4, [.int 0, .int (nI wn), .int (nI hn), .int (nI nb), .ref cB, .ref cT, .ref cS, .ref cL, .int (nI nw), .ref cW, .long l1, .long l2, .long l3, .long l4])) := by rw [eG_2]; exact gs_us _ _ _
    refine lv_iconst (v := (-1)) hx hb d_Md_worst_17 (by decide) ?_
    refine lv_istore_n (lv' := [(2, .int (-1)), (0, .ref mo), (1, .int (nI iw))]) hx hb d_Md_worst_18 rfl hl (by decide) rfl (fun ls hl => ?_)
    refine lv_iconst (v := 0) hx hb d_Md_worst_19 (by decide) ?_
    refine lv_istore_n (lv' := [(3, .int 0), (2, .int (-1)), (0, .ref mo), (1, .int (nI iw))]) hx hb d_Md_worst_20 rfl hl (by decide) rfl (fun ls hl => ?_)
    refine lv_iconst (v := 0) hx hb d_Md_worst_21 (by decide) ?_
    refine lv_istore (lv' := [(4, .int 0), (3, .int 0), (2, .int (-1)), (0, .ref mo), (1, .int (nI iw))]) hx hb d_Md_worst_22 hl (by decide) rfl (fun ls hl => ?_)
    simp only [eG_2, gs_uu] at hG
    have lpw : ∀ (fu : Nat) (i : Nat) (be : Int32) (ms9 : Int32) (m1 : Int64) (m2 : Int64) (m3 : Int64) (m4 : Int64), i ≤ nb → nb + 1 ≤ i + fu → (hbm : (be, ms9) = jc_best (fun b => jm_more bx tr su li nb (wf iw 0) (wf iw 1) (wf iw 2) (wf iw 3) b) i) → ∀ (H : Heap) (locs : List Loc), gs_W D classes zb (gs_u G mo (oMd 0 wn hn nb nw cB cT cS cL cW m1 m2 m3 m4)) H → gs_S zb s.heap H locs → ∀ (ls : Array Slot), lv_has ls 6 [(0, .ref mo), (1, .int (nI iw)), (2, .int be), (3, .int ms9), (4, .int (nI i))] → W p l e (headSpec (wM y_Md_worst c_Md_worst 6 (some .int)) ({ frames := 7, cells := 0, slots := 0, locals := 185 })).room s m ([.ref mo, .int q] : List Value).toArray below meth c H locs 0 0 (MQ below (gs_Q D zb (fun v G1 => ∃ (c9 r : Int32) (m1 m2 m3 m4 : Int64), ((c9 = 1 ∧ ¬ jm_noB q nw = 0) ∨ (c9 = 0 ∧ jm_noB q nw = 0)) ∧ v = some (.int r) ∧ (c9 = 0 → ∃ i : Nat, i < nw ∧ q = nI i ∧ r = (jc_best (fun b => jm_more bx tr su li nb (wf i 0) (wf i 1) (wf i 2) (wf i 3) b) nb).1) ∧ G1 = gs_u G mo (oMd c9 wn hn nb nw cB cT cS cL cW m1 m2 m3 m4))) ([.ref mo, .int q] : List Value).toArray s 0 0 (fun q : Nat => zb ≤ q)) (F0 m 24 ls []) := by
      intro fu
      induction fu with
      | zero => intro i be ms9 m1 m2 m3 m4 hle hfu; exact absurd hfu (by omega)
      | succ fu IHlpw =>
        intro i be ms9 m1 m2 m3 m4 hle hfu hbm H locs hG hS ls hl
        obtain ⟨G_9, eG_9⟩ : ∃ z, z = gs_u G mo (oMd 0 wn hn nb nw cB cT cS cL cW m1 m2 m3 m4) := ⟨_, rfl⟩
        rw [← eG_9] at hG
        have hM9 := sM_o hM 0 nb nw m1 m2 m3 m4
        rw [← eG_9] at hM9
        refine lv_iload hx hb d_Md_worst_24 (lv_at hl 4 rfl) ?_
        refine lv_aload_n hx hb d_Md_worst_26 rfl (lv_at hl 0 rfl) ?_
        refine gs_get E hK.1 hG hM9.1 (C := R_Md) (T := F_Md) (N := 14) rfl i_Md 3 (by decide) w_466 (v := .int (nI nb)) rfl d_Md_worst_27 ?_
        refine lv_icmp_ge (tgt := 102) hx hb d_Md_worst_30 (by decide) (fun c_10 => ?_) (fun c_10 => ?_)
        · have hend : i = nb := cl_eq (by omega) hle c_10
          refine lv_aload_n hx hb d_Md_worst_102 rfl (lv_at hl 0 rfl) ?_
          refine gs_get E hK.1 hG hM9.1 (C := R_Md) (T := F_Md) (N := 14) rfl i_Md 0 (by decide) w_463 (v := .int 0) rfl d_Md_worst_103 ?_
          refine lv_if_le (tgt := 113) hx hb d_Md_worst_106 (by decide) (fun c_11 => ?_) (fun c_11 => ?_)
          · refine lv_iload_n hx hb d_Md_worst_113 rfl (lv_at hl 2 rfl) ?_
            refine W.iret (v := be) hx hb hr (gs_end ⟨0, _, m1, m2, m3, m4, Or.inr ⟨rfl, c_1⟩, rfl, fun _ => ⟨iw, hiwn, hqi, by have h9 := congrArg Prod.fst hbm; rw [hend] at h9; exact h9⟩, ?_⟩ hG hS) hS.2.2 d_Md_worst_114
            simp only [eG_9, gs_uu]
          · exact absurd (by decide) c_11
        · have hlt : i < nb := cl_lt (by omega) hle c_10
          refine lv_aload_n hx hb d_Md_worst_33 rfl (lv_at hl 0 rfl) ?_
          refine gs_get E hK.1 hG hM9.1 (C := R_Md) (T := F_Md) (N := 14) rfl i_Md 0 (by decide) w_463 (v := .int 0) rfl d_Md_worst_34 ?_
          refine lv_if_ne (tgt := 102) hx hb d_Md_worst_37 (by decide) (fun c_12 => ?_) (fun c_12 => ?_)
          · exact absurd (by decide) c_12
          · refine lv_aload_n hx hb d_Md_worst_40 rfl (lv_at hl 0 rfl) ?_
            refine gs_get E hK.1 hG hM9.1 (C := R_Md) (T := F_Md) (N := 14) rfl i_Md 5 (by decide) w_468 (v := .ref cT) rfl d_Md_worst_41 ?_
            refine lv_iload hx hb d_Md_worst_44 (lv_at hl 4 rfl) ?_
            refine gn_zald E hK.1 hG hM9.2.2.1 2 rfl (j := i) (by omega) (by decide) d_Md_worst_46 ?_
            refine lv_if_eq (tgt := 67) hx hb d_Md_worst_47 (by decide) (fun c_13 => ?_) (fun c_13 => ?_)
            · refine lv_iconst (v := 0) hx hb d_Md_worst_67 (by decide) ?_
              refine lv_istore (lv' := [(5, .int 0), (0, .ref mo), (1, .int (nI iw)), (2, .int be), (3, .int ms9), (4, .int (nI i))]) hx hb d_Md_worst_68 hl (by decide) rfl (fun ls hl => ?_)
              refine lv_iload hx hb d_Md_worst_70 (lv_at hl 0 rfl) ?_
              refine lv_iload_n hx hb d_Md_worst_72 rfl (lv_at hl 4 rfl) ?_
              refine lv_icmp_le (tgt := 81) hx hb d_Md_worst_73 (by decide) (fun c_14 => ?_) (fun c_14 => ?_)
              · refine lv_iload_n hx hb d_Md_worst_81 rfl (lv_at hl 3 rfl) ?_
                refine lv_istore_n (lv' := [(2, .int be), (5, .int 0), (0, .ref mo), (1, .int (nI iw)), (3, .int ms9), (4, .int (nI i))]) hx hb d_Md_worst_82 rfl hl (by decide) rfl (fun ls hl => ?_)
                refine lv_iload hx hb d_Md_worst_83 (lv_at hl 1 rfl) ?_
                refine lv_iload_n hx hb d_Md_worst_85 rfl (lv_at hl 4 rfl) ?_
                refine lv_icmp_le (tgt := 94) hx hb d_Md_worst_86 (by decide) (fun c_15 => ?_) (fun c_15 => ?_)
                · refine lv_iload_n hx hb d_Md_worst_94 rfl (lv_at hl 4 rfl) ?_
                  refine lv_istore_n (lv' := [(3, .int ms9), (2, .int be), (5, .int 0), (0, .ref mo), (1, .int (nI iw)), (4, .int (nI i))]) hx hb d_Md_worst_95 rfl hl (by decide) rfl (fun ls hl => ?_)
                  refine lv_iinc (v := nI (i + 1)) (lv' := [(4, .int (nI (i + 1))), (3, .int ms9), (2, .int be), (5, .int 0), (0, .ref mo), (1, .int (nI iw))]) hx hb d_Md_worst_96 hl (k := 5) rfl (nI_1 _) (by decide) rfl (fun ls hl => ?_)
                  refine lv_goto (tgt := 24) hx hb d_Md_worst_99 (by decide) ?_
                  simp only [eG_9, gs_uu] at hG
                  have hg9 : jm_more bx tr su li nb (wf iw 0) (wf iw 1) (wf iw 2) (wf iw 3) i = 0 := by unfold jm_more; rw [if_pos c_13]
                  exact IHlpw (i + 1) be ms9 m1 m2 m3 m4 (by omega) (by omega) (by rw [hbm, jc_best_s, if_pos (by rw [← hbm]; show jm_more bx tr su li nb (wf iw 0) (wf iw 1) (wf iw 2) (wf iw 3) i ≤ ms9; rw [hg9]; exact c_15)]) _ _ hG hS ls (lv_sub hl [4, 5, 2, 1, 0] rfl)
                · exact absurd c_14 c_15
              · refine lv_iload hx hb d_Md_worst_76 (lv_at hl 5 rfl) ?_
                refine lv_goto (tgt := 82) hx hb d_Md_worst_78 (by decide) ?_
                refine lv_istore_n (lv' := [(2, .int (nI i)), (5, .int 0), (0, .ref mo), (1, .int (nI iw)), (3, .int ms9), (4, .int (nI i))]) hx hb d_Md_worst_82 rfl hl (by decide) rfl (fun ls hl => ?_)
                refine lv_iload hx hb d_Md_worst_83 (lv_at hl 1 rfl) ?_
                refine lv_iload_n hx hb d_Md_worst_85 rfl (lv_at hl 4 rfl) ?_
                refine lv_icmp_le (tgt := 94) hx hb d_Md_worst_86 (by decide) (fun c_16 => ?_) (fun c_16 => ?_)
                · exact absurd c_16 c_14
                · refine lv_iload hx hb d_Md_worst_89 (lv_at hl 1 rfl) ?_
                  refine lv_goto (tgt := 95) hx hb d_Md_worst_91 (by decide) ?_
                  refine lv_istore_n (lv' := [(3, .int 0), (2, .int (nI i)), (5, .int 0), (0, .ref mo), (1, .int (nI iw)), (4, .int (nI i))]) hx hb d_Md_worst_95 rfl hl (by decide) rfl (fun ls hl => ?_)
                  refine lv_iinc (v := nI (i + 1)) (lv' := [(4, .int (nI (i + 1))), (3, .int 0), (2, .int (nI i)), (5, .int 0), (0, .ref mo), (1, .int (nI iw))]) hx hb d_Md_worst_96 hl (k := 5) rfl (nI_1 _) (by decide) rfl (fun ls hl => ?_)
                  refine lv_goto (tgt := 24) hx hb d_Md_worst_99 (by decide) ?_
                  simp only [eG_9, gs_uu] at hG
                  have hg9 : jm_more bx tr su li nb (wf iw 0) (wf iw 1) (wf iw 2) (wf iw 3) i = 0 := by unfold jm_more; rw [if_pos c_13]
                  exact IHlpw (i + 1) (nI i) 0 m1 m2 m3 m4 (by omega) (by omega) (by rw [jc_best_s, if_neg (by rw [← hbm]; show ¬ jm_more bx tr su li nb (wf iw 0) (wf iw 1) (wf iw 2) (wf iw 3) i ≤ ms9; rw [hg9]; exact c_16), hg9]) _ _ hG hS ls (lv_sub hl [4, 5, 2, 1, 0] rfl)
            · refine lv_aload_n hx hb d_Md_worst_50 rfl (lv_at hl 0 rfl) ?_
              refine lv_iload_n hx hb d_Md_worst_51 rfl (lv_at hl 1 rfl) ?_
              refine lv_iload hx hb d_Md_worst_52 (lv_at hl 4 rfl) ?_
              refine gs_V (As := [.int (nI iw), .int (nI i)]) (rest := []) (k_Md_day l D k zb G_9 mo cB cT cS cL cW 0 wn hn nb nw bx tr su li wi m1 m2 m3 m4 iw (wf iw 0) (wf iw 1) (wf iw 2) (wf iw 3) (nI i) ⟨hM9.1, hM9.2.1, hM9.2.2.1, hM9.2.2.2.1, hM9.2.2.2.2.1, hM9.2.2.2.2.2⟩ hnb hw0 hw1 hw2 hw3 hiw hu hv hu1 hv1) E hml hl.1 (cg_V (C := R_Md) hw w_608 w_605 w_4 w_607 sel_Md_day hd_Md_day ⟨by exact Nat.le_of_ble_eq_true rfl, by exact Nat.le_of_ble_eq_true rfl⟩) hG hK hX hS hM9.1 rfl rfl rfl rfl (by exact Nat.le_of_ble_eq_true rfl) d_Md_worst_54 ⟨by exact Nat.le_of_ble_eq_true rfl, by exact Nat.le_of_ble_eq_true rfl⟩ (fun v G1 H locs hp hG hS => ?_)
              obtain ⟨hv1, n_17, n_18, n_19, n_20, hG1⟩ := hp
              subst hv1
              rw [hG1] at hG
              obtain ⟨G_21, eG_21⟩ : ∃ z, z = gs_u G_9 mo (.inr (4, [.int 0, .int (nI wn), .int (nI hn), .int (nI nb), .ref cB, .ref cT, .ref cS, .ref cL, .int (nI nw), .ref cW, .long n_17, .long n_18, .long n_19, .long n_20])) := ⟨_, rfl⟩
              have hG : gs_W D classes zb G_21 H := by rw [eG_21]; exact hG
              have hc_22 : G_21 cB = some (aInt (k 0) 66 bx) := by rw [eG_21]; exact gs_keep hM9.2.1 hM9.1 (by simp)
              have hc_23 : G_21 cT = some (aInt (k 2) 11 tr) := by rw [eG_21]; exact gs_keep hM9.2.2.1 hM9.1 (by simp)
              have hc_24 : G_21 cS = some (aInt (k 0) 72 su) := by rw [eG_21]; exact gs_keep hM9.2.2.2.1 hM9.1 (by simp)
              have hc_25 : G_21 cL = some (aInt (k 0) 24 li) := by rw [eG_21]; exact gs_keep hM9.2.2.2.2.1 hM9.1 (by simp)
              have hc_26 : G_21 cW = some (aInt (k 0) 40 wi) := by rw [eG_21]; exact gs_keep hM9.2.2.2.2.2 hM9.1 (by simp)
              have hc_27 : G_21 mo = some (.inr (4, [.int 0, .int (nI wn), .int (nI hn), .int (nI nb), .ref cB, .ref cT, .ref cS, .ref cL, .int (nI nw), .ref cW, .long n_17, .long n_18, .long n_19, .long n_20])) := by rw [eG_21]; exact gs_us _ _ _
              refine W.eq (g2 := F0 m 57 ls [.int (jm_day bx tr su li nb (nI i) (wf iw 0) (wf iw 1) (wf iw 2) (wf iw 3))]) rfl ?_
              refine lv_aload_n hx hb d_Md_worst_57 rfl (lv_at hl 0 rfl) ?_
              refine lv_iload_n hx hb d_Md_worst_58 rfl (lv_at hl 1 rfl) ?_
              refine lv_iconst (v := (-1)) hx hb d_Md_worst_59 (by decide) ?_
              refine gs_V (As := [.int (nI iw), .int (-1)]) (rest := [.int (jm_day bx tr su li nb (nI i) (wf iw 0) (wf iw 1) (wf iw 2) (wf iw 3))]) (k_Md_day l D k zb G_21 mo cB cT cS cL cW 0 wn hn nb nw bx tr su li wi n_17 n_18 n_19 n_20 iw (wf iw 0) (wf iw 1) (wf iw 2) (wf iw 3) (-1) ⟨hc_27, hc_22, hc_23, hc_24, hc_25, hc_26⟩ hnb hw0 hw1 hw2 hw3 hiw hu hv hu1 hv1) E hml hl.1 (cg_V (C := R_Md) hw w_608 w_605 w_4 w_607 sel_Md_day hd_Md_day ⟨by exact Nat.le_of_ble_eq_true rfl, by exact Nat.le_of_ble_eq_true rfl⟩) hG hK hX hS hc_27 rfl rfl rfl rfl (by exact Nat.le_of_ble_eq_true rfl) d_Md_worst_60 ⟨by exact Nat.le_of_ble_eq_true rfl, by exact Nat.le_of_ble_eq_true rfl⟩ (fun v G1 H locs hp hG hS => ?_)
              obtain ⟨hv1, n_28, n_29, n_30, n_31, hG1⟩ := hp
              subst hv1
              rw [hG1] at hG
              obtain ⟨G_32, eG_32⟩ : ∃ z, z = gs_u G_21 mo (.inr (4, [.int 0, .int (nI wn), .int (nI hn), .int (nI nb), .ref cB, .ref cT, .ref cS, .ref cL, .int (nI nw), .ref cW, .long n_28, .long n_29, .long n_30, .long n_31])) := ⟨_, rfl⟩
              have hG : gs_W D classes zb G_32 H := by rw [eG_32]; exact hG
              have hc_33 : G_32 cB = some (aInt (k 0) 66 bx) := by rw [eG_32]; exact gs_keep hc_22 hc_27 (by simp)
              have hc_34 : G_32 cT = some (aInt (k 2) 11 tr) := by rw [eG_32]; exact gs_keep hc_23 hc_27 (by simp)
              have hc_35 : G_32 cS = some (aInt (k 0) 72 su) := by rw [eG_32]; exact gs_keep hc_24 hc_27 (by simp)
              have hc_36 : G_32 cL = some (aInt (k 0) 24 li) := by rw [eG_32]; exact gs_keep hc_25 hc_27 (by simp)
              have hc_37 : G_32 cW = some (aInt (k 0) 40 wi) := by rw [eG_32]; exact gs_keep hc_26 hc_27 (by simp)
              have hc_38 : G_32 mo = some (.inr (4, [.int 0, .int (nI wn), .int (nI hn), .int (nI nb), .ref cB, .ref cT, .ref cS, .ref cL, .int (nI nw), .ref cW, .long n_28, .long n_29, .long n_30, .long n_31])) := by rw [eG_32]; exact gs_us _ _ _
              refine W.eq (g2 := F0 m 63 ls [.int (jm_day bx tr su li nb (-1) (wf iw 0) (wf iw 1) (wf iw 2) (wf iw 3)), .int (jm_day bx tr su li nb (nI i) (wf iw 0) (wf iw 1) (wf iw 2) (wf iw 3))]) rfl ?_
              refine lv_isub hx hb d_Md_worst_63 ?_
              refine lv_goto (tgt := 68) hx hb d_Md_worst_64 (by decide) ?_
              refine lv_topi (fun v_39 ev_39 => ?_)
              refine lv_istore (lv' := [(5, .int v_39), (0, .ref mo), (1, .int (nI iw)), (2, .int be), (3, .int ms9), (4, .int (nI i))]) hx hb d_Md_worst_68 hl (by decide) rfl (fun ls hl => ?_)
              refine lv_iload hx hb d_Md_worst_70 (lv_at hl 0 rfl) ?_
              refine lv_iload_n hx hb d_Md_worst_72 rfl (lv_at hl 4 rfl) ?_
              refine lv_icmp_le (tgt := 81) hx hb d_Md_worst_73 (by decide) (fun c_40 => ?_) (fun c_40 => ?_)
              · refine lv_iload_n hx hb d_Md_worst_81 rfl (lv_at hl 3 rfl) ?_
                refine lv_istore_n (lv' := [(2, .int be), (5, .int v_39), (0, .ref mo), (1, .int (nI iw)), (3, .int ms9), (4, .int (nI i))]) hx hb d_Md_worst_82 rfl hl (by decide) rfl (fun ls hl => ?_)
                refine lv_iload hx hb d_Md_worst_83 (lv_at hl 1 rfl) ?_
                refine lv_iload_n hx hb d_Md_worst_85 rfl (lv_at hl 4 rfl) ?_
                refine lv_icmp_le (tgt := 94) hx hb d_Md_worst_86 (by decide) (fun c_41 => ?_) (fun c_41 => ?_)
                · refine lv_iload_n hx hb d_Md_worst_94 rfl (lv_at hl 4 rfl) ?_
                  refine lv_istore_n (lv' := [(3, .int ms9), (2, .int be), (5, .int v_39), (0, .ref mo), (1, .int (nI iw)), (4, .int (nI i))]) hx hb d_Md_worst_95 rfl hl (by decide) rfl (fun ls hl => ?_)
                  refine lv_iinc (v := nI (i + 1)) (lv' := [(4, .int (nI (i + 1))), (3, .int ms9), (2, .int be), (5, .int v_39), (0, .ref mo), (1, .int (nI iw))]) hx hb d_Md_worst_96 hl (k := 5) rfl (nI_1 _) (by decide) rfl (fun ls hl => ?_)
                  refine lv_goto (tgt := 24) hx hb d_Md_worst_99 (by decide) ?_
                  simp only [eG_32, eG_21, eG_9, gs_uu] at hG
                  have hg9 : jm_more bx tr su li nb (wf iw 0) (wf iw 1) (wf iw 2) (wf iw 3) i = v_39 := by unfold jm_more; rw [if_neg c_13, ev_39]
                  exact IHlpw (i + 1) be ms9 n_28 n_29 n_30 n_31 (by omega) (by omega) (by rw [hbm, jc_best_s, if_pos (by rw [← hbm]; show jm_more bx tr su li nb (wf iw 0) (wf iw 1) (wf iw 2) (wf iw 3) i ≤ ms9; rw [hg9]; exact c_41)]) _ _ hG hS ls (lv_sub hl [4, 5, 2, 1, 0] rfl)
                · exact absurd c_40 c_41
              · refine lv_iload hx hb d_Md_worst_76 (lv_at hl 5 rfl) ?_
                refine lv_goto (tgt := 82) hx hb d_Md_worst_78 (by decide) ?_
                refine lv_istore_n (lv' := [(2, .int (nI i)), (5, .int v_39), (0, .ref mo), (1, .int (nI iw)), (3, .int ms9), (4, .int (nI i))]) hx hb d_Md_worst_82 rfl hl (by decide) rfl (fun ls hl => ?_)
                refine lv_iload hx hb d_Md_worst_83 (lv_at hl 1 rfl) ?_
                refine lv_iload_n hx hb d_Md_worst_85 rfl (lv_at hl 4 rfl) ?_
                refine lv_icmp_le (tgt := 94) hx hb d_Md_worst_86 (by decide) (fun c_42 => ?_) (fun c_42 => ?_)
                · exact absurd c_42 c_40
                · refine lv_iload hx hb d_Md_worst_89 (lv_at hl 1 rfl) ?_
                  refine lv_goto (tgt := 95) hx hb d_Md_worst_91 (by decide) ?_
                  refine lv_istore_n (lv' := [(3, .int v_39), (2, .int (nI i)), (5, .int v_39), (0, .ref mo), (1, .int (nI iw)), (4, .int (nI i))]) hx hb d_Md_worst_95 rfl hl (by decide) rfl (fun ls hl => ?_)
                  refine lv_iinc (v := nI (i + 1)) (lv' := [(4, .int (nI (i + 1))), (3, .int v_39), (2, .int (nI i)), (5, .int v_39), (0, .ref mo), (1, .int (nI iw))]) hx hb d_Md_worst_96 hl (k := 5) rfl (nI_1 _) (by decide) rfl (fun ls hl => ?_)
                  refine lv_goto (tgt := 24) hx hb d_Md_worst_99 (by decide) ?_
                  simp only [eG_32, eG_21, eG_9, gs_uu] at hG
                  have hg9 : jm_more bx tr su li nb (wf iw 0) (wf iw 1) (wf iw 2) (wf iw 3) i = v_39 := by unfold jm_more; rw [if_neg c_13, ev_39]
                  exact IHlpw (i + 1) (nI i) v_39 n_28 n_29 n_30 n_31 (by omega) (by omega) (by rw [jc_best_s, if_neg (by rw [← hbm]; show ¬ jm_more bx tr su li nb (wf iw 0) (wf iw 1) (wf iw 2) (wf iw 3) i ≤ ms9; rw [hg9]; exact c_42), hg9]) _ _ hG hS ls (lv_sub hl [4, 5, 2, 1, 0] rfl)
    exact lpw (nb + 1) 0 (-1) 0 l1 l2 l3 l4 (by omega) (by omega) rfl _ _ hG hS ls (lv_sub hl [3, 4, 2, 1, 0] rfl)
  · refine lv_iconst (v := 1) hx hb d_Md_worst_9 (by decide) ?_
    refine lv_goto (tgt := 14) hx hb d_Md_worst_10 (by decide) ?_
    refine gs_put E hK.1 hG hS hM.1 (C := R_Md) (T := F_Md) (N := 14) rfl i_Md t_Md t_Md_ok n_Md 0 (by decide) w_463 rfl (v := .int 1) rfl rfl (Nat.le_of_ble_eq_true rfl) d_Md_worst_14 (fun H locs hG hS => ?_)
    obtain ⟨G_43, eG_43⟩ : ∃ z, z = gs_u G mo (.inr (4, [.int 1, .int (nI wn), .int (nI hn), .int (nI nb), .ref cB, .ref cT, .ref cS, .ref cL, .int (nI nw), .ref cW, .long l1, .long l2, .long l3, .long l4])) := ⟨_, rfl⟩
    have hG : gs_W D classes zb G_43 H := by rw [eG_43]; exact hG
    have hc_44 : G_43 cB = some (aInt (k 0) 66 bx) := by rw [eG_43]; exact gs_keep hM.2.1 hM.1 (by simp)
    have hc_45 : G_43 cT = some (aInt (k 2) 11 tr) := by rw [eG_43]; exact gs_keep hM.2.2.1 hM.1 (by simp)
    have hc_46 : G_43 cS = some (aInt (k 0) 72 su) := by rw [eG_43]; exact gs_keep hM.2.2.2.1 hM.1 (by simp)
    have hc_47 : G_43 cL = some (aInt (k 0) 24 li) := by rw [eG_43]; exact gs_keep hM.2.2.2.2.1 hM.1 (by simp)
    have hc_48 : G_43 cW = some (aInt (k 0) 40 wi) := by rw [eG_43]; exact gs_keep hM.2.2.2.2.2 hM.1 (by simp)
    have hc_49 : G_43 mo = some (.inr (4, [.int 1, .int (nI wn), .int (nI hn), .int (nI nb), .ref cB, .ref cT, .ref cS, .ref cL, .int (nI nw), .ref cW, .long l1, .long l2, .long l3, .long l4])) := by rw [eG_43]; exact gs_us _ _ _
    refine lv_iconst (v := (-1)) hx hb d_Md_worst_17 (by decide) ?_
    refine lv_istore_n (lv' := [(2, .int (-1)), (0, .ref mo), (1, .int q)]) hx hb d_Md_worst_18 rfl hl (by decide) rfl (fun ls hl => ?_)
    refine lv_iconst (v := 0) hx hb d_Md_worst_19 (by decide) ?_
    refine lv_istore_n (lv' := [(3, .int 0), (2, .int (-1)), (0, .ref mo), (1, .int q)]) hx hb d_Md_worst_20 rfl hl (by decide) rfl (fun ls hl => ?_)
    refine lv_iconst (v := 0) hx hb d_Md_worst_21 (by decide) ?_
    refine lv_istore (lv' := [(4, .int 0), (3, .int 0), (2, .int (-1)), (0, .ref mo), (1, .int q)]) hx hb d_Md_worst_22 hl (by decide) rfl (fun ls hl => ?_)
    refine lv_iload hx hb d_Md_worst_24 (lv_at hl 0 rfl) ?_
    refine lv_aload_n hx hb d_Md_worst_26 rfl (lv_at hl 3 rfl) ?_
    refine gs_get E hK.1 hG hc_49 (C := R_Md) (T := F_Md) (N := 14) rfl i_Md 3 (by decide) w_466 (v := .int (nI nb)) rfl d_Md_worst_27 ?_
    refine lv_icmp_ge (tgt := 102) hx hb d_Md_worst_30 (by decide) (fun c_50 => ?_) (fun c_50 => ?_)
    · refine lv_aload_n hx hb d_Md_worst_102 rfl (lv_at hl 3 rfl) ?_
      refine gs_get E hK.1 hG hc_49 (C := R_Md) (T := F_Md) (N := 14) rfl i_Md 0 (by decide) w_463 (v := .int 1) rfl d_Md_worst_103 ?_
      refine lv_if_le (tgt := 113) hx hb d_Md_worst_106 (by decide) (fun c_51 => ?_) (fun c_51 => ?_)
      · exact absurd c_51 (by decide)
      · refine lv_iconst (v := 0) hx hb d_Md_worst_109 (by decide) ?_
        refine lv_goto (tgt := 114) hx hb d_Md_worst_110 (by decide) ?_
        refine W.iret (v := 0) hx hb hr (gs_end ⟨1, _, l1, l2, l3, l4, Or.inl ⟨rfl, c_1⟩, rfl, fun q9 => absurd q9 (by decide), ?_⟩ hG hS) hS.2.2 d_Md_worst_114
        simp only [eG_43, gs_uu]
    · refine lv_aload_n hx hb d_Md_worst_33 rfl (lv_at hl 3 rfl) ?_
      refine gs_get E hK.1 hG hc_49 (C := R_Md) (T := F_Md) (N := 14) rfl i_Md 0 (by decide) w_463 (v := .int 1) rfl d_Md_worst_34 ?_
      refine lv_if_ne (tgt := 102) hx hb d_Md_worst_37 (by decide) (fun c_52 => ?_) (fun c_52 => ?_)
      · refine lv_aload_n hx hb d_Md_worst_102 rfl (lv_at hl 3 rfl) ?_
        refine gs_get E hK.1 hG hc_49 (C := R_Md) (T := F_Md) (N := 14) rfl i_Md 0 (by decide) w_463 (v := .int 1) rfl d_Md_worst_103 ?_
        refine lv_if_le (tgt := 113) hx hb d_Md_worst_106 (by decide) (fun c_53 => ?_) (fun c_53 => ?_)
        · exact absurd c_53 (by decide)
        · refine lv_iconst (v := 0) hx hb d_Md_worst_109 (by decide) ?_
          refine lv_goto (tgt := 114) hx hb d_Md_worst_110 (by decide) ?_
          refine W.iret (v := 0) hx hb hr (gs_end ⟨1, _, l1, l2, l3, l4, Or.inl ⟨rfl, c_1⟩, rfl, fun q9 => absurd q9 (by decide), ?_⟩ hG hS) hS.2.2 d_Md_worst_114
          simp only [eG_43, gs_uu]
      · exact absurd c_52 (by decide)
set_option maxHeartbeats 4000000 in
set_option maxRecDepth 100000 in
theorem k_Md_ledged (l : Launch) (D : va_G) (k : Nat → ClassId) (zb : Nat) (G : Nat → Option va_E) (mo cB cT cS cL cW : Nat) (th : Int32) (wn hn nb nw : Nat) (bx tr su li wi : Nat → Int32) (l1 l2 l3 l4 : Int64) (iw u0 v0 u1 v1 : Nat) (t : Nat) (d : Int32) (hM : sM k G mo cB cT cS cL cW th wn hn nb nw bx tr su li wi l1 l2 l3 l4) (hnb : nb ≤ 10) (ht24 : t < 24) (hw0 : wi (4 * iw) = nI u0) (hw1 : wi (4 * iw + 1) = nI v0) (hw2 : wi (4 * iw + 2) = nI u1) (hw3 : wi (4 * iw + 3) = nI v1) (hiw : iw < 10) (hu : u0 ≤ u1) (hv : v0 ≤ v1) (hu1 : u1 ≤ 60) (hv1 : v1 ≤ 60) : Met l y_Md_ledged (wM y_Md_ledged c_Md_ledged 4 (some .int)) ({ frames := 5, cells := 0, slots := 0, locals := 137 }) (gs_P D k zb G [.ref mo, .int (nI iw), .int (nI t), .int d]) (gs_Q D zb (fun v G1 => v = some (.int (jm_led bx tr su nb t u0 v0 u1 v1 d)) ∧ ∃ m1 m2 m3 m4 : Int64, G1 = gM k G mo cB cT (jm_ledge bx u0 v1 u1 d) (upd tr 10 1) (oMd th wn hn nb nw cB cT cS cL cW m1 m2 m3 m4))) 0 0 (fun q : Nat => zb ≤ q) := by
  refine Met.ofW (cc := c_Md_ledged) (maxL := 4) (ret := (some .int)) (by decide) rfl ?_
  intro p e s m args below meth c s₁ B hml hv
  obtain ⟨rfl, hG, hK, hX⟩ := hv
  have hx := B.exec
  have hb := B.bytes
  have hr := B.returns
  have hts := atoms_spec (ws := wM y_Md_ledged c_Md_ledged 4 (some .int)) B.pre
  have hw : ∀ w9 ∈ wW, w9.before ([.ref mo, .int (nI iw), .int (nI t), .int d] : List Value).toArray s = true := fun w9 h9 => hts w9 (gi_in w9 h9)
  have hown : s.vm.findClass R_Md = some m.cls := findClass_of_methodNamed B.named
  have hlocks := B.notSynchronized
  have E : gs_E p s m ([.ref mo, .int (nI iw), .int (nI t), .int d] : List Value).toArray c c_Md_ledged wW R_Md := ⟨hx, hb, hw, hown⟩
  have hS : gs_S zb s.heap s.heap [] := va_S.rf
  have hl := lv_entry ([.ref mo, .int (nI iw), .int (nI t), .int d]) (n := 4) (Nat.le_of_ble_eq_true rfl)
  rw [lg_entry_eq]
  generalize (lg_sl ([.ref mo, .int (nI iw), .int (nI t), .int d]) ++ List.replicate (4 - (lg_sl ([.ref mo, .int (nI iw), .int (nI t), .int d])).length) Slot.unset).toArray = ls at hl ⊢
  have hl : lv_has ls 4 [(0, .ref mo), (1, .int (nI iw)), (2, .int (nI t)), (3, .int d)] := hl
  refine lv_aload_n hx hb d_Md_ledged_0 rfl (lv_at hl 0 rfl) ?_
  refine lv_bipush (v := 10) hx hb d_Md_ledged_1 (by decide) ?_
  refine lv_aload_n hx hb d_Md_ledged_3 rfl (lv_at hl 0 rfl) ?_
  refine gs_get E hK.1 hG hM.1 (C := R_Md) (T := F_Md) (N := 14) rfl i_Md 9 (by decide) w_472 (v := .ref cW) rfl d_Md_ledged_4 ?_
  refine lv_iconst (v := 4) hx hb d_Md_ledged_7 (by decide) ?_
  refine lv_iload_n hx hb d_Md_ledged_8 rfl (lv_at hl 1 rfl) ?_
  refine lv_imul hx hb d_Md_ledged_9 ?_
  refine lv_topE (show 4 * (nI iw) = nI (4 * iw) from pk_mul 4 iw) ?_
  refine gn_iald E hK.1 hG hM.2.2.2.2.2 0 rfl (j := (4 * iw)) (by omega) (by decide) d_Md_ledged_10 ?_
  refine lv_topE hw0 ?_
  refine lv_aload_n hx hb d_Md_ledged_11 rfl (lv_at hl 0 rfl) ?_
  refine gs_get E hK.1 hG hM.1 (C := R_Md) (T := F_Md) (N := 14) rfl i_Md 9 (by decide) w_472 (v := .ref cW) rfl d_Md_ledged_12 ?_
  refine lv_iconst (v := 4) hx hb d_Md_ledged_15 (by decide) ?_
  refine lv_iload_n hx hb d_Md_ledged_16 rfl (lv_at hl 1 rfl) ?_
  refine lv_imul hx hb d_Md_ledged_17 ?_
  refine lv_topE (show 4 * (nI iw) = nI (4 * iw) from pk_mul 4 iw) ?_
  refine lv_iconst (v := 3) hx hb d_Md_ledged_18 (by decide) ?_
  refine lv_iadd hx hb d_Md_ledged_19 ?_
  refine lv_topE (show (nI (4 * iw)) + 3 = nI (4 * iw + 3) from nI_add (4 * iw) 3) ?_
  refine gn_iald E hK.1 hG hM.2.2.2.2.2 0 rfl (j := (4 * iw + 3)) (by omega) (by decide) d_Md_ledged_20 ?_
  refine lv_topE hw3 ?_
  refine lv_iconst (v := 0) hx hb d_Md_ledged_21 (by decide) ?_
  refine lv_aload_n hx hb d_Md_ledged_22 rfl (lv_at hl 0 rfl) ?_
  refine gs_get E hK.1 hG hM.1 (C := R_Md) (T := F_Md) (N := 14) rfl i_Md 9 (by decide) w_472 (v := .ref cW) rfl d_Md_ledged_23 ?_
  refine lv_iconst (v := 4) hx hb d_Md_ledged_26 (by decide) ?_
  refine lv_iload_n hx hb d_Md_ledged_27 rfl (lv_at hl 1 rfl) ?_
  refine lv_imul hx hb d_Md_ledged_28 ?_
  refine lv_topE (show 4 * (nI iw) = nI (4 * iw) from pk_mul 4 iw) ?_
  refine lv_iconst (v := 2) hx hb d_Md_ledged_29 (by decide) ?_
  refine lv_iadd hx hb d_Md_ledged_30 ?_
  refine lv_topE (show (nI (4 * iw)) + 2 = nI (4 * iw + 2) from nI_add (4 * iw) 2) ?_
  refine gn_iald E hK.1 hG hM.2.2.2.2.2 0 rfl (j := (4 * iw + 2)) (by omega) (by decide) d_Md_ledged_31 ?_
  refine lv_topE hw2 ?_
  refine lv_aload_n hx hb d_Md_ledged_32 rfl (lv_at hl 0 rfl) ?_
  refine gs_get E hK.1 hG hM.1 (C := R_Md) (T := F_Md) (N := 14) rfl i_Md 9 (by decide) w_472 (v := .ref cW) rfl d_Md_ledged_33 ?_
  refine lv_iconst (v := 4) hx hb d_Md_ledged_36 (by decide) ?_
  refine lv_iload_n hx hb d_Md_ledged_37 rfl (lv_at hl 1 rfl) ?_
  refine lv_imul hx hb d_Md_ledged_38 ?_
  refine lv_topE (show 4 * (nI iw) = nI (4 * iw) from pk_mul 4 iw) ?_
  refine lv_iconst (v := 3) hx hb d_Md_ledged_39 (by decide) ?_
  refine lv_iadd hx hb d_Md_ledged_40 ?_
  refine lv_topE (show (nI (4 * iw)) + 3 = nI (4 * iw + 3) from nI_add (4 * iw) 3) ?_
  refine gn_iald E hK.1 hG hM.2.2.2.2.2 0 rfl (j := (4 * iw + 3)) (by omega) (by decide) d_Md_ledged_41 ?_
  refine lv_topE hw3 ?_
  refine lv_iconst (v := 1) hx hb d_Md_ledged_42 (by decide) ?_
  refine lv_iadd hx hb d_Md_ledged_43 ?_
  refine lv_topE (show (nI v1) + 1 = nI (v1 + 1) from nI_add v1 1) ?_
  refine lv_iload_n hx hb d_Md_ledged_44 rfl (lv_at hl 3 rfl) ?_
  refine gs_V (As := [.int 10, .int (nI u0), .int (nI v1), .int 0, .int (nI u1), .int (nI (v1 + 1)), .int d]) (rest := []) (k_Md_lay l D k zb G mo cB cT cS cL cW th wn hn nb nw bx tr su li wi l1 l2 l3 l4 10 (nI u0) (nI v1) 0 (nI u1) (nI (v1 + 1)) d ⟨hM.1, hM.2.1, hM.2.2.1, hM.2.2.2.1, hM.2.2.2.2.1, hM.2.2.2.2.2⟩ (by omega)) E hml hl.1 (cg_V (C := R_Md) hw w_524 w_521 w_4 w_523 sel_Md_lay hd_Md_lay ⟨by exact Nat.le_of_ble_eq_true rfl, by exact Nat.le_of_ble_eq_true rfl⟩) hG hK hX hS hM.1 rfl rfl rfl rfl (by exact Nat.le_of_ble_eq_true rfl) d_Md_ledged_45 ⟨by exact Nat.le_of_ble_eq_true rfl, by exact Nat.le_of_ble_eq_true rfl⟩ (fun v G1 H locs hp hG hS => ?_)
  obtain ⟨hv1, hG1⟩ := hp
  subst hv1
  rw [hG1] at hG
  obtain ⟨G_1, eG_1⟩ : ∃ z, z = gs_u G cB (aInt (k 0) 66 (jm_lay bx 10 (nI u0) (nI v1) 0 (nI u1) (nI (v1 + 1)) d)) := ⟨_, rfl⟩
  rw [← eG_1] at hG
  have hc_2 : G_1 mo = some (.inr (4, [.int th, .int (nI wn), .int (nI hn), .int (nI nb), .ref cB, .ref cT, .ref cS, .ref cL, .int (nI nw), .ref cW, .long l1, .long l2, .long l3, .long l4])) := by rw [eG_1]; exact gs_keep hM.1 hM.2.1 (by simp)
  have hc_3 : G_1 cT = some (aInt (k 2) 11 tr) := by rw [eG_1]; exact gs_keep hM.2.2.1 hM.2.1 (by simp)
  have hc_4 : G_1 cS = some (aInt (k 0) 72 su) := by rw [eG_1]; exact gs_keep hM.2.2.2.1 hM.2.1 (by simp)
  have hc_5 : G_1 cL = some (aInt (k 0) 24 li) := by rw [eG_1]; exact gs_keep hM.2.2.2.2.1 hM.2.1 (by simp)
  have hc_6 : G_1 cW = some (aInt (k 0) 40 wi) := by rw [eG_1]; exact gs_keep hM.2.2.2.2.2 hM.2.1 (by simp)
  have hc_7 : G_1 cB = some (aInt (k 0) 66 (jm_lay bx 10 (nI u0) (nI v1) 0 (nI u1) (nI (v1 + 1)) d)) := by rw [eG_1]; exact gs_us _ _ _
  obtain ⟨G_8, eG_8⟩ : ∃ z, z = gs_u G_1 cT (aInt (k 2) 11 (upd tr 10 1)) := ⟨_, rfl⟩
  have hG : gs_W D classes zb G_8 H := by rw [eG_8]; exact hG
  have hc_9 : G_8 mo = some (.inr (4, [.int th, .int (nI wn), .int (nI hn), .int (nI nb), .ref cB, .ref cT, .ref cS, .ref cL, .int (nI nw), .ref cW, .long l1, .long l2, .long l3, .long l4])) := by rw [eG_8]; exact gs_keep hc_2 hc_3 (by simp)
  have hc_10 : G_8 cB = some (aInt (k 0) 66 (jm_lay bx 10 (nI u0) (nI v1) 0 (nI u1) (nI (v1 + 1)) d)) := by rw [eG_8]; exact gs_keep hc_7 hc_3 (by simp)
  have hc_11 : G_8 cS = some (aInt (k 0) 72 su) := by rw [eG_8]; exact gs_keep hc_4 hc_3 (by simp)
  have hc_12 : G_8 cL = some (aInt (k 0) 24 li) := by rw [eG_8]; exact gs_keep hc_5 hc_3 (by simp)
  have hc_13 : G_8 cW = some (aInt (k 0) 40 wi) := by rw [eG_8]; exact gs_keep hc_6 hc_3 (by simp)
  have hc_14 : G_8 cT = some (aInt (k 2) 11 (upd tr 10 1)) := by rw [eG_8]; exact gs_us _ _ _
  refine W.eq (g2 := F0 m 48 ls []) rfl ?_
  refine lv_aload_n hx hb d_Md_ledged_48 rfl (lv_at hl 0 rfl) ?_
  refine lv_iload_n hx hb d_Md_ledged_49 rfl (lv_at hl 1 rfl) ?_
  refine lv_iload_n hx hb d_Md_ledged_50 rfl (lv_at hl 2 rfl) ?_
  refine lv_iconst (v := (-1)) hx hb d_Md_ledged_51 (by decide) ?_
  refine lv_iconst (v := 1) hx hb d_Md_ledged_52 (by decide) ?_
  refine gs_V (As := [.int (nI iw), .int (nI t), .int (-1), .int 1]) (rest := []) (k_Md_darkOf l D k zb G_8 mo cB cT cS cL cW th wn hn nb nw (jm_lay bx 10 (nI u0) (nI v1) 0 (nI u1) (nI (v1 + 1)) d) (upd tr 10 1) su li wi l1 l2 l3 l4 iw u0 v0 u1 v1 t (-1) 1 ⟨hc_9, hc_10, hc_14, hc_11, hc_12, hc_13⟩ hnb ht24 hw0 hw1 hw2 hw3 hiw hu hv hu1 hv1) E hml hl.1 (cg_V (C := R_Md) hw w_596 w_593 w_4 w_595 sel_Md_darkOf hd_Md_darkOf ⟨by exact Nat.le_of_ble_eq_true rfl, by exact Nat.le_of_ble_eq_true rfl⟩) hG hK hX hS hc_9 rfl rfl rfl rfl (by exact Nat.le_of_ble_eq_true rfl) d_Md_ledged_53 ⟨by exact Nat.le_of_ble_eq_true rfl, by exact Nat.le_of_ble_eq_true rfl⟩ (fun v G1 H locs hp hG hS => ?_)
  obtain ⟨hv1, n_15, n_16, n_17, n_18, hG1⟩ := hp
  subst hv1
  rw [hG1] at hG
  obtain ⟨G_19, eG_19⟩ : ∃ z, z = gs_u G_8 mo (.inr (4, [.int th, .int (nI wn), .int (nI hn), .int (nI nb), .ref cB, .ref cT, .ref cS, .ref cL, .int (nI nw), .ref cW, .long n_15, .long n_16, .long n_17, .long n_18])) := ⟨_, rfl⟩
  have hG : gs_W D classes zb G_19 H := by rw [eG_19]; exact hG
  have hc_20 : G_19 cB = some (aInt (k 0) 66 (jm_lay bx 10 (nI u0) (nI v1) 0 (nI u1) (nI (v1 + 1)) d)) := by rw [eG_19]; exact gs_keep hc_10 hc_9 (by simp)
  have hc_21 : G_19 cT = some (aInt (k 2) 11 (upd tr 10 1)) := by rw [eG_19]; exact gs_keep hc_14 hc_9 (by simp)
  have hc_22 : G_19 cS = some (aInt (k 0) 72 su) := by rw [eG_19]; exact gs_keep hc_11 hc_9 (by simp)
  have hc_23 : G_19 cL = some (aInt (k 0) 24 li) := by rw [eG_19]; exact gs_keep hc_12 hc_9 (by simp)
  have hc_24 : G_19 cW = some (aInt (k 0) 40 wi) := by rw [eG_19]; exact gs_keep hc_13 hc_9 (by simp)
  have hc_25 : G_19 mo = some (.inr (4, [.int th, .int (nI wn), .int (nI hn), .int (nI nb), .ref cB, .ref cT, .ref cS, .ref cL, .int (nI nw), .ref cW, .long n_15, .long n_16, .long n_17, .long n_18])) := by rw [eG_19]; exact gs_us _ _ _
  refine W.eq (g2 := F0 m 56 ls [.int (nI (jm_dark (jm_lay bx 10 (nI u0) (nI v1) 0 (nI u1) (nI (v1 + 1)) d) (upd tr 10 1) su nb (-1) 1 t u0 v0 u1 v1))]) rfl ?_
  refine W.iret (v := (nI (jm_dark (jm_lay bx 10 (nI u0) (nI v1) 0 (nI u1) (nI (v1 + 1)) d) (upd tr 10 1) su nb (-1) 1 t u0 v0 u1 v1))) hx hb hr (gs_end ⟨rfl, n_15, n_16, n_17, n_18, ?_⟩ hG hS) hS.2.2 d_Md_ledged_56
  simp only [eG_19, eG_8, eG_1, gs_uu]; rfl
set_option maxHeartbeats 4000000 in
set_option maxRecDepth 100000 in
theorem k_Md_ledge (l : Launch) (D : va_G) (k : Nat → ClassId) (zb : Nat) (G : Nat → Option va_E) (mo cB cT cS cL cW : Nat) (th : Int32) (wn hn nb nw : Nat) (bx tr su li wi : Nat → Int32) (l1 l2 l3 l4 : Int64) (wf : Nat → Nat → Nat) (q t d : Int32) (hM : sM k G mo cB cT cS cL cW th wn hn nb nw bx tr su li wi l1 l2 l3 l4) (hnb : nb ≤ 10) (hnw : nw ≤ 10) (hwn : 1 ≤ wn ∧ wn ≤ 60) (hhn : 1 ≤ hn ∧ hn ≤ 60) (hwf : jm_Wf nw wi wf) : Met l y_Md_ledge (wM y_Md_ledge c_Md_ledge 4 (some .int)) ({ frames := 6, cells := 0, slots := 0, locals := 160 }) (gs_P D k zb G [.ref mo, .int q, .int t, .int d]) (gs_Q D zb (fun v G1 => ∃ (c9 r : Int32) (j : Nat) (bx2 tr2 : Nat → Int32) (m1 m2 m3 m4 : Int64), jm_Ck (jm_noB q nw = 0 ∧ ¬ jc_within d 1 100 = 0) t su c9 j ∧ v = some (.int r) ∧ (c9 = 0 → ∃ i : Nat, i < nw ∧ q = nI i ∧ r = jm_led bx tr su nb j (wf i 0) (wf i 1) (wf i 2) (wf i 3) d) ∧ (∀ i, i < 60 → bx2 i = bx i) ∧ (∀ i, i < 10 → tr2 i = tr i) ∧ G1 = gM k G mo cB cT bx2 tr2 (oMd c9 wn hn nb nw cB cT cS cL cW m1 m2 m3 m4))) 0 0 (fun q : Nat => zb ≤ q) := by
  refine Met.ofW (cc := c_Md_ledge) (maxL := 4) (ret := (some .int)) (by decide) rfl ?_
  intro p e s m args below meth c s₁ B hml hv
  obtain ⟨rfl, hG, hK, hX⟩ := hv
  have hx := B.exec
  have hb := B.bytes
  have hr := B.returns
  have hts := atoms_spec (ws := wM y_Md_ledge c_Md_ledge 4 (some .int)) B.pre
  have hw : ∀ w9 ∈ wW, w9.before ([.ref mo, .int q, .int t, .int d] : List Value).toArray s = true := fun w9 h9 => hts w9 (gi_in w9 h9)
  have hown : s.vm.findClass R_Md = some m.cls := findClass_of_methodNamed B.named
  have hlocks := B.notSynchronized
  have E : gs_E p s m ([.ref mo, .int q, .int t, .int d] : List Value).toArray c c_Md_ledge wW R_Md := ⟨hx, hb, hw, hown⟩
  have hS : gs_S zb s.heap s.heap [] := va_S.rf
  have hl := lv_entry ([.ref mo, .int q, .int t, .int d]) (n := 4) (Nat.le_of_ble_eq_true rfl)
  rw [lg_entry_eq]
  generalize (lg_sl ([.ref mo, .int q, .int t, .int d]) ++ List.replicate (4 - (lg_sl ([.ref mo, .int q, .int t, .int d])).length) Slot.unset).toArray = ls at hl ⊢
  have hl : lv_has ls 4 [(0, .ref mo), (1, .int q), (2, .int t), (3, .int d)] := hl
  refine lv_aload_n hx hb d_Md_ledge_0 rfl (lv_at hl 0 rfl) ?_
  refine lv_aload_n hx hb d_Md_ledge_1 rfl (lv_at hl 0 rfl) ?_
  refine lv_aload_n hx hb d_Md_ledge_2 rfl (lv_at hl 0 rfl) ?_
  refine lv_iload_n hx hb d_Md_ledge_3 rfl (lv_at hl 1 rfl) ?_
  refine gs_V (As := [.int q]) (rest := [.ref mo, .ref mo]) (k_Md_noWindow l D k zb G mo cB cT cS cL cW th wn hn nb nw bx tr su li wi l1 l2 l3 l4 q ⟨hM.1, hM.2.1, hM.2.2.1, hM.2.2.2.1, hM.2.2.2.2.1, hM.2.2.2.2.2⟩) E hml hl.1 (cg_V (C := R_Md) hw w_592 w_589 w_4 w_591 sel_Md_noWindow hd_Md_noWindow ⟨by exact Nat.le_of_ble_eq_true rfl, by exact Nat.le_of_ble_eq_true rfl⟩) hG hK hX hS hM.1 rfl rfl rfl rfl (by exact Nat.le_of_ble_eq_true rfl) d_Md_ledge_4 ⟨by exact Nat.le_of_ble_eq_true rfl, by exact Nat.le_of_ble_eq_true rfl⟩ (fun v G1 H locs hp hG hS => ?_)
  obtain ⟨hv1, hG1⟩ := hp
  subst hv1
  rw [hG1] at hG
  refine W.eq (g2 := F0 m 7 ls [.int (jm_noB q nw), .ref mo, .ref mo]) rfl ?_
  refine lv_if_ne (tgt := 24) hx hb d_Md_ledge_7 (by decide) (fun c_1 => ?_) (fun c_1 => ?_)
  · refine lv_iconst (v := 0) hx hb d_Md_ledge_24 (by decide) ?_
    refine lv_iload_n hx hb d_Md_ledge_25 rfl (lv_at hl 2 rfl) ?_
    refine gs_V (As := [.int 0, .int t]) (rest := [.ref mo]) (k_Md_check l D k zb G mo cB cT cS cL cW th wn hn nb nw bx tr su li wi l1 l2 l3 l4 0 t ⟨hM.1, hM.2.1, hM.2.2.1, hM.2.2.2.1, hM.2.2.2.2.1, hM.2.2.2.2.2⟩) E hml hl.1 (cg_V (C := R_Md) hw w_559 w_556 w_4 w_558 sel_Md_check hd_Md_check ⟨by exact Nat.le_of_ble_eq_true rfl, by exact Nat.le_of_ble_eq_true rfl⟩) hG hK hX hS hM.1 rfl rfl rfl rfl (by exact Nat.le_of_ble_eq_true rfl) d_Md_ledge_26 ⟨by exact Nat.le_of_ble_eq_true rfl, by exact Nat.le_of_ble_eq_true rfl⟩ (fun v G1 H locs hp hG hS => ?_)
    obtain ⟨⟨c9, j9, hck, hv1⟩, hG1⟩ := hp
    subst hv1
    rw [hG1] at hG
    have hPP : ¬ (jm_noB q nw = 0 ∧ ¬ jc_within d 1 100 = 0) := fun q9 => c_1 q9.1
    have hck := Ck_congr (Q := jm_noB q nw = 0 ∧ ¬ jc_within d 1 100 = 0) (iff_of_false (fun q => q rfl) hPP) hck
    by_cases hc0 : c9 = 0
    · exact absurd (Ck_0 hck hc0).1 hPP
    · skip
      refine W.eq (g2 := F0 m 29 ls [.int c9, .ref mo]) rfl ?_
      refine gs_put E hK.1 hG hS hM.1 (C := R_Md) (T := F_Md) (N := 14) rfl i_Md t_Md t_Md_ok n_Md 0 (by decide) w_463 rfl (v := .int c9) rfl rfl (Nat.le_of_ble_eq_true rfl) d_Md_ledge_29 (fun H locs hG hS => ?_)
      obtain ⟨G_2, eG_2⟩ : ∃ z, z = gs_u G mo (.inr (4, [.int c9, .int (nI wn), .int (nI hn), .int (nI nb), .ref cB, .ref cT, .ref cS, .ref cL, .int (nI nw), .ref cW, .long l1, .long l2, .long l3, .long l4])) := ⟨_, rfl⟩
      have hG : gs_W D classes zb G_2 H := by rw [eG_2]; exact hG
      have hc_3 : G_2 cB = some (aInt (k 0) 66 bx) := by rw [eG_2]; exact gs_keep hM.2.1 hM.1 (by simp)
      have hc_4 : G_2 cT = some (aInt (k 2) 11 tr) := by rw [eG_2]; exact gs_keep hM.2.2.1 hM.1 (by simp)
      have hc_5 : G_2 cS = some (aInt (k 0) 72 su) := by rw [eG_2]; exact gs_keep hM.2.2.2.1 hM.1 (by simp)
      have hc_6 : G_2 cL = some (aInt (k 0) 24 li) := by rw [eG_2]; exact gs_keep hM.2.2.2.2.1 hM.1 (by simp)
      have hc_7 : G_2 cW = some (aInt (k 0) 40 wi) := by rw [eG_2]; exact gs_keep hM.2.2.2.2.2 hM.1 (by simp)
      have hc_8 : G_2 mo = some (.inr (4, [.int c9, .int (nI wn), .int (nI hn), .int (nI nb), .ref cB, .ref cT, .ref cS, .ref cL, .int (nI nw), .ref cW, .long l1, .long l2, .long l3, .long l4])) := by rw [eG_2]; exact gs_us _ _ _
      refine lv_aload_n hx hb d_Md_ledge_32 rfl (lv_at hl 0 rfl) ?_
      refine gs_get E hK.1 hG hc_8 (C := R_Md) (T := F_Md) (N := 14) rfl i_Md 0 (by decide) w_463 (v := .int c9) rfl d_Md_ledge_33 ?_
      refine lv_if_le (tgt := 43) hx hb d_Md_ledge_36 (by decide) (fun c_9 => ?_) (fun c_9 => ?_)
      · exact absurd (Ck_le hck c_9) hc0
      · refine lv_iconst (v := 0) hx hb d_Md_ledge_39 (by decide) ?_
        refine lv_goto (tgt := 50) hx hb d_Md_ledge_40 (by decide) ?_
        refine W.iret (v := 0) hx hb hr (gs_end ⟨c9, _, j9, bx, tr, l1, l2, l3, l4, hck, rfl, fun q9 => absurd q9 hc0, fun i _ => rfl, fun i _ => rfl, ?_⟩ hG hS) hS.2.2 d_Md_ledge_50
        rw [gM_id hM]; simp only [eG_2, gs_uu]
  · obtain ⟨iw, hiwn, hqi⟩ := noB_1 (by omega) c_1
    have hiw : iw < 10 := by omega
    obtain ⟨⟨hw0, hw1, hw2, hw3⟩, hu, hv, hu1, hv1⟩ := hwf iw hiwn
    rw [hqi] at hl
    refine lv_iload_n hx hb d_Md_ledge_10 rfl (lv_at hl 3 rfl) ?_
    refine lv_iconst (v := 1) hx hb d_Md_ledge_11 (by decide) ?_
    refine lv_bipush (v := 100) hx hb d_Md_ledge_12 (by decide) ?_
    refine gs_St (As := [.int d, .int 1, .int 100]) (rest := [.ref mo, .ref mo]) (k_Md_isIn l D k zb G d 1 100) E hml hl.1 (cg_S hw w_520 w_518 w_4 w_519 hd_Md_isIn ⟨by exact Nat.le_of_ble_eq_true rfl, by exact Nat.le_of_ble_eq_true rfl⟩) hG hK hX hS rfl rfl (by exact Nat.le_of_ble_eq_true rfl) d_Md_ledge_14 ⟨by exact Nat.le_of_ble_eq_true rfl, by exact Nat.le_of_ble_eq_true rfl⟩ (fun v G1 H locs hp hG hS => ?_)
    obtain ⟨hv1, hG1⟩ := hp
    subst hv1
    rw [hG1] at hG
    refine W.eq (g2 := F0 m 17 ls [.int (jc_within d 1 100), .ref mo, .ref mo]) rfl ?_
    refine lv_if_eq (tgt := 24) hx hb d_Md_ledge_17 (by decide) (fun c_10 => ?_) (fun c_10 => ?_)
    · refine lv_iconst (v := 0) hx hb d_Md_ledge_24 (by decide) ?_
      refine lv_iload_n hx hb d_Md_ledge_25 rfl (lv_at hl 2 rfl) ?_
      refine gs_V (As := [.int 0, .int t]) (rest := [.ref mo]) (k_Md_check l D k zb G mo cB cT cS cL cW th wn hn nb nw bx tr su li wi l1 l2 l3 l4 0 t ⟨hM.1, hM.2.1, hM.2.2.1, hM.2.2.2.1, hM.2.2.2.2.1, hM.2.2.2.2.2⟩) E hml hl.1 (cg_V (C := R_Md) hw w_559 w_556 w_4 w_558 sel_Md_check hd_Md_check ⟨by exact Nat.le_of_ble_eq_true rfl, by exact Nat.le_of_ble_eq_true rfl⟩) hG hK hX hS hM.1 rfl rfl rfl rfl (by exact Nat.le_of_ble_eq_true rfl) d_Md_ledge_26 ⟨by exact Nat.le_of_ble_eq_true rfl, by exact Nat.le_of_ble_eq_true rfl⟩ (fun v G1 H locs hp hG hS => ?_)
      obtain ⟨⟨c9, j9, hck, hv1⟩, hG1⟩ := hp
      subst hv1
      rw [hG1] at hG
      have hPP : ¬ (jm_noB q nw = 0 ∧ ¬ jc_within d 1 100 = 0) := fun q9 => q9.2 c_10
      have hck := Ck_congr (Q := jm_noB q nw = 0 ∧ ¬ jc_within d 1 100 = 0) (iff_of_false (fun q => q rfl) hPP) hck
      by_cases hc0 : c9 = 0
      · exact absurd (Ck_0 hck hc0).1 hPP
      · skip
        refine W.eq (g2 := F0 m 29 ls [.int c9, .ref mo]) rfl ?_
        refine gs_put E hK.1 hG hS hM.1 (C := R_Md) (T := F_Md) (N := 14) rfl i_Md t_Md t_Md_ok n_Md 0 (by decide) w_463 rfl (v := .int c9) rfl rfl (Nat.le_of_ble_eq_true rfl) d_Md_ledge_29 (fun H locs hG hS => ?_)
        obtain ⟨G_11, eG_11⟩ : ∃ z, z = gs_u G mo (.inr (4, [.int c9, .int (nI wn), .int (nI hn), .int (nI nb), .ref cB, .ref cT, .ref cS, .ref cL, .int (nI nw), .ref cW, .long l1, .long l2, .long l3, .long l4])) := ⟨_, rfl⟩
        have hG : gs_W D classes zb G_11 H := by rw [eG_11]; exact hG
        have hc_12 : G_11 cB = some (aInt (k 0) 66 bx) := by rw [eG_11]; exact gs_keep hM.2.1 hM.1 (by simp)
        have hc_13 : G_11 cT = some (aInt (k 2) 11 tr) := by rw [eG_11]; exact gs_keep hM.2.2.1 hM.1 (by simp)
        have hc_14 : G_11 cS = some (aInt (k 0) 72 su) := by rw [eG_11]; exact gs_keep hM.2.2.2.1 hM.1 (by simp)
        have hc_15 : G_11 cL = some (aInt (k 0) 24 li) := by rw [eG_11]; exact gs_keep hM.2.2.2.2.1 hM.1 (by simp)
        have hc_16 : G_11 cW = some (aInt (k 0) 40 wi) := by rw [eG_11]; exact gs_keep hM.2.2.2.2.2 hM.1 (by simp)
        have hc_17 : G_11 mo = some (.inr (4, [.int c9, .int (nI wn), .int (nI hn), .int (nI nb), .ref cB, .ref cT, .ref cS, .ref cL, .int (nI nw), .ref cW, .long l1, .long l2, .long l3, .long l4])) := by rw [eG_11]; exact gs_us _ _ _
        refine lv_aload_n hx hb d_Md_ledge_32 rfl (lv_at hl 0 rfl) ?_
        refine gs_get E hK.1 hG hc_17 (C := R_Md) (T := F_Md) (N := 14) rfl i_Md 0 (by decide) w_463 (v := .int c9) rfl d_Md_ledge_33 ?_
        refine lv_if_le (tgt := 43) hx hb d_Md_ledge_36 (by decide) (fun c_18 => ?_) (fun c_18 => ?_)
        · exact absurd (Ck_le hck c_18) hc0
        · refine lv_iconst (v := 0) hx hb d_Md_ledge_39 (by decide) ?_
          refine lv_goto (tgt := 50) hx hb d_Md_ledge_40 (by decide) ?_
          refine W.iret (v := 0) hx hb hr (gs_end ⟨c9, _, j9, bx, tr, l1, l2, l3, l4, hck, rfl, fun q9 => absurd q9 hc0, fun i _ => rfl, fun i _ => rfl, ?_⟩ hG hS) hS.2.2 d_Md_ledge_50
          rw [gM_id hM]; simp only [eG_11, gs_uu]
    · refine lv_iconst (v := 1) hx hb d_Md_ledge_20 (by decide) ?_
      refine lv_goto (tgt := 25) hx hb d_Md_ledge_21 (by decide) ?_
      refine lv_iload_n hx hb d_Md_ledge_25 rfl (lv_at hl 2 rfl) ?_
      refine gs_V (As := [.int 1, .int t]) (rest := [.ref mo]) (k_Md_check l D k zb G mo cB cT cS cL cW th wn hn nb nw bx tr su li wi l1 l2 l3 l4 1 t ⟨hM.1, hM.2.1, hM.2.2.1, hM.2.2.2.1, hM.2.2.2.2.1, hM.2.2.2.2.2⟩) E hml hl.1 (cg_V (C := R_Md) hw w_559 w_556 w_4 w_558 sel_Md_check hd_Md_check ⟨by exact Nat.le_of_ble_eq_true rfl, by exact Nat.le_of_ble_eq_true rfl⟩) hG hK hX hS hM.1 rfl rfl rfl rfl (by exact Nat.le_of_ble_eq_true rfl) d_Md_ledge_26 ⟨by exact Nat.le_of_ble_eq_true rfl, by exact Nat.le_of_ble_eq_true rfl⟩ (fun v G1 H locs hp hG hS => ?_)
      obtain ⟨⟨c9, j9, hck, hv1⟩, hG1⟩ := hp
      subst hv1
      rw [hG1] at hG
      have hPP : jm_noB q nw = 0 ∧ ¬ jc_within d 1 100 = 0 := ⟨c_1, c_10⟩
      have hck := Ck_congr (Q := jm_noB q nw = 0 ∧ ¬ jc_within d 1 100 = 0) (iff_of_true (by decide) hPP) hck
      by_cases hc0 : c9 = 0
      · subst hc0
        obtain ⟨-, hj9, htj, hsun⟩ := Ck_0 hck rfl
        rw [htj] at hl
        refine W.eq (g2 := F0 m 29 ls [.int 0, .ref mo]) rfl ?_
        refine gs_put E hK.1 hG hS hM.1 (C := R_Md) (T := F_Md) (N := 14) rfl i_Md t_Md t_Md_ok n_Md 0 (by decide) w_463 rfl (v := .int 0) rfl rfl (Nat.le_of_ble_eq_true rfl) d_Md_ledge_29 (fun H locs hG hS => ?_)
        obtain ⟨G_19, eG_19⟩ : ∃ z, z = gs_u G mo (.inr (4, [.int 0, .int (nI wn), .int (nI hn), .int (nI nb), .ref cB, .ref cT, .ref cS, .ref cL, .int (nI nw), .ref cW, .long l1, .long l2, .long l3, .long l4])) := ⟨_, rfl⟩
        have hG : gs_W D classes zb G_19 H := by rw [eG_19]; exact hG
        have hc_20 : G_19 cB = some (aInt (k 0) 66 bx) := by rw [eG_19]; exact gs_keep hM.2.1 hM.1 (by simp)
        have hc_21 : G_19 cT = some (aInt (k 2) 11 tr) := by rw [eG_19]; exact gs_keep hM.2.2.1 hM.1 (by simp)
        have hc_22 : G_19 cS = some (aInt (k 0) 72 su) := by rw [eG_19]; exact gs_keep hM.2.2.2.1 hM.1 (by simp)
        have hc_23 : G_19 cL = some (aInt (k 0) 24 li) := by rw [eG_19]; exact gs_keep hM.2.2.2.2.1 hM.1 (by simp)
        have hc_24 : G_19 cW = some (aInt (k 0) 40 wi) := by rw [eG_19]; exact gs_keep hM.2.2.2.2.2 hM.1 (by simp)
        have hc_25 : G_19 mo = some (.inr (4, [.int 0, .int (nI wn), .int (nI hn), .int (nI nb), .ref cB, .ref cT, .ref cS, .ref cL, .int (nI nw), .ref cW, .long l1, .long l2, .long l3, .long l4])) := by rw [eG_19]; exact gs_us _ _ _
        refine lv_aload_n hx hb d_Md_ledge_32 rfl (lv_at hl 0 rfl) ?_
        refine gs_get E hK.1 hG hc_25 (C := R_Md) (T := F_Md) (N := 14) rfl i_Md 0 (by decide) w_463 (v := .int 0) rfl d_Md_ledge_33 ?_
        refine lv_if_le (tgt := 43) hx hb d_Md_ledge_36 (by decide) (fun c_26 => ?_) (fun c_26 => ?_)
        · refine lv_aload_n hx hb d_Md_ledge_43 rfl (lv_at hl 0 rfl) ?_
          refine lv_iload_n hx hb d_Md_ledge_44 rfl (lv_at hl 1 rfl) ?_
          refine lv_iload_n hx hb d_Md_ledge_45 rfl (lv_at hl 2 rfl) ?_
          refine lv_iload_n hx hb d_Md_ledge_46 rfl (lv_at hl 3 rfl) ?_
          refine gs_V (As := [.int (nI iw), .int (nI j9), .int d]) (rest := []) (k_Md_ledged l D k zb G_19 mo cB cT cS cL cW 0 wn hn nb nw bx tr su li wi l1 l2 l3 l4 iw (wf iw 0) (wf iw 1) (wf iw 2) (wf iw 3) j9 d ⟨hc_25, hc_20, hc_21, hc_22, hc_23, hc_24⟩ hnb hj9 hw0 hw1 hw2 hw3 hiw hu hv hu1 hv1) E hml hl.1 (cg_V (C := R_Md) hw w_624 w_621 w_4 w_623 sel_Md_ledged hd_Md_ledged ⟨by exact Nat.le_of_ble_eq_true rfl, by exact Nat.le_of_ble_eq_true rfl⟩) hG hK hX hS hc_25 rfl rfl rfl rfl (by exact Nat.le_of_ble_eq_true rfl) d_Md_ledge_47 ⟨by exact Nat.le_of_ble_eq_true rfl, by exact Nat.le_of_ble_eq_true rfl⟩ (fun v G1 H locs hp hG hS => ?_)
          obtain ⟨hv1, n_27, n_28, n_29, n_30, hG1⟩ := hp
          subst hv1
          rw [hG1, eG_19, gM_r] at hG
          obtain ⟨G_31, eG_31⟩ : ∃ z, z = gM k G mo cB cT (jm_ledge bx (wf iw 0) (wf iw 3) (wf iw 2) d) (upd tr 10 1) (oMd 0 wn hn nb nw cB cT cS cL cW n_27 n_28 n_29 n_30) := ⟨_, rfl⟩
          rw [← eG_31] at hG
          have hM_32 := sM_g hM 0 nb nw (jm_ledge bx (wf iw 0) (wf iw 3) (wf iw 2) d) (upd tr 10 1) n_27 n_28 n_29 n_30
          rw [← eG_31] at hM_32
          refine W.eq (g2 := F0 m 50 ls [.int (jm_led bx tr su nb j9 (wf iw 0) (wf iw 1) (wf iw 2) (wf iw 3) d)]) rfl ?_
          exact W.iret (v := (jm_led bx tr su nb j9 (wf iw 0) (wf iw 1) (wf iw 2) (wf iw 3) d)) hx hb hr (gs_end ⟨0, _, j9, jm_ledge bx (wf iw 0) (wf iw 3) (wf iw 2) d, upd tr 10 1, n_27, n_28, n_29, n_30, hck, rfl, fun _ => ⟨iw, hiwn, hqi, rfl⟩, fun i hi => jm_lay_ne (b := 10) (by omega), fun i hi => pk_un (by omega), eG_31⟩ hG hS) hS.2.2 d_Md_ledge_50
        · exact absurd (by decide) c_26
      · skip
        refine W.eq (g2 := F0 m 29 ls [.int c9, .ref mo]) rfl ?_
        refine gs_put E hK.1 hG hS hM.1 (C := R_Md) (T := F_Md) (N := 14) rfl i_Md t_Md t_Md_ok n_Md 0 (by decide) w_463 rfl (v := .int c9) rfl rfl (Nat.le_of_ble_eq_true rfl) d_Md_ledge_29 (fun H locs hG hS => ?_)
        obtain ⟨G_33, eG_33⟩ : ∃ z, z = gs_u G mo (.inr (4, [.int c9, .int (nI wn), .int (nI hn), .int (nI nb), .ref cB, .ref cT, .ref cS, .ref cL, .int (nI nw), .ref cW, .long l1, .long l2, .long l3, .long l4])) := ⟨_, rfl⟩
        have hG : gs_W D classes zb G_33 H := by rw [eG_33]; exact hG
        have hc_34 : G_33 cB = some (aInt (k 0) 66 bx) := by rw [eG_33]; exact gs_keep hM.2.1 hM.1 (by simp)
        have hc_35 : G_33 cT = some (aInt (k 2) 11 tr) := by rw [eG_33]; exact gs_keep hM.2.2.1 hM.1 (by simp)
        have hc_36 : G_33 cS = some (aInt (k 0) 72 su) := by rw [eG_33]; exact gs_keep hM.2.2.2.1 hM.1 (by simp)
        have hc_37 : G_33 cL = some (aInt (k 0) 24 li) := by rw [eG_33]; exact gs_keep hM.2.2.2.2.1 hM.1 (by simp)
        have hc_38 : G_33 cW = some (aInt (k 0) 40 wi) := by rw [eG_33]; exact gs_keep hM.2.2.2.2.2 hM.1 (by simp)
        have hc_39 : G_33 mo = some (.inr (4, [.int c9, .int (nI wn), .int (nI hn), .int (nI nb), .ref cB, .ref cT, .ref cS, .ref cL, .int (nI nw), .ref cW, .long l1, .long l2, .long l3, .long l4])) := by rw [eG_33]; exact gs_us _ _ _
        refine lv_aload_n hx hb d_Md_ledge_32 rfl (lv_at hl 0 rfl) ?_
        refine gs_get E hK.1 hG hc_39 (C := R_Md) (T := F_Md) (N := 14) rfl i_Md 0 (by decide) w_463 (v := .int c9) rfl d_Md_ledge_33 ?_
        refine lv_if_le (tgt := 43) hx hb d_Md_ledge_36 (by decide) (fun c_40 => ?_) (fun c_40 => ?_)
        · exact absurd (Ck_le hck c_40) hc0
        · refine lv_iconst (v := 0) hx hb d_Md_ledge_39 (by decide) ?_
          refine lv_goto (tgt := 50) hx hb d_Md_ledge_40 (by decide) ?_
          refine W.iret (v := 0) hx hb hr (gs_end ⟨c9, _, j9, bx, tr, l1, l2, l3, l4, hck, rfl, fun q9 => absurd q9 hc0, fun i _ => rfl, fun i _ => rfl, ?_⟩ hG hS) hS.2.2 d_Md_ledge_50
          rw [gM_id hM]; simp only [eG_33, gs_uu]
set_option maxHeartbeats 4000000 in
set_option maxRecDepth 100000 in
theorem k_Md_deep (l : Launch) (D : va_G) (k : Nat → ClassId) (zb : Nat) (G : Nat → Option va_E) (mo cB cT cS cL cW : Nat) (th : Int32) (wn hn nb nw : Nat) (bx tr su li wi : Nat → Int32) (l1 l2 l3 l4 : Int64) (wf : Nat → Nat → Nat) (q t cs : Int32) (hM : sM k G mo cB cT cS cL cW th wn hn nb nw bx tr su li wi l1 l2 l3 l4) (hnb : nb ≤ 10) (hnw : nw ≤ 10) (hwn : 1 ≤ wn ∧ wn ≤ 60) (hhn : 1 ≤ hn ∧ hn ≤ 60) (hwf : jm_Wf nw wi wf) : Met l y_Md_deep (wM y_Md_deep c_Md_deep 5 (some .int)) ({ frames := 6, cells := 0, slots := 0, locals := 160 }) (gs_P D k zb G [.ref mo, .int q, .int t, .int cs]) (gs_Q D zb (fun v G1 => ∃ (c9 r : Int32) (j : Nat) (bx2 tr2 : Nat → Int32) (m1 m2 m3 m4 : Int64), jm_Ck (jm_noB q nw = 0 ∧ ¬ cs < 0) t su c9 j ∧ v = some (.int r) ∧ (c9 = 0 → ∃ i : Nat, i < nw ∧ q = nI i ∧ jm_deep (fun d => jm_led bx tr su nb j (wf i 0) (wf i 1) (wf i 2) (wf i 3) (nI d)) (nI (jm_dark bx tr su nb (-1) 0 j (wf i 0) (wf i 1) (wf i 2) (wf i 3))) cs r) ∧ (∀ i, i < 60 → bx2 i = bx i) ∧ (∀ i, i < 10 → tr2 i = tr i) ∧ G1 = gM k G mo cB cT bx2 tr2 (oMd c9 wn hn nb nw cB cT cS cL cW m1 m2 m3 m4))) 0 0 (fun q : Nat => zb ≤ q) := by
  refine Met.ofW (cc := c_Md_deep) (maxL := 5) (ret := (some .int)) (by decide) rfl ?_
  intro p e s m args below meth c s₁ B hml hv
  obtain ⟨rfl, hG, hK, hX⟩ := hv
  have hx := B.exec
  have hb := B.bytes
  have hr := B.returns
  have hts := atoms_spec (ws := wM y_Md_deep c_Md_deep 5 (some .int)) B.pre
  have hw : ∀ w9 ∈ wW, w9.before ([.ref mo, .int q, .int t, .int cs] : List Value).toArray s = true := fun w9 h9 => hts w9 (gi_in w9 h9)
  have hown : s.vm.findClass R_Md = some m.cls := findClass_of_methodNamed B.named
  have hlocks := B.notSynchronized
  have E : gs_E p s m ([.ref mo, .int q, .int t, .int cs] : List Value).toArray c c_Md_deep wW R_Md := ⟨hx, hb, hw, hown⟩
  have hS : gs_S zb s.heap s.heap [] := va_S.rf
  have hl := lv_entry ([.ref mo, .int q, .int t, .int cs]) (n := 5) (Nat.le_of_ble_eq_true rfl)
  rw [lg_entry_eq]
  generalize (lg_sl ([.ref mo, .int q, .int t, .int cs]) ++ List.replicate (5 - (lg_sl ([.ref mo, .int q, .int t, .int cs])).length) Slot.unset).toArray = ls at hl ⊢
  have hl : lv_has ls 5 [(0, .ref mo), (1, .int q), (2, .int t), (3, .int cs)] := hl
  refine lv_aload_n hx hb d_Md_deep_0 rfl (lv_at hl 0 rfl) ?_
  refine lv_aload_n hx hb d_Md_deep_1 rfl (lv_at hl 0 rfl) ?_
  refine lv_aload_n hx hb d_Md_deep_2 rfl (lv_at hl 0 rfl) ?_
  refine lv_iload_n hx hb d_Md_deep_3 rfl (lv_at hl 1 rfl) ?_
  refine gs_V (As := [.int q]) (rest := [.ref mo, .ref mo]) (k_Md_noWindow l D k zb G mo cB cT cS cL cW th wn hn nb nw bx tr su li wi l1 l2 l3 l4 q ⟨hM.1, hM.2.1, hM.2.2.1, hM.2.2.2.1, hM.2.2.2.2.1, hM.2.2.2.2.2⟩) E hml hl.1 (cg_V (C := R_Md) hw w_592 w_589 w_4 w_591 sel_Md_noWindow hd_Md_noWindow ⟨by exact Nat.le_of_ble_eq_true rfl, by exact Nat.le_of_ble_eq_true rfl⟩) hG hK hX hS hM.1 rfl rfl rfl rfl (by exact Nat.le_of_ble_eq_true rfl) d_Md_deep_4 ⟨by exact Nat.le_of_ble_eq_true rfl, by exact Nat.le_of_ble_eq_true rfl⟩ (fun v G1 H locs hp hG hS => ?_)
  obtain ⟨hv1, hG1⟩ := hp
  subst hv1
  rw [hG1] at hG
  refine W.eq (g2 := F0 m 7 ls [.int (jm_noB q nw), .ref mo, .ref mo]) rfl ?_
  refine lv_if_ne (tgt := 18) hx hb d_Md_deep_7 (by decide) (fun c_1 => ?_) (fun c_1 => ?_)
  · refine lv_iconst (v := 0) hx hb d_Md_deep_18 (by decide) ?_
    refine lv_iload_n hx hb d_Md_deep_19 rfl (lv_at hl 2 rfl) ?_
    refine gs_V (As := [.int 0, .int t]) (rest := [.ref mo]) (k_Md_check l D k zb G mo cB cT cS cL cW th wn hn nb nw bx tr su li wi l1 l2 l3 l4 0 t ⟨hM.1, hM.2.1, hM.2.2.1, hM.2.2.2.1, hM.2.2.2.2.1, hM.2.2.2.2.2⟩) E hml hl.1 (cg_V (C := R_Md) hw w_559 w_556 w_4 w_558 sel_Md_check hd_Md_check ⟨by exact Nat.le_of_ble_eq_true rfl, by exact Nat.le_of_ble_eq_true rfl⟩) hG hK hX hS hM.1 rfl rfl rfl rfl (by exact Nat.le_of_ble_eq_true rfl) d_Md_deep_20 ⟨by exact Nat.le_of_ble_eq_true rfl, by exact Nat.le_of_ble_eq_true rfl⟩ (fun v G1 H locs hp hG hS => ?_)
    obtain ⟨⟨c9, j9, hck, hv1⟩, hG1⟩ := hp
    subst hv1
    rw [hG1] at hG
    have hPP : ¬ (jm_noB q nw = 0 ∧ ¬ cs < 0) := fun q9 => c_1 q9.1
    have hck := Ck_congr (Q := jm_noB q nw = 0 ∧ ¬ cs < 0) (iff_of_false (fun q => q rfl) hPP) hck
    by_cases hc0 : c9 = 0
    · exact absurd (Ck_0 hck hc0).1 hPP
    · skip
      refine W.eq (g2 := F0 m 23 ls [.int c9, .ref mo]) rfl ?_
      refine gs_put E hK.1 hG hS hM.1 (C := R_Md) (T := F_Md) (N := 14) rfl i_Md t_Md t_Md_ok n_Md 0 (by decide) w_463 rfl (v := .int c9) rfl rfl (Nat.le_of_ble_eq_true rfl) d_Md_deep_23 (fun H locs hG hS => ?_)
      obtain ⟨G_2, eG_2⟩ : ∃ z, z = gs_u G mo (.inr (4, [.int c9, .int (nI wn), .int (nI hn), .int (nI nb), .ref cB, .ref cT, .ref cS, .ref cL, .int (nI nw), .ref cW, .long l1, .long l2, .long l3, .long l4])) := ⟨_, rfl⟩
      have hG : gs_W D classes zb G_2 H := by rw [eG_2]; exact hG
      have hc_3 : G_2 cB = some (aInt (k 0) 66 bx) := by rw [eG_2]; exact gs_keep hM.2.1 hM.1 (by simp)
      have hc_4 : G_2 cT = some (aInt (k 2) 11 tr) := by rw [eG_2]; exact gs_keep hM.2.2.1 hM.1 (by simp)
      have hc_5 : G_2 cS = some (aInt (k 0) 72 su) := by rw [eG_2]; exact gs_keep hM.2.2.2.1 hM.1 (by simp)
      have hc_6 : G_2 cL = some (aInt (k 0) 24 li) := by rw [eG_2]; exact gs_keep hM.2.2.2.2.1 hM.1 (by simp)
      have hc_7 : G_2 cW = some (aInt (k 0) 40 wi) := by rw [eG_2]; exact gs_keep hM.2.2.2.2.2 hM.1 (by simp)
      have hc_8 : G_2 mo = some (.inr (4, [.int c9, .int (nI wn), .int (nI hn), .int (nI nb), .ref cB, .ref cT, .ref cS, .ref cL, .int (nI nw), .ref cW, .long l1, .long l2, .long l3, .long l4])) := by rw [eG_2]; exact gs_us _ _ _
      refine lv_aload_n hx hb d_Md_deep_26 rfl (lv_at hl 0 rfl) ?_
      refine gs_get E hK.1 hG hc_8 (C := R_Md) (T := F_Md) (N := 14) rfl i_Md 0 (by decide) w_463 (v := .int c9) rfl d_Md_deep_27 ?_
      refine lv_if_le (tgt := 35) hx hb d_Md_deep_30 (by decide) (fun c_9 => ?_) (fun c_9 => ?_)
      · exact absurd (Ck_le hck c_9) hc0
      · refine lv_iconst (v := 0) hx hb d_Md_deep_33 (by decide) ?_
        refine W.iret (v := 0) hx hb hr (gs_end ⟨c9, _, j9, bx, tr, l1, l2, l3, l4, hck, rfl, fun q9 => absurd q9 hc0, fun i _ => rfl, fun i _ => rfl, ?_⟩ hG hS) hS.2.2 d_Md_deep_34
        rw [gM_id hM]; simp only [eG_2, gs_uu]
  · obtain ⟨iw, hiwn, hqi⟩ := noB_1 (by omega) c_1
    have hiw : iw < 10 := by omega
    obtain ⟨⟨hw0, hw1, hw2, hw3⟩, hu, hv, hu1, hv1⟩ := hwf iw hiwn
    rw [hqi] at hl
    refine lv_iload_n hx hb d_Md_deep_10 rfl (lv_at hl 3 rfl) ?_
    refine lv_if_lt (tgt := 18) hx hb d_Md_deep_11 (by decide) (fun c_10 => ?_) (fun c_10 => ?_)
    · refine lv_iconst (v := 0) hx hb d_Md_deep_18 (by decide) ?_
      refine lv_iload_n hx hb d_Md_deep_19 rfl (lv_at hl 2 rfl) ?_
      refine gs_V (As := [.int 0, .int t]) (rest := [.ref mo]) (k_Md_check l D k zb G mo cB cT cS cL cW th wn hn nb nw bx tr su li wi l1 l2 l3 l4 0 t ⟨hM.1, hM.2.1, hM.2.2.1, hM.2.2.2.1, hM.2.2.2.2.1, hM.2.2.2.2.2⟩) E hml hl.1 (cg_V (C := R_Md) hw w_559 w_556 w_4 w_558 sel_Md_check hd_Md_check ⟨by exact Nat.le_of_ble_eq_true rfl, by exact Nat.le_of_ble_eq_true rfl⟩) hG hK hX hS hM.1 rfl rfl rfl rfl (by exact Nat.le_of_ble_eq_true rfl) d_Md_deep_20 ⟨by exact Nat.le_of_ble_eq_true rfl, by exact Nat.le_of_ble_eq_true rfl⟩ (fun v G1 H locs hp hG hS => ?_)
      obtain ⟨⟨c9, j9, hck, hv1⟩, hG1⟩ := hp
      subst hv1
      rw [hG1] at hG
      have hPP : ¬ (jm_noB q nw = 0 ∧ ¬ cs < 0) := fun q9 => q9.2 c_10
      have hck := Ck_congr (Q := jm_noB q nw = 0 ∧ ¬ cs < 0) (iff_of_false (fun q => q rfl) hPP) hck
      by_cases hc0 : c9 = 0
      · exact absurd (Ck_0 hck hc0).1 hPP
      · skip
        refine W.eq (g2 := F0 m 23 ls [.int c9, .ref mo]) rfl ?_
        refine gs_put E hK.1 hG hS hM.1 (C := R_Md) (T := F_Md) (N := 14) rfl i_Md t_Md t_Md_ok n_Md 0 (by decide) w_463 rfl (v := .int c9) rfl rfl (Nat.le_of_ble_eq_true rfl) d_Md_deep_23 (fun H locs hG hS => ?_)
        obtain ⟨G_11, eG_11⟩ : ∃ z, z = gs_u G mo (.inr (4, [.int c9, .int (nI wn), .int (nI hn), .int (nI nb), .ref cB, .ref cT, .ref cS, .ref cL, .int (nI nw), .ref cW, .long l1, .long l2, .long l3, .long l4])) := ⟨_, rfl⟩
        have hG : gs_W D classes zb G_11 H := by rw [eG_11]; exact hG
        have hc_12 : G_11 cB = some (aInt (k 0) 66 bx) := by rw [eG_11]; exact gs_keep hM.2.1 hM.1 (by simp)
        have hc_13 : G_11 cT = some (aInt (k 2) 11 tr) := by rw [eG_11]; exact gs_keep hM.2.2.1 hM.1 (by simp)
        have hc_14 : G_11 cS = some (aInt (k 0) 72 su) := by rw [eG_11]; exact gs_keep hM.2.2.2.1 hM.1 (by simp)
        have hc_15 : G_11 cL = some (aInt (k 0) 24 li) := by rw [eG_11]; exact gs_keep hM.2.2.2.2.1 hM.1 (by simp)
        have hc_16 : G_11 cW = some (aInt (k 0) 40 wi) := by rw [eG_11]; exact gs_keep hM.2.2.2.2.2 hM.1 (by simp)
        have hc_17 : G_11 mo = some (.inr (4, [.int c9, .int (nI wn), .int (nI hn), .int (nI nb), .ref cB, .ref cT, .ref cS, .ref cL, .int (nI nw), .ref cW, .long l1, .long l2, .long l3, .long l4])) := by rw [eG_11]; exact gs_us _ _ _
        refine lv_aload_n hx hb d_Md_deep_26 rfl (lv_at hl 0 rfl) ?_
        refine gs_get E hK.1 hG hc_17 (C := R_Md) (T := F_Md) (N := 14) rfl i_Md 0 (by decide) w_463 (v := .int c9) rfl d_Md_deep_27 ?_
        refine lv_if_le (tgt := 35) hx hb d_Md_deep_30 (by decide) (fun c_18 => ?_) (fun c_18 => ?_)
        · exact absurd (Ck_le hck c_18) hc0
        · refine lv_iconst (v := 0) hx hb d_Md_deep_33 (by decide) ?_
          refine W.iret (v := 0) hx hb hr (gs_end ⟨c9, _, j9, bx, tr, l1, l2, l3, l4, hck, rfl, fun q9 => absurd q9 hc0, fun i _ => rfl, fun i _ => rfl, ?_⟩ hG hS) hS.2.2 d_Md_deep_34
          rw [gM_id hM]; simp only [eG_11, gs_uu]
    · refine lv_iconst (v := 1) hx hb d_Md_deep_14 (by decide) ?_
      refine lv_goto (tgt := 19) hx hb d_Md_deep_15 (by decide) ?_
      refine lv_iload_n hx hb d_Md_deep_19 rfl (lv_at hl 2 rfl) ?_
      refine gs_V (As := [.int 1, .int t]) (rest := [.ref mo]) (k_Md_check l D k zb G mo cB cT cS cL cW th wn hn nb nw bx tr su li wi l1 l2 l3 l4 1 t ⟨hM.1, hM.2.1, hM.2.2.1, hM.2.2.2.1, hM.2.2.2.2.1, hM.2.2.2.2.2⟩) E hml hl.1 (cg_V (C := R_Md) hw w_559 w_556 w_4 w_558 sel_Md_check hd_Md_check ⟨by exact Nat.le_of_ble_eq_true rfl, by exact Nat.le_of_ble_eq_true rfl⟩) hG hK hX hS hM.1 rfl rfl rfl rfl (by exact Nat.le_of_ble_eq_true rfl) d_Md_deep_20 ⟨by exact Nat.le_of_ble_eq_true rfl, by exact Nat.le_of_ble_eq_true rfl⟩ (fun v G1 H locs hp hG hS => ?_)
      obtain ⟨⟨c9, j9, hck, hv1⟩, hG1⟩ := hp
      subst hv1
      rw [hG1] at hG
      have hPP : jm_noB q nw = 0 ∧ ¬ cs < 0 := ⟨c_1, c_10⟩
      have hck := Ck_congr (Q := jm_noB q nw = 0 ∧ ¬ cs < 0) (iff_of_true (by decide) hPP) hck
      by_cases hc0 : c9 = 0
      · subst hc0
        obtain ⟨-, hj9, htj, hsun⟩ := Ck_0 hck rfl
        rw [htj] at hl
        refine W.eq (g2 := F0 m 23 ls [.int 0, .ref mo]) rfl ?_
        refine gs_put E hK.1 hG hS hM.1 (C := R_Md) (T := F_Md) (N := 14) rfl i_Md t_Md t_Md_ok n_Md 0 (by decide) w_463 rfl (v := .int 0) rfl rfl (Nat.le_of_ble_eq_true rfl) d_Md_deep_23 (fun H locs hG hS => ?_)
        obtain ⟨G_19, eG_19⟩ : ∃ z, z = gs_u G mo (.inr (4, [.int 0, .int (nI wn), .int (nI hn), .int (nI nb), .ref cB, .ref cT, .ref cS, .ref cL, .int (nI nw), .ref cW, .long l1, .long l2, .long l3, .long l4])) := ⟨_, rfl⟩
        have hG : gs_W D classes zb G_19 H := by rw [eG_19]; exact hG
        have hc_20 : G_19 cB = some (aInt (k 0) 66 bx) := by rw [eG_19]; exact gs_keep hM.2.1 hM.1 (by simp)
        have hc_21 : G_19 cT = some (aInt (k 2) 11 tr) := by rw [eG_19]; exact gs_keep hM.2.2.1 hM.1 (by simp)
        have hc_22 : G_19 cS = some (aInt (k 0) 72 su) := by rw [eG_19]; exact gs_keep hM.2.2.2.1 hM.1 (by simp)
        have hc_23 : G_19 cL = some (aInt (k 0) 24 li) := by rw [eG_19]; exact gs_keep hM.2.2.2.2.1 hM.1 (by simp)
        have hc_24 : G_19 cW = some (aInt (k 0) 40 wi) := by rw [eG_19]; exact gs_keep hM.2.2.2.2.2 hM.1 (by simp)
        have hc_25 : G_19 mo = some (.inr (4, [.int 0, .int (nI wn), .int (nI hn), .int (nI nb), .ref cB, .ref cT, .ref cS, .ref cL, .int (nI nw), .ref cW, .long l1, .long l2, .long l3, .long l4])) := by rw [eG_19]; exact gs_us _ _ _
        refine lv_aload_n hx hb d_Md_deep_26 rfl (lv_at hl 0 rfl) ?_
        refine gs_get E hK.1 hG hc_25 (C := R_Md) (T := F_Md) (N := 14) rfl i_Md 0 (by decide) w_463 (v := .int 0) rfl d_Md_deep_27 ?_
        refine lv_if_le (tgt := 35) hx hb d_Md_deep_30 (by decide) (fun c_26 => ?_) (fun c_26 => ?_)
        · refine lv_aload_n hx hb d_Md_deep_35 rfl (lv_at hl 0 rfl) ?_
          refine lv_iload_n hx hb d_Md_deep_36 rfl (lv_at hl 1 rfl) ?_
          refine lv_iload_n hx hb d_Md_deep_37 rfl (lv_at hl 2 rfl) ?_
          refine lv_iconst (v := (-1)) hx hb d_Md_deep_38 (by decide) ?_
          refine lv_iconst (v := 0) hx hb d_Md_deep_39 (by decide) ?_
          refine gs_V (As := [.int (nI iw), .int (nI j9), .int (-1), .int 0]) (rest := []) (k_Md_darkOf l D k zb G_19 mo cB cT cS cL cW 0 wn hn nb nw bx tr su li wi l1 l2 l3 l4 iw (wf iw 0) (wf iw 1) (wf iw 2) (wf iw 3) j9 (-1) 0 ⟨hc_25, hc_20, hc_21, hc_22, hc_23, hc_24⟩ hnb hj9 hw0 hw1 hw2 hw3 hiw hu hv hu1 hv1) E hml hl.1 (cg_V (C := R_Md) hw w_596 w_593 w_4 w_595 sel_Md_darkOf hd_Md_darkOf ⟨by exact Nat.le_of_ble_eq_true rfl, by exact Nat.le_of_ble_eq_true rfl⟩) hG hK hX hS hc_25 rfl rfl rfl rfl (by exact Nat.le_of_ble_eq_true rfl) d_Md_deep_40 ⟨by exact Nat.le_of_ble_eq_true rfl, by exact Nat.le_of_ble_eq_true rfl⟩ (fun v G1 H locs hp hG hS => ?_)
          obtain ⟨hv1, n_27, n_28, n_29, n_30, hG1⟩ := hp
          subst hv1
          rw [hG1] at hG
          obtain ⟨G_31, eG_31⟩ : ∃ z, z = gs_u G_19 mo (.inr (4, [.int 0, .int (nI wn), .int (nI hn), .int (nI nb), .ref cB, .ref cT, .ref cS, .ref cL, .int (nI nw), .ref cW, .long n_27, .long n_28, .long n_29, .long n_30])) := ⟨_, rfl⟩
          have hG : gs_W D classes zb G_31 H := by rw [eG_31]; exact hG
          have hc_32 : G_31 cB = some (aInt (k 0) 66 bx) := by rw [eG_31]; exact gs_keep hc_20 hc_25 (by simp)
          have hc_33 : G_31 cT = some (aInt (k 2) 11 tr) := by rw [eG_31]; exact gs_keep hc_21 hc_25 (by simp)
          have hc_34 : G_31 cS = some (aInt (k 0) 72 su) := by rw [eG_31]; exact gs_keep hc_22 hc_25 (by simp)
          have hc_35 : G_31 cL = some (aInt (k 0) 24 li) := by rw [eG_31]; exact gs_keep hc_23 hc_25 (by simp)
          have hc_36 : G_31 cW = some (aInt (k 0) 40 wi) := by rw [eG_31]; exact gs_keep hc_24 hc_25 (by simp)
          have hc_37 : G_31 mo = some (.inr (4, [.int 0, .int (nI wn), .int (nI hn), .int (nI nb), .ref cB, .ref cT, .ref cS, .ref cL, .int (nI nw), .ref cW, .long n_27, .long n_28, .long n_29, .long n_30])) := by rw [eG_31]; exact gs_us _ _ _
          refine W.eq (g2 := F0 m 43 ls [.int (nI (jm_dark bx tr su nb (-1) 0 j9 (wf iw 0) (wf iw 1) (wf iw 2) (wf iw 3)))]) rfl ?_
          refine lv_iload_n hx hb d_Md_deep_43 rfl (lv_at hl 3 rfl) ?_
          refine lv_icmp_lt (tgt := 49) hx hb d_Md_deep_44 (by decide) (fun c_38 => ?_) (fun c_38 => ?_)
          · refine lv_iconst (v := 1) hx hb d_Md_deep_49 (by decide) ?_
            refine lv_istore (lv' := [(4, .int 1), (0, .ref mo), (1, .int (nI iw)), (2, .int (nI j9)), (3, .int cs)]) hx hb d_Md_deep_50 hl (by decide) rfl (fun ls hl => ?_)
            simp only [eG_31, eG_19, gs_uu] at hG
            rw [← gM_id hM] at hG
            have lpq : ∀ (fu : Nat) (dd : Nat) (bx2 : Nat → Int32) (tr2 : Nat → Int32) (m1 : Int64) (m2 : Int64) (m3 : Int64) (m4 : Int64), dd ≤ 101 → 101 + 1 ≤ dd + fu → (hd1 : 1 ≤ dd) → (hbx : ∀ z, jm_ledge bx2 (wf iw 0) (wf iw 3) (wf iw 2) z = jm_ledge bx (wf iw 0) (wf iw 3) (wf iw 2) z) → (htr2 : upd tr2 10 1 = upd tr 10 1) → (h60 : ∀ i, i < 60 → bx2 i = bx i) → (h10 : ∀ i, i < 10 → tr2 i = tr i) → (hno : ∀ i : Nat, 1 ≤ i → i < dd → jm_led bx tr su nb j9 (wf iw 0) (wf iw 1) (wf iw 2) (wf iw 3) (nI i) < cs) → ∀ (H : Heap) (locs : List Loc), gs_W D classes zb (gM k G mo cB cT bx2 tr2 (oMd 0 wn hn nb nw cB cT cS cL cW m1 m2 m3 m4)) H → gs_S zb s.heap H locs → ∀ (ls : Array Slot), lv_has ls 5 [(0, .ref mo), (1, .int (nI iw)), (2, .int (nI j9)), (3, .int cs), (4, .int (nI dd))] → W p l e (headSpec (wM y_Md_deep c_Md_deep 5 (some .int)) ({ frames := 6, cells := 0, slots := 0, locals := 160 })).room s m ([.ref mo, .int q, .int t, .int cs] : List Value).toArray below meth c H locs 0 0 (MQ below (gs_Q D zb (fun v G1 => ∃ (c9 r : Int32) (j : Nat) (bx2 tr2 : Nat → Int32) (m1 m2 m3 m4 : Int64), jm_Ck (jm_noB q nw = 0 ∧ ¬ cs < 0) t su c9 j ∧ v = some (.int r) ∧ (c9 = 0 → ∃ i : Nat, i < nw ∧ q = nI i ∧ jm_deep (fun d => jm_led bx tr su nb j (wf i 0) (wf i 1) (wf i 2) (wf i 3) (nI d)) (nI (jm_dark bx tr su nb (-1) 0 j (wf i 0) (wf i 1) (wf i 2) (wf i 3))) cs r) ∧ (∀ i, i < 60 → bx2 i = bx i) ∧ (∀ i, i < 10 → tr2 i = tr i) ∧ G1 = gM k G mo cB cT bx2 tr2 (oMd c9 wn hn nb nw cB cT cS cL cW m1 m2 m3 m4))) ([.ref mo, .int q, .int t, .int cs] : List Value).toArray s 0 0 (fun q : Nat => zb ≤ q)) (F0 m 52 ls []) := by
              intro fu
              induction fu with
              | zero => intro dd bx2 tr2 m1 m2 m3 m4 hle hfu; exact absurd hfu (by omega)
              | succ fu IHlpq =>
                intro dd bx2 tr2 m1 m2 m3 m4 hle hfu hd1 hbx htr2 h60 h10 hno H locs hG hS ls hl
                obtain ⟨G_39, eG_39⟩ : ∃ z, z = gM k G mo cB cT bx2 tr2 (oMd 0 wn hn nb nw cB cT cS cL cW m1 m2 m3 m4) := ⟨_, rfl⟩
                rw [← eG_39] at hG
                have hM_40 := sM_g hM 0 nb nw bx2 tr2 m1 m2 m3 m4
                rw [← eG_39] at hM_40
                refine lv_iload hx hb d_Md_deep_52 (lv_at hl 4 rfl) ?_
                refine lv_bipush (v := 100) hx hb d_Md_deep_54 (by decide) ?_
                refine lv_icmp_gt (tgt := 80) hx hb d_Md_deep_56 (by decide) (fun c_41 => ?_) (fun c_41 => ?_)
                · have hend : dd = 101 := by have h9 := lt_nI (a := 100) (by decide) (by omega) c_41; omega
                  refine lv_iconst (v := (-1)) hx hb d_Md_deep_80 (by decide) ?_
                  exact W.iret (v := (-1)) hx hb hr (gs_end ⟨0, _, j9, bx2, tr2, m1, m2, m3, m4, hck, rfl, fun _ => ⟨iw, hiwn, hqi, Or.inr ⟨c_38, Or.inr ⟨fun i h1 h2 => hno i h1 (by omega), rfl⟩⟩⟩, h60, h10, eG_39⟩ hG hS) hS.2.2 d_Md_deep_81
                · have hlt : dd ≤ 100 := by have h9 := nlt_nI (a := 100) (by omega) c_41; omega
                  refine lv_aload_n hx hb d_Md_deep_59 rfl (lv_at hl 0 rfl) ?_
                  refine lv_iload_n hx hb d_Md_deep_60 rfl (lv_at hl 1 rfl) ?_
                  refine lv_iload_n hx hb d_Md_deep_61 rfl (lv_at hl 2 rfl) ?_
                  refine lv_iload hx hb d_Md_deep_62 (lv_at hl 4 rfl) ?_
                  refine gs_V (As := [.int (nI iw), .int (nI j9), .int (nI dd)]) (rest := []) (k_Md_ledged l D k zb G_39 mo cB cT cS cL cW 0 wn hn nb nw bx2 tr2 su li wi m1 m2 m3 m4 iw (wf iw 0) (wf iw 1) (wf iw 2) (wf iw 3) j9 (nI dd) ⟨hM_40.1, hM_40.2.1, hM_40.2.2.1, hM_40.2.2.2.1, hM_40.2.2.2.2.1, hM_40.2.2.2.2.2⟩ hnb hj9 hw0 hw1 hw2 hw3 hiw hu hv hu1 hv1) E hml hl.1 (cg_V (C := R_Md) hw w_624 w_621 w_4 w_623 sel_Md_ledged hd_Md_ledged ⟨by exact Nat.le_of_ble_eq_true rfl, by exact Nat.le_of_ble_eq_true rfl⟩) hG hK hX hS hM_40.1 rfl rfl rfl rfl (by exact Nat.le_of_ble_eq_true rfl) d_Md_deep_64 ⟨by exact Nat.le_of_ble_eq_true rfl, by exact Nat.le_of_ble_eq_true rfl⟩ (fun v G1 H locs hp hG hS => ?_)
                  obtain ⟨hv1, n_42, n_43, n_44, n_45, hG1⟩ := hp
                  subst hv1
                  rw [hG1, eG_39, gM_gM] at hG
                  obtain ⟨G_46, eG_46⟩ : ∃ z, z = gM k G mo cB cT (jm_ledge bx2 (wf iw 0) (wf iw 3) (wf iw 2) (nI dd)) (upd tr2 10 1) (oMd 0 wn hn nb nw cB cT cS cL cW n_42 n_43 n_44 n_45) := ⟨_, rfl⟩
                  rw [← eG_46] at hG
                  have hM_47 := sM_g hM 0 nb nw (jm_ledge bx2 (wf iw 0) (wf iw 3) (wf iw 2) (nI dd)) (upd tr2 10 1) n_42 n_43 n_44 n_45
                  rw [← eG_46] at hM_47
                  refine W.eq (g2 := F0 m 67 ls [.int (jm_led bx2 tr2 su nb j9 (wf iw 0) (wf iw 1) (wf iw 2) (wf iw 3) (nI dd))]) rfl ?_
                  refine lv_iload_n hx hb d_Md_deep_67 rfl (lv_at hl 3 rfl) ?_
                  refine lv_icmp_lt (tgt := 74) hx hb d_Md_deep_68 (by decide) (fun c_48 => ?_) (fun c_48 => ?_)
                  · refine lv_iinc (v := nI (dd + 1)) (lv' := [(4, .int (nI (dd + 1))), (0, .ref mo), (1, .int (nI iw)), (2, .int (nI j9)), (3, .int cs)]) hx hb d_Md_deep_74 hl (k := 4) rfl (nI_1 _) (by decide) rfl (fun ls hl => ?_)
                    refine lv_goto (tgt := 52) hx hb d_Md_deep_77 (by decide) ?_
                    rw [eG_46] at hG
                    exact IHlpq (dd + 1) (jm_ledge bx2 (wf iw 0) (wf iw 3) (wf iw 2) (nI dd)) (upd tr2 10 1) n_42 n_43 n_44 n_45 (by omega) (by omega) (by omega) (fun z => le2 hbx _ z) (by rw [upd2, htr2]) (fun i hi => (jm_lay_ne (b := 10) (by omega)).trans (h60 i hi)) (fun i hi => (pk_un (by omega)).trans (h10 i hi)) (fun i h1 h2 => (Nat.lt_or_ge i dd).elim (fun z => hno i h1 z) (fun z => by have h9 : i = dd := (by omega); subst h9; rw [← jm_led_eq hbx htr2]; exact c_48)) _ _ hG hS ls (lv_sub hl [1, 2, 3, 4, 0] rfl)
                  · refine lv_iload hx hb d_Md_deep_71 (lv_at hl 4 rfl) ?_
                    exact W.iret (v := (nI dd)) hx hb hr (gs_end ⟨0, _, j9, jm_ledge bx2 (wf iw 0) (wf iw 3) (wf iw 2) (nI dd), upd tr2 10 1, n_42, n_43, n_44, n_45, hck, rfl, fun _ => ⟨iw, hiwn, hqi, Or.inr ⟨c_38, Or.inl ⟨dd, hd1, hlt, hno, (by show ¬ jm_led bx tr su nb j9 (wf iw 0) (wf iw 1) (wf iw 2) (wf iw 3) (nI dd) < cs; rw [← jm_led_eq hbx htr2]; exact c_48), rfl⟩⟩⟩, fun i hi => (jm_lay_ne (b := 10) (by omega)).trans (h60 i hi), fun i hi => (pk_un (by omega)).trans (h10 i hi), eG_46⟩ hG hS) hS.2.2 d_Md_deep_73
            exact lpq (101 + 1) 1 bx tr n_27 n_28 n_29 n_30 (by omega) (by omega) (by decide) (fun z => rfl) rfl (fun i _ => rfl) (fun i _ => rfl) (fun i h1 h2 => absurd h2 (by omega)) _ _ hG hS ls (lv_sub hl [1, 2, 3, 4, 0] rfl)
          · refine lv_iconst (v := 0) hx hb d_Md_deep_47 (by decide) ?_
            refine W.iret (v := 0) hx hb hr (gs_end ⟨0, _, j9, bx, tr, n_27, n_28, n_29, n_30, hck, rfl, fun _ => ⟨iw, hiwn, hqi, Or.inl ⟨c_38, rfl⟩⟩, fun i _ => rfl, fun i _ => rfl, ?_⟩ hG hS) hS.2.2 d_Md_deep_48
            rw [gM_id hM]; simp only [eG_31, eG_19, gs_uu]
        · exact absurd (by decide) c_26
      · skip
        refine W.eq (g2 := F0 m 23 ls [.int c9, .ref mo]) rfl ?_
        refine gs_put E hK.1 hG hS hM.1 (C := R_Md) (T := F_Md) (N := 14) rfl i_Md t_Md t_Md_ok n_Md 0 (by decide) w_463 rfl (v := .int c9) rfl rfl (Nat.le_of_ble_eq_true rfl) d_Md_deep_23 (fun H locs hG hS => ?_)
        obtain ⟨G_49, eG_49⟩ : ∃ z, z = gs_u G mo (.inr (4, [.int c9, .int (nI wn), .int (nI hn), .int (nI nb), .ref cB, .ref cT, .ref cS, .ref cL, .int (nI nw), .ref cW, .long l1, .long l2, .long l3, .long l4])) := ⟨_, rfl⟩
        have hG : gs_W D classes zb G_49 H := by rw [eG_49]; exact hG
        have hc_50 : G_49 cB = some (aInt (k 0) 66 bx) := by rw [eG_49]; exact gs_keep hM.2.1 hM.1 (by simp)
        have hc_51 : G_49 cT = some (aInt (k 2) 11 tr) := by rw [eG_49]; exact gs_keep hM.2.2.1 hM.1 (by simp)
        have hc_52 : G_49 cS = some (aInt (k 0) 72 su) := by rw [eG_49]; exact gs_keep hM.2.2.2.1 hM.1 (by simp)
        have hc_53 : G_49 cL = some (aInt (k 0) 24 li) := by rw [eG_49]; exact gs_keep hM.2.2.2.2.1 hM.1 (by simp)
        have hc_54 : G_49 cW = some (aInt (k 0) 40 wi) := by rw [eG_49]; exact gs_keep hM.2.2.2.2.2 hM.1 (by simp)
        have hc_55 : G_49 mo = some (.inr (4, [.int c9, .int (nI wn), .int (nI hn), .int (nI nb), .ref cB, .ref cT, .ref cS, .ref cL, .int (nI nw), .ref cW, .long l1, .long l2, .long l3, .long l4])) := by rw [eG_49]; exact gs_us _ _ _
        refine lv_aload_n hx hb d_Md_deep_26 rfl (lv_at hl 0 rfl) ?_
        refine gs_get E hK.1 hG hc_55 (C := R_Md) (T := F_Md) (N := 14) rfl i_Md 0 (by decide) w_463 (v := .int c9) rfl d_Md_deep_27 ?_
        refine lv_if_le (tgt := 35) hx hb d_Md_deep_30 (by decide) (fun c_56 => ?_) (fun c_56 => ?_)
        · exact absurd (Ck_le hck c_56) hc0
        · refine lv_iconst (v := 0) hx hb d_Md_deep_33 (by decide) ?_
          refine W.iret (v := 0) hx hb hr (gs_end ⟨c9, _, j9, bx, tr, l1, l2, l3, l4, hck, rfl, fun q9 => absurd q9 hc0, fun i _ => rfl, fun i _ => rfl, ?_⟩ hG hS) hS.2.2 d_Md_deep_34
          rw [gM_id hM]; simp only [eG_49, gs_uu]
