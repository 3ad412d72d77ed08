/-! contracts, by program -/
set_option maxHeartbeats 4000000 in
set_option maxRecDepth 100000 in
theorem k_Md_shadows (l : Launch) (D : va_G) (k : Nat → ClassId) (zb : Nat) (G : Nat → Option va_E) (mo cB cT cS cL cW : Nat) (th : Int32) (wn hn nb nw : Nat) (bx tr su li wi : Nat → Int32) (l1 l2 l3 l4 : Int64) (b t : Int32) (hM : sM k G mo cB cT cS cL cW th wn hn nb nw bx tr su li wi l1 l2 l3 l4) (hnb : nb ≤ 10) (hnw : nw ≤ 10) (hwn : 1 ≤ wn ∧ wn ≤ 60) (hhn : 1 ≤ hn ∧ hn ≤ 60) : Met l y_Md_shadows (wM y_Md_shadows c_Md_shadows 8 (some .int)) ({ frames := 4, cells := 0, slots := 0, locals := 110 }) (gs_P D k zb G [.ref mo, .int b, .int t]) (gs_Q D zb (fun v G1 => ∃ (c9 r : Int32) (j : Nat) (m1 m2 m3 m4 : Int64), jm_Ck (b = (-1) ∨ jm_noB b nb = 0) t su c9 j ∧ v = some (.int r) ∧ (c9 = 0 → (b = (-1) ∧ r = nI (cN (jm_at bx tr su nb wn j) (wn * hn))) ∨ (¬ b = (-1) ∧ ∃ i : Nat, i < nb ∧ b = nI i ∧ r = nI (cN (jm_at1 bx tr su i wn j) (wn * hn)))) ∧ G1 = gs_u G mo (oMd c9 wn hn nb nw cB cT cS cL cW m1 m2 m3 m4))) 0 0 (fun q : Nat => zb ≤ q) := by
  refine Met.ofW (cc := c_Md_shadows) (maxL := 8) (ret := (some .int)) (by decide) rfl ?_
  intro p e s m args below meth c s₁ B hml hv
  obtain ⟨rfl, hG, hK, hX⟩ := hv
  have hx := B.exec
  have hb := B.bytes
  have hr := B.returns
  have hts := atoms_spec (ws := wM y_Md_shadows c_Md_shadows 8 (some .int)) B.pre
  have hw : ∀ w9 ∈ wW, w9.before ([.ref mo, .int b, .int t] : List Value).toArray s = true := fun w9 h9 => hts w9 (gi_in w9 h9)
  have hown : s.vm.findClass R_Md = some m.cls := findClass_of_methodNamed B.named
  have hlocks := B.notSynchronized
  have E : gs_E p s m ([.ref mo, .int b, .int t] : List Value).toArray c c_Md_shadows wW R_Md := ⟨hx, hb, hw, hown⟩
  have hS : gs_S zb s.heap s.heap [] := va_S.rf
  have hl := lv_entry ([.ref mo, .int b, .int t]) (n := 8) (Nat.le_of_ble_eq_true rfl)
  rw [lg_entry_eq]
  generalize (lg_sl ([.ref mo, .int b, .int t]) ++ List.replicate (8 - (lg_sl ([.ref mo, .int b, .int t])).length) Slot.unset).toArray = ls at hl ⊢
  have hl : lv_has ls 8 [(0, .ref mo), (1, .int b), (2, .int t)] := hl
  have hmul : wn * hn ≤ 60 * 60 := Nat.mul_le_mul hwn.2 hhn.2
  refine lv_aload_n hx hb d_Md_shadows_0 rfl (lv_at hl 0 rfl) ?_
  refine lv_aload_n hx hb d_Md_shadows_1 rfl (lv_at hl 0 rfl) ?_
  refine lv_iload_n hx hb d_Md_shadows_2 rfl (lv_at hl 1 rfl) ?_
  refine lv_iconst (v := (-1)) hx hb d_Md_shadows_3 (by decide) ?_
  refine lv_icmp_eq (tgt := 15) hx hb d_Md_shadows_4 (by decide) (fun c_1 => ?_) (fun c_1 => ?_)
  · refine lv_iconst (v := 1) hx hb d_Md_shadows_15 (by decide) ?_
    refine lv_goto (tgt := 20) hx hb d_Md_shadows_16 (by decide) ?_
    refine lv_iload_n hx hb d_Md_shadows_20 rfl (lv_at hl 2 rfl) ?_
    refine gs_V (As := [.int 1, .int t]) (rest := [.ref mo]) (k_Md_check l D k zb G mo cB cT cS cL cW th wn hn nb nw bx tr su li wi l1 l2 l3 l4 1 t ⟨hM.1, hM.2.1, hM.2.2.1, hM.2.2.2.1, hM.2.2.2.2.1, hM.2.2.2.2.2⟩) E hml hl.1 (cg_V (C := R_Md) hw w_559 w_556 w_4 w_558 sel_Md_check hd_Md_check ⟨by exact Nat.le_of_ble_eq_true rfl, by exact Nat.le_of_ble_eq_true rfl⟩) hG hK hX hS hM.1 rfl rfl rfl rfl (by exact Nat.le_of_ble_eq_true rfl) d_Md_shadows_21 ⟨by exact Nat.le_of_ble_eq_true rfl, by exact Nat.le_of_ble_eq_true rfl⟩ (fun v G1 H locs hp hG hS => ?_)
    obtain ⟨⟨c9, j9, hck, hv1⟩, hG1⟩ := hp
    subst hv1
    rw [hG1] at hG
    have hPP : b = (-1) ∨ jm_noB b nb = 0 := Or.inl c_1
    have hck := Ck_congr (Q := b = (-1) ∨ jm_noB b nb = 0) (iff_of_true (by decide) hPP) hck
    by_cases hc0 : c9 = 0
    · subst hc0
      obtain ⟨-, hj9, htj, hsun⟩ := Ck_0 hck rfl
      rw [htj] at hl
      refine W.eq (g2 := F0 m 24 ls [.int 0, .ref mo]) rfl ?_
      refine gs_put E hK.1 hG hS hM.1 (C := R_Md) (T := F_Md) (N := 14) rfl i_Md t_Md t_Md_ok n_Md 0 (by decide) w_463 rfl (v := .int 0) rfl rfl (Nat.le_of_ble_eq_true rfl) d_Md_shadows_24 (fun H locs hG hS => ?_)
      obtain ⟨G_2, eG_2⟩ : ∃ z, z = gs_u G mo (.inr (4, [.int 0, .int (nI wn), .int (nI hn), .int (nI nb), .ref cB, .ref cT, .ref cS, .ref cL, .int (nI nw), .ref cW, .long l1, .long l2, .long l3, .long l4])) := ⟨_, rfl⟩
      have hG : gs_W D classes zb G_2 H := by rw [eG_2]; exact hG
      have hc_3 : G_2 cB = some (aInt (k 0) 66 bx) := by rw [eG_2]; exact gs_keep hM.2.1 hM.1 (by simp)
      have hc_4 : G_2 cT = some (aInt (k 2) 11 tr) := by rw [eG_2]; exact gs_keep hM.2.2.1 hM.1 (by simp)
      have hc_5 : G_2 cS = some (aInt (k 0) 72 su) := by rw [eG_2]; exact gs_keep hM.2.2.2.1 hM.1 (by simp)
      have hc_6 : G_2 cL = some (aInt (k 0) 24 li) := by rw [eG_2]; exact gs_keep hM.2.2.2.2.1 hM.1 (by simp)
      have hc_7 : G_2 cW = some (aInt (k 0) 40 wi) := by rw [eG_2]; exact gs_keep hM.2.2.2.2.2 hM.1 (by simp)
      have hc_8 : G_2 mo = some (.inr (4, [.int 0, .int (nI wn), .int (nI hn), .int (nI nb), .ref cB, .ref cT, .ref cS, .ref cL, .int (nI nw), .ref cW, .long l1, .long l2, .long l3, .long l4])) := by rw [eG_2]; exact gs_us _ _ _
      refine lv_iconst (v := 0) hx hb d_Md_shadows_27 (by decide) ?_
      refine lv_istore_n (lv' := [(3, .int 0), (0, .ref mo), (1, .int b), (2, .int (nI j9))]) hx hb d_Md_shadows_28 rfl hl (by decide) rfl (fun ls hl => ?_)
      refine lv_iconst (v := 0) hx hb d_Md_shadows_29 (by decide) ?_
      refine lv_istore (lv' := [(4, .int 0), (3, .int 0), (0, .ref mo), (1, .int b), (2, .int (nI j9))]) hx hb d_Md_shadows_30 hl (by decide) rfl (fun ls hl => ?_)
      have h00 : (0 : Int32) = nI (cN (jm_at bx tr su nb wn j9) 0) := rfl
      simp only [eG_2, gs_uu] at hG
      have lps : ∀ (fu : Nat) (kk : Nat) (m1 : Int64) (m2 : Int64) (m3 : Int64) (m4 : Int64), kk ≤ wn * hn → wn * hn + 1 ≤ kk + fu → ∀ (H : Heap) (locs : List Loc), gs_W D classes zb (gs_u G mo (oMd 0 wn hn nb nw cB cT cS cL cW m1 m2 m3 m4)) H → gs_S zb s.heap H locs → ∀ (ls : Array Slot), lv_has ls 8 [(0, .ref mo), (1, .int b), (2, .int (nI j9)), (3, .int (nI (cN (jm_at bx tr su nb wn j9) kk))), (4, .int (nI kk))] → W p l e (headSpec (wM y_Md_shadows c_Md_shadows 8 (some .int)) ({ frames := 4, cells := 0, slots := 0, locals := 110 })).room s m ([.ref mo, .int b, .int t] : List Value).toArray below meth c H locs 0 0 (MQ below (gs_Q D zb (fun v G1 => ∃ (c9 r : Int32) (j : Nat) (m1 m2 m3 m4 : Int64), jm_Ck (b = (-1) ∨ jm_noB b nb = 0) t su c9 j ∧ v = some (.int r) ∧ (c9 = 0 → (b = (-1) ∧ r = nI (cN (jm_at bx tr su nb wn j) (wn * hn))) ∨ (¬ b = (-1) ∧ ∃ i : Nat, i < nb ∧ b = nI i ∧ r = nI (cN (jm_at1 bx tr su i wn j) (wn * hn)))) ∧ G1 = gs_u G mo (oMd c9 wn hn nb nw cB cT cS cL cW m1 m2 m3 m4))) ([.ref mo, .int b, .int t] : List Value).toArray s 0 0 (fun q : Nat => zb ≤ q)) (F0 m 32 ls []) := by
        intro fu
        induction fu with
        | zero => intro kk m1 m2 m3 m4 hle hfu; exact absurd hfu (by omega)
        | succ fu IHlps =>
          intro kk m1 m2 m3 m4 hle hfu  H locs hG hS ls hl
          obtain ⟨G_9, eG_9⟩ : ∃ z, z = gs_u G mo (oMd 0 wn hn nb nw cB cT cS cL cW m1 m2 m3 m4) := ⟨_, rfl⟩
          rw [← eG_9] at hG
          have hM9 := sM_o hM 0 nb nw m1 m2 m3 m4
          rw [← eG_9] at hM9
          refine lv_iload hx hb d_Md_shadows_32 (lv_at hl 4 rfl) ?_
          refine lv_aload_n hx hb d_Md_shadows_34 rfl (lv_at hl 0 rfl) ?_
          refine gs_get E hK.1 hG hM9.1 (C := R_Md) (T := F_Md) (N := 14) rfl i_Md 1 (by decide) w_464 (v := .int (nI wn)) rfl d_Md_shadows_35 ?_
          refine lv_aload_n hx hb d_Md_shadows_38 rfl (lv_at hl 0 rfl) ?_
          refine gs_get E hK.1 hG hM9.1 (C := R_Md) (T := F_Md) (N := 14) rfl i_Md 2 (by decide) w_465 (v := .int (nI hn)) rfl d_Md_shadows_39 ?_
          refine lv_imul hx hb d_Md_shadows_42 ?_
          refine lv_topE (show (nI wn) * (nI hn) = nI (wn * hn) from pk_mul wn hn) ?_
          refine lv_icmp_ge (tgt := 138) hx hb d_Md_shadows_43 (by decide) (fun c_10 => ?_) (fun c_10 => ?_)
          · have hend : kk = wn * hn := cl_eq (by omega) hle c_10
            refine lv_iload_n hx hb d_Md_shadows_138 rfl (lv_at hl 3 rfl) ?_
            refine W.iret (v := (nI (cN (jm_at bx tr su nb wn j9) kk))) hx hb hr (gs_end ⟨0, _, j9, m1, m2, m3, m4, hck, rfl, fun _ => Or.inl ⟨c_1, by rw [hend]⟩, ?_⟩ hG hS) hS.2.2 d_Md_shadows_139
            simp only [eG_9, gs_uu]
          · have hlt : kk < wn * hn := cl_lt (by omega) hle c_10
            refine lv_aload_n hx hb d_Md_shadows_46 rfl (lv_at hl 0 rfl) ?_
            refine gs_get E hK.1 hG hM9.1 (C := R_Md) (T := F_Md) (N := 14) rfl i_Md 0 (by decide) w_463 (v := .int 0) rfl d_Md_shadows_47 ?_
            refine lv_if_ne (tgt := 138) hx hb d_Md_shadows_50 (by decide) (fun c_11 => ?_) (fun c_11 => ?_)
            · exact absurd (by decide) c_11
            · refine lv_iload hx hb d_Md_shadows_53 (lv_at hl 4 rfl) ?_
              refine lv_aload_n hx hb d_Md_shadows_55 rfl (lv_at hl 0 rfl) ?_
              refine gs_get E hK.1 hG hM9.1 (C := R_Md) (T := F_Md) (N := 14) rfl i_Md 1 (by decide) w_464 (v := .int (nI wn)) rfl d_Md_shadows_56 ?_
              refine lv_irem hx hb d_Md_shadows_59 (nI_n0 (by omega) (by omega)) ?_
              refine lv_topE (show nI kk - nI kk / nI wn * nI wn = nI (kk % wn) from pk_rem (by omega) (by omega) (by omega)) ?_
              refine lv_istore (lv' := [(5, .int (nI (kk % wn))), (0, .ref mo), (1, .int b), (2, .int (nI j9)), (3, .int (nI (cN (jm_at bx tr su nb wn j9) kk))), (4, .int (nI kk))]) hx hb d_Md_shadows_60 hl (by decide) rfl (fun ls hl => ?_)
              refine lv_iload hx hb d_Md_shadows_62 (lv_at hl 5 rfl) ?_
              refine lv_aload_n hx hb d_Md_shadows_64 rfl (lv_at hl 1 rfl) ?_
              refine gs_get E hK.1 hG hM9.1 (C := R_Md) (T := F_Md) (N := 14) rfl i_Md 1 (by decide) w_464 (v := .int (nI wn)) rfl d_Md_shadows_65 ?_
              refine lv_idiv hx hb d_Md_shadows_68 (nI_n0 (by omega) (by omega)) ?_
              refine lv_topE (show nI kk / nI wn = nI (kk / wn) from pk_div (by omega) (by omega) (by omega)) ?_
              refine lv_istore (lv' := [(6, .int (nI (kk / wn))), (5, .int (nI (kk % wn))), (0, .ref mo), (1, .int b), (2, .int (nI j9)), (3, .int (nI (cN (jm_at bx tr su nb wn j9) kk))), (4, .int (nI kk))]) hx hb d_Md_shadows_69 hl (by decide) rfl (fun ls hl => ?_)
              refine lv_iload_n hx hb d_Md_shadows_71 rfl (lv_at hl 3 rfl) ?_
              refine lv_iconst (v := (-1)) hx hb d_Md_shadows_72 (by decide) ?_
              refine lv_icmp_ne (tgt := 90) hx hb d_Md_shadows_73 (by decide) (fun c_12 => ?_) (fun c_12 => ?_)
              · exact absurd c_1 c_12
              · refine lv_aload_n hx hb d_Md_shadows_76 rfl (lv_at hl 2 rfl) ?_
                refine lv_iload hx hb d_Md_shadows_77 (lv_at hl 1 rfl) ?_
                refine lv_iload hx hb d_Md_shadows_79 (lv_at hl 0 rfl) ?_
                refine lv_iload_n hx hb d_Md_shadows_81 rfl (lv_at hl 4 rfl) ?_
                refine lv_iconst (v := (-1)) hx hb d_Md_shadows_82 (by decide) ?_
                refine lv_iconst (v := 0) hx hb d_Md_shadows_83 (by decide) ?_
                refine gs_V (As := [.int (nI (kk % wn)), .int (nI (kk / wn)), .int (nI j9), .int (-1), .int 0]) (rest := []) (k_Md_isDark l D k zb G_9 mo cB cT cS cL cW 0 wn hn nb nw bx tr su li wi m1 m2 m3 m4 j9 (nI (kk % wn)) (nI (kk / wn)) (-1) 0 ⟨hM9.1, hM9.2.1, hM9.2.2.1, hM9.2.2.2.1, hM9.2.2.2.2.1, hM9.2.2.2.2.2⟩ hnb hj9) E hml hl.1 (cg_V (C := R_Md) hw w_563 w_560 w_4 w_562 sel_Md_isDark hd_Md_isDark ⟨by exact Nat.le_of_ble_eq_true rfl, by exact Nat.le_of_ble_eq_true rfl⟩) hG hK hX hS hM9.1 rfl rfl rfl rfl (by exact Nat.le_of_ble_eq_true rfl) d_Md_shadows_84 ⟨by exact Nat.le_of_ble_eq_true rfl, by exact Nat.le_of_ble_eq_true rfl⟩ (fun v G1 H locs hp hG hS => ?_)
                obtain ⟨hv1, n_13, n_14, n_15, n_16, hG1⟩ := hp
                subst hv1
                rw [hG1] at hG
                obtain ⟨G_17, eG_17⟩ : ∃ z, z = gs_u G_9 mo (.inr (4, [.int 0, .int (nI wn), .int (nI hn), .int (nI nb), .ref cB, .ref cT, .ref cS, .ref cL, .int (nI nw), .ref cW, .long n_13, .long n_14, .long n_15, .long n_16])) := ⟨_, rfl⟩
                have hG : gs_W D classes zb G_17 H := by rw [eG_17]; exact hG
                have hc_18 : G_17 cB = some (aInt (k 0) 66 bx) := by rw [eG_17]; exact gs_keep hM9.2.1 hM9.1 (by simp)
                have hc_19 : G_17 cT = some (aInt (k 2) 11 tr) := by rw [eG_17]; exact gs_keep hM9.2.2.1 hM9.1 (by simp)
                have hc_20 : G_17 cS = some (aInt (k 0) 72 su) := by rw [eG_17]; exact gs_keep hM9.2.2.2.1 hM9.1 (by simp)
                have hc_21 : G_17 cL = some (aInt (k 0) 24 li) := by rw [eG_17]; exact gs_keep hM9.2.2.2.2.1 hM9.1 (by simp)
                have hc_22 : G_17 cW = some (aInt (k 0) 40 wi) := by rw [eG_17]; exact gs_keep hM9.2.2.2.2.2 hM9.1 (by simp)
                have hc_23 : G_17 mo = some (.inr (4, [.int 0, .int (nI wn), .int (nI hn), .int (nI nb), .ref cB, .ref cT, .ref cS, .ref cL, .int (nI nw), .ref cW, .long n_13, .long n_14, .long n_15, .long n_16])) := by rw [eG_17]; exact gs_us _ _ _
                refine W.eq (g2 := F0 m 87 ls [.int (pI (jm_D bx tr su nb (-1) 0 j9 (nI (kk % wn)) (nI (kk / wn))))]) rfl ?_
                refine lv_goto (tgt := 117) hx hb d_Md_shadows_87 (by decide) ?_
                refine lv_topi (fun v_24 ev_24 => ?_)
                refine lv_istore (lv' := [(7, .int v_24), (6, .int (nI (kk / wn))), (5, .int (nI (kk % wn))), (0, .ref mo), (1, .int b), (2, .int (nI j9)), (3, .int (nI (cN (jm_at bx tr su nb wn j9) kk))), (4, .int (nI kk))]) hx hb d_Md_shadows_117 hl (by decide) rfl (fun ls hl => ?_)
                refine lv_iload hx hb d_Md_shadows_119 (lv_at hl 0 rfl) ?_
                refine lv_if_eq (tgt := 130) hx hb d_Md_shadows_121 (by decide) (fun c_25 => ?_) (fun c_25 => ?_)
                · refine lv_iload_n hx hb d_Md_shadows_130 rfl (lv_at hl 6 rfl) ?_
                  refine lv_topE (show nI (cN (jm_at bx tr su nb wn j9) kk) = nI (cN (jm_at bx tr su nb wn j9) (kk + 1)) from cu_F (P := jm_at bx tr su nb wn j9) (pI_0.mp (ev_24.symm.trans c_25))) ?_
                  refine lv_istore_n (lv' := [(3, .int (nI (cN (jm_at bx tr su nb wn j9) (kk + 1)))), (7, .int v_24), (6, .int (nI (kk / wn))), (5, .int (nI (kk % wn))), (0, .ref mo), (1, .int b), (2, .int (nI j9)), (4, .int (nI kk))]) hx hb d_Md_shadows_131 rfl hl (by decide) rfl (fun ls hl => ?_)
                  refine lv_iinc (v := nI (kk + 1)) (lv' := [(4, .int (nI (kk + 1))), (3, .int (nI (cN (jm_at bx tr su nb wn j9) (kk + 1)))), (7, .int v_24), (6, .int (nI (kk / wn))), (5, .int (nI (kk % wn))), (0, .ref mo), (1, .int b), (2, .int (nI j9))]) hx hb d_Md_shadows_132 hl (k := 7) rfl (nI_1 _) (by decide) rfl (fun ls hl => ?_)
                  refine lv_goto (tgt := 32) hx hb d_Md_shadows_135 (by decide) ?_
                  simp only [eG_17, eG_9, gs_uu] at hG
                  exact IHlps (kk + 1) n_13 n_14 n_15 n_16 (by omega) (by omega)  _ _ hG hS ls (lv_sub hl [5, 6, 7, 1, 0] rfl)
                · refine lv_iload_n hx hb d_Md_shadows_124 rfl (lv_at hl 6 rfl) ?_
                  refine lv_iconst (v := 1) hx hb d_Md_shadows_125 (by decide) ?_
                  refine lv_iadd hx hb d_Md_shadows_126 ?_
                  refine lv_topE (show (nI (cN (jm_at bx tr su nb wn j9) kk)) + 1 = nI (cN (jm_at bx tr su nb wn j9) kk + 1) from nI_add (cN (jm_at bx tr su nb wn j9) kk) 1) ?_
                  refine lv_goto (tgt := 131) hx hb d_Md_shadows_127 (by decide) ?_
                  refine lv_topE (show nI (cN (jm_at bx tr su nb wn j9) kk + 1) = nI (cN (jm_at bx tr su nb wn j9) (kk + 1)) from cu_T (P := jm_at bx tr su nb wn j9) (pI_ne (fun q9 => c_25 (ev_24.trans q9)))) ?_
                  refine lv_istore_n (lv' := [(3, .int (nI (cN (jm_at bx tr su nb wn j9) (kk + 1)))), (7, .int v_24), (6, .int (nI (kk / wn))), (5, .int (nI (kk % wn))), (0, .ref mo), (1, .int b), (2, .int (nI j9)), (4, .int (nI kk))]) hx hb d_Md_shadows_131 rfl hl (by decide) rfl (fun ls hl => ?_)
                  refine lv_iinc (v := nI (kk + 1)) (lv' := [(4, .int (nI (kk + 1))), (3, .int (nI (cN (jm_at bx tr su nb wn j9) (kk + 1)))), (7, .int v_24), (6, .int (nI (kk / wn))), (5, .int (nI (kk % wn))), (0, .ref mo), (1, .int b), (2, .int (nI j9))]) hx hb d_Md_shadows_132 hl (k := 7) rfl (nI_1 _) (by decide) rfl (fun ls hl => ?_)
                  refine lv_goto (tgt := 32) hx hb d_Md_shadows_135 (by decide) ?_
                  simp only [eG_17, eG_9, gs_uu] at hG
                  exact IHlps (kk + 1) n_13 n_14 n_15 n_16 (by omega) (by omega)  _ _ hG hS ls (lv_sub hl [5, 6, 7, 1, 0] rfl)
      exact lps (wn * hn + 1) 0 l1 l2 l3 l4 (by omega) (by omega)  _ _ hG hS ls (lv_sub hl [2, 3, 4, 1, 0] rfl)
    · skip
      refine W.eq (g2 := F0 m 24 ls [.int c9, .ref mo]) rfl ?_
      refine gs_put E hK.1 hG hS hM.1 (C := R_Md) (T := F_Md) (N := 14) rfl i_Md t_Md t_Md_ok n_Md 0 (by decide) w_463 rfl (v := .int c9) rfl rfl (Nat.le_of_ble_eq_true rfl) d_Md_shadows_24 (fun H locs hG hS => ?_)
      obtain ⟨G_26, eG_26⟩ : ∃ z, z = gs_u G mo (.inr (4, [.int c9, .int (nI wn), .int (nI hn), .int (nI nb), .ref cB, .ref cT, .ref cS, .ref cL, .int (nI nw), .ref cW, .long l1, .long l2, .long l3, .long l4])) := ⟨_, rfl⟩
      have hG : gs_W D classes zb G_26 H := by rw [eG_26]; exact hG
      have hc_27 : G_26 cB = some (aInt (k 0) 66 bx) := by rw [eG_26]; exact gs_keep hM.2.1 hM.1 (by simp)
      have hc_28 : G_26 cT = some (aInt (k 2) 11 tr) := by rw [eG_26]; exact gs_keep hM.2.2.1 hM.1 (by simp)
      have hc_29 : G_26 cS = some (aInt (k 0) 72 su) := by rw [eG_26]; exact gs_keep hM.2.2.2.1 hM.1 (by simp)
      have hc_30 : G_26 cL = some (aInt (k 0) 24 li) := by rw [eG_26]; exact gs_keep hM.2.2.2.2.1 hM.1 (by simp)
      have hc_31 : G_26 cW = some (aInt (k 0) 40 wi) := by rw [eG_26]; exact gs_keep hM.2.2.2.2.2 hM.1 (by simp)
      have hc_32 : G_26 mo = some (.inr (4, [.int c9, .int (nI wn), .int (nI hn), .int (nI nb), .ref cB, .ref cT, .ref cS, .ref cL, .int (nI nw), .ref cW, .long l1, .long l2, .long l3, .long l4])) := by rw [eG_26]; exact gs_us _ _ _
      refine lv_iconst (v := 0) hx hb d_Md_shadows_27 (by decide) ?_
      refine lv_istore_n (lv' := [(3, .int 0), (0, .ref mo), (1, .int b), (2, .int t)]) hx hb d_Md_shadows_28 rfl hl (by decide) rfl (fun ls hl => ?_)
      refine lv_iconst (v := 0) hx hb d_Md_shadows_29 (by decide) ?_
      refine lv_istore (lv' := [(4, .int 0), (3, .int 0), (0, .ref mo), (1, .int b), (2, .int t)]) hx hb d_Md_shadows_30 hl (by decide) rfl (fun ls hl => ?_)
      refine lv_iload hx hb d_Md_shadows_32 (lv_at hl 0 rfl) ?_
      refine lv_aload_n hx hb d_Md_shadows_34 rfl (lv_at hl 2 rfl) ?_
      refine gs_get E hK.1 hG hc_32 (C := R_Md) (T := F_Md) (N := 14) rfl i_Md 1 (by decide) w_464 (v := .int (nI wn)) rfl d_Md_shadows_35 ?_
      refine lv_aload_n hx hb d_Md_shadows_38 rfl (lv_at hl 2 rfl) ?_
      refine gs_get E hK.1 hG hc_32 (C := R_Md) (T := F_Md) (N := 14) rfl i_Md 2 (by decide) w_465 (v := .int (nI hn)) rfl d_Md_shadows_39 ?_
      refine lv_imul hx hb d_Md_shadows_42 ?_
      refine lv_topE (show (nI wn) * (nI hn) = nI (wn * hn) from pk_mul wn hn) ?_
      refine lv_icmp_ge (tgt := 138) hx hb d_Md_shadows_43 (by decide) (fun c_33 => ?_) (fun c_33 => ?_)
      · refine lv_iload_n hx hb d_Md_shadows_138 rfl (lv_at hl 1 rfl) ?_
        refine W.iret (v := 0) hx hb hr (gs_end ⟨c9, _, j9, l1, l2, l3, l4, hck, rfl, fun q => absurd q hc0, ?_⟩ hG hS) hS.2.2 d_Md_shadows_139
        simp only [eG_26, gs_uu]
      · refine lv_aload_n hx hb d_Md_shadows_46 rfl (lv_at hl 2 rfl) ?_
        refine gs_get E hK.1 hG hc_32 (C := R_Md) (T := F_Md) (N := 14) rfl i_Md 0 (by decide) w_463 (v := .int c9) rfl d_Md_shadows_47 ?_
        refine lv_if_ne (tgt := 138) hx hb d_Md_shadows_50 (by decide) (fun c_34 => ?_) (fun c_34 => ?_)
        · refine lv_iload_n hx hb d_Md_shadows_138 rfl (lv_at hl 1 rfl) ?_
          refine W.iret (v := 0) hx hb hr (gs_end ⟨c9, _, j9, l1, l2, l3, l4, hck, rfl, fun q => absurd q hc0, ?_⟩ hG hS) hS.2.2 d_Md_shadows_139
          simp only [eG_26, gs_uu]
        · exact absurd c_34 hc0
  · refine lv_aload_n hx hb d_Md_shadows_7 rfl (lv_at hl 0 rfl) ?_
    refine lv_iload_n hx hb d_Md_shadows_8 rfl (lv_at hl 1 rfl) ?_
    refine gs_V (As := [.int b]) (rest := [.ref mo, .ref mo]) (k_Md_noBox l D k zb G mo cB cT cS cL cW th wn hn nb nw bx tr su li wi l1 l2 l3 l4 b ⟨hM.1, hM.2.1, hM.2.2.1, hM.2.2.2.1, hM.2.2.2.2.1, hM.2.2.2.2.2⟩) E hml hl.1 (cg_V (C := R_Md) hw w_532 w_529 w_4 w_531 sel_Md_noBox hd_Md_noBox ⟨by exact Nat.le_of_ble_eq_true rfl, by exact Nat.le_of_ble_eq_true rfl⟩) hG hK hX hS hM.1 rfl rfl rfl rfl (by exact Nat.le_of_ble_eq_true rfl) d_Md_shadows_9 ⟨by exact Nat.le_of_ble_eq_true rfl, by exact Nat.le_of_ble_eq_true rfl⟩ (fun v G1 H locs hp hG hS => ?_)
    obtain ⟨hv1, hG1⟩ := hp
    subst hv1
    rw [hG1] at hG
    refine W.eq (g2 := F0 m 12 ls [.int (jm_noB b nb), .ref mo, .ref mo]) rfl ?_
    refine lv_if_ne (tgt := 19) hx hb d_Md_shadows_12 (by decide) (fun c_35 => ?_) (fun c_35 => ?_)
    · refine lv_iconst (v := 0) hx hb d_Md_shadows_19 (by decide) ?_
      refine lv_iload_n hx hb d_Md_shadows_20 rfl (lv_at hl 2 rfl) ?_
      refine gs_V (As := [.int 0, .int t]) (rest := [.ref mo]) (k_Md_check l D k zb G mo cB cT cS cL cW th wn hn nb nw bx tr su li wi l1 l2 l3 l4 0 t ⟨hM.1, hM.2.1, hM.2.2.1, hM.2.2.2.1, hM.2.2.2.2.1, hM.2.2.2.2.2⟩) E hml hl.1 (cg_V (C := R_Md) hw w_559 w_556 w_4 w_558 sel_Md_check hd_Md_check ⟨by exact Nat.le_of_ble_eq_true rfl, by exact Nat.le_of_ble_eq_true rfl⟩) hG hK hX hS hM.1 rfl rfl rfl rfl (by exact Nat.le_of_ble_eq_true rfl) d_Md_shadows_21 ⟨by exact Nat.le_of_ble_eq_true rfl, by exact Nat.le_of_ble_eq_true rfl⟩ (fun v G1 H locs hp hG hS => ?_)
      obtain ⟨⟨c9, j9, hck, hv1⟩, hG1⟩ := hp
      subst hv1
      rw [hG1] at hG
      have hPP : ¬ (b = (-1) ∨ jm_noB b nb = 0) := fun q9 => q9.elim c_1 c_35
      have hck := Ck_congr (Q := b = (-1) ∨ jm_noB b nb = 0) (iff_of_false (fun q => q rfl) hPP) hck
      by_cases hc0 : c9 = 0
      · exact absurd (Ck_0 hck hc0).1 hPP
      · skip
        refine W.eq (g2 := F0 m 24 ls [.int c9, .ref mo]) rfl ?_
        refine gs_put E hK.1 hG hS hM.1 (C := R_Md) (T := F_Md) (N := 14) rfl i_Md t_Md t_Md_ok n_Md 0 (by decide) w_463 rfl (v := .int c9) rfl rfl (Nat.le_of_ble_eq_true rfl) d_Md_shadows_24 (fun H locs hG hS => ?_)
        obtain ⟨G_36, eG_36⟩ : ∃ z, z = gs_u G mo (.inr (4, [.int c9, .int (nI wn), .int (nI hn), .int (nI nb), .ref cB, .ref cT, .ref cS, .ref cL, .int (nI nw), .ref cW, .long l1, .long l2, .long l3, .long l4])) := ⟨_, rfl⟩
        have hG : gs_W D classes zb G_36 H := by rw [eG_36]; exact hG
        have hc_37 : G_36 cB = some (aInt (k 0) 66 bx) := by rw [eG_36]; exact gs_keep hM.2.1 hM.1 (by simp)
        have hc_38 : G_36 cT = some (aInt (k 2) 11 tr) := by rw [eG_36]; exact gs_keep hM.2.2.1 hM.1 (by simp)
        have hc_39 : G_36 cS = some (aInt (k 0) 72 su) := by rw [eG_36]; exact gs_keep hM.2.2.2.1 hM.1 (by simp)
        have hc_40 : G_36 cL = some (aInt (k 0) 24 li) := by rw [eG_36]; exact gs_keep hM.2.2.2.2.1 hM.1 (by simp)
        have hc_41 : G_36 cW = some (aInt (k 0) 40 wi) := by rw [eG_36]; exact gs_keep hM.2.2.2.2.2 hM.1 (by simp)
        have hc_42 : G_36 mo = some (.inr (4, [.int c9, .int (nI wn), .int (nI hn), .int (nI nb), .ref cB, .ref cT, .ref cS, .ref cL, .int (nI nw), .ref cW, .long l1, .long l2, .long l3, .long l4])) := by rw [eG_36]; exact gs_us _ _ _
        refine lv_iconst (v := 0) hx hb d_Md_shadows_27 (by decide) ?_
        refine lv_istore_n (lv' := [(3, .int 0), (0, .ref mo), (1, .int b), (2, .int t)]) hx hb d_Md_shadows_28 rfl hl (by decide) rfl (fun ls hl => ?_)
        refine lv_iconst (v := 0) hx hb d_Md_shadows_29 (by decide) ?_
        refine lv_istore (lv' := [(4, .int 0), (3, .int 0), (0, .ref mo), (1, .int b), (2, .int t)]) hx hb d_Md_shadows_30 hl (by decide) rfl (fun ls hl => ?_)
        refine lv_iload hx hb d_Md_shadows_32 (lv_at hl 0 rfl) ?_
        refine lv_aload_n hx hb d_Md_shadows_34 rfl (lv_at hl 2 rfl) ?_
        refine gs_get E hK.1 hG hc_42 (C := R_Md) (T := F_Md) (N := 14) rfl i_Md 1 (by decide) w_464 (v := .int (nI wn)) rfl d_Md_shadows_35 ?_
        refine lv_aload_n hx hb d_Md_shadows_38 rfl (lv_at hl 2 rfl) ?_
        refine gs_get E hK.1 hG hc_42 (C := R_Md) (T := F_Md) (N := 14) rfl i_Md 2 (by decide) w_465 (v := .int (nI hn)) rfl d_Md_shadows_39 ?_
        refine lv_imul hx hb d_Md_shadows_42 ?_
        refine lv_topE (show (nI wn) * (nI hn) = nI (wn * hn) from pk_mul wn hn) ?_
        refine lv_icmp_ge (tgt := 138) hx hb d_Md_shadows_43 (by decide) (fun c_43 => ?_) (fun c_43 => ?_)
        · refine lv_iload_n hx hb d_Md_shadows_138 rfl (lv_at hl 1 rfl) ?_
          refine W.iret (v := 0) hx hb hr (gs_end ⟨c9, _, j9, l1, l2, l3, l4, hck, rfl, fun q => absurd q hc0, ?_⟩ hG hS) hS.2.2 d_Md_shadows_139
          simp only [eG_36, gs_uu]
        · refine lv_aload_n hx hb d_Md_shadows_46 rfl (lv_at hl 2 rfl) ?_
          refine gs_get E hK.1 hG hc_42 (C := R_Md) (T := F_Md) (N := 14) rfl i_Md 0 (by decide) w_463 (v := .int c9) rfl d_Md_shadows_47 ?_
          refine lv_if_ne (tgt := 138) hx hb d_Md_shadows_50 (by decide) (fun c_44 => ?_) (fun c_44 => ?_)
          · refine lv_iload_n hx hb d_Md_shadows_138 rfl (lv_at hl 1 rfl) ?_
            refine W.iret (v := 0) hx hb hr (gs_end ⟨c9, _, j9, l1, l2, l3, l4, hck, rfl, fun q => absurd q hc0, ?_⟩ hG hS) hS.2.2 d_Md_shadows_139
            simp only [eG_36, gs_uu]
          · exact absurd c_44 hc0
    · obtain ⟨ib, hib, hbi⟩ := noB_1 (by omega) c_35
      have hib10 : ib < 10 := by omega
      rw [hbi] at hl
      refine lv_iconst (v := 1) hx hb d_Md_shadows_15 (by decide) ?_
      refine lv_goto (tgt := 20) hx hb d_Md_shadows_16 (by decide) ?_
      refine lv_iload_n hx hb d_Md_shadows_20 rfl (lv_at hl 2 rfl) ?_
      refine gs_V (As := [.int 1, .int t]) (rest := [.ref mo]) (k_Md_check l D k zb G mo cB cT cS cL cW th wn hn nb nw bx tr su li wi l1 l2 l3 l4 1 t ⟨hM.1, hM.2.1, hM.2.2.1, hM.2.2.2.1, hM.2.2.2.2.1, hM.2.2.2.2.2⟩) E hml hl.1 (cg_V (C := R_Md) hw w_559 w_556 w_4 w_558 sel_Md_check hd_Md_check ⟨by exact Nat.le_of_ble_eq_true rfl, by exact Nat.le_of_ble_eq_true rfl⟩) hG hK hX hS hM.1 rfl rfl rfl rfl (by exact Nat.le_of_ble_eq_true rfl) d_Md_shadows_21 ⟨by exact Nat.le_of_ble_eq_true rfl, by exact Nat.le_of_ble_eq_true rfl⟩ (fun v G1 H locs hp hG hS => ?_)
      obtain ⟨⟨c9, j9, hck, hv1⟩, hG1⟩ := hp
      subst hv1
      rw [hG1] at hG
      have hPP : b = (-1) ∨ jm_noB b nb = 0 := Or.inr c_35
      have hck := Ck_congr (Q := b = (-1) ∨ jm_noB b nb = 0) (iff_of_true (by decide) hPP) hck
      by_cases hc0 : c9 = 0
      · subst hc0
        obtain ⟨-, hj9, htj, hsun⟩ := Ck_0 hck rfl
        rw [htj] at hl
        refine W.eq (g2 := F0 m 24 ls [.int 0, .ref mo]) rfl ?_
        refine gs_put E hK.1 hG hS hM.1 (C := R_Md) (T := F_Md) (N := 14) rfl i_Md t_Md t_Md_ok n_Md 0 (by decide) w_463 rfl (v := .int 0) rfl rfl (Nat.le_of_ble_eq_true rfl) d_Md_shadows_24 (fun H locs hG hS => ?_)
        obtain ⟨G_45, eG_45⟩ : ∃ z, z = gs_u G mo (.inr (4, [.int 0, .int (nI wn), .int (nI hn), .int (nI nb), .ref cB, .ref cT, .ref cS, .ref cL, .int (nI nw), .ref cW, .long l1, .long l2, .long l3, .long l4])) := ⟨_, rfl⟩
        have hG : gs_W D classes zb G_45 H := by rw [eG_45]; exact hG
        have hc_46 : G_45 cB = some (aInt (k 0) 66 bx) := by rw [eG_45]; exact gs_keep hM.2.1 hM.1 (by simp)
        have hc_47 : G_45 cT = some (aInt (k 2) 11 tr) := by rw [eG_45]; exact gs_keep hM.2.2.1 hM.1 (by simp)
        have hc_48 : G_45 cS = some (aInt (k 0) 72 su) := by rw [eG_45]; exact gs_keep hM.2.2.2.1 hM.1 (by simp)
        have hc_49 : G_45 cL = some (aInt (k 0) 24 li) := by rw [eG_45]; exact gs_keep hM.2.2.2.2.1 hM.1 (by simp)
        have hc_50 : G_45 cW = some (aInt (k 0) 40 wi) := by rw [eG_45]; exact gs_keep hM.2.2.2.2.2 hM.1 (by simp)
        have hc_51 : G_45 mo = some (.inr (4, [.int 0, .int (nI wn), .int (nI hn), .int (nI nb), .ref cB, .ref cT, .ref cS, .ref cL, .int (nI nw), .ref cW, .long l1, .long l2, .long l3, .long l4])) := by rw [eG_45]; exact gs_us _ _ _
        refine lv_iconst (v := 0) hx hb d_Md_shadows_27 (by decide) ?_
        refine lv_istore_n (lv' := [(3, .int 0), (0, .ref mo), (1, .int (nI ib)), (2, .int (nI j9))]) hx hb d_Md_shadows_28 rfl hl (by decide) rfl (fun ls hl => ?_)
        refine lv_iconst (v := 0) hx hb d_Md_shadows_29 (by decide) ?_
        refine lv_istore (lv' := [(4, .int 0), (3, .int 0), (0, .ref mo), (1, .int (nI ib)), (2, .int (nI j9))]) hx hb d_Md_shadows_30 hl (by decide) rfl (fun ls hl => ?_)
        have h00 : (0 : Int32) = nI (cN (jm_at1 bx tr su ib wn j9) 0) := rfl
        simp only [eG_45, gs_uu] at hG
        have lps : ∀ (fu : Nat) (kk : Nat) (m1 : Int64) (m2 : Int64) (m3 : Int64) (m4 : Int64), kk ≤ wn * hn → wn * hn + 1 ≤ kk + fu → ∀ (H : Heap) (locs : List Loc), gs_W D classes zb (gs_u G mo (oMd 0 wn hn nb nw cB cT cS cL cW m1 m2 m3 m4)) H → gs_S zb s.heap H locs → ∀ (ls : Array Slot), lv_has ls 8 [(0, .ref mo), (1, .int (nI ib)), (2, .int (nI j9)), (3, .int (nI (cN (jm_at1 bx tr su ib wn j9) kk))), (4, .int (nI kk))] → W p l e (headSpec (wM y_Md_shadows c_Md_shadows 8 (some .int)) ({ frames := 4, cells := 0, slots := 0, locals := 110 })).room s m ([.ref mo, .int b, .int t] : List Value).toArray below meth c H locs 0 0 (MQ below (gs_Q D zb (fun v G1 => ∃ (c9 r : Int32) (j : Nat) (m1 m2 m3 m4 : Int64), jm_Ck (b = (-1) ∨ jm_noB b nb = 0) t su c9 j ∧ v = some (.int r) ∧ (c9 = 0 → (b = (-1) ∧ r = nI (cN (jm_at bx tr su nb wn j) (wn * hn))) ∨ (¬ b = (-1) ∧ ∃ i : Nat, i < nb ∧ b = nI i ∧ r = nI (cN (jm_at1 bx tr su i wn j) (wn * hn)))) ∧ G1 = gs_u G mo (oMd c9 wn hn nb nw cB cT cS cL cW m1 m2 m3 m4))) ([.ref mo, .int b, .int t] : List Value).toArray s 0 0 (fun q : Nat => zb ≤ q)) (F0 m 32 ls []) := by
          intro fu
          induction fu with
          | zero => intro kk m1 m2 m3 m4 hle hfu; exact absurd hfu (by omega)
          | succ fu IHlps =>
            intro kk m1 m2 m3 m4 hle hfu  H locs hG hS ls hl
            obtain ⟨G_52, eG_52⟩ : ∃ z, z = gs_u G mo (oMd 0 wn hn nb nw cB cT cS cL cW m1 m2 m3 m4) := ⟨_, rfl⟩
            rw [← eG_52] at hG
            have hM9 := sM_o hM 0 nb nw m1 m2 m3 m4
            rw [← eG_52] at hM9
            refine lv_iload hx hb d_Md_shadows_32 (lv_at hl 4 rfl) ?_
            refine lv_aload_n hx hb d_Md_shadows_34 rfl (lv_at hl 0 rfl) ?_
            refine gs_get E hK.1 hG hM9.1 (C := R_Md) (T := F_Md) (N := 14) rfl i_Md 1 (by decide) w_464 (v := .int (nI wn)) rfl d_Md_shadows_35 ?_
            refine lv_aload_n hx hb d_Md_shadows_38 rfl (lv_at hl 0 rfl) ?_
            refine gs_get E hK.1 hG hM9.1 (C := R_Md) (T := F_Md) (N := 14) rfl i_Md 2 (by decide) w_465 (v := .int (nI hn)) rfl d_Md_shadows_39 ?_
            refine lv_imul hx hb d_Md_shadows_42 ?_
            refine lv_topE (show (nI wn) * (nI hn) = nI (wn * hn) from pk_mul wn hn) ?_
            refine lv_icmp_ge (tgt := 138) hx hb d_Md_shadows_43 (by decide) (fun c_53 => ?_) (fun c_53 => ?_)
            · have hend : kk = wn * hn := cl_eq (by omega) hle c_53
              refine lv_iload_n hx hb d_Md_shadows_138 rfl (lv_at hl 3 rfl) ?_
              refine W.iret (v := (nI (cN (jm_at1 bx tr su ib wn j9) kk))) hx hb hr (gs_end ⟨0, _, j9, m1, m2, m3, m4, hck, rfl, fun _ => Or.inr ⟨c_1, ib, hib, hbi, by rw [hend]⟩, ?_⟩ hG hS) hS.2.2 d_Md_shadows_139
              simp only [eG_52, gs_uu]
            · have hlt : kk < wn * hn := cl_lt (by omega) hle c_53
              refine lv_aload_n hx hb d_Md_shadows_46 rfl (lv_at hl 0 rfl) ?_
              refine gs_get E hK.1 hG hM9.1 (C := R_Md) (T := F_Md) (N := 14) rfl i_Md 0 (by decide) w_463 (v := .int 0) rfl d_Md_shadows_47 ?_
              refine lv_if_ne (tgt := 138) hx hb d_Md_shadows_50 (by decide) (fun c_54 => ?_) (fun c_54 => ?_)
              · exact absurd (by decide) c_54
              · refine lv_iload hx hb d_Md_shadows_53 (lv_at hl 4 rfl) ?_
                refine lv_aload_n hx hb d_Md_shadows_55 rfl (lv_at hl 0 rfl) ?_
                refine gs_get E hK.1 hG hM9.1 (C := R_Md) (T := F_Md) (N := 14) rfl i_Md 1 (by decide) w_464 (v := .int (nI wn)) rfl d_Md_shadows_56 ?_
                refine lv_irem hx hb d_Md_shadows_59 (nI_n0 (by omega) (by omega)) ?_
                refine lv_topE (show nI kk - nI kk / nI wn * nI wn = nI (kk % wn) from pk_rem (by omega) (by omega) (by omega)) ?_
                refine lv_istore (lv' := [(5, .int (nI (kk % wn))), (0, .ref mo), (1, .int (nI ib)), (2, .int (nI j9)), (3, .int (nI (cN (jm_at1 bx tr su ib wn j9) kk))), (4, .int (nI kk))]) hx hb d_Md_shadows_60 hl (by decide) rfl (fun ls hl => ?_)
                refine lv_iload hx hb d_Md_shadows_62 (lv_at hl 5 rfl) ?_
                refine lv_aload_n hx hb d_Md_shadows_64 rfl (lv_at hl 1 rfl) ?_
                refine gs_get E hK.1 hG hM9.1 (C := R_Md) (T := F_Md) (N := 14) rfl i_Md 1 (by decide) w_464 (v := .int (nI wn)) rfl d_Md_shadows_65 ?_
                refine lv_idiv hx hb d_Md_shadows_68 (nI_n0 (by omega) (by omega)) ?_
                refine lv_topE (show nI kk / nI wn = nI (kk / wn) from pk_div (by omega) (by omega) (by omega)) ?_
                refine lv_istore (lv' := [(6, .int (nI (kk / wn))), (5, .int (nI (kk % wn))), (0, .ref mo), (1, .int (nI ib)), (2, .int (nI j9)), (3, .int (nI (cN (jm_at1 bx tr su ib wn j9) kk))), (4, .int (nI kk))]) hx hb d_Md_shadows_69 hl (by decide) rfl (fun ls hl => ?_)
                refine lv_iload_n hx hb d_Md_shadows_71 rfl (lv_at hl 3 rfl) ?_
                refine lv_iconst (v := (-1)) hx hb d_Md_shadows_72 (by decide) ?_
                refine lv_icmp_ne (tgt := 90) hx hb d_Md_shadows_73 (by decide) (fun c_55 => ?_) (fun c_55 => ?_)
                · refine lv_aload_n hx hb d_Md_shadows_90 rfl (lv_at hl 2 rfl) ?_
                  refine gs_get E hK.1 hG hM9.1 (C := R_Md) (T := F_Md) (N := 14) rfl i_Md 5 (by decide) w_468 (v := .ref cT) rfl d_Md_shadows_91 ?_
                  refine lv_iload_n hx hb d_Md_shadows_94 rfl (lv_at hl 3 rfl) ?_
                  refine gn_zald E hK.1 hG hM9.2.2.1 2 rfl (j := ib) (by omega) (by decide) d_Md_shadows_95 ?_
                  refine lv_if_eq (tgt := 116) hx hb d_Md_shadows_96 (by decide) (fun c_56 => ?_) (fun c_56 => ?_)
                  · refine lv_iconst (v := 0) hx hb d_Md_shadows_116 (by decide) ?_
                    refine lv_istore (lv' := [(7, .int 0), (6, .int (nI (kk / wn))), (5, .int (nI (kk % wn))), (0, .ref mo), (1, .int (nI ib)), (2, .int (nI j9)), (3, .int (nI (cN (jm_at1 bx tr su ib wn j9) kk))), (4, .int (nI kk))]) hx hb d_Md_shadows_117 hl (by decide) rfl (fun ls hl => ?_)
                    refine lv_iload hx hb d_Md_shadows_119 (lv_at hl 0 rfl) ?_
                    refine lv_if_eq (tgt := 130) hx hb d_Md_shadows_121 (by decide) (fun c_57 => ?_) (fun c_57 => ?_)
                    · refine lv_iload_n hx hb d_Md_shadows_130 rfl (lv_at hl 6 rfl) ?_
                      refine lv_topE (show nI (cN (jm_at1 bx tr su ib wn j9) kk) = nI (cN (jm_at1 bx tr su ib wn j9) (kk + 1)) from cu_F (P := jm_at1 bx tr su ib wn j9) (fun q9 => q9.1 c_56)) ?_
                      refine lv_istore_n (lv' := [(3, .int (nI (cN (jm_at1 bx tr su ib wn j9) (kk + 1)))), (7, .int 0), (6, .int (nI (kk / wn))), (5, .int (nI (kk % wn))), (0, .ref mo), (1, .int (nI ib)), (2, .int (nI j9)), (4, .int (nI kk))]) hx hb d_Md_shadows_131 rfl hl (by decide) rfl (fun ls hl => ?_)
                      refine lv_iinc (v := nI (kk + 1)) (lv' := [(4, .int (nI (kk + 1))), (3, .int (nI (cN (jm_at1 bx tr su ib wn j9) (kk + 1)))), (7, .int 0), (6, .int (nI (kk / wn))), (5, .int (nI (kk % wn))), (0, .ref mo), (1, .int (nI ib)), (2, .int (nI j9))]) hx hb d_Md_shadows_132 hl (k := 7) rfl (nI_1 _) (by decide) rfl (fun ls hl => ?_)
                      refine lv_goto (tgt := 32) hx hb d_Md_shadows_135 (by decide) ?_
                      simp only [eG_52, gs_uu] at hG
                      exact IHlps (kk + 1) m1 m2 m3 m4 (by omega) (by omega)  _ _ hG hS ls (lv_sub hl [5, 6, 7, 1, 0] rfl)
                    · exact absurd c_54 c_57
                  · refine lv_aload_n hx hb d_Md_shadows_99 rfl (lv_at hl 2 rfl) ?_
                    refine lv_iload_n hx hb d_Md_shadows_100 rfl (lv_at hl 3 rfl) ?_
                    refine lv_iload hx hb d_Md_shadows_101 (lv_at hl 1 rfl) ?_
                    refine lv_iload hx hb d_Md_shadows_103 (lv_at hl 0 rfl) ?_
                    refine lv_iload_n hx hb d_Md_shadows_105 rfl (lv_at hl 4 rfl) ?_
                    refine gs_V (As := [.int (nI ib), .int (nI (kk % wn)), .int (nI (kk / wn)), .int (nI j9)]) (rest := []) (k_Md_throwsOn l D k zb G_52 mo cB cT cS cL cW 0 wn hn nb nw bx tr su li wi m1 m2 m3 m4 ib j9 (nI (kk % wn)) (nI (kk / wn)) ⟨hM9.1, hM9.2.1, hM9.2.2.1, hM9.2.2.2.1, hM9.2.2.2.2.1, hM9.2.2.2.2.2⟩ (by omega) hj9) E hml hl.1 (cg_V (C := R_Md) hw w_567 w_564 w_4 w_566 sel_Md_throwsOn hd_Md_throwsOn ⟨by exact Nat.le_of_ble_eq_true rfl, by exact Nat.le_of_ble_eq_true rfl⟩) hG hK hX hS hM9.1 rfl rfl rfl rfl (by exact Nat.le_of_ble_eq_true rfl) d_Md_shadows_106 ⟨by exact Nat.le_of_ble_eq_true rfl, by exact Nat.le_of_ble_eq_true rfl⟩ (fun v G1 H locs hp hG hS => ?_)
                    obtain ⟨hv1, n_58, n_59, n_60, n_61, hG1⟩ := hp
                    subst hv1
                    rw [hG1] at hG
                    obtain ⟨G_62, eG_62⟩ : ∃ z, z = gs_u G_52 mo (.inr (4, [.int 0, .int (nI wn), .int (nI hn), .int (nI nb), .ref cB, .ref cT, .ref cS, .ref cL, .int (nI nw), .ref cW, .long n_58, .long n_59, .long n_60, .long n_61])) := ⟨_, rfl⟩
                    have hG : gs_W D classes zb G_62 H := by rw [eG_62]; exact hG
                    have hc_63 : G_62 cB = some (aInt (k 0) 66 bx) := by rw [eG_62]; exact gs_keep hM9.2.1 hM9.1 (by simp)
                    have hc_64 : G_62 cT = some (aInt (k 2) 11 tr) := by rw [eG_62]; exact gs_keep hM9.2.2.1 hM9.1 (by simp)
                    have hc_65 : G_62 cS = some (aInt (k 0) 72 su) := by rw [eG_62]; exact gs_keep hM9.2.2.2.1 hM9.1 (by simp)
                    have hc_66 : G_62 cL = some (aInt (k 0) 24 li) := by rw [eG_62]; exact gs_keep hM9.2.2.2.2.1 hM9.1 (by simp)
                    have hc_67 : G_62 cW = some (aInt (k 0) 40 wi) := by rw [eG_62]; exact gs_keep hM9.2.2.2.2.2 hM9.1 (by simp)
                    have hc_68 : G_62 mo = some (.inr (4, [.int 0, .int (nI wn), .int (nI hn), .int (nI nb), .ref cB, .ref cT, .ref cS, .ref cL, .int (nI nw), .ref cW, .long n_58, .long n_59, .long n_60, .long n_61])) := by rw [eG_62]; exact gs_us _ _ _
                    refine W.eq (g2 := F0 m 109 ls [.int (jm_b bx su ib j9 (nI (kk % wn)) (nI (kk / wn)))]) rfl ?_
                    refine lv_if_eq (tgt := 116) hx hb d_Md_shadows_109 (by decide) (fun c_69 => ?_) (fun c_69 => ?_)
                    · refine lv_iconst (v := 0) hx hb d_Md_shadows_116 (by decide) ?_
                      refine lv_istore (lv' := [(7, .int 0), (6, .int (nI (kk / wn))), (5, .int (nI (kk % wn))), (0, .ref mo), (1, .int (nI ib)), (2, .int (nI j9)), (3, .int (nI (cN (jm_at1 bx tr su ib wn j9) kk))), (4, .int (nI kk))]) hx hb d_Md_shadows_117 hl (by decide) rfl (fun ls hl => ?_)
                      refine lv_iload hx hb d_Md_shadows_119 (lv_at hl 0 rfl) ?_
                      refine lv_if_eq (tgt := 130) hx hb d_Md_shadows_121 (by decide) (fun c_70 => ?_) (fun c_70 => ?_)
                      · refine lv_iload_n hx hb d_Md_shadows_130 rfl (lv_at hl 6 rfl) ?_
                        refine lv_topE (show nI (cN (jm_at1 bx tr su ib wn j9) kk) = nI (cN (jm_at1 bx tr su ib wn j9) (kk + 1)) from cu_F (P := jm_at1 bx tr su ib wn j9) (fun q9 => q9.2 c_69)) ?_
                        refine lv_istore_n (lv' := [(3, .int (nI (cN (jm_at1 bx tr su ib wn j9) (kk + 1)))), (7, .int 0), (6, .int (nI (kk / wn))), (5, .int (nI (kk % wn))), (0, .ref mo), (1, .int (nI ib)), (2, .int (nI j9)), (4, .int (nI kk))]) hx hb d_Md_shadows_131 rfl hl (by decide) rfl (fun ls hl => ?_)
                        refine lv_iinc (v := nI (kk + 1)) (lv' := [(4, .int (nI (kk + 1))), (3, .int (nI (cN (jm_at1 bx tr su ib wn j9) (kk + 1)))), (7, .int 0), (6, .int (nI (kk / wn))), (5, .int (nI (kk % wn))), (0, .ref mo), (1, .int (nI ib)), (2, .int (nI j9))]) hx hb d_Md_shadows_132 hl (k := 7) rfl (nI_1 _) (by decide) rfl (fun ls hl => ?_)
                        refine lv_goto (tgt := 32) hx hb d_Md_shadows_135 (by decide) ?_
                        simp only [eG_62, eG_52, gs_uu] at hG
                        exact IHlps (kk + 1) n_58 n_59 n_60 n_61 (by omega) (by omega)  _ _ hG hS ls (lv_sub hl [5, 6, 7, 1, 0] rfl)
                      · exact absurd c_54 c_70
                    · refine lv_iconst (v := 1) hx hb d_Md_shadows_112 (by decide) ?_
                      refine lv_goto (tgt := 117) hx hb d_Md_shadows_113 (by decide) ?_
                      refine lv_istore (lv' := [(7, .int 1), (6, .int (nI (kk / wn))), (5, .int (nI (kk % wn))), (0, .ref mo), (1, .int (nI ib)), (2, .int (nI j9)), (3, .int (nI (cN (jm_at1 bx tr su ib wn j9) kk))), (4, .int (nI kk))]) hx hb d_Md_shadows_117 hl (by decide) rfl (fun ls hl => ?_)
                      refine lv_iload hx hb d_Md_shadows_119 (lv_at hl 0 rfl) ?_
                      refine lv_if_eq (tgt := 130) hx hb d_Md_shadows_121 (by decide) (fun c_71 => ?_) (fun c_71 => ?_)
                      · exact absurd c_71 (by decide)
                      · refine lv_iload_n hx hb d_Md_shadows_124 rfl (lv_at hl 6 rfl) ?_
                        refine lv_iconst (v := 1) hx hb d_Md_shadows_125 (by decide) ?_
                        refine lv_iadd hx hb d_Md_shadows_126 ?_
                        refine lv_topE (show (nI (cN (jm_at1 bx tr su ib wn j9) kk)) + 1 = nI (cN (jm_at1 bx tr su ib wn j9) kk + 1) from nI_add (cN (jm_at1 bx tr su ib wn j9) kk) 1) ?_
                        refine lv_goto (tgt := 131) hx hb d_Md_shadows_127 (by decide) ?_
                        refine lv_topE (show nI (cN (jm_at1 bx tr su ib wn j9) kk + 1) = nI (cN (jm_at1 bx tr su ib wn j9) (kk + 1)) from cu_T (P := jm_at1 bx tr su ib wn j9) ⟨c_56, c_69⟩) ?_
                        refine lv_istore_n (lv' := [(3, .int (nI (cN (jm_at1 bx tr su ib wn j9) (kk + 1)))), (7, .int 1), (6, .int (nI (kk / wn))), (5, .int (nI (kk % wn))), (0, .ref mo), (1, .int (nI ib)), (2, .int (nI j9)), (4, .int (nI kk))]) hx hb d_Md_shadows_131 rfl hl (by decide) rfl (fun ls hl => ?_)
                        refine lv_iinc (v := nI (kk + 1)) (lv' := [(4, .int (nI (kk + 1))), (3, .int (nI (cN (jm_at1 bx tr su ib wn j9) (kk + 1)))), (7, .int 1), (6, .int (nI (kk / wn))), (5, .int (nI (kk % wn))), (0, .ref mo), (1, .int (nI ib)), (2, .int (nI j9))]) hx hb d_Md_shadows_132 hl (k := 7) rfl (nI_1 _) (by decide) rfl (fun ls hl => ?_)
                        refine lv_goto (tgt := 32) hx hb d_Md_shadows_135 (by decide) ?_
                        simp only [eG_62, eG_52, gs_uu] at hG
                        exact IHlps (kk + 1) n_58 n_59 n_60 n_61 (by omega) (by omega)  _ _ hG hS ls (lv_sub hl [5, 6, 7, 1, 0] rfl)
                · exact absurd (hbi.trans c_55) c_1
        exact lps (wn * hn + 1) 0 l1 l2 l3 l4 (by omega) (by omega)  _ _ hG hS ls (lv_sub hl [2, 3, 4, 1, 0] rfl)
      · skip
        refine W.eq (g2 := F0 m 24 ls [.int c9, .ref mo]) rfl ?_
        refine gs_put E hK.1 hG hS hM.1 (C := R_Md) (T := F_Md) (N := 14) rfl i_Md t_Md t_Md_ok n_Md 0 (by decide) w_463 rfl (v := .int c9) rfl rfl (Nat.le_of_ble_eq_true rfl) d_Md_shadows_24 (fun H locs hG hS => ?_)
        obtain ⟨G_72, eG_72⟩ : ∃ z, z = gs_u G mo (.inr (4, [.int c9, .int (nI wn), .int (nI hn), .int (nI nb), .ref cB, .ref cT, .ref cS, .ref cL, .int (nI nw), .ref cW, .long l1, .long l2, .long l3, .long l4])) := ⟨_, rfl⟩
        have hG : gs_W D classes zb G_72 H := by rw [eG_72]; exact hG
        have hc_73 : G_72 cB = some (aInt (k 0) 66 bx) := by rw [eG_72]; exact gs_keep hM.2.1 hM.1 (by simp)
        have hc_74 : G_72 cT = some (aInt (k 2) 11 tr) := by rw [eG_72]; exact gs_keep hM.2.2.1 hM.1 (by simp)
        have hc_75 : G_72 cS = some (aInt (k 0) 72 su) := by rw [eG_72]; exact gs_keep hM.2.2.2.1 hM.1 (by simp)
        have hc_76 : G_72 cL = some (aInt (k 0) 24 li) := by rw [eG_72]; exact gs_keep hM.2.2.2.2.1 hM.1 (by simp)
        have hc_77 : G_72 cW = some (aInt (k 0) 40 wi) := by rw [eG_72]; exact gs_keep hM.2.2.2.2.2 hM.1 (by simp)
        have hc_78 : G_72 mo = some (.inr (4, [.int c9, .int (nI wn), .int (nI hn), .int (nI nb), .ref cB, .ref cT, .ref cS, .ref cL, .int (nI nw), .ref cW, .long l1, .long l2, .long l3, .long l4])) := by rw [eG_72]; exact gs_us _ _ _
        refine lv_iconst (v := 0) hx hb d_Md_shadows_27 (by decide) ?_
        refine lv_istore_n (lv' := [(3, .int 0), (0, .ref mo), (1, .int (nI ib)), (2, .int t)]) hx hb d_Md_shadows_28 rfl hl (by decide) rfl (fun ls hl => ?_)
        refine lv_iconst (v := 0) hx hb d_Md_shadows_29 (by decide) ?_
        refine lv_istore (lv' := [(4, .int 0), (3, .int 0), (0, .ref mo), (1, .int (nI ib)), (2, .int t)]) hx hb d_Md_shadows_30 hl (by decide) rfl (fun ls hl => ?_)
        refine lv_iload hx hb d_Md_shadows_32 (lv_at hl 0 rfl) ?_
        refine lv_aload_n hx hb d_Md_shadows_34 rfl (lv_at hl 2 rfl) ?_
        refine gs_get E hK.1 hG hc_78 (C := R_Md) (T := F_Md) (N := 14) rfl i_Md 1 (by decide) w_464 (v := .int (nI wn)) rfl d_Md_shadows_35 ?_
        refine lv_aload_n hx hb d_Md_shadows_38 rfl (lv_at hl 2 rfl) ?_
        refine gs_get E hK.1 hG hc_78 (C := R_Md) (T := F_Md) (N := 14) rfl i_Md 2 (by decide) w_465 (v := .int (nI hn)) rfl d_Md_shadows_39 ?_
        refine lv_imul hx hb d_Md_shadows_42 ?_
        refine lv_topE (show (nI wn) * (nI hn) = nI (wn * hn) from pk_mul wn hn) ?_
        refine lv_icmp_ge (tgt := 138) hx hb d_Md_shadows_43 (by decide) (fun c_79 => ?_) (fun c_79 => ?_)
        · refine lv_iload_n hx hb d_Md_shadows_138 rfl (lv_at hl 1 rfl) ?_
          refine W.iret (v := 0) hx hb hr (gs_end ⟨c9, _, j9, l1, l2, l3, l4, hck, rfl, fun q => absurd q hc0, ?_⟩ hG hS) hS.2.2 d_Md_shadows_139
          simp only [eG_72, gs_uu]
        · refine lv_aload_n hx hb d_Md_shadows_46 rfl (lv_at hl 2 rfl) ?_
          refine gs_get E hK.1 hG hc_78 (C := R_Md) (T := F_Md) (N := 14) rfl i_Md 0 (by decide) w_463 (v := .int c9) rfl d_Md_shadows_47 ?_
          refine lv_if_ne (tgt := 138) hx hb d_Md_shadows_50 (by decide) (fun c_80 => ?_) (fun c_80 => ?_)
          · refine lv_iload_n hx hb d_Md_shadows_138 rfl (lv_at hl 1 rfl) ?_
            refine W.iret (v := 0) hx hb hr (gs_end ⟨c9, _, j9, l1, l2, l3, l4, hck, rfl, fun q => absurd q hc0, ?_⟩ hG hS) hS.2.2 d_Md_shadows_139
            simp only [eG_72, gs_uu]
          · exact absurd c_80 hc0
set_option maxHeartbeats 4000000 in
set_option maxRecDepth 100000 in
theorem k_Md_cell (l : Launch) (D : va_G) (k : Nat → ClassId) (zb : Nat) (G : Nat → Option va_E) (mo cB cT cS cL cW : Nat) (th : Int32) (wn hn nb nw : Nat) (bx tr su li wi : Nat → Int32) (l1 l2 l3 l4 : Int64) (a t : Int32) (hM : sM k G mo cB cT cS cL cW th wn hn nb nw bx tr su li wi l1 l2 l3 l4) (hnb : nb ≤ 10) (hnw : nw ≤ 10) (hwn : 1 ≤ wn ∧ wn ≤ 60) (hhn : 1 ≤ hn ∧ hn ≤ 60) : Met l y_Md_cell (wM y_Md_cell c_Md_cell 5 (some .int)) ({ frames := 4, cells := 0, slots := 0, locals := 110 }) (gs_P D k zb G [.ref mo, .int a, .int t]) (gs_Q D zb (fun v G1 => ∃ (c9 r : Int32) (j : Nat) (m1 m2 m3 m4 : Int64), jm_Ck (¬ a < 0) t su c9 j ∧ v = some (.int r) ∧ (c9 = 0 → jm_cell (jm_at bx tr su nb wn j) wn (wn * hn) a r) ∧ G1 = gs_u G mo (oMd c9 wn hn nb nw cB cT cS cL cW m1 m2 m3 m4))) 0 0 (fun q : Nat => zb ≤ q) := by
  refine Met.ofW (cc := c_Md_cell) (maxL := 5) (ret := (some .int)) (by decide) rfl ?_
  intro p e s m args below meth c s₁ B hml hv
  obtain ⟨rfl, hG, hK, hX⟩ := hv
  have hx := B.exec
  have hb := B.bytes
  have hr := B.returns
  have hts := atoms_spec (ws := wM y_Md_cell c_Md_cell 5 (some .int)) B.pre
  have hw : ∀ w9 ∈ wW, w9.before ([.ref mo, .int a, .int t] : List Value).toArray s = true := fun w9 h9 => hts w9 (gi_in w9 h9)
  have hown : s.vm.findClass R_Md = some m.cls := findClass_of_methodNamed B.named
  have hlocks := B.notSynchronized
  have E : gs_E p s m ([.ref mo, .int a, .int t] : List Value).toArray c c_Md_cell wW R_Md := ⟨hx, hb, hw, hown⟩
  have hS : gs_S zb s.heap s.heap [] := va_S.rf
  have hl := lv_entry ([.ref mo, .int a, .int t]) (n := 5) (Nat.le_of_ble_eq_true rfl)
  rw [lg_entry_eq]
  generalize (lg_sl ([.ref mo, .int a, .int t]) ++ List.replicate (5 - (lg_sl ([.ref mo, .int a, .int t])).length) Slot.unset).toArray = ls at hl ⊢
  have hl : lv_has ls 5 [(0, .ref mo), (1, .int a), (2, .int t)] := hl
  have hmul : wn * hn ≤ 60 * 60 := Nat.mul_le_mul hwn.2 hhn.2
  refine lv_aload_n hx hb d_Md_cell_0 rfl (lv_at hl 0 rfl) ?_
  refine lv_aload_n hx hb d_Md_cell_1 rfl (lv_at hl 0 rfl) ?_
  refine lv_iload_n hx hb d_Md_cell_2 rfl (lv_at hl 1 rfl) ?_
  refine lv_if_lt (tgt := 10) hx hb d_Md_cell_3 (by decide) (fun c_1 => ?_) (fun c_1 => ?_)
  · refine lv_iconst (v := 0) hx hb d_Md_cell_10 (by decide) ?_
    refine lv_iload_n hx hb d_Md_cell_11 rfl (lv_at hl 2 rfl) ?_
    refine gs_V (As := [.int 0, .int t]) (rest := [.ref mo]) (k_Md_check l D k zb G mo cB cT cS cL cW th wn hn nb nw bx tr su li wi l1 l2 l3 l4 0 t ⟨hM.1, hM.2.1, hM.2.2.1, hM.2.2.2.1, hM.2.2.2.2.1, hM.2.2.2.2.2⟩) E hml hl.1 (cg_V (C := R_Md) hw w_559 w_556 w_4 w_558 sel_Md_check hd_Md_check ⟨by exact Nat.le_of_ble_eq_true rfl, by exact Nat.le_of_ble_eq_true rfl⟩) hG hK hX hS hM.1 rfl rfl rfl rfl (by exact Nat.le_of_ble_eq_true rfl) d_Md_cell_12 ⟨by exact Nat.le_of_ble_eq_true rfl, by exact Nat.le_of_ble_eq_true rfl⟩ (fun v G1 H locs hp hG hS => ?_)
    obtain ⟨⟨c9, j9, hck, hv1⟩, hG1⟩ := hp
    subst hv1
    rw [hG1] at hG
    have hPP : ¬ (¬ a < 0) := fun q9 => q9 c_1
    have hck := Ck_congr (Q := ¬ a < 0) (iff_of_false (fun q => q rfl) hPP) hck
    by_cases hc0 : c9 = 0
    · exact absurd (Ck_0 hck hc0).1 hPP
    · skip
      refine W.eq (g2 := F0 m 15 ls [.int c9, .ref mo]) rfl ?_
      refine gs_put E hK.1 hG hS hM.1 (C := R_Md) (T := F_Md) (N := 14) rfl i_Md t_Md t_Md_ok n_Md 0 (by decide) w_463 rfl (v := .int c9) rfl rfl (Nat.le_of_ble_eq_true rfl) d_Md_cell_15 (fun H locs hG hS => ?_)
      obtain ⟨G_2, eG_2⟩ : ∃ z, z = gs_u G mo (.inr (4, [.int c9, .int (nI wn), .int (nI hn), .int (nI nb), .ref cB, .ref cT, .ref cS, .ref cL, .int (nI nw), .ref cW, .long l1, .long l2, .long l3, .long l4])) := ⟨_, rfl⟩
      have hG : gs_W D classes zb G_2 H := by rw [eG_2]; exact hG
      have hc_3 : G_2 cB = some (aInt (k 0) 66 bx) := by rw [eG_2]; exact gs_keep hM.2.1 hM.1 (by simp)
      have hc_4 : G_2 cT = some (aInt (k 2) 11 tr) := by rw [eG_2]; exact gs_keep hM.2.2.1 hM.1 (by simp)
      have hc_5 : G_2 cS = some (aInt (k 0) 72 su) := by rw [eG_2]; exact gs_keep hM.2.2.2.1 hM.1 (by simp)
      have hc_6 : G_2 cL = some (aInt (k 0) 24 li) := by rw [eG_2]; exact gs_keep hM.2.2.2.2.1 hM.1 (by simp)
      have hc_7 : G_2 cW = some (aInt (k 0) 40 wi) := by rw [eG_2]; exact gs_keep hM.2.2.2.2.2 hM.1 (by simp)
      have hc_8 : G_2 mo = some (.inr (4, [.int c9, .int (nI wn), .int (nI hn), .int (nI nb), .ref cB, .ref cT, .ref cS, .ref cL, .int (nI nw), .ref cW, .long l1, .long l2, .long l3, .long l4])) := by rw [eG_2]; exact gs_us _ _ _
      refine lv_iconst (v := 0) hx hb d_Md_cell_18 (by decide) ?_
      refine lv_istore_n (lv' := [(3, .int 0), (0, .ref mo), (1, .int a), (2, .int t)]) hx hb d_Md_cell_19 rfl hl (by decide) rfl (fun ls hl => ?_)
      refine lv_iconst (v := 0) hx hb d_Md_cell_20 (by decide) ?_
      refine lv_istore (lv' := [(4, .int 0), (3, .int 0), (0, .ref mo), (1, .int a), (2, .int t)]) hx hb d_Md_cell_21 hl (by decide) rfl (fun ls hl => ?_)
      refine lv_iload hx hb d_Md_cell_23 (lv_at hl 0 rfl) ?_
      refine lv_aload_n hx hb d_Md_cell_25 rfl (lv_at hl 2 rfl) ?_
      refine gs_get E hK.1 hG hc_8 (C := R_Md) (T := F_Md) (N := 14) rfl i_Md 1 (by decide) w_464 (v := .int (nI wn)) rfl d_Md_cell_26 ?_
      refine lv_aload_n hx hb d_Md_cell_29 rfl (lv_at hl 2 rfl) ?_
      refine gs_get E hK.1 hG hc_8 (C := R_Md) (T := F_Md) (N := 14) rfl i_Md 2 (by decide) w_465 (v := .int (nI hn)) rfl d_Md_cell_30 ?_
      refine lv_imul hx hb d_Md_cell_33 ?_
      refine lv_topE (show (nI wn) * (nI hn) = nI (wn * hn) from pk_mul wn hn) ?_
      refine lv_icmp_ge (tgt := 101) hx hb d_Md_cell_34 (by decide) (fun c_9 => ?_) (fun c_9 => ?_)
      · refine lv_aload_n hx hb d_Md_cell_101 rfl (lv_at hl 2 rfl) ?_
        refine gs_get E hK.1 hG hc_8 (C := R_Md) (T := F_Md) (N := 14) rfl i_Md 0 (by decide) w_463 (v := .int c9) rfl d_Md_cell_102 ?_
        refine lv_if_le (tgt := 112) hx hb d_Md_cell_105 (by decide) (fun c_10 => ?_) (fun c_10 => ?_)
        · exact absurd (Ck_le hck c_10) hc0
        · refine lv_iconst (v := 0) hx hb d_Md_cell_108 (by decide) ?_
          refine lv_goto (tgt := 113) hx hb d_Md_cell_109 (by decide) ?_
          refine W.iret (v := 0) hx hb hr (gs_end ⟨c9, _, j9, l1, l2, l3, l4, hck, rfl, fun q => absurd q hc0, ?_⟩ hG hS) hS.2.2 d_Md_cell_113
          simp only [eG_2, gs_uu]
      · refine lv_aload_n hx hb d_Md_cell_37 rfl (lv_at hl 2 rfl) ?_
        refine gs_get E hK.1 hG hc_8 (C := R_Md) (T := F_Md) (N := 14) rfl i_Md 0 (by decide) w_463 (v := .int c9) rfl d_Md_cell_38 ?_
        refine lv_if_ne (tgt := 101) hx hb d_Md_cell_41 (by decide) (fun c_11 => ?_) (fun c_11 => ?_)
        · refine lv_aload_n hx hb d_Md_cell_101 rfl (lv_at hl 2 rfl) ?_
          refine gs_get E hK.1 hG hc_8 (C := R_Md) (T := F_Md) (N := 14) rfl i_Md 0 (by decide) w_463 (v := .int c9) rfl d_Md_cell_102 ?_
          refine lv_if_le (tgt := 112) hx hb d_Md_cell_105 (by decide) (fun c_12 => ?_) (fun c_12 => ?_)
          · exact absurd (Ck_le hck c_12) hc0
          · refine lv_iconst (v := 0) hx hb d_Md_cell_108 (by decide) ?_
            refine lv_goto (tgt := 113) hx hb d_Md_cell_109 (by decide) ?_
            refine W.iret (v := 0) hx hb hr (gs_end ⟨c9, _, j9, l1, l2, l3, l4, hck, rfl, fun q => absurd q hc0, ?_⟩ hG hS) hS.2.2 d_Md_cell_113
            simp only [eG_2, gs_uu]
        · exact absurd c_11 hc0
  · refine lv_iconst (v := 1) hx hb d_Md_cell_6 (by decide) ?_
    refine lv_goto (tgt := 11) hx hb d_Md_cell_7 (by decide) ?_
    refine lv_iload_n hx hb d_Md_cell_11 rfl (lv_at hl 2 rfl) ?_
    refine gs_V (As := [.int 1, .int t]) (rest := [.ref mo]) (k_Md_check l D k zb G mo cB cT cS cL cW th wn hn nb nw bx tr su li wi l1 l2 l3 l4 1 t ⟨hM.1, hM.2.1, hM.2.2.1, hM.2.2.2.1, hM.2.2.2.2.1, hM.2.2.2.2.2⟩) E hml hl.1 (cg_V (C := R_Md) hw w_559 w_556 w_4 w_558 sel_Md_check hd_Md_check ⟨by exact Nat.le_of_ble_eq_true rfl, by exact Nat.le_of_ble_eq_true rfl⟩) hG hK hX hS hM.1 rfl rfl rfl rfl (by exact Nat.le_of_ble_eq_true rfl) d_Md_cell_12 ⟨by exact Nat.le_of_ble_eq_true rfl, by exact Nat.le_of_ble_eq_true rfl⟩ (fun v G1 H locs hp hG hS => ?_)
    obtain ⟨⟨c9, j9, hck, hv1⟩, hG1⟩ := hp
    subst hv1
    rw [hG1] at hG
    have hPP : ¬ a < 0 := c_1
    have hck := Ck_congr (Q := ¬ a < 0) (iff_of_true (by decide) hPP) hck
    by_cases hc0 : c9 = 0
    · subst hc0
      obtain ⟨-, hj9, htj, hsun⟩ := Ck_0 hck rfl
      rw [htj] at hl
      refine W.eq (g2 := F0 m 15 ls [.int 0, .ref mo]) rfl ?_
      refine gs_put E hK.1 hG hS hM.1 (C := R_Md) (T := F_Md) (N := 14) rfl i_Md t_Md t_Md_ok n_Md 0 (by decide) w_463 rfl (v := .int 0) rfl rfl (Nat.le_of_ble_eq_true rfl) d_Md_cell_15 (fun H locs hG hS => ?_)
      obtain ⟨G_13, eG_13⟩ : ∃ z, z = gs_u G mo (.inr (4, [.int 0, .int (nI wn), .int (nI hn), .int (nI nb), .ref cB, .ref cT, .ref cS, .ref cL, .int (nI nw), .ref cW, .long l1, .long l2, .long l3, .long l4])) := ⟨_, rfl⟩
      have hG : gs_W D classes zb G_13 H := by rw [eG_13]; exact hG
      have hc_14 : G_13 cB = some (aInt (k 0) 66 bx) := by rw [eG_13]; exact gs_keep hM.2.1 hM.1 (by simp)
      have hc_15 : G_13 cT = some (aInt (k 2) 11 tr) := by rw [eG_13]; exact gs_keep hM.2.2.1 hM.1 (by simp)
      have hc_16 : G_13 cS = some (aInt (k 0) 72 su) := by rw [eG_13]; exact gs_keep hM.2.2.2.1 hM.1 (by simp)
      have hc_17 : G_13 cL = some (aInt (k 0) 24 li) := by rw [eG_13]; exact gs_keep hM.2.2.2.2.1 hM.1 (by simp)
      have hc_18 : G_13 cW = some (aInt (k 0) 40 wi) := by rw [eG_13]; exact gs_keep hM.2.2.2.2.2 hM.1 (by simp)
      have hc_19 : G_13 mo = some (.inr (4, [.int 0, .int (nI wn), .int (nI hn), .int (nI nb), .ref cB, .ref cT, .ref cS, .ref cL, .int (nI nw), .ref cW, .long l1, .long l2, .long l3, .long l4])) := by rw [eG_13]; exact gs_us _ _ _
      refine lv_iconst (v := 0) hx hb d_Md_cell_18 (by decide) ?_
      refine lv_istore_n (lv' := [(3, .int 0), (0, .ref mo), (1, .int a), (2, .int (nI j9))]) hx hb d_Md_cell_19 rfl hl (by decide) rfl (fun ls hl => ?_)
      refine lv_iconst (v := 0) hx hb d_Md_cell_20 (by decide) ?_
      refine lv_istore (lv' := [(4, .int 0), (3, .int 0), (0, .ref mo), (1, .int a), (2, .int (nI j9))]) hx hb d_Md_cell_21 hl (by decide) rfl (fun ls hl => ?_)
      simp only [eG_13, gs_uu] at hG
      have lpc : ∀ (fu : Nat) (kk : Nat) (m1 : Int64) (m2 : Int64) (m3 : Int64) (m4 : Int64), kk ≤ wn * hn → wn * hn + 1 ≤ kk + fu → (hno : ∀ i : Nat, i < kk → jm_at bx tr su nb wn j9 i → ¬ nI (cN (jm_at bx tr su nb wn j9) i) = a) → ∀ (H : Heap) (locs : List Loc), gs_W D classes zb (gs_u G mo (oMd 0 wn hn nb nw cB cT cS cL cW m1 m2 m3 m4)) H → gs_S zb s.heap H locs → ∀ (ls : Array Slot), lv_has ls 5 [(0, .ref mo), (1, .int a), (2, .int (nI j9)), (3, .int (nI (cN (jm_at bx tr su nb wn j9) kk))), (4, .int (nI kk))] → W p l e (headSpec (wM y_Md_cell c_Md_cell 5 (some .int)) ({ frames := 4, cells := 0, slots := 0, locals := 110 })).room s m ([.ref mo, .int a, .int t] : List Value).toArray below meth c H locs 0 0 (MQ below (gs_Q D zb (fun v G1 => ∃ (c9 r : Int32) (j : Nat) (m1 m2 m3 m4 : Int64), jm_Ck (¬ a < 0) t su c9 j ∧ v = some (.int r) ∧ (c9 = 0 → jm_cell (jm_at bx tr su nb wn j) wn (wn * hn) a r) ∧ G1 = gs_u G mo (oMd c9 wn hn nb nw cB cT cS cL cW m1 m2 m3 m4))) ([.ref mo, .int a, .int t] : List Value).toArray s 0 0 (fun q : Nat => zb ≤ q)) (F0 m 23 ls []) := by
        intro fu
        induction fu with
        | zero => intro kk m1 m2 m3 m4 hle hfu; exact absurd hfu (by omega)
        | succ fu IHlpc =>
          intro kk m1 m2 m3 m4 hle hfu hno H locs hG hS ls hl
          obtain ⟨G_20, eG_20⟩ : ∃ z, z = gs_u G mo (oMd 0 wn hn nb nw cB cT cS cL cW m1 m2 m3 m4) := ⟨_, rfl⟩
          rw [← eG_20] at hG
          have hM9 := sM_o hM 0 nb nw m1 m2 m3 m4
          rw [← eG_20] at hM9
          refine lv_iload hx hb d_Md_cell_23 (lv_at hl 4 rfl) ?_
          refine lv_aload_n hx hb d_Md_cell_25 rfl (lv_at hl 0 rfl) ?_
          refine gs_get E hK.1 hG hM9.1 (C := R_Md) (T := F_Md) (N := 14) rfl i_Md 1 (by decide) w_464 (v := .int (nI wn)) rfl d_Md_cell_26 ?_
          refine lv_aload_n hx hb d_Md_cell_29 rfl (lv_at hl 0 rfl) ?_
          refine gs_get E hK.1 hG hM9.1 (C := R_Md) (T := F_Md) (N := 14) rfl i_Md 2 (by decide) w_465 (v := .int (nI hn)) rfl d_Md_cell_30 ?_
          refine lv_imul hx hb d_Md_cell_33 ?_
          refine lv_topE (show (nI wn) * (nI hn) = nI (wn * hn) from pk_mul wn hn) ?_
          refine lv_icmp_ge (tgt := 101) hx hb d_Md_cell_34 (by decide) (fun c_21 => ?_) (fun c_21 => ?_)
          · have hend : kk = wn * hn := cl_eq (by omega) hle c_21
            refine lv_aload_n hx hb d_Md_cell_101 rfl (lv_at hl 0 rfl) ?_
            refine gs_get E hK.1 hG hM9.1 (C := R_Md) (T := F_Md) (N := 14) rfl i_Md 0 (by decide) w_463 (v := .int 0) rfl d_Md_cell_102 ?_
            refine lv_if_le (tgt := 112) hx hb d_Md_cell_105 (by decide) (fun c_22 => ?_) (fun c_22 => ?_)
            · refine lv_iconst (v := (-1)) hx hb d_Md_cell_112 (by decide) ?_
              refine W.iret (v := (-1)) hx hb hr (gs_end ⟨0, _, j9, m1, m2, m3, m4, hck, rfl, fun _ => Or.inr ⟨fun i hi => hno i (by omega), rfl⟩, ?_⟩ hG hS) hS.2.2 d_Md_cell_113
              simp only [eG_20, gs_uu]
            · exact absurd (by decide) c_22
          · have hlt : kk < wn * hn := cl_lt (by omega) hle c_21
            refine lv_aload_n hx hb d_Md_cell_37 rfl (lv_at hl 0 rfl) ?_
            refine gs_get E hK.1 hG hM9.1 (C := R_Md) (T := F_Md) (N := 14) rfl i_Md 0 (by decide) w_463 (v := .int 0) rfl d_Md_cell_38 ?_
            refine lv_if_ne (tgt := 101) hx hb d_Md_cell_41 (by decide) (fun c_23 => ?_) (fun c_23 => ?_)
            · exact absurd (by decide) c_23
            · refine lv_aload_n hx hb d_Md_cell_44 rfl (lv_at hl 0 rfl) ?_
              refine lv_iload hx hb d_Md_cell_45 (lv_at hl 4 rfl) ?_
              refine lv_aload_n hx hb d_Md_cell_47 rfl (lv_at hl 0 rfl) ?_
              refine gs_get E hK.1 hG hM9.1 (C := R_Md) (T := F_Md) (N := 14) rfl i_Md 1 (by decide) w_464 (v := .int (nI wn)) rfl d_Md_cell_48 ?_
              refine lv_irem hx hb d_Md_cell_51 (nI_n0 (by omega) (by omega)) ?_
              refine lv_topE (show nI kk - nI kk / nI wn * nI wn = nI (kk % wn) from pk_rem (by omega) (by omega) (by omega)) ?_
              refine lv_iload hx hb d_Md_cell_52 (lv_at hl 4 rfl) ?_
              refine lv_aload_n hx hb d_Md_cell_54 rfl (lv_at hl 0 rfl) ?_
              refine gs_get E hK.1 hG hM9.1 (C := R_Md) (T := F_Md) (N := 14) rfl i_Md 1 (by decide) w_464 (v := .int (nI wn)) rfl d_Md_cell_55 ?_
              refine lv_idiv hx hb d_Md_cell_58 (nI_n0 (by omega) (by omega)) ?_
              refine lv_topE (show nI kk / nI wn = nI (kk / wn) from pk_div (by omega) (by omega) (by omega)) ?_
              refine lv_iload_n hx hb d_Md_cell_59 rfl (lv_at hl 2 rfl) ?_
              refine lv_iconst (v := (-1)) hx hb d_Md_cell_60 (by decide) ?_
              refine lv_iconst (v := 0) hx hb d_Md_cell_61 (by decide) ?_
              refine gs_V (As := [.int (nI (kk % wn)), .int (nI (kk / wn)), .int (nI j9), .int (-1), .int 0]) (rest := []) (k_Md_isDark l D k zb G_20 mo cB cT cS cL cW 0 wn hn nb nw bx tr su li wi m1 m2 m3 m4 j9 (nI (kk % wn)) (nI (kk / wn)) (-1) 0 ⟨hM9.1, hM9.2.1, hM9.2.2.1, hM9.2.2.2.1, hM9.2.2.2.2.1, hM9.2.2.2.2.2⟩ hnb hj9) E hml hl.1 (cg_V (C := R_Md) hw w_563 w_560 w_4 w_562 sel_Md_isDark hd_Md_isDark ⟨by exact Nat.le_of_ble_eq_true rfl, by exact Nat.le_of_ble_eq_true rfl⟩) hG hK hX hS hM9.1 rfl rfl rfl rfl (by exact Nat.le_of_ble_eq_true rfl) d_Md_cell_62 ⟨by exact Nat.le_of_ble_eq_true rfl, by exact Nat.le_of_ble_eq_true rfl⟩ (fun v G1 H locs hp hG hS => ?_)
              obtain ⟨hv1, n_24, n_25, n_26, n_27, hG1⟩ := hp
              subst hv1
              rw [hG1] at hG
              obtain ⟨G_28, eG_28⟩ : ∃ z, z = gs_u G_20 mo (.inr (4, [.int 0, .int (nI wn), .int (nI hn), .int (nI nb), .ref cB, .ref cT, .ref cS, .ref cL, .int (nI nw), .ref cW, .long n_24, .long n_25, .long n_26, .long n_27])) := ⟨_, rfl⟩
              have hG : gs_W D classes zb G_28 H := by rw [eG_28]; exact hG
              have hc_29 : G_28 cB = some (aInt (k 0) 66 bx) := by rw [eG_28]; exact gs_keep hM9.2.1 hM9.1 (by simp)
              have hc_30 : G_28 cT = some (aInt (k 2) 11 tr) := by rw [eG_28]; exact gs_keep hM9.2.2.1 hM9.1 (by simp)
              have hc_31 : G_28 cS = some (aInt (k 0) 72 su) := by rw [eG_28]; exact gs_keep hM9.2.2.2.1 hM9.1 (by simp)
              have hc_32 : G_28 cL = some (aInt (k 0) 24 li) := by rw [eG_28]; exact gs_keep hM9.2.2.2.2.1 hM9.1 (by simp)
              have hc_33 : G_28 cW = some (aInt (k 0) 40 wi) := by rw [eG_28]; exact gs_keep hM9.2.2.2.2.2 hM9.1 (by simp)
              have hc_34 : G_28 mo = some (.inr (4, [.int 0, .int (nI wn), .int (nI hn), .int (nI nb), .ref cB, .ref cT, .ref cS, .ref cL, .int (nI nw), .ref cW, .long n_24, .long n_25, .long n_26, .long n_27])) := by rw [eG_28]; exact gs_us _ _ _
              refine W.eq (g2 := F0 m 65 ls [.int (pI (jm_D bx tr su nb (-1) 0 j9 (nI (kk % wn)) (nI (kk / wn))))]) rfl ?_
              refine lv_if_eq (tgt := 95) hx hb d_Md_cell_65 (by decide) (fun c_35 => ?_) (fun c_35 => ?_)
              · refine lv_iinc (v := nI (kk + 1)) (lv' := [(4, .int (nI (kk + 1))), (0, .ref mo), (1, .int a), (2, .int (nI j9)), (3, .int (nI (cN (jm_at bx tr su nb wn j9) kk)))]) hx hb d_Md_cell_95 hl (k := 4) rfl (nI_1 _) (by decide) rfl (fun ls hl => ?_)
                refine lv_goto (tgt := 23) hx hb d_Md_cell_98 (by decide) ?_
                simp only [eG_28, eG_20, gs_uu] at hG
                rw [cu_F (P := jm_at bx tr su nb wn j9) (pI_0.mp c_35)] at hl
                exact IHlpc (kk + 1) n_24 n_25 n_26 n_27 (by omega) (by omega) (fun i hi hp => (Nat.lt_or_ge i kk).elim (fun z => hno i z hp) (fun z => absurd (show jm_at bx tr su nb wn j9 kk from (show i = kk by omega) ▸ hp) (pI_0.mp c_35))) _ _ hG hS ls (lv_sub hl [1, 2, 3, 4, 0] rfl)
              · refine lv_iload_n hx hb d_Md_cell_68 rfl (lv_at hl 3 rfl) ?_
                refine lv_iload_n hx hb d_Md_cell_69 rfl (lv_at hl 1 rfl) ?_
                refine lv_icmp_ne (tgt := 92) hx hb d_Md_cell_70 (by decide) (fun c_36 => ?_) (fun c_36 => ?_)
                · refine lv_iinc (v := nI (cN (jm_at bx tr su nb wn j9) (kk + 1))) (lv' := [(3, .int (nI (cN (jm_at bx tr su nb wn j9) (kk + 1)))), (0, .ref mo), (1, .int a), (2, .int (nI j9)), (4, .int (nI kk))]) hx hb d_Md_cell_92 hl (k := 3) rfl (cu_I (P := jm_at bx tr su nb wn j9) (pI_ne c_35)) (by decide) rfl (fun ls hl => ?_)
                  refine lv_iinc (v := nI (kk + 1)) (lv' := [(4, .int (nI (kk + 1))), (3, .int (nI (cN (jm_at bx tr su nb wn j9) (kk + 1)))), (0, .ref mo), (1, .int a), (2, .int (nI j9))]) hx hb d_Md_cell_95 hl (k := 4) rfl (nI_1 _) (by decide) rfl (fun ls hl => ?_)
                  refine lv_goto (tgt := 23) hx hb d_Md_cell_98 (by decide) ?_
                  simp only [eG_28, eG_20, gs_uu] at hG
                  exact IHlpc (kk + 1) n_24 n_25 n_26 n_27 (by omega) (by omega) (fun i hi hp => (Nat.lt_or_ge i kk).elim (fun z => hno i z hp) (fun z => by have h9 : i = kk := (by omega); subst h9; exact c_36)) _ _ hG hS ls (lv_sub hl [2, 3, 4, 1, 0] rfl)
                · refine lv_bipush (v := 100) hx hb d_Md_cell_73 (by decide) ?_
                  refine lv_iload hx hb d_Md_cell_75 (lv_at hl 4 rfl) ?_
                  refine lv_aload_n hx hb d_Md_cell_77 rfl (lv_at hl 0 rfl) ?_
                  refine gs_get E hK.1 hG hc_34 (C := R_Md) (T := F_Md) (N := 14) rfl i_Md 1 (by decide) w_464 (v := .int (nI wn)) rfl d_Md_cell_78 ?_
                  refine lv_idiv hx hb d_Md_cell_81 (nI_n0 (by omega) (by omega)) ?_
                  refine lv_topE (show nI kk / nI wn = nI (kk / wn) from pk_div (by omega) (by omega) (by omega)) ?_
                  refine lv_imul hx hb d_Md_cell_82 ?_
                  refine lv_topE (show 100 * (nI (kk / wn)) = nI (100 * (kk / wn)) from pk_mul 100 (kk / wn)) ?_
                  refine lv_iload hx hb d_Md_cell_83 (lv_at hl 4 rfl) ?_
                  refine lv_aload_n hx hb d_Md_cell_85 rfl (lv_at hl 0 rfl) ?_
                  refine gs_get E hK.1 hG hc_34 (C := R_Md) (T := F_Md) (N := 14) rfl i_Md 1 (by decide) w_464 (v := .int (nI wn)) rfl d_Md_cell_86 ?_
                  refine lv_irem hx hb d_Md_cell_89 (nI_n0 (by omega) (by omega)) ?_
                  refine lv_topE (show nI kk - nI kk / nI wn * nI wn = nI (kk % wn) from pk_rem (by omega) (by omega) (by omega)) ?_
                  refine lv_iadd hx hb d_Md_cell_90 ?_
                  refine W.iret (v := ((nI (100 * (kk / wn))) + (nI (kk % wn)))) hx hb hr (gs_end ⟨0, _, j9, n_24, n_25, n_26, n_27, hck, rfl, fun _ => Or.inl ⟨kk, hlt, pI_ne c_35, c_36, by rw [← pk_mul]; rfl⟩, ?_⟩ hG hS) hS.2.2 d_Md_cell_91
                  simp only [eG_28, eG_20, gs_uu]
      exact lpc (wn * hn + 1) 0 l1 l2 l3 l4 (by omega) (by omega) (fun i hi => absurd hi (Nat.not_lt_zero i)) _ _ hG hS ls (lv_sub hl [2, 3, 4, 1, 0] rfl)
    · skip
      refine W.eq (g2 := F0 m 15 ls [.int c9, .ref mo]) rfl ?_
      refine gs_put E hK.1 hG hS hM.1 (C := R_Md) (T := F_Md) (N := 14) rfl i_Md t_Md t_Md_ok n_Md 0 (by decide) w_463 rfl (v := .int c9) rfl rfl (Nat.le_of_ble_eq_true rfl) d_Md_cell_15 (fun H locs hG hS => ?_)
      obtain ⟨G_37, eG_37⟩ : ∃ z, z = gs_u G mo (.inr (4, [.int c9, .int (nI wn), .int (nI hn), .int (nI nb), .ref cB, .ref cT, .ref cS, .ref cL, .int (nI nw), .ref cW, .long l1, .long l2, .long l3, .long l4])) := ⟨_, rfl⟩
      have hG : gs_W D classes zb G_37 H := by rw [eG_37]; exact hG
      have hc_38 : G_37 cB = some (aInt (k 0) 66 bx) := by rw [eG_37]; exact gs_keep hM.2.1 hM.1 (by simp)
      have hc_39 : G_37 cT = some (aInt (k 2) 11 tr) := by rw [eG_37]; exact gs_keep hM.2.2.1 hM.1 (by simp)
      have hc_40 : G_37 cS = some (aInt (k 0) 72 su) := by rw [eG_37]; exact gs_keep hM.2.2.2.1 hM.1 (by simp)
      have hc_41 : G_37 cL = some (aInt (k 0) 24 li) := by rw [eG_37]; exact gs_keep hM.2.2.2.2.1 hM.1 (by simp)
      have hc_42 : G_37 cW = some (aInt (k 0) 40 wi) := by rw [eG_37]; exact gs_keep hM.2.2.2.2.2 hM.1 (by simp)
      have hc_43 : G_37 mo = some (.inr (4, [.int c9, .int (nI wn), .int (nI hn), .int (nI nb), .ref cB, .ref cT, .ref cS, .ref cL, .int (nI nw), .ref cW, .long l1, .long l2, .long l3, .long l4])) := by rw [eG_37]; exact gs_us _ _ _
      refine lv_iconst (v := 0) hx hb d_Md_cell_18 (by decide) ?_
      refine lv_istore_n (lv' := [(3, .int 0), (0, .ref mo), (1, .int a), (2, .int t)]) hx hb d_Md_cell_19 rfl hl (by decide) rfl (fun ls hl => ?_)
      refine lv_iconst (v := 0) hx hb d_Md_cell_20 (by decide) ?_
      refine lv_istore (lv' := [(4, .int 0), (3, .int 0), (0, .ref mo), (1, .int a), (2, .int t)]) hx hb d_Md_cell_21 hl (by decide) rfl (fun ls hl => ?_)
      refine lv_iload hx hb d_Md_cell_23 (lv_at hl 0 rfl) ?_
      refine lv_aload_n hx hb d_Md_cell_25 rfl (lv_at hl 2 rfl) ?_
      refine gs_get E hK.1 hG hc_43 (C := R_Md) (T := F_Md) (N := 14) rfl i_Md 1 (by decide) w_464 (v := .int (nI wn)) rfl d_Md_cell_26 ?_
      refine lv_aload_n hx hb d_Md_cell_29 rfl (lv_at hl 2 rfl) ?_
      refine gs_get E hK.1 hG hc_43 (C := R_Md) (T := F_Md) (N := 14) rfl i_Md 2 (by decide) w_465 (v := .int (nI hn)) rfl d_Md_cell_30 ?_
      refine lv_imul hx hb d_Md_cell_33 ?_
      refine lv_topE (show (nI wn) * (nI hn) = nI (wn * hn) from pk_mul wn hn) ?_
      refine lv_icmp_ge (tgt := 101) hx hb d_Md_cell_34 (by decide) (fun c_44 => ?_) (fun c_44 => ?_)
      · refine lv_aload_n hx hb d_Md_cell_101 rfl (lv_at hl 2 rfl) ?_
        refine gs_get E hK.1 hG hc_43 (C := R_Md) (T := F_Md) (N := 14) rfl i_Md 0 (by decide) w_463 (v := .int c9) rfl d_Md_cell_102 ?_
        refine lv_if_le (tgt := 112) hx hb d_Md_cell_105 (by decide) (fun c_45 => ?_) (fun c_45 => ?_)
        · exact absurd (Ck_le hck c_45) hc0
        · refine lv_iconst (v := 0) hx hb d_Md_cell_108 (by decide) ?_
          refine lv_goto (tgt := 113) hx hb d_Md_cell_109 (by decide) ?_
          refine W.iret (v := 0) hx hb hr (gs_end ⟨c9, _, j9, l1, l2, l3, l4, hck, rfl, fun q => absurd q hc0, ?_⟩ hG hS) hS.2.2 d_Md_cell_113
          simp only [eG_37, gs_uu]
      · refine lv_aload_n hx hb d_Md_cell_37 rfl (lv_at hl 2 rfl) ?_
        refine gs_get E hK.1 hG hc_43 (C := R_Md) (T := F_Md) (N := 14) rfl i_Md 0 (by decide) w_463 (v := .int c9) rfl d_Md_cell_38 ?_
        refine lv_if_ne (tgt := 101) hx hb d_Md_cell_41 (by decide) (fun c_46 => ?_) (fun c_46 => ?_)
        · refine lv_aload_n hx hb d_Md_cell_101 rfl (lv_at hl 2 rfl) ?_
          refine gs_get E hK.1 hG hc_43 (C := R_Md) (T := F_Md) (N := 14) rfl i_Md 0 (by decide) w_463 (v := .int c9) rfl d_Md_cell_102 ?_
          refine lv_if_le (tgt := 112) hx hb d_Md_cell_105 (by decide) (fun c_47 => ?_) (fun c_47 => ?_)
          · exact absurd (Ck_le hck c_47) hc0
          · refine lv_iconst (v := 0) hx hb d_Md_cell_108 (by decide) ?_
            refine lv_goto (tgt := 113) hx hb d_Md_cell_109 (by decide) ?_
            refine W.iret (v := 0) hx hb hr (gs_end ⟨c9, _, j9, l1, l2, l3, l4, hck, rfl, fun q => absurd q hc0, ?_⟩ hG hS) hS.2.2 d_Md_cell_113
            simp only [eG_37, gs_uu]
        · exact absurd c_46 hc0
