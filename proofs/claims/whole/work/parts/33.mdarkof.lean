/-! contracts, by program -/
set_option maxHeartbeats 4000000 in
set_option maxRecDepth 100000 in
theorem k_Md_isDark (l : Launch) (D : va_G) (k : Nat → ClassId) (zb : Nat) (G : Nat → Option va_E) (mo cB cT cS cL cW : Nat) (th : Int32) (wn hn nb nw : Nat) (bx tr su li wi : Nat → Int32) (l1 l2 l3 l4 : Int64) (t : Nat) (x y wo le : Int32) (hM : sM k G mo cB cT cS cL cW th wn hn nb nw bx tr su li wi l1 l2 l3 l4) (hnb : nb ≤ 10) (ht24 : t < 24) : Met l y_Md_isDark (wM y_Md_isDark c_Md_isDark 8 (some .boolean)) ({ frames := 3, cells := 0, slots := 0, locals := 83 }) (gs_P D k zb G [.ref mo, .int x, .int y, .int (nI t), .int wo, .int le]) (gs_Q D zb (fun v G1 => v = some (.int (pI (jm_D bx tr su nb wo le t x y))) ∧ ∃ m1 m2 m3 m4 : Int64, G1 = gs_u G mo (oMd th wn hn nb nw cB cT cS cL cW m1 m2 m3 m4))) 0 0 (fun q : Nat => zb ≤ q) := by
  refine Met.ofW (cc := c_Md_isDark) (maxL := 8) (ret := (some .boolean)) (by decide) rfl ?_
  intro p e s m args below meth c s₁ B hml hv
  obtain ⟨rfl, hG, hK, hX⟩ := hv
  have hx := B.exec
  have hb := B.bytes
  have hr := B.returns
  have hts := atoms_spec (ws := wM y_Md_isDark c_Md_isDark 8 (some .boolean)) B.pre
  have hw : ∀ w9 ∈ wW, w9.before ([.ref mo, .int x, .int y, .int (nI t), .int wo, .int le] : List Value).toArray s = true := fun w9 h9 => hts w9 (gi_in w9 h9)
  have hown : s.vm.findClass R_Md = some m.cls := findClass_of_methodNamed B.named
  have hlocks := B.notSynchronized
  have E : gs_E p s m ([.ref mo, .int x, .int y, .int (nI t), .int wo, .int le] : List Value).toArray c c_Md_isDark wW R_Md := ⟨hx, hb, hw, hown⟩
  have hS : gs_S zb s.heap s.heap [] := va_S.rf
  have hl := lv_entry ([.ref mo, .int x, .int y, .int (nI t), .int wo, .int le]) (n := 8) (Nat.le_of_ble_eq_true rfl)
  rw [lg_entry_eq]
  generalize (lg_sl ([.ref mo, .int x, .int y, .int (nI t), .int wo, .int le]) ++ List.replicate (8 - (lg_sl ([.ref mo, .int x, .int y, .int (nI t), .int wo, .int le])).length) Slot.unset).toArray = ls at hl ⊢
  have hl : lv_has ls 8 [(0, .ref mo), (1, .int x), (2, .int y), (3, .int (nI t)), (4, .int wo), (5, .int le)] := hl
  refine lv_iload hx hb d_Md_isDark_0 (lv_at hl 5 rfl) ?_
  refine lv_if_eq (tgt := 21) hx hb d_Md_isDark_2 (by decide) (fun c_1 => ?_) (fun c_1 => ?_)
  · refine lv_iconst (v := 0) hx hb d_Md_isDark_21 (by decide) ?_
    refine lv_istore (lv' := [(6, .int 0), (0, .ref mo), (1, .int x), (2, .int y), (3, .int (nI t)), (4, .int wo), (5, .int le)]) hx hb d_Md_isDark_22 hl (by decide) rfl (fun ls hl => ?_)
    refine lv_iconst (v := 0) hx hb d_Md_isDark_24 (by decide) ?_
    refine lv_istore (lv' := [(7, .int 0), (6, .int 0), (0, .ref mo), (1, .int x), (2, .int y), (3, .int (nI t)), (4, .int wo), (5, .int le)]) hx hb d_Md_isDark_25 hl (by decide) rfl (fun ls hl => ?_)
    rw [← gs_id hM.1] at hG
    have lp : ∀ (fu : Nat) (b : Nat) (dk : Int32) (m1 : Int64) (m2 : Int64) (m3 : Int64) (m4 : Int64), b ≤ nb → nb + 1 ≤ b + fu → (hdk : dk = pI ((¬ le = 0 ∧ ¬ jm_b bx su 10 t x y = 0) ∨ jm_any bx tr su wo t x y b)) → ∀ (H : Heap) (locs : List Loc), gs_W D classes zb (gs_u G mo (oMd th wn hn nb nw cB cT cS cL cW m1 m2 m3 m4)) H → gs_S zb s.heap H locs → ∀ (ls : Array Slot), lv_has ls 8 [(0, .ref mo), (1, .int x), (2, .int y), (3, .int (nI t)), (4, .int wo), (5, .int le), (6, .int dk), (7, .int (nI b))] → W p l e (headSpec (wM y_Md_isDark c_Md_isDark 8 (some .boolean)) ({ frames := 3, cells := 0, slots := 0, locals := 83 })).room s m ([.ref mo, .int x, .int y, .int (nI t), .int wo, .int le] : List Value).toArray below meth c H locs 0 0 (MQ below (gs_Q D zb (fun v G1 => v = some (.int (pI (jm_D bx tr su nb wo le t x y))) ∧ ∃ m1 m2 m3 m4 : Int64, G1 = gs_u G mo (oMd th wn hn nb nw cB cT cS cL cW m1 m2 m3 m4))) ([.ref mo, .int x, .int y, .int (nI t), .int wo, .int le] : List Value).toArray s 0 0 (fun q : Nat => zb ≤ q)) (F0 m 27 ls []) := by
      intro fu
      induction fu with
      | zero => intro b dk m1 m2 m3 m4 hle hfu; exact absurd hfu (by omega)
      | succ fu IHlp =>
        intro b dk m1 m2 m3 m4 hle hfu hdk H locs hG hS ls hl
        obtain ⟨G_2, eG_2⟩ : ∃ z, z = gs_u G mo (oMd th wn hn nb nw cB cT cS cL cW m1 m2 m3 m4) := ⟨_, rfl⟩
        rw [← eG_2] at hG
        have hM9 := sM_o hM th nb nw m1 m2 m3 m4
        rw [← eG_2] at hM9
        refine lv_iload hx hb d_Md_isDark_27 (lv_at hl 7 rfl) ?_
        refine lv_aload_n hx hb d_Md_isDark_29 rfl (lv_at hl 0 rfl) ?_
        refine gs_get E hK.1 hG hM9.1 (C := R_Md) (T := F_Md) (N := 14) rfl i_Md 3 (by decide) w_466 (v := .int (nI nb)) rfl d_Md_isDark_30 ?_
        refine lv_icmp_ge (tgt := 83) hx hb d_Md_isDark_33 (by decide) (fun c_3 => ?_) (fun c_3 => ?_)
        · have hend : b = nb := cl_eq (by omega) hle c_3
          refine lv_iload hx hb d_Md_isDark_83 (lv_at hl 6 rfl) ?_
          simp only [eG_2, gs_uu] at hG
          have hdd : dk = 0 ∨ dk = 1 := by rw [hdk]; exact pI_01 _
          exact W.zret (v := dk) hx hb hr (nar01 hdd) (gs_end ⟨by rw [hdk, hend]; rfl, m1, m2, m3, m4, rfl⟩ hG hS) hS.2.2 d_Md_isDark_85
        · have hlt : b < nb := cl_lt (by omega) hle c_3
          refine lv_iload hx hb d_Md_isDark_36 (lv_at hl 6 rfl) ?_
          refine lv_if_ne (tgt := 83) hx hb d_Md_isDark_38 (by decide) (fun c_4 => ?_) (fun c_4 => ?_)
          · refine lv_iload hx hb d_Md_isDark_83 (lv_at hl 6 rfl) ?_
            simp only [eG_2, gs_uu] at hG
            have hdd : dk = 0 ∨ dk = 1 := by rw [hdk]; exact pI_01 _
            exact W.zret (v := dk) hx hb hr (nar01 hdd) (gs_end ⟨by rw [dk_end hdk hle c_4]; rfl, m1, m2, m3, m4, rfl⟩ hG hS) hS.2.2 d_Md_isDark_85
          · refine lv_aload_n hx hb d_Md_isDark_41 rfl (lv_at hl 0 rfl) ?_
            refine gs_get E hK.1 hG hM9.1 (C := R_Md) (T := F_Md) (N := 14) rfl i_Md 5 (by decide) w_468 (v := .ref cT) rfl d_Md_isDark_42 ?_
            refine lv_iload hx hb d_Md_isDark_45 (lv_at hl 7 rfl) ?_
            refine gn_zald E hK.1 hG hM9.2.2.1 2 rfl (j := b) (by omega) (by decide) d_Md_isDark_47 ?_
            refine lv_if_eq (tgt := 74) hx hb d_Md_isDark_48 (by decide) (fun c_5 => ?_) (fun c_5 => ?_)
            · refine lv_iconst (v := 0) hx hb d_Md_isDark_74 (by decide) ?_
              refine lv_istore (lv' := [(6, .int 0), (0, .ref mo), (1, .int x), (2, .int y), (3, .int (nI t)), (4, .int wo), (5, .int le), (7, .int (nI b))]) hx hb d_Md_isDark_75 hl (by decide) rfl (fun ls hl => ?_)
              refine lv_iinc (v := nI (b + 1)) (lv' := [(7, .int (nI (b + 1))), (6, .int 0), (0, .ref mo), (1, .int x), (2, .int y), (3, .int (nI t)), (4, .int wo), (5, .int le)]) hx hb d_Md_isDark_77 hl (k := 7) rfl (nI_1 _) (by decide) rfl (fun ls hl => ?_)
              refine lv_goto (tgt := 27) hx hb d_Md_isDark_80 (by decide) ?_
              simp only [eG_2, gs_uu] at hG
              exact IHlp (b + 1) 0 m1 m2 m3 m4 (by omega) (by omega) (dk_no hdk c_4 (fun q => q.1 c_5)) _ _ hG hS ls (lv_sub hl [2, 3, 4, 5, 6, 7, 1, 0] rfl)
            · refine lv_iload hx hb d_Md_isDark_51 (lv_at hl 7 rfl) ?_
              refine lv_iload hx hb d_Md_isDark_53 (lv_at hl 4 rfl) ?_
              refine lv_icmp_eq (tgt := 74) hx hb d_Md_isDark_55 (by decide) (fun c_6 => ?_) (fun c_6 => ?_)
              · refine lv_iconst (v := 0) hx hb d_Md_isDark_74 (by decide) ?_
                refine lv_istore (lv' := [(6, .int 0), (0, .ref mo), (1, .int x), (2, .int y), (3, .int (nI t)), (4, .int wo), (5, .int le), (7, .int (nI b))]) hx hb d_Md_isDark_75 hl (by decide) rfl (fun ls hl => ?_)
                refine lv_iinc (v := nI (b + 1)) (lv' := [(7, .int (nI (b + 1))), (6, .int 0), (0, .ref mo), (1, .int x), (2, .int y), (3, .int (nI t)), (4, .int wo), (5, .int le)]) hx hb d_Md_isDark_77 hl (k := 7) rfl (nI_1 _) (by decide) rfl (fun ls hl => ?_)
                refine lv_goto (tgt := 27) hx hb d_Md_isDark_80 (by decide) ?_
                simp only [eG_2, gs_uu] at hG
                exact IHlp (b + 1) 0 m1 m2 m3 m4 (by omega) (by omega) (dk_no hdk c_4 (fun q => q.2.1 c_6)) _ _ hG hS ls (lv_sub hl [2, 3, 4, 5, 6, 7, 1, 0] rfl)
              · refine lv_aload_n hx hb d_Md_isDark_58 rfl (lv_at hl 0 rfl) ?_
                refine lv_iload hx hb d_Md_isDark_59 (lv_at hl 7 rfl) ?_
                refine lv_iload_n hx hb d_Md_isDark_61 rfl (lv_at hl 1 rfl) ?_
                refine lv_iload_n hx hb d_Md_isDark_62 rfl (lv_at hl 2 rfl) ?_
                refine lv_iload_n hx hb d_Md_isDark_63 rfl (lv_at hl 3 rfl) ?_
                refine gs_V (As := [.int (nI b), .int x, .int y, .int (nI t)]) (rest := []) (k_Md_throwsOn l D k zb G_2 mo cB cT cS cL cW th wn hn nb nw bx tr su li wi m1 m2 m3 m4 b t x y ⟨hM9.1, hM9.2.1, hM9.2.2.1, hM9.2.2.2.1, hM9.2.2.2.2.1, hM9.2.2.2.2.2⟩ (by omega) ht24) E hml hl.1 (cg_V (C := R_Md) hw w_567 w_564 w_4 w_566 sel_Md_throwsOn hd_Md_throwsOn ⟨by exact Nat.le_of_ble_eq_true rfl, by exact Nat.le_of_ble_eq_true rfl⟩) hG hK hX hS hM9.1 rfl rfl rfl rfl (by exact Nat.le_of_ble_eq_true rfl) d_Md_isDark_64 ⟨by exact Nat.le_of_ble_eq_true rfl, by exact Nat.le_of_ble_eq_true rfl⟩ (fun v G1 H locs hp hG hS => ?_)
                obtain ⟨hv1, n_7, n_8, n_9, n_10, hG1⟩ := hp
                subst hv1
                rw [hG1] at hG
                obtain ⟨G_11, eG_11⟩ : ∃ z, z = gs_u G_2 mo (.inr (4, [.int th, .int (nI wn), .int (nI hn), .int (nI nb), .ref cB, .ref cT, .ref cS, .ref cL, .int (nI nw), .ref cW, .long n_7, .long n_8, .long n_9, .long n_10])) := ⟨_, rfl⟩
                have hG : gs_W D classes zb G_11 H := by rw [eG_11]; exact hG
                have hc_12 : G_11 cB = some (aInt (k 0) 66 bx) := by rw [eG_11]; exact gs_keep hM9.2.1 hM9.1 (by simp)
                have hc_13 : G_11 cT = some (aInt (k 2) 11 tr) := by rw [eG_11]; exact gs_keep hM9.2.2.1 hM9.1 (by simp)
                have hc_14 : G_11 cS = some (aInt (k 0) 72 su) := by rw [eG_11]; exact gs_keep hM9.2.2.2.1 hM9.1 (by simp)
                have hc_15 : G_11 cL = some (aInt (k 0) 24 li) := by rw [eG_11]; exact gs_keep hM9.2.2.2.2.1 hM9.1 (by simp)
                have hc_16 : G_11 cW = some (aInt (k 0) 40 wi) := by rw [eG_11]; exact gs_keep hM9.2.2.2.2.2 hM9.1 (by simp)
                have hc_17 : G_11 mo = some (.inr (4, [.int th, .int (nI wn), .int (nI hn), .int (nI nb), .ref cB, .ref cT, .ref cS, .ref cL, .int (nI nw), .ref cW, .long n_7, .long n_8, .long n_9, .long n_10])) := by rw [eG_11]; exact gs_us _ _ _
                refine W.eq (g2 := F0 m 67 ls [.int (jm_b bx su b t x y)]) rfl ?_
                refine lv_if_eq (tgt := 74) hx hb d_Md_isDark_67 (by decide) (fun c_18 => ?_) (fun c_18 => ?_)
                · refine lv_iconst (v := 0) hx hb d_Md_isDark_74 (by decide) ?_
                  refine lv_istore (lv' := [(6, .int 0), (0, .ref mo), (1, .int x), (2, .int y), (3, .int (nI t)), (4, .int wo), (5, .int le), (7, .int (nI b))]) hx hb d_Md_isDark_75 hl (by decide) rfl (fun ls hl => ?_)
                  refine lv_iinc (v := nI (b + 1)) (lv' := [(7, .int (nI (b + 1))), (6, .int 0), (0, .ref mo), (1, .int x), (2, .int y), (3, .int (nI t)), (4, .int wo), (5, .int le)]) hx hb d_Md_isDark_77 hl (k := 7) rfl (nI_1 _) (by decide) rfl (fun ls hl => ?_)
                  refine lv_goto (tgt := 27) hx hb d_Md_isDark_80 (by decide) ?_
                  simp only [eG_11, eG_2, gs_uu] at hG
                  exact IHlp (b + 1) 0 n_7 n_8 n_9 n_10 (by omega) (by omega) (dk_no hdk c_4 (fun q => q.2.2 c_18)) _ _ hG hS ls (lv_sub hl [2, 3, 4, 5, 6, 7, 1, 0] rfl)
                · refine lv_iconst (v := 1) hx hb d_Md_isDark_70 (by decide) ?_
                  refine lv_goto (tgt := 75) hx hb d_Md_isDark_71 (by decide) ?_
                  refine lv_istore (lv' := [(6, .int 1), (0, .ref mo), (1, .int x), (2, .int y), (3, .int (nI t)), (4, .int wo), (5, .int le), (7, .int (nI b))]) hx hb d_Md_isDark_75 hl (by decide) rfl (fun ls hl => ?_)
                  refine lv_iinc (v := nI (b + 1)) (lv' := [(7, .int (nI (b + 1))), (6, .int 1), (0, .ref mo), (1, .int x), (2, .int y), (3, .int (nI t)), (4, .int wo), (5, .int le)]) hx hb d_Md_isDark_77 hl (k := 7) rfl (nI_1 _) (by decide) rfl (fun ls hl => ?_)
                  refine lv_goto (tgt := 27) hx hb d_Md_isDark_80 (by decide) ?_
                  simp only [eG_11, eG_2, gs_uu] at hG
                  exact IHlp (b + 1) 1 n_7 n_8 n_9 n_10 (by omega) (by omega) (dk_yes ⟨c_5, c_6, c_18⟩) _ _ hG hS ls (lv_sub hl [2, 3, 4, 5, 6, 7, 1, 0] rfl)
    exact lp (nb + 1) 0 0 l1 l2 l3 l4 (by omega) (by omega) (dk_0 (fun q => q.1 c_1)) _ _ hG hS ls (lv_sub hl [2, 3, 4, 5, 6, 7, 1, 0] rfl)
  · refine lv_aload_n hx hb d_Md_isDark_5 rfl (lv_at hl 0 rfl) ?_
    refine lv_bipush (v := 10) hx hb d_Md_isDark_6 (by decide) ?_
    refine lv_iload_n hx hb d_Md_isDark_8 rfl (lv_at hl 1 rfl) ?_
    refine lv_iload_n hx hb d_Md_isDark_9 rfl (lv_at hl 2 rfl) ?_
    refine lv_iload_n hx hb d_Md_isDark_10 rfl (lv_at hl 3 rfl) ?_
    refine gs_V (As := [.int 10, .int x, .int y, .int (nI t)]) (rest := []) (k_Md_throwsOn l D k zb G mo cB cT cS cL cW th wn hn nb nw bx tr su li wi l1 l2 l3 l4 10 t x y ⟨hM.1, hM.2.1, hM.2.2.1, hM.2.2.2.1, hM.2.2.2.2.1, hM.2.2.2.2.2⟩ (by omega) ht24) E hml hl.1 (cg_V (C := R_Md) hw w_567 w_564 w_4 w_566 sel_Md_throwsOn hd_Md_throwsOn ⟨by exact Nat.le_of_ble_eq_true rfl, by exact Nat.le_of_ble_eq_true rfl⟩) hG hK hX hS hM.1 rfl rfl rfl rfl (by exact Nat.le_of_ble_eq_true rfl) d_Md_isDark_11 ⟨by exact Nat.le_of_ble_eq_true rfl, by exact Nat.le_of_ble_eq_true rfl⟩ (fun v G1 H locs hp hG hS => ?_)
    obtain ⟨hv1, n_19, n_20, n_21, n_22, hG1⟩ := hp
    subst hv1
    rw [hG1] at hG
    obtain ⟨G_23, eG_23⟩ : ∃ z, z = gs_u G mo (.inr (4, [.int th, .int (nI wn), .int (nI hn), .int (nI nb), .ref cB, .ref cT, .ref cS, .ref cL, .int (nI nw), .ref cW, .long n_19, .long n_20, .long n_21, .long n_22])) := ⟨_, rfl⟩
    have hG : gs_W D classes zb G_23 H := by rw [eG_23]; exact hG
    have hc_24 : G_23 cB = some (aInt (k 0) 66 bx) := by rw [eG_23]; exact gs_keep hM.2.1 hM.1 (by simp)
    have hc_25 : G_23 cT = some (aInt (k 2) 11 tr) := by rw [eG_23]; exact gs_keep hM.2.2.1 hM.1 (by simp)
    have hc_26 : G_23 cS = some (aInt (k 0) 72 su) := by rw [eG_23]; exact gs_keep hM.2.2.2.1 hM.1 (by simp)
    have hc_27 : G_23 cL = some (aInt (k 0) 24 li) := by rw [eG_23]; exact gs_keep hM.2.2.2.2.1 hM.1 (by simp)
    have hc_28 : G_23 cW = some (aInt (k 0) 40 wi) := by rw [eG_23]; exact gs_keep hM.2.2.2.2.2 hM.1 (by simp)
    have hc_29 : G_23 mo = some (.inr (4, [.int th, .int (nI wn), .int (nI hn), .int (nI nb), .ref cB, .ref cT, .ref cS, .ref cL, .int (nI nw), .ref cW, .long n_19, .long n_20, .long n_21, .long n_22])) := by rw [eG_23]; exact gs_us _ _ _
    refine W.eq (g2 := F0 m 14 ls [.int (jm_b bx su 10 t x y)]) rfl ?_
    refine lv_if_eq (tgt := 21) hx hb d_Md_isDark_14 (by decide) (fun c_30 => ?_) (fun c_30 => ?_)
    · refine lv_iconst (v := 0) hx hb d_Md_isDark_21 (by decide) ?_
      refine lv_istore (lv' := [(6, .int 0), (0, .ref mo), (1, .int x), (2, .int y), (3, .int (nI t)), (4, .int wo), (5, .int le)]) hx hb d_Md_isDark_22 hl (by decide) rfl (fun ls hl => ?_)
      refine lv_iconst (v := 0) hx hb d_Md_isDark_24 (by decide) ?_
      refine lv_istore (lv' := [(7, .int 0), (6, .int 0), (0, .ref mo), (1, .int x), (2, .int y), (3, .int (nI t)), (4, .int wo), (5, .int le)]) hx hb d_Md_isDark_25 hl (by decide) rfl (fun ls hl => ?_)
      simp only [eG_23, gs_uu] at hG
      have lp : ∀ (fu : Nat) (b : Nat) (dk : Int32) (m1 : Int64) (m2 : Int64) (m3 : Int64) (m4 : Int64), b ≤ nb → nb + 1 ≤ b + fu → (hdk : dk = pI ((¬ le = 0 ∧ ¬ jm_b bx su 10 t x y = 0) ∨ jm_any bx tr su wo t x y b)) → ∀ (H : Heap) (locs : List Loc), gs_W D classes zb (gs_u G mo (oMd th wn hn nb nw cB cT cS cL cW m1 m2 m3 m4)) H → gs_S zb s.heap H locs → ∀ (ls : Array Slot), lv_has ls 8 [(0, .ref mo), (1, .int x), (2, .int y), (3, .int (nI t)), (4, .int wo), (5, .int le), (6, .int dk), (7, .int (nI b))] → W p l e (headSpec (wM y_Md_isDark c_Md_isDark 8 (some .boolean)) ({ frames := 3, cells := 0, slots := 0, locals := 83 })).room s m ([.ref mo, .int x, .int y, .int (nI t), .int wo, .int le] : List Value).toArray below meth c H locs 0 0 (MQ below (gs_Q D zb (fun v G1 => v = some (.int (pI (jm_D bx tr su nb wo le t x y))) ∧ ∃ m1 m2 m3 m4 : Int64, G1 = gs_u G mo (oMd th wn hn nb nw cB cT cS cL cW m1 m2 m3 m4))) ([.ref mo, .int x, .int y, .int (nI t), .int wo, .int le] : List Value).toArray s 0 0 (fun q : Nat => zb ≤ q)) (F0 m 27 ls []) := by
        intro fu
        induction fu with
        | zero => intro b dk m1 m2 m3 m4 hle hfu; exact absurd hfu (by omega)
        | succ fu IHlp =>
          intro b dk m1 m2 m3 m4 hle hfu hdk H locs hG hS ls hl
          obtain ⟨G_31, eG_31⟩ : ∃ z, z = gs_u G mo (oMd th wn hn nb nw cB cT cS cL cW m1 m2 m3 m4) := ⟨_, rfl⟩
          rw [← eG_31] at hG
          have hM9 := sM_o hM th nb nw m1 m2 m3 m4
          rw [← eG_31] at hM9
          refine lv_iload hx hb d_Md_isDark_27 (lv_at hl 7 rfl) ?_
          refine lv_aload_n hx hb d_Md_isDark_29 rfl (lv_at hl 0 rfl) ?_
          refine gs_get E hK.1 hG hM9.1 (C := R_Md) (T := F_Md) (N := 14) rfl i_Md 3 (by decide) w_466 (v := .int (nI nb)) rfl d_Md_isDark_30 ?_
          refine lv_icmp_ge (tgt := 83) hx hb d_Md_isDark_33 (by decide) (fun c_32 => ?_) (fun c_32 => ?_)
          · have hend : b = nb := cl_eq (by omega) hle c_32
            refine lv_iload hx hb d_Md_isDark_83 (lv_at hl 6 rfl) ?_
            simp only [eG_31, gs_uu] at hG
            have hdd : dk = 0 ∨ dk = 1 := by rw [hdk]; exact pI_01 _
            exact W.zret (v := dk) hx hb hr (nar01 hdd) (gs_end ⟨by rw [hdk, hend]; rfl, m1, m2, m3, m4, rfl⟩ hG hS) hS.2.2 d_Md_isDark_85
          · have hlt : b < nb := cl_lt (by omega) hle c_32
            refine lv_iload hx hb d_Md_isDark_36 (lv_at hl 6 rfl) ?_
            refine lv_if_ne (tgt := 83) hx hb d_Md_isDark_38 (by decide) (fun c_33 => ?_) (fun c_33 => ?_)
            · refine lv_iload hx hb d_Md_isDark_83 (lv_at hl 6 rfl) ?_
              simp only [eG_31, gs_uu] at hG
              have hdd : dk = 0 ∨ dk = 1 := by rw [hdk]; exact pI_01 _
              exact W.zret (v := dk) hx hb hr (nar01 hdd) (gs_end ⟨by rw [dk_end hdk hle c_33]; rfl, m1, m2, m3, m4, rfl⟩ hG hS) hS.2.2 d_Md_isDark_85
            · refine lv_aload_n hx hb d_Md_isDark_41 rfl (lv_at hl 0 rfl) ?_
              refine gs_get E hK.1 hG hM9.1 (C := R_Md) (T := F_Md) (N := 14) rfl i_Md 5 (by decide) w_468 (v := .ref cT) rfl d_Md_isDark_42 ?_
              refine lv_iload hx hb d_Md_isDark_45 (lv_at hl 7 rfl) ?_
              refine gn_zald E hK.1 hG hM9.2.2.1 2 rfl (j := b) (by omega) (by decide) d_Md_isDark_47 ?_
              refine lv_if_eq (tgt := 74) hx hb d_Md_isDark_48 (by decide) (fun c_34 => ?_) (fun c_34 => ?_)
              · refine lv_iconst (v := 0) hx hb d_Md_isDark_74 (by decide) ?_
                refine lv_istore (lv' := [(6, .int 0), (0, .ref mo), (1, .int x), (2, .int y), (3, .int (nI t)), (4, .int wo), (5, .int le), (7, .int (nI b))]) hx hb d_Md_isDark_75 hl (by decide) rfl (fun ls hl => ?_)
                refine lv_iinc (v := nI (b + 1)) (lv' := [(7, .int (nI (b + 1))), (6, .int 0), (0, .ref mo), (1, .int x), (2, .int y), (3, .int (nI t)), (4, .int wo), (5, .int le)]) hx hb d_Md_isDark_77 hl (k := 7) rfl (nI_1 _) (by decide) rfl (fun ls hl => ?_)
                refine lv_goto (tgt := 27) hx hb d_Md_isDark_80 (by decide) ?_
                simp only [eG_31, gs_uu] at hG
                exact IHlp (b + 1) 0 m1 m2 m3 m4 (by omega) (by omega) (dk_no hdk c_33 (fun q => q.1 c_34)) _ _ hG hS ls (lv_sub hl [2, 3, 4, 5, 6, 7, 1, 0] rfl)
              · refine lv_iload hx hb d_Md_isDark_51 (lv_at hl 7 rfl) ?_
                refine lv_iload hx hb d_Md_isDark_53 (lv_at hl 4 rfl) ?_
                refine lv_icmp_eq (tgt := 74) hx hb d_Md_isDark_55 (by decide) (fun c_35 => ?_) (fun c_35 => ?_)
                · refine lv_iconst (v := 0) hx hb d_Md_isDark_74 (by decide) ?_
                  refine lv_istore (lv' := [(6, .int 0), (0, .ref mo), (1, .int x), (2, .int y), (3, .int (nI t)), (4, .int wo), (5, .int le), (7, .int (nI b))]) hx hb d_Md_isDark_75 hl (by decide) rfl (fun ls hl => ?_)
                  refine lv_iinc (v := nI (b + 1)) (lv' := [(7, .int (nI (b + 1))), (6, .int 0), (0, .ref mo), (1, .int x), (2, .int y), (3, .int (nI t)), (4, .int wo), (5, .int le)]) hx hb d_Md_isDark_77 hl (k := 7) rfl (nI_1 _) (by decide) rfl (fun ls hl => ?_)
                  refine lv_goto (tgt := 27) hx hb d_Md_isDark_80 (by decide) ?_
                  simp only [eG_31, gs_uu] at hG
                  exact IHlp (b + 1) 0 m1 m2 m3 m4 (by omega) (by omega) (dk_no hdk c_33 (fun q => q.2.1 c_35)) _ _ hG hS ls (lv_sub hl [2, 3, 4, 5, 6, 7, 1, 0] rfl)
                · refine lv_aload_n hx hb d_Md_isDark_58 rfl (lv_at hl 0 rfl) ?_
                  refine lv_iload hx hb d_Md_isDark_59 (lv_at hl 7 rfl) ?_
                  refine lv_iload_n hx hb d_Md_isDark_61 rfl (lv_at hl 1 rfl) ?_
                  refine lv_iload_n hx hb d_Md_isDark_62 rfl (lv_at hl 2 rfl) ?_
                  refine lv_iload_n hx hb d_Md_isDark_63 rfl (lv_at hl 3 rfl) ?_
                  refine gs_V (As := [.int (nI b), .int x, .int y, .int (nI t)]) (rest := []) (k_Md_throwsOn l D k zb G_31 mo cB cT cS cL cW th wn hn nb nw bx tr su li wi m1 m2 m3 m4 b t x y ⟨hM9.1, hM9.2.1, hM9.2.2.1, hM9.2.2.2.1, hM9.2.2.2.2.1, hM9.2.2.2.2.2⟩ (by omega) ht24) E hml hl.1 (cg_V (C := R_Md) hw w_567 w_564 w_4 w_566 sel_Md_throwsOn hd_Md_throwsOn ⟨by exact Nat.le_of_ble_eq_true rfl, by exact Nat.le_of_ble_eq_true rfl⟩) hG hK hX hS hM9.1 rfl rfl rfl rfl (by exact Nat.le_of_ble_eq_true rfl) d_Md_isDark_64 ⟨by exact Nat.le_of_ble_eq_true rfl, by exact Nat.le_of_ble_eq_true rfl⟩ (fun v G1 H locs hp hG hS => ?_)
                  obtain ⟨hv1, n_36, n_37, n_38, n_39, hG1⟩ := hp
                  subst hv1
                  rw [hG1] at hG
                  obtain ⟨G_40, eG_40⟩ : ∃ z, z = gs_u G_31 mo (.inr (4, [.int th, .int (nI wn), .int (nI hn), .int (nI nb), .ref cB, .ref cT, .ref cS, .ref cL, .int (nI nw), .ref cW, .long n_36, .long n_37, .long n_38, .long n_39])) := ⟨_, rfl⟩
                  have hG : gs_W D classes zb G_40 H := by rw [eG_40]; exact hG
                  have hc_41 : G_40 cB = some (aInt (k 0) 66 bx) := by rw [eG_40]; exact gs_keep hM9.2.1 hM9.1 (by simp)
                  have hc_42 : G_40 cT = some (aInt (k 2) 11 tr) := by rw [eG_40]; exact gs_keep hM9.2.2.1 hM9.1 (by simp)
                  have hc_43 : G_40 cS = some (aInt (k 0) 72 su) := by rw [eG_40]; exact gs_keep hM9.2.2.2.1 hM9.1 (by simp)
                  have hc_44 : G_40 cL = some (aInt (k 0) 24 li) := by rw [eG_40]; exact gs_keep hM9.2.2.2.2.1 hM9.1 (by simp)
                  have hc_45 : G_40 cW = some (aInt (k 0) 40 wi) := by rw [eG_40]; exact gs_keep hM9.2.2.2.2.2 hM9.1 (by simp)
                  have hc_46 : G_40 mo = some (.inr (4, [.int th, .int (nI wn), .int (nI hn), .int (nI nb), .ref cB, .ref cT, .ref cS, .ref cL, .int (nI nw), .ref cW, .long n_36, .long n_37, .long n_38, .long n_39])) := by rw [eG_40]; exact gs_us _ _ _
                  refine W.eq (g2 := F0 m 67 ls [.int (jm_b bx su b t x y)]) rfl ?_
                  refine lv_if_eq (tgt := 74) hx hb d_Md_isDark_67 (by decide) (fun c_47 => ?_) (fun c_47 => ?_)
                  · refine lv_iconst (v := 0) hx hb d_Md_isDark_74 (by decide) ?_
                    refine lv_istore (lv' := [(6, .int 0), (0, .ref mo), (1, .int x), (2, .int y), (3, .int (nI t)), (4, .int wo), (5, .int le), (7, .int (nI b))]) hx hb d_Md_isDark_75 hl (by decide) rfl (fun ls hl => ?_)
                    refine lv_iinc (v := nI (b + 1)) (lv' := [(7, .int (nI (b + 1))), (6, .int 0), (0, .ref mo), (1, .int x), (2, .int y), (3, .int (nI t)), (4, .int wo), (5, .int le)]) hx hb d_Md_isDark_77 hl (k := 7) rfl (nI_1 _) (by decide) rfl (fun ls hl => ?_)
                    refine lv_goto (tgt := 27) hx hb d_Md_isDark_80 (by decide) ?_
                    simp only [eG_40, eG_31, gs_uu] at hG
                    exact IHlp (b + 1) 0 n_36 n_37 n_38 n_39 (by omega) (by omega) (dk_no hdk c_33 (fun q => q.2.2 c_47)) _ _ hG hS ls (lv_sub hl [2, 3, 4, 5, 6, 7, 1, 0] rfl)
                  · refine lv_iconst (v := 1) hx hb d_Md_isDark_70 (by decide) ?_
                    refine lv_goto (tgt := 75) hx hb d_Md_isDark_71 (by decide) ?_
                    refine lv_istore (lv' := [(6, .int 1), (0, .ref mo), (1, .int x), (2, .int y), (3, .int (nI t)), (4, .int wo), (5, .int le), (7, .int (nI b))]) hx hb d_Md_isDark_75 hl (by decide) rfl (fun ls hl => ?_)
                    refine lv_iinc (v := nI (b + 1)) (lv' := [(7, .int (nI (b + 1))), (6, .int 1), (0, .ref mo), (1, .int x), (2, .int y), (3, .int (nI t)), (4, .int wo), (5, .int le)]) hx hb d_Md_isDark_77 hl (k := 7) rfl (nI_1 _) (by decide) rfl (fun ls hl => ?_)
                    refine lv_goto (tgt := 27) hx hb d_Md_isDark_80 (by decide) ?_
                    simp only [eG_40, eG_31, gs_uu] at hG
                    exact IHlp (b + 1) 1 n_36 n_37 n_38 n_39 (by omega) (by omega) (dk_yes ⟨c_34, c_35, c_47⟩) _ _ hG hS ls (lv_sub hl [2, 3, 4, 5, 6, 7, 1, 0] rfl)
      exact lp (nb + 1) 0 0 n_19 n_20 n_21 n_22 (by omega) (by omega) (dk_0 (fun q => q.2 c_30)) _ _ hG hS ls (lv_sub hl [2, 3, 4, 5, 6, 7, 1, 0] rfl)
    · refine lv_iconst (v := 1) hx hb d_Md_isDark_17 (by decide) ?_
      refine lv_goto (tgt := 22) hx hb d_Md_isDark_18 (by decide) ?_
      refine lv_istore (lv' := [(6, .int 1), (0, .ref mo), (1, .int x), (2, .int y), (3, .int (nI t)), (4, .int wo), (5, .int le)]) hx hb d_Md_isDark_22 hl (by decide) rfl (fun ls hl => ?_)
      refine lv_iconst (v := 0) hx hb d_Md_isDark_24 (by decide) ?_
      refine lv_istore (lv' := [(7, .int 0), (6, .int 1), (0, .ref mo), (1, .int x), (2, .int y), (3, .int (nI t)), (4, .int wo), (5, .int le)]) hx hb d_Md_isDark_25 hl (by decide) rfl (fun ls hl => ?_)
      simp only [eG_23, gs_uu] at hG
      have lp : ∀ (fu : Nat) (b : Nat) (dk : Int32) (m1 : Int64) (m2 : Int64) (m3 : Int64) (m4 : Int64), b ≤ nb → nb + 1 ≤ b + fu → (hdk : dk = pI ((¬ le = 0 ∧ ¬ jm_b bx su 10 t x y = 0) ∨ jm_any bx tr su wo t x y b)) → ∀ (H : Heap) (locs : List Loc), gs_W D classes zb (gs_u G mo (oMd th wn hn nb nw cB cT cS cL cW m1 m2 m3 m4)) H → gs_S zb s.heap H locs → ∀ (ls : Array Slot), lv_has ls 8 [(0, .ref mo), (1, .int x), (2, .int y), (3, .int (nI t)), (4, .int wo), (5, .int le), (6, .int dk), (7, .int (nI b))] → W p l e (headSpec (wM y_Md_isDark c_Md_isDark 8 (some .boolean)) ({ frames := 3, cells := 0, slots := 0, locals := 83 })).room s m ([.ref mo, .int x, .int y, .int (nI t), .int wo, .int le] : List Value).toArray below meth c H locs 0 0 (MQ below (gs_Q D zb (fun v G1 => v = some (.int (pI (jm_D bx tr su nb wo le t x y))) ∧ ∃ m1 m2 m3 m4 : Int64, G1 = gs_u G mo (oMd th wn hn nb nw cB cT cS cL cW m1 m2 m3 m4))) ([.ref mo, .int x, .int y, .int (nI t), .int wo, .int le] : List Value).toArray s 0 0 (fun q : Nat => zb ≤ q)) (F0 m 27 ls []) := by
        intro fu
        induction fu with
        | zero => intro b dk m1 m2 m3 m4 hle hfu; exact absurd hfu (by omega)
        | succ fu IHlp =>
          intro b dk m1 m2 m3 m4 hle hfu hdk H locs hG hS ls hl
          obtain ⟨G_48, eG_48⟩ : ∃ z, z = gs_u G mo (oMd th wn hn nb nw cB cT cS cL cW m1 m2 m3 m4) := ⟨_, rfl⟩
          rw [← eG_48] at hG
          have hM9 := sM_o hM th nb nw m1 m2 m3 m4
          rw [← eG_48] at hM9
          refine lv_iload hx hb d_Md_isDark_27 (lv_at hl 7 rfl) ?_
          refine lv_aload_n hx hb d_Md_isDark_29 rfl (lv_at hl 0 rfl) ?_
          refine gs_get E hK.1 hG hM9.1 (C := R_Md) (T := F_Md) (N := 14) rfl i_Md 3 (by decide) w_466 (v := .int (nI nb)) rfl d_Md_isDark_30 ?_
          refine lv_icmp_ge (tgt := 83) hx hb d_Md_isDark_33 (by decide) (fun c_49 => ?_) (fun c_49 => ?_)
          · have hend : b = nb := cl_eq (by omega) hle c_49
            refine lv_iload hx hb d_Md_isDark_83 (lv_at hl 6 rfl) ?_
            simp only [eG_48, gs_uu] at hG
            have hdd : dk = 0 ∨ dk = 1 := by rw [hdk]; exact pI_01 _
            exact W.zret (v := dk) hx hb hr (nar01 hdd) (gs_end ⟨by rw [hdk, hend]; rfl, m1, m2, m3, m4, rfl⟩ hG hS) hS.2.2 d_Md_isDark_85
          · have hlt : b < nb := cl_lt (by omega) hle c_49
            refine lv_iload hx hb d_Md_isDark_36 (lv_at hl 6 rfl) ?_
            refine lv_if_ne (tgt := 83) hx hb d_Md_isDark_38 (by decide) (fun c_50 => ?_) (fun c_50 => ?_)
            · refine lv_iload hx hb d_Md_isDark_83 (lv_at hl 6 rfl) ?_
              simp only [eG_48, gs_uu] at hG
              have hdd : dk = 0 ∨ dk = 1 := by rw [hdk]; exact pI_01 _
              exact W.zret (v := dk) hx hb hr (nar01 hdd) (gs_end ⟨by rw [dk_end hdk hle c_50]; rfl, m1, m2, m3, m4, rfl⟩ hG hS) hS.2.2 d_Md_isDark_85
            · refine lv_aload_n hx hb d_Md_isDark_41 rfl (lv_at hl 0 rfl) ?_
              refine gs_get E hK.1 hG hM9.1 (C := R_Md) (T := F_Md) (N := 14) rfl i_Md 5 (by decide) w_468 (v := .ref cT) rfl d_Md_isDark_42 ?_
              refine lv_iload hx hb d_Md_isDark_45 (lv_at hl 7 rfl) ?_
              refine gn_zald E hK.1 hG hM9.2.2.1 2 rfl (j := b) (by omega) (by decide) d_Md_isDark_47 ?_
              refine lv_if_eq (tgt := 74) hx hb d_Md_isDark_48 (by decide) (fun c_51 => ?_) (fun c_51 => ?_)
              · refine lv_iconst (v := 0) hx hb d_Md_isDark_74 (by decide) ?_
                refine lv_istore (lv' := [(6, .int 0), (0, .ref mo), (1, .int x), (2, .int y), (3, .int (nI t)), (4, .int wo), (5, .int le), (7, .int (nI b))]) hx hb d_Md_isDark_75 hl (by decide) rfl (fun ls hl => ?_)
                refine lv_iinc (v := nI (b + 1)) (lv' := [(7, .int (nI (b + 1))), (6, .int 0), (0, .ref mo), (1, .int x), (2, .int y), (3, .int (nI t)), (4, .int wo), (5, .int le)]) hx hb d_Md_isDark_77 hl (k := 7) rfl (nI_1 _) (by decide) rfl (fun ls hl => ?_)
                refine lv_goto (tgt := 27) hx hb d_Md_isDark_80 (by decide) ?_
                simp only [eG_48, gs_uu] at hG
                exact IHlp (b + 1) 0 m1 m2 m3 m4 (by omega) (by omega) (dk_no hdk c_50 (fun q => q.1 c_51)) _ _ hG hS ls (lv_sub hl [2, 3, 4, 5, 6, 7, 1, 0] rfl)
              · refine lv_iload hx hb d_Md_isDark_51 (lv_at hl 7 rfl) ?_
                refine lv_iload hx hb d_Md_isDark_53 (lv_at hl 4 rfl) ?_
                refine lv_icmp_eq (tgt := 74) hx hb d_Md_isDark_55 (by decide) (fun c_52 => ?_) (fun c_52 => ?_)
                · refine lv_iconst (v := 0) hx hb d_Md_isDark_74 (by decide) ?_
                  refine lv_istore (lv' := [(6, .int 0), (0, .ref mo), (1, .int x), (2, .int y), (3, .int (nI t)), (4, .int wo), (5, .int le), (7, .int (nI b))]) hx hb d_Md_isDark_75 hl (by decide) rfl (fun ls hl => ?_)
                  refine lv_iinc (v := nI (b + 1)) (lv' := [(7, .int (nI (b + 1))), (6, .int 0), (0, .ref mo), (1, .int x), (2, .int y), (3, .int (nI t)), (4, .int wo), (5, .int le)]) hx hb d_Md_isDark_77 hl (k := 7) rfl (nI_1 _) (by decide) rfl (fun ls hl => ?_)
                  refine lv_goto (tgt := 27) hx hb d_Md_isDark_80 (by decide) ?_
                  simp only [eG_48, gs_uu] at hG
                  exact IHlp (b + 1) 0 m1 m2 m3 m4 (by omega) (by omega) (dk_no hdk c_50 (fun q => q.2.1 c_52)) _ _ hG hS ls (lv_sub hl [2, 3, 4, 5, 6, 7, 1, 0] rfl)
                · refine lv_aload_n hx hb d_Md_isDark_58 rfl (lv_at hl 0 rfl) ?_
                  refine lv_iload hx hb d_Md_isDark_59 (lv_at hl 7 rfl) ?_
                  refine lv_iload_n hx hb d_Md_isDark_61 rfl (lv_at hl 1 rfl) ?_
                  refine lv_iload_n hx hb d_Md_isDark_62 rfl (lv_at hl 2 rfl) ?_
                  refine lv_iload_n hx hb d_Md_isDark_63 rfl (lv_at hl 3 rfl) ?_
                  refine gs_V (As := [.int (nI b), .int x, .int y, .int (nI t)]) (rest := []) (k_Md_throwsOn l D k zb G_48 mo cB cT cS cL cW th wn hn nb nw bx tr su li wi m1 m2 m3 m4 b t x y ⟨hM9.1, hM9.2.1, hM9.2.2.1, hM9.2.2.2.1, hM9.2.2.2.2.1, hM9.2.2.2.2.2⟩ (by omega) ht24) E hml hl.1 (cg_V (C := R_Md) hw w_567 w_564 w_4 w_566 sel_Md_throwsOn hd_Md_throwsOn ⟨by exact Nat.le_of_ble_eq_true rfl, by exact Nat.le_of_ble_eq_true rfl⟩) hG hK hX hS hM9.1 rfl rfl rfl rfl (by exact Nat.le_of_ble_eq_true rfl) d_Md_isDark_64 ⟨by exact Nat.le_of_ble_eq_true rfl, by exact Nat.le_of_ble_eq_true rfl⟩ (fun v G1 H locs hp hG hS => ?_)
                  obtain ⟨hv1, n_53, n_54, n_55, n_56, hG1⟩ := hp
                  subst hv1
                  rw [hG1] at hG
                  obtain ⟨G_57, eG_57⟩ : ∃ z, z = gs_u G_48 mo (.inr (4, [.int th, .int (nI wn), .int (nI hn), .int (nI nb), .ref cB, .ref cT, .ref cS, .ref cL, .int (nI nw), .ref cW, .long n_53, .long n_54, .long n_55, .long n_56])) := ⟨_, rfl⟩
                  have hG : gs_W D classes zb G_57 H := by rw [eG_57]; exact hG
                  have hc_58 : G_57 cB = some (aInt (k 0) 66 bx) := by rw [eG_57]; exact gs_keep hM9.2.1 hM9.1 (by simp)
                  have hc_59 : G_57 cT = some (aInt (k 2) 11 tr) := by rw [eG_57]; exact gs_keep hM9.2.2.1 hM9.1 (by simp)
                  have hc_60 : G_57 cS = some (aInt (k 0) 72 su) := by rw [eG_57]; exact gs_keep hM9.2.2.2.1 hM9.1 (by simp)
                  have hc_61 : G_57 cL = some (aInt (k 0) 24 li) := by rw [eG_57]; exact gs_keep hM9.2.2.2.2.1 hM9.1 (by simp)
                  have hc_62 : G_57 cW = some (aInt (k 0) 40 wi) := by rw [eG_57]; exact gs_keep hM9.2.2.2.2.2 hM9.1 (by simp)
                  have hc_63 : G_57 mo = some (.inr (4, [.int th, .int (nI wn), .int (nI hn), .int (nI nb), .ref cB, .ref cT, .ref cS, .ref cL, .int (nI nw), .ref cW, .long n_53, .long n_54, .long n_55, .long n_56])) := by rw [eG_57]; exact gs_us _ _ _
                  refine W.eq (g2 := F0 m 67 ls [.int (jm_b bx su b t x y)]) rfl ?_
                  refine lv_if_eq (tgt := 74) hx hb d_Md_isDark_67 (by decide) (fun c_64 => ?_) (fun c_64 => ?_)
                  · refine lv_iconst (v := 0) hx hb d_Md_isDark_74 (by decide) ?_
                    refine lv_istore (lv' := [(6, .int 0), (0, .ref mo), (1, .int x), (2, .int y), (3, .int (nI t)), (4, .int wo), (5, .int le), (7, .int (nI b))]) hx hb d_Md_isDark_75 hl (by decide) rfl (fun ls hl => ?_)
                    refine lv_iinc (v := nI (b + 1)) (lv' := [(7, .int (nI (b + 1))), (6, .int 0), (0, .ref mo), (1, .int x), (2, .int y), (3, .int (nI t)), (4, .int wo), (5, .int le)]) hx hb d_Md_isDark_77 hl (k := 7) rfl (nI_1 _) (by decide) rfl (fun ls hl => ?_)
                    refine lv_goto (tgt := 27) hx hb d_Md_isDark_80 (by decide) ?_
                    simp only [eG_57, eG_48, gs_uu] at hG
                    exact IHlp (b + 1) 0 n_53 n_54 n_55 n_56 (by omega) (by omega) (dk_no hdk c_50 (fun q => q.2.2 c_64)) _ _ hG hS ls (lv_sub hl [2, 3, 4, 5, 6, 7, 1, 0] rfl)
                  · refine lv_iconst (v := 1) hx hb d_Md_isDark_70 (by decide) ?_
                    refine lv_goto (tgt := 75) hx hb d_Md_isDark_71 (by decide) ?_
                    refine lv_istore (lv' := [(6, .int 1), (0, .ref mo), (1, .int x), (2, .int y), (3, .int (nI t)), (4, .int wo), (5, .int le), (7, .int (nI b))]) hx hb d_Md_isDark_75 hl (by decide) rfl (fun ls hl => ?_)
                    refine lv_iinc (v := nI (b + 1)) (lv' := [(7, .int (nI (b + 1))), (6, .int 1), (0, .ref mo), (1, .int x), (2, .int y), (3, .int (nI t)), (4, .int wo), (5, .int le)]) hx hb d_Md_isDark_77 hl (k := 7) rfl (nI_1 _) (by decide) rfl (fun ls hl => ?_)
                    refine lv_goto (tgt := 27) hx hb d_Md_isDark_80 (by decide) ?_
                    simp only [eG_57, eG_48, gs_uu] at hG
                    exact IHlp (b + 1) 1 n_53 n_54 n_55 n_56 (by omega) (by omega) (dk_yes ⟨c_51, c_52, c_64⟩) _ _ hG hS ls (lv_sub hl [2, 3, 4, 5, 6, 7, 1, 0] rfl)
      exact lp (nb + 1) 0 1 n_19 n_20 n_21 n_22 (by omega) (by omega) (dk_1 ⟨c_1, c_30⟩) _ _ hG hS ls (lv_sub hl [2, 3, 4, 5, 6, 7, 1, 0] rfl)
set_option maxHeartbeats 4000000 in
set_option maxRecDepth 100000 in
theorem k_Md_darkOf (l : Launch) (D : va_G) (k : Nat → ClassId) (zb : Nat) (G : Nat → Option va_E) (mo cB cT cS cL cW : Nat) (th : Int32) (wn hn nb nw : Nat) (bx tr su li wi : Nat → Int32) (l1 l2 l3 l4 : Int64) (iw u0 v0 u1 v1 : Nat) (t : Nat) (wo le : Int32) (hM : sM k G mo cB cT cS cL cW th wn hn nb nw bx tr su li wi l1 l2 l3 l4) (hnb : nb ≤ 10) (ht24 : t < 24) (hw0 : wi (4 * iw) = nI u0) (hw1 : wi (4 * iw + 1) = nI v0) (hw2 : wi (4 * iw + 2) = nI u1) (hw3 : wi (4 * iw + 3) = nI v1) (hiw : iw < 10) (hu : u0 ≤ u1) (hv : v0 ≤ v1) (hu1 : u1 ≤ 60) (hv1 : v1 ≤ 60) : Met l y_Md_darkOf (wM y_Md_darkOf c_Md_darkOf 8 (some .int)) ({ frames := 4, cells := 0, slots := 0, locals := 110 }) (gs_P D k zb G [.ref mo, .int (nI iw), .int (nI t), .int wo, .int le]) (gs_Q D zb (fun v G1 => v = some (.int (nI (jm_dark bx tr su nb wo le t u0 v0 u1 v1))) ∧ ∃ m1 m2 m3 m4 : Int64, G1 = gs_u G mo (oMd th wn hn nb nw cB cT cS cL cW m1 m2 m3 m4))) 0 0 (fun q : Nat => zb ≤ q) := by
  refine Met.ofW (cc := c_Md_darkOf) (maxL := 8) (ret := (some .int)) (by decide) rfl ?_
  intro p e s m args below meth c s₁ B hml hv
  obtain ⟨rfl, hG, hK, hX⟩ := hv
  have hx := B.exec
  have hb := B.bytes
  have hr := B.returns
  have hts := atoms_spec (ws := wM y_Md_darkOf c_Md_darkOf 8 (some .int)) B.pre
  have hw : ∀ w9 ∈ wW, w9.before ([.ref mo, .int (nI iw), .int (nI t), .int wo, .int le] : List Value).toArray s = true := fun w9 h9 => hts w9 (gi_in w9 h9)
  have hown : s.vm.findClass R_Md = some m.cls := findClass_of_methodNamed B.named
  have hlocks := B.notSynchronized
  have E : gs_E p s m ([.ref mo, .int (nI iw), .int (nI t), .int wo, .int le] : List Value).toArray c c_Md_darkOf wW R_Md := ⟨hx, hb, hw, hown⟩
  have hS : gs_S zb s.heap s.heap [] := va_S.rf
  have hl := lv_entry ([.ref mo, .int (nI iw), .int (nI t), .int wo, .int le]) (n := 8) (Nat.le_of_ble_eq_true rfl)
  rw [lg_entry_eq]
  generalize (lg_sl ([.ref mo, .int (nI iw), .int (nI t), .int wo, .int le]) ++ List.replicate (8 - (lg_sl ([.ref mo, .int (nI iw), .int (nI t), .int wo, .int le])).length) Slot.unset).toArray = ls at hl ⊢
  have hl : lv_has ls 8 [(0, .ref mo), (1, .int (nI iw)), (2, .int (nI t)), (3, .int wo), (4, .int le)] := hl
  refine lv_iconst (v := 0) hx hb d_Md_darkOf_0 (by decide) ?_
  refine lv_istore (lv' := [(5, .int 0), (0, .ref mo), (1, .int (nI iw)), (2, .int (nI t)), (3, .int wo), (4, .int le)]) hx hb d_Md_darkOf_1 hl (by decide) rfl (fun ls hl => ?_)
  refine lv_aload_n hx hb d_Md_darkOf_3 rfl (lv_at hl 1 rfl) ?_
  refine gs_get E hK.1 hG hM.1 (C := R_Md) (T := F_Md) (N := 14) rfl i_Md 9 (by decide) w_472 (v := .ref cW) rfl d_Md_darkOf_4 ?_
  refine lv_iconst (v := 4) hx hb d_Md_darkOf_7 (by decide) ?_
  refine lv_iload_n hx hb d_Md_darkOf_8 rfl (lv_at hl 2 rfl) ?_
  refine lv_imul hx hb d_Md_darkOf_9 ?_
  refine lv_topE (show 4 * (nI iw) = nI (4 * iw) from pk_mul 4 iw) ?_
  refine lv_iconst (v := 1) hx hb d_Md_darkOf_10 (by decide) ?_
  refine lv_iadd hx hb d_Md_darkOf_11 ?_
  refine lv_topE (show (nI (4 * iw)) + 1 = nI (4 * iw + 1) from nI_add (4 * iw) 1) ?_
  refine gn_iald E hK.1 hG hM.2.2.2.2.2 0 rfl (j := (4 * iw + 1)) (by omega) (by decide) d_Md_darkOf_12 ?_
  refine lv_topE hw1 ?_
  refine lv_istore (lv' := [(6, .int (nI v0)), (5, .int 0), (0, .ref mo), (1, .int (nI iw)), (2, .int (nI t)), (3, .int wo), (4, .int le)]) hx hb d_Md_darkOf_13 hl (by decide) rfl (fun ls hl => ?_)
  rw [← gs_id hM.1] at hG
  have lo : ∀ (fu : Nat) (j : Nat) (m1 : Int64) (m2 : Int64) (m3 : Int64) (m4 : Int64), v0 + j ≤ v1 → v1 + 1 ≤ v0 + j + fu → ∀ (H : Heap) (locs : List Loc), gs_W D classes zb (gs_u G mo (oMd th wn hn nb nw cB cT cS cL cW m1 m2 m3 m4)) H → gs_S zb s.heap H locs → ∀ (ls : Array Slot), lv_has ls 8 [(0, .ref mo), (1, .int (nI iw)), (2, .int (nI t)), (3, .int wo), (4, .int le), (5, .int (nI (cNN (fun j i => jm_D bx tr su nb wo le t (nI (u0 + i)) (nI (v0 + j))) (u1 - u0) j))), (6, .int (nI (v0 + j)))] → W p l e (headSpec (wM y_Md_darkOf c_Md_darkOf 8 (some .int)) ({ frames := 4, cells := 0, slots := 0, locals := 110 })).room s m ([.ref mo, .int (nI iw), .int (nI t), .int wo, .int le] : List Value).toArray below meth c H locs 0 0 (MQ below (gs_Q D zb (fun v G1 => v = some (.int (nI (jm_dark bx tr su nb wo le t u0 v0 u1 v1))) ∧ ∃ m1 m2 m3 m4 : Int64, G1 = gs_u G mo (oMd th wn hn nb nw cB cT cS cL cW m1 m2 m3 m4))) ([.ref mo, .int (nI iw), .int (nI t), .int wo, .int le] : List Value).toArray s 0 0 (fun q : Nat => zb ≤ q)) (F0 m 15 ls []) := by
    intro fu
    induction fu with
    | zero => intro j m1 m2 m3 m4 hle hfu; exact absurd hfu (by omega)
    | succ fu IHlo =>
      intro j m1 m2 m3 m4 hle hfu  H locs hG hS ls hl
      obtain ⟨G_1, eG_1⟩ : ∃ z, z = gs_u G mo (oMd th wn hn nb nw cB cT cS cL cW m1 m2 m3 m4) := ⟨_, rfl⟩
      rw [← eG_1] at hG
      have hM9 := sM_o hM th nb nw m1 m2 m3 m4
      rw [← eG_1] at hM9
      refine lv_iload hx hb d_Md_darkOf_15 (lv_at hl 6 rfl) ?_
      refine lv_aload_n hx hb d_Md_darkOf_17 rfl (lv_at hl 0 rfl) ?_
      refine gs_get E hK.1 hG hM9.1 (C := R_Md) (T := F_Md) (N := 14) rfl i_Md 9 (by decide) w_472 (v := .ref cW) rfl d_Md_darkOf_18 ?_
      refine lv_iconst (v := 4) hx hb d_Md_darkOf_21 (by decide) ?_
      refine lv_iload_n hx hb d_Md_darkOf_22 rfl (lv_at hl 1 rfl) ?_
      refine lv_imul hx hb d_Md_darkOf_23 ?_
      refine lv_topE (show 4 * (nI iw) = nI (4 * iw) from pk_mul 4 iw) ?_
      refine lv_iconst (v := 3) hx hb d_Md_darkOf_24 (by decide) ?_
      refine lv_iadd hx hb d_Md_darkOf_25 ?_
      refine lv_topE (show (nI (4 * iw)) + 3 = nI (4 * iw + 3) from nI_add (4 * iw) 3) ?_
      refine gn_iald E hK.1 hG hM9.2.2.2.2.2 0 rfl (j := (4 * iw + 3)) (by omega) (by decide) d_Md_darkOf_26 ?_
      refine lv_topE hw3 ?_
      refine lv_icmp_ge (tgt := 93) hx hb d_Md_darkOf_27 (by decide) (fun c_2 => ?_) (fun c_2 => ?_)
      · have hendj : v0 + j = v1 := cl_eq (by omega) hle c_2
        refine lv_iload hx hb d_Md_darkOf_93 (lv_at hl 5 rfl) ?_
        simp only [eG_1, gs_uu] at hG
        exact W.iret (v := (nI (cNN (fun j i => jm_D bx tr su nb wo le t (nI (u0 + i)) (nI (v0 + j))) (u1 - u0) j))) hx hb hr (gs_end ⟨by have h9 : j = v1 - v0 := (by omega); rw [h9]; rfl, m1, m2, m3, m4, rfl⟩ hG hS) hS.2.2 d_Md_darkOf_95
      · have hltj : v0 + j < v1 := cl_lt (by omega) hle c_2
        refine lv_aload_n hx hb d_Md_darkOf_30 rfl (lv_at hl 0 rfl) ?_
        refine gs_get E hK.1 hG hM9.1 (C := R_Md) (T := F_Md) (N := 14) rfl i_Md 9 (by decide) w_472 (v := .ref cW) rfl d_Md_darkOf_31 ?_
        refine lv_iconst (v := 4) hx hb d_Md_darkOf_34 (by decide) ?_
        refine lv_iload_n hx hb d_Md_darkOf_35 rfl (lv_at hl 1 rfl) ?_
        refine lv_imul hx hb d_Md_darkOf_36 ?_
        refine lv_topE (show 4 * (nI iw) = nI (4 * iw) from pk_mul 4 iw) ?_
        refine gn_iald E hK.1 hG hM9.2.2.2.2.2 0 rfl (j := (4 * iw)) (by omega) (by decide) d_Md_darkOf_37 ?_
        refine lv_topE hw0 ?_
        refine lv_istore (lv' := [(7, .int (nI u0)), (0, .ref mo), (1, .int (nI iw)), (2, .int (nI t)), (3, .int wo), (4, .int le), (5, .int (nI (cNN (fun j i => jm_D bx tr su nb wo le t (nI (u0 + i)) (nI (v0 + j))) (u1 - u0) j))), (6, .int (nI (v0 + j)))]) hx hb d_Md_darkOf_38 hl (by decide) rfl (fun ls hl => ?_)
        simp only [eG_1, gs_uu] at hG
        have li : ∀ (fu : Nat) (i : Nat) (m1 : Int64) (m2 : Int64) (m3 : Int64) (m4 : Int64), u0 + i ≤ u1 → u1 + 1 ≤ u0 + i + fu → ∀ (H : Heap) (locs : List Loc), gs_W D classes zb (gs_u G mo (oMd th wn hn nb nw cB cT cS cL cW m1 m2 m3 m4)) H → gs_S zb s.heap H locs → ∀ (ls : Array Slot), lv_has ls 8 [(0, .ref mo), (1, .int (nI iw)), (2, .int (nI t)), (3, .int wo), (4, .int le), (5, .int (nI (cNN (fun j i => jm_D bx tr su nb wo le t (nI (u0 + i)) (nI (v0 + j))) (u1 - u0) j + cN ((fun j i => jm_D bx tr su nb wo le t (nI (u0 + i)) (nI (v0 + j))) j) i))), (6, .int (nI (v0 + j))), (7, .int (nI (u0 + i)))] → W p l e (headSpec (wM y_Md_darkOf c_Md_darkOf 8 (some .int)) ({ frames := 4, cells := 0, slots := 0, locals := 110 })).room s m ([.ref mo, .int (nI iw), .int (nI t), .int wo, .int le] : List Value).toArray below meth c H locs 0 0 (MQ below (gs_Q D zb (fun v G1 => v = some (.int (nI (jm_dark bx tr su nb wo le t u0 v0 u1 v1))) ∧ ∃ m1 m2 m3 m4 : Int64, G1 = gs_u G mo (oMd th wn hn nb nw cB cT cS cL cW m1 m2 m3 m4))) ([.ref mo, .int (nI iw), .int (nI t), .int wo, .int le] : List Value).toArray s 0 0 (fun q : Nat => zb ≤ q)) (F0 m 40 ls []) := by
          intro fu
          induction fu with
          | zero => intro i m1 m2 m3 m4 hle hfu; exact absurd hfu (by omega)
          | succ fu IHli =>
            intro i m1 m2 m3 m4 hle hfu  H locs hG hS ls hl
            obtain ⟨G_3, eG_3⟩ : ∃ z, z = gs_u G mo (oMd th wn hn nb nw cB cT cS cL cW m1 m2 m3 m4) := ⟨_, rfl⟩
            rw [← eG_3] at hG
            have hM9 := sM_o hM th nb nw m1 m2 m3 m4
            rw [← eG_3] at hM9
            refine lv_iload hx hb d_Md_darkOf_40 (lv_at hl 7 rfl) ?_
            refine lv_aload_n hx hb d_Md_darkOf_42 rfl (lv_at hl 0 rfl) ?_
            refine gs_get E hK.1 hG hM9.1 (C := R_Md) (T := F_Md) (N := 14) rfl i_Md 9 (by decide) w_472 (v := .ref cW) rfl d_Md_darkOf_43 ?_
            refine lv_iconst (v := 4) hx hb d_Md_darkOf_46 (by decide) ?_
            refine lv_iload_n hx hb d_Md_darkOf_47 rfl (lv_at hl 1 rfl) ?_
            refine lv_imul hx hb d_Md_darkOf_48 ?_
            refine lv_topE (show 4 * (nI iw) = nI (4 * iw) from pk_mul 4 iw) ?_
            refine lv_iconst (v := 2) hx hb d_Md_darkOf_49 (by decide) ?_
            refine lv_iadd hx hb d_Md_darkOf_50 ?_
            refine lv_topE (show (nI (4 * iw)) + 2 = nI (4 * iw + 2) from nI_add (4 * iw) 2) ?_
            refine gn_iald E hK.1 hG hM9.2.2.2.2.2 0 rfl (j := (4 * iw + 2)) (by omega) (by decide) d_Md_darkOf_51 ?_
            refine lv_topE hw2 ?_
            refine lv_icmp_ge (tgt := 87) hx hb d_Md_darkOf_52 (by decide) (fun c_4 => ?_) (fun c_4 => ?_)
            · have hendi : u0 + i = u1 := cl_eq (by omega) hle c_4
              have hrow : nI (cNN (fun j i => jm_D bx tr su nb wo le t (nI (u0 + i)) (nI (v0 + j))) (u1 - u0) j + cN ((fun j i => jm_D bx tr su nb wo le t (nI (u0 + i)) (nI (v0 + j))) j) i) = nI (cNN (fun j i => jm_D bx tr su nb wo le t (nI (u0 + i)) (nI (v0 + j))) (u1 - u0) (j + 1)) := by have h9 : i = u1 - u0 := (by omega); subst h9; rfl
              rw [hrow] at hl
              refine lv_iinc (v := nI ((v0 + j) + 1)) (lv' := [(6, .int (nI ((v0 + j) + 1))), (0, .ref mo), (1, .int (nI iw)), (2, .int (nI t)), (3, .int wo), (4, .int le), (5, .int (nI (cNN (fun j i => jm_D bx tr su nb wo le t (nI (u0 + i)) (nI (v0 + j))) (u1 - u0) (j + 1)))), (7, .int (nI (u0 + i)))]) hx hb d_Md_darkOf_87 hl (k := 6) rfl (nI_1 _) (by decide) rfl (fun ls hl => ?_)
              refine lv_goto (tgt := 15) hx hb d_Md_darkOf_90 (by decide) ?_
              simp only [eG_3, gs_uu] at hG
              exact IHlo (j + 1) m1 m2 m3 m4 (by omega) (by omega)  _ _ hG hS ls (lv_sub hl [1, 2, 3, 4, 5, 6, 0] rfl)
            · have hlti : u0 + i < u1 := cl_lt (by omega) hle c_4
              refine lv_aload_n hx hb d_Md_darkOf_55 rfl (lv_at hl 0 rfl) ?_
              refine lv_iload hx hb d_Md_darkOf_56 (lv_at hl 7 rfl) ?_
              refine lv_iload hx hb d_Md_darkOf_58 (lv_at hl 6 rfl) ?_
              refine lv_iload_n hx hb d_Md_darkOf_60 rfl (lv_at hl 2 rfl) ?_
              refine lv_iload_n hx hb d_Md_darkOf_61 rfl (lv_at hl 3 rfl) ?_
              refine lv_iload hx hb d_Md_darkOf_62 (lv_at hl 4 rfl) ?_
              refine gs_V (As := [.int (nI (u0 + i)), .int (nI (v0 + j)), .int (nI t), .int wo, .int le]) (rest := []) (k_Md_isDark l D k zb G_3 mo cB cT cS cL cW th wn hn nb nw bx tr su li wi m1 m2 m3 m4 t (nI (u0 + i)) (nI (v0 + j)) wo le ⟨hM9.1, hM9.2.1, hM9.2.2.1, hM9.2.2.2.1, hM9.2.2.2.2.1, hM9.2.2.2.2.2⟩ hnb ht24) E hml hl.1 (cg_V (C := R_Md) hw w_563 w_560 w_4 w_562 sel_Md_isDark hd_Md_isDark ⟨by exact Nat.le_of_ble_eq_true rfl, by exact Nat.le_of_ble_eq_true rfl⟩) hG hK hX hS hM9.1 rfl rfl rfl rfl (by exact Nat.le_of_ble_eq_true rfl) d_Md_darkOf_64 ⟨by exact Nat.le_of_ble_eq_true rfl, by exact Nat.le_of_ble_eq_true rfl⟩ (fun v G1 H locs hp hG hS => ?_)
              obtain ⟨hv1, n_5, n_6, n_7, n_8, hG1⟩ := hp
              subst hv1
              rw [hG1] at hG
              obtain ⟨G_9, eG_9⟩ : ∃ z, z = gs_u G_3 mo (.inr (4, [.int th, .int (nI wn), .int (nI hn), .int (nI nb), .ref cB, .ref cT, .ref cS, .ref cL, .int (nI nw), .ref cW, .long n_5, .long n_6, .long n_7, .long n_8])) := ⟨_, rfl⟩
              have hG : gs_W D classes zb G_9 H := by rw [eG_9]; exact hG
              have hc_10 : G_9 cB = some (aInt (k 0) 66 bx) := by rw [eG_9]; exact gs_keep hM9.2.1 hM9.1 (by simp)
              have hc_11 : G_9 cT = some (aInt (k 2) 11 tr) := by rw [eG_9]; exact gs_keep hM9.2.2.1 hM9.1 (by simp)
              have hc_12 : G_9 cS = some (aInt (k 0) 72 su) := by rw [eG_9]; exact gs_keep hM9.2.2.2.1 hM9.1 (by simp)
              have hc_13 : G_9 cL = some (aInt (k 0) 24 li) := by rw [eG_9]; exact gs_keep hM9.2.2.2.2.1 hM9.1 (by simp)
              have hc_14 : G_9 cW = some (aInt (k 0) 40 wi) := by rw [eG_9]; exact gs_keep hM9.2.2.2.2.2 hM9.1 (by simp)
              have hc_15 : G_9 mo = some (.inr (4, [.int th, .int (nI wn), .int (nI hn), .int (nI nb), .ref cB, .ref cT, .ref cS, .ref cL, .int (nI nw), .ref cW, .long n_5, .long n_6, .long n_7, .long n_8])) := by rw [eG_9]; exact gs_us _ _ _
              refine W.eq (g2 := F0 m 67 ls [.int (pI (jm_D bx tr su nb wo le t (nI (u0 + i)) (nI (v0 + j))))]) rfl ?_
              refine lv_if_eq (tgt := 77) hx hb d_Md_darkOf_67 (by decide) (fun c_16 => ?_) (fun c_16 => ?_)
              · refine lv_iload hx hb d_Md_darkOf_77 (lv_at hl 5 rfl) ?_
                refine lv_topE (show nI (cNN (fun j i => jm_D bx tr su nb wo le t (nI (u0 + i)) (nI (v0 + j))) (u1 - u0) j + cN ((fun j i => jm_D bx tr su nb wo le t (nI (u0 + i)) (nI (v0 + j))) j) i) = nI (cNN (fun j i => jm_D bx tr su nb wo le t (nI (u0 + i)) (nI (v0 + j))) (u1 - u0) j + cN ((fun j i => jm_D bx tr su nb wo le t (nI (u0 + i)) (nI (v0 + j))) j) (i + 1)) from cN_f (P := (fun j i => jm_D bx tr su nb wo le t (nI (u0 + i)) (nI (v0 + j))) j) c_16) ?_
                refine lv_istore (lv' := [(5, .int (nI (cNN (fun j i => jm_D bx tr su nb wo le t (nI (u0 + i)) (nI (v0 + j))) (u1 - u0) j + cN ((fun j i => jm_D bx tr su nb wo le t (nI (u0 + i)) (nI (v0 + j))) j) (i + 1)))), (0, .ref mo), (1, .int (nI iw)), (2, .int (nI t)), (3, .int wo), (4, .int le), (6, .int (nI (v0 + j))), (7, .int (nI (u0 + i)))]) hx hb d_Md_darkOf_79 hl (by decide) rfl (fun ls hl => ?_)
                refine lv_iinc (v := nI ((u0 + i) + 1)) (lv' := [(7, .int (nI ((u0 + i) + 1))), (5, .int (nI (cNN (fun j i => jm_D bx tr su nb wo le t (nI (u0 + i)) (nI (v0 + j))) (u1 - u0) j + cN ((fun j i => jm_D bx tr su nb wo le t (nI (u0 + i)) (nI (v0 + j))) j) (i + 1)))), (0, .ref mo), (1, .int (nI iw)), (2, .int (nI t)), (3, .int wo), (4, .int le), (6, .int (nI (v0 + j)))]) hx hb d_Md_darkOf_81 hl (k := 7) rfl (nI_1 _) (by decide) rfl (fun ls hl => ?_)
                refine lv_goto (tgt := 40) hx hb d_Md_darkOf_84 (by decide) ?_
                simp only [eG_9, eG_3, gs_uu] at hG
                exact IHli (i + 1) n_5 n_6 n_7 n_8 (by omega) (by omega)  _ _ hG hS ls (lv_sub hl [2, 3, 4, 5, 6, 1, 7, 0] rfl)
              · refine lv_iload hx hb d_Md_darkOf_70 (lv_at hl 5 rfl) ?_
                refine lv_iconst (v := 1) hx hb d_Md_darkOf_72 (by decide) ?_
                refine lv_iadd hx hb d_Md_darkOf_73 ?_
                refine lv_topE (show (nI (cNN (fun j i => jm_D bx tr su nb wo le t (nI (u0 + i)) (nI (v0 + j))) (u1 - u0) j + cN ((fun j i => jm_D bx tr su nb wo le t (nI (u0 + i)) (nI (v0 + j))) j) i)) + 1 = nI (cNN (fun j i => jm_D bx tr su nb wo le t (nI (u0 + i)) (nI (v0 + j))) (u1 - u0) j + cN ((fun j i => jm_D bx tr su nb wo le t (nI (u0 + i)) (nI (v0 + j))) j) i + 1) from nI_add (cNN (fun j i => jm_D bx tr su nb wo le t (nI (u0 + i)) (nI (v0 + j))) (u1 - u0) j + cN ((fun j i => jm_D bx tr su nb wo le t (nI (u0 + i)) (nI (v0 + j))) j) i) 1) ?_
                refine lv_goto (tgt := 79) hx hb d_Md_darkOf_74 (by decide) ?_
                refine lv_topE (show nI (cNN (fun j i => jm_D bx tr su nb wo le t (nI (u0 + i)) (nI (v0 + j))) (u1 - u0) j + cN ((fun j i => jm_D bx tr su nb wo le t (nI (u0 + i)) (nI (v0 + j))) j) i + 1) = nI (cNN (fun j i => jm_D bx tr su nb wo le t (nI (u0 + i)) (nI (v0 + j))) (u1 - u0) j + cN ((fun j i => jm_D bx tr su nb wo le t (nI (u0 + i)) (nI (v0 + j))) j) (i + 1)) from (nI_1 _).symm.trans (cN_t (P := (fun j i => jm_D bx tr su nb wo le t (nI (u0 + i)) (nI (v0 + j))) j) c_16)) ?_
                refine lv_istore (lv' := [(5, .int (nI (cNN (fun j i => jm_D bx tr su nb wo le t (nI (u0 + i)) (nI (v0 + j))) (u1 - u0) j + cN ((fun j i => jm_D bx tr su nb wo le t (nI (u0 + i)) (nI (v0 + j))) j) (i + 1)))), (0, .ref mo), (1, .int (nI iw)), (2, .int (nI t)), (3, .int wo), (4, .int le), (6, .int (nI (v0 + j))), (7, .int (nI (u0 + i)))]) hx hb d_Md_darkOf_79 hl (by decide) rfl (fun ls hl => ?_)
                refine lv_iinc (v := nI ((u0 + i) + 1)) (lv' := [(7, .int (nI ((u0 + i) + 1))), (5, .int (nI (cNN (fun j i => jm_D bx tr su nb wo le t (nI (u0 + i)) (nI (v0 + j))) (u1 - u0) j + cN ((fun j i => jm_D bx tr su nb wo le t (nI (u0 + i)) (nI (v0 + j))) j) (i + 1)))), (0, .ref mo), (1, .int (nI iw)), (2, .int (nI t)), (3, .int wo), (4, .int le), (6, .int (nI (v0 + j)))]) hx hb d_Md_darkOf_81 hl (k := 7) rfl (nI_1 _) (by decide) rfl (fun ls hl => ?_)
                refine lv_goto (tgt := 40) hx hb d_Md_darkOf_84 (by decide) ?_
                simp only [eG_9, eG_3, gs_uu] at hG
                exact IHli (i + 1) n_5 n_6 n_7 n_8 (by omega) (by omega)  _ _ hG hS ls (lv_sub hl [2, 3, 4, 5, 6, 1, 7, 0] rfl)
        exact li (u1 + 1) 0 m1 m2 m3 m4 (by omega) (by omega)  _ _ hG hS ls (lv_sub hl [1, 2, 3, 4, 5, 6, 7, 0] rfl)
  exact lo (v1 + 1) 0 l1 l2 l3 l4 (by omega) (by omega)  _ _ hG hS ls (lv_sub hl [2, 3, 4, 5, 6, 1, 0] rfl)
