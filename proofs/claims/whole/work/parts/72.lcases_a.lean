/-! the law's cases, by program -/
set_option maxHeartbeats 4000000 in
set_option maxRecDepth 100000 in
theorem lc_box {p : Program} {l : Launch} {e : Env} {s : State} {m : MethodId} {below : List Frame} {meth : Method} {c : Code} {Q : State → Prop} {D : va_G} {k : Nat → ClassId} {zb b L : Nat} {xs : Nat → Int32} (hnt : l.stackTraces = false) (E : gs_E p s m #[Value.ref b] c c_Lw_law wW R_Lw) (hml : c.maxLocals = 7) (hK : gs_K D k s) (hX : gs_X zb s s.heap) (hXs : va_X b L xs s s.heap) (hbl : b < s.heap.size) (hbz : b < zb) (hL : L ≤ 3586) {i o mo out : Nat} (hi : i + 7 ≤ L) {C9 S9 : Nat} (hC9 : C9 + 4 ≤ 659066) (hS9 : S9 + 25 ≤ 7118872) {G : Nat → Option va_E} {th : Int32} {ou : Nat → Int64} {H : Heap} {locs : List Loc} {ls : Array Slot} (hI : InvT k G o mo out th ou) (hG : gs_W D classes zb G H) (hS : gs_S zb s.heap H locs) (hl : lv_has ls 7 [(0, .ref b), (1, .ref o), (2, .ref mo), (3, .ref out), (4, .int (nI i))]) (hnext : ∀ (G2 : Nat → Option va_E) (th2 : Int32) (ou2 : Nat → Int64) (H2 : Heap) (locs2 : List Loc) (ls2 : Array Slot), InvT k G2 o mo out th2 ou2 → gs_W D classes zb G2 H2 → gs_S zb s.heap H2 locs2 → lv_has ls2 7 [(0, .ref b), (1, .ref o), (2, .ref mo), (3, .ref out), (4, .int (nI i))] → W p l e room_1 s m #[Value.ref b] below meth c H2 locs2 (C9 + 4) (S9 + 25) Q (F0 m 1307 ls2 [])) : W p l e room_1 s m #[Value.ref b] below meth c H locs C9 S9 Q (F0 m 136 ls []) := by
  obtain ⟨hx, hb, hw, hown⟩ := id E
  obtain ⟨aB, aW, aH, aS, aT, wn, hn, nb, nw, ba, wa, ha, bf, hf, wf, sh, tk, cB, cT, cS, cL, cW, bx, tr, su, li, wi, l1, l2, l3, l4, hC, hM, hv, hh, hwf, ho⟩ := hI
  refine lv_aload_n hx hb d_Lw_law_136 rfl (lv_at hl 1 rfl) ?_
  refine lv_aload_n hx hb d_Lw_law_137 rfl (lv_at hl 0 rfl) ?_
  refine lv_iload hx hb d_Lw_law_138 (lv_at hl 4 rfl) ?_
  refine lv_iconst (v := 1) hx hb d_Lw_law_140 (by decide) ?_
  refine lv_iadd hx hb d_Lw_law_141 ?_
  refine lv_topE (show (nI i) + 1 = nI (i + 1) from nI_add i 1) ?_
  refine va_sld hx hb hXs hbl (Nat.not_le.mpr hbz) hS (vp_in_nI (n := (i + 1)) (by omega) (by omega)) d_Lw_law_142 ?_
  refine lv_topE (show xs (nI (i + 1)).toNatClampNeg = xs (i + 1) from by rw [nI_clamp (by omega)]) ?_
  refine lv_aload_n hx hb d_Lw_law_143 rfl (lv_at hl 0 rfl) ?_
  refine lv_iload hx hb d_Lw_law_144 (lv_at hl 4 rfl) ?_
  refine lv_iconst (v := 2) hx hb d_Lw_law_146 (by decide) ?_
  refine lv_iadd hx hb d_Lw_law_147 ?_
  refine lv_topE (show (nI i) + 2 = nI (i + 2) from nI_add i 2) ?_
  refine va_sld hx hb hXs hbl (Nat.not_le.mpr hbz) hS (vp_in_nI (n := (i + 2)) (by omega) (by omega)) d_Lw_law_148 ?_
  refine lv_topE (show xs (nI (i + 2)).toNatClampNeg = xs (i + 2) from by rw [nI_clamp (by omega)]) ?_
  refine lv_aload_n hx hb d_Lw_law_149 rfl (lv_at hl 0 rfl) ?_
  refine lv_iload hx hb d_Lw_law_150 (lv_at hl 4 rfl) ?_
  refine lv_iconst (v := 3) hx hb d_Lw_law_152 (by decide) ?_
  refine lv_iadd hx hb d_Lw_law_153 ?_
  refine lv_topE (show (nI i) + 3 = nI (i + 3) from nI_add i 3) ?_
  refine va_sld hx hb hXs hbl (Nat.not_le.mpr hbz) hS (vp_in_nI (n := (i + 3)) (by omega) (by omega)) d_Lw_law_154 ?_
  refine lv_topE (show xs (nI (i + 3)).toNatClampNeg = xs (i + 3) from by rw [nI_clamp (by omega)]) ?_
  refine lv_aload_n hx hb d_Lw_law_155 rfl (lv_at hl 0 rfl) ?_
  refine lv_iload hx hb d_Lw_law_156 (lv_at hl 4 rfl) ?_
  refine lv_iconst (v := 4) hx hb d_Lw_law_158 (by decide) ?_
  refine lv_iadd hx hb d_Lw_law_159 ?_
  refine lv_topE (show (nI i) + 4 = nI (i + 4) from nI_add i 4) ?_
  refine va_sld hx hb hXs hbl (Nat.not_le.mpr hbz) hS (vp_in_nI (n := (i + 4)) (by omega) (by omega)) d_Lw_law_160 ?_
  refine lv_topE (show xs (nI (i + 4)).toNatClampNeg = xs (i + 4) from by rw [nI_clamp (by omega)]) ?_
  refine lv_aload_n hx hb d_Lw_law_161 rfl (lv_at hl 0 rfl) ?_
  refine lv_iload hx hb d_Lw_law_162 (lv_at hl 4 rfl) ?_
  refine lv_iconst (v := 5) hx hb d_Lw_law_164 (by decide) ?_
  refine lv_iadd hx hb d_Lw_law_165 ?_
  refine lv_topE (show (nI i) + 5 = nI (i + 5) from nI_add i 5) ?_
  refine va_sld hx hb hXs hbl (Nat.not_le.mpr hbz) hS (vp_in_nI (n := (i + 5)) (by omega) (by omega)) d_Lw_law_166 ?_
  refine lv_topE (show xs (nI (i + 5)).toNatClampNeg = xs (i + 5) from by rw [nI_clamp (by omega)]) ?_
  refine lv_aload_n hx hb d_Lw_law_167 rfl (lv_at hl 0 rfl) ?_
  refine lv_iload hx hb d_Lw_law_168 (lv_at hl 4 rfl) ?_
  refine lv_bipush (v := 6) hx hb d_Lw_law_170 (by decide) ?_
  refine lv_iadd hx hb d_Lw_law_172 ?_
  refine lv_topE (show (nI i) + 6 = nI (i + 6) from nI_add i 6) ?_
  refine va_sld hx hb hXs hbl (Nat.not_le.mpr hbz) hS (vp_in_nI (n := (i + 6)) (by omega) (by omega)) d_Lw_law_173 ?_
  refine lv_topE (show xs (nI (i + 6)).toNatClampNeg = xs (i + 6) from by rw [nI_clamp (by omega)]) ?_
  refine lv_aload_n hx hb d_Lw_law_174 rfl (lv_at hl 3 rfl) ?_
  refine gs_StW (As := [.ref o, .int (xs (i + 1)), .int (xs (i + 2)), .int (xs (i + 3)), .int (xs (i + 4)), .int (xs (i + 5)), .int (xs (i + 6)), .ref out]) (rest := []) (k_Lw_box l hnt D k zb G o aB aW aH aS aT wn hn nb nw ba wa ha bf hf wf sh tk out ou (xs (i + 1)) (xs (i + 2)) (xs (i + 3)) (xs (i + 4)) (xs (i + 5)) (xs (i + 6)) hC ho) E hml hl.1 (cg_SW hw w_93 w_91 w_0 w_92 hd_Lw_box ⟨by exact Nat.le_of_ble_eq_true rfl, by exact Nat.le_of_ble_eq_true rfl⟩) hG hK hX hS rfl rfl (by exact Nat.le_of_ble_eq_true rfl) d_Lw_law_175 ⟨Nat.le_trans (show C9 + 0 + 1 ≤ 659066 by omega) (by exact Nat.le_of_ble_eq_true rfl), Nat.le_trans (show S9 + 0 + 7 ≤ 7118872 by omega) (by exact Nat.le_of_ble_eq_true rfl)⟩ (fun v G1 H locs hp hG hS => ?_)
  obtain ⟨kk, hv1, hM1, hmid⟩ := mid_box hC hM hv hh hwf ho (k34 hK) hp
  subst hv1
  refine W.eq (g2 := F0 m 178 ls [.int kk]) rfl ?_
  refine lv_istore (lv' := [(5, .int kk), (0, .ref b), (1, .ref o), (2, .ref mo), (3, .ref out), (4, .int (nI i))]) hx hb d_Lw_law_178 hl (by decide) rfl (fun ls hl => ?_)
  refine lv_aload_n hx hb d_Lw_law_180 rfl (lv_at hl 3 rfl) ?_
  refine lv_aload_n hx hb d_Lw_law_181 rfl (lv_at hl 1 rfl) ?_
  refine lv_iload hx hb d_Lw_law_182 (lv_at hl 5 rfl) ?_
  refine lv_iconst (v := 1) hx hb d_Lw_law_184 (by decide) ?_
  refine lv_iadd hx hb d_Lw_law_185 ?_
  refine lv_topE (show (nI i) + 1 = nI (i + 1) from nI_add i 1) ?_
  refine va_sld hx hb hXs hbl (Nat.not_le.mpr hbz) hS (vp_in_nI (n := (i + 1)) (by omega) (by omega)) d_Lw_law_186 ?_
  refine lv_topE (show xs (nI (i + 1)).toNatClampNeg = xs (i + 1) from by rw [nI_clamp (by omega)]) ?_
  refine lv_aload_n hx hb d_Lw_law_187 rfl (lv_at hl 1 rfl) ?_
  refine lv_iload hx hb d_Lw_law_188 (lv_at hl 5 rfl) ?_
  refine lv_iconst (v := 2) hx hb d_Lw_law_190 (by decide) ?_
  refine lv_iadd hx hb d_Lw_law_191 ?_
  refine lv_topE (show (nI i) + 2 = nI (i + 2) from nI_add i 2) ?_
  refine va_sld hx hb hXs hbl (Nat.not_le.mpr hbz) hS (vp_in_nI (n := (i + 2)) (by omega) (by omega)) d_Lw_law_192 ?_
  refine lv_topE (show xs (nI (i + 2)).toNatClampNeg = xs (i + 2) from by rw [nI_clamp (by omega)]) ?_
  refine lv_aload_n hx hb d_Lw_law_193 rfl (lv_at hl 1 rfl) ?_
  refine lv_iload hx hb d_Lw_law_194 (lv_at hl 5 rfl) ?_
  refine lv_iconst (v := 3) hx hb d_Lw_law_196 (by decide) ?_
  refine lv_iadd hx hb d_Lw_law_197 ?_
  refine lv_topE (show (nI i) + 3 = nI (i + 3) from nI_add i 3) ?_
  refine va_sld hx hb hXs hbl (Nat.not_le.mpr hbz) hS (vp_in_nI (n := (i + 3)) (by omega) (by omega)) d_Lw_law_198 ?_
  refine lv_topE (show xs (nI (i + 3)).toNatClampNeg = xs (i + 3) from by rw [nI_clamp (by omega)]) ?_
  refine lv_aload_n hx hb d_Lw_law_199 rfl (lv_at hl 1 rfl) ?_
  refine lv_iload hx hb d_Lw_law_200 (lv_at hl 5 rfl) ?_
  refine lv_iconst (v := 4) hx hb d_Lw_law_202 (by decide) ?_
  refine lv_iadd hx hb d_Lw_law_203 ?_
  refine lv_topE (show (nI i) + 4 = nI (i + 4) from nI_add i 4) ?_
  refine va_sld hx hb hXs hbl (Nat.not_le.mpr hbz) hS (vp_in_nI (n := (i + 4)) (by omega) (by omega)) d_Lw_law_204 ?_
  refine lv_topE (show xs (nI (i + 4)).toNatClampNeg = xs (i + 4) from by rw [nI_clamp (by omega)]) ?_
  refine lv_aload_n hx hb d_Lw_law_205 rfl (lv_at hl 1 rfl) ?_
  refine lv_iload hx hb d_Lw_law_206 (lv_at hl 5 rfl) ?_
  refine lv_iconst (v := 5) hx hb d_Lw_law_208 (by decide) ?_
  refine lv_iadd hx hb d_Lw_law_209 ?_
  refine lv_topE (show (nI i) + 5 = nI (i + 5) from nI_add i 5) ?_
  refine va_sld hx hb hXs hbl (Nat.not_le.mpr hbz) hS (vp_in_nI (n := (i + 5)) (by omega) (by omega)) d_Lw_law_210 ?_
  refine lv_topE (show xs (nI (i + 5)).toNatClampNeg = xs (i + 5) from by rw [nI_clamp (by omega)]) ?_
  refine lv_aload_n hx hb d_Lw_law_211 rfl (lv_at hl 1 rfl) ?_
  refine lv_iload hx hb d_Lw_law_212 (lv_at hl 5 rfl) ?_
  refine lv_bipush (v := 6) hx hb d_Lw_law_214 (by decide) ?_
  refine lv_iadd hx hb d_Lw_law_216 ?_
  refine lv_topE (show (nI i) + 6 = nI (i + 6) from nI_add i 6) ?_
  refine va_sld hx hb hXs hbl (Nat.not_le.mpr hbz) hS (vp_in_nI (n := (i + 6)) (by omega) (by omega)) d_Lw_law_217 ?_
  refine lv_topE (show xs (nI (i + 6)).toNatClampNeg = xs (i + 6) from by rw [nI_clamp (by omega)]) ?_
  refine gs_V (As := [.int (xs (i + 1)), .int (xs (i + 2)), .int (xs (i + 3)), .int (xs (i + 4)), .int (xs (i + 5)), .int (xs (i + 6))]) (rest := []) (k_Md_box l D k zb G1 mo cB cT cS cL cW th wn hn nb nw bx tr su li wi l1 l2 l3 l4 (xs (i + 1)) (xs (i + 2)) (xs (i + 3)) (xs (i + 4)) (xs (i + 5)) (xs (i + 6)) hM1 hC.2.1.1 hC.2.1.2.1 ⟨hC.2.1.2.2.1, hC.2.1.2.2.2.1⟩ ⟨hC.2.1.2.2.2.2.1, hC.2.1.2.2.2.2.2⟩) E hml hl.1 (cg_V (C := R_Md) hw w_514 w_511 w_4 w_512 sel_Md_box hd_Md_box ⟨by exact Nat.le_of_ble_eq_true rfl, by exact Nat.le_of_ble_eq_true rfl⟩) hG hK hX hS hM1.1 rfl rfl rfl rfl (by exact Nat.le_of_ble_eq_true rfl) d_Lw_law_218 ⟨Nat.le_trans (show C9 + 1 + 0 ≤ 659066 by omega) (by exact Nat.le_of_ble_eq_true rfl), Nat.le_trans (show S9 + 7 + 0 ≤ 7118872 by omega) (by exact Nat.le_of_ble_eq_true rfl)⟩ (fun v G1 H locs hp hG hS => ?_)
  obtain ⟨r, ou2, hv2, hI2, hval⟩ := hmid _ _ hp
  subst hv2
  have hI3 := hI2
  obtain ⟨aB, aW, aH, aS, aT, wn, hn, nb, nw, ba, wa, ha, bf, hf, wf, sh, tk, cB, cT, cS, cL, cW, bx, tr, su, li, wi, l1, l2, l3, l4, hC, hM, hv, hh, hwf, ho⟩ := hI2
  refine W.eq (g2 := F0 m 221 ls [.int r]) rfl ?_
  refine lv_istore (lv' := [(6, .int r), (5, .int kk), (0, .ref b), (1, .ref o), (2, .ref mo), (3, .ref out), (4, .int (nI i))]) hx hb d_Lw_law_221 hl (by decide) rfl (fun ls hl => ?_)
  refine lv_aload_n hx hb d_Lw_law_223 rfl (lv_at hl 4 rfl) ?_
  refine gs_V (As := []) (rest := []) (k_Md_thrown l D k zb G1 mo cB cT cS cL cW kk wn hn nb nw bx tr su li wi l1 l2 l3 l4 hM) E hml hl.1 (cg_V (C := R_Md) hw w_510 w_507 w_4 w_508 sel_Md_thrown hd_Md_thrown ⟨by exact Nat.le_of_ble_eq_true rfl, by exact Nat.le_of_ble_eq_true rfl⟩) hG hK hX hS hM.1 rfl rfl rfl rfl (by exact Nat.le_of_ble_eq_true rfl) d_Lw_law_224 ⟨Nat.le_trans (show C9 + 1 + 0 ≤ 659066 by omega) (by exact Nat.le_of_ble_eq_true rfl), Nat.le_trans (show S9 + 7 + 0 ≤ 7118872 by omega) (by exact Nat.le_of_ble_eq_true rfl)⟩ (fun v G1 H locs hp hG hS => ?_)
  obtain ⟨hv1, hG1⟩ := hp
  subst hv1
  rw [hG1] at hG
  refine W.eq (g2 := F0 m 227 ls [.int kk]) rfl ?_
  refine lv_iload hx hb d_Lw_law_227 (lv_at hl 1 rfl) ?_
  refine lv_icmp_eq (tgt := 234) hx hb d_Lw_law_229 (by decide) (fun c_1 => ?_) (fun c_1 => ?_)
  · refine lv_iload hx hb d_Lw_law_234 (lv_at hl 1 rfl) ?_
    refine lv_if_ne (tgt := 251) hx hb d_Lw_law_236 (by decide) (fun c_2 => ?_) (fun c_2 => ?_)
    · refine lv_goto (tgt := 1307) hx hb d_Lw_law_251 (by decide) ?_
      refine W.widen (k := C9 + 4) (n := S9 + 25) (by show C9 + 1 ≤ C9 + 4; omega) (by show S9 + 7 ≤ S9 + 25; omega) ?_
      exact hnext _ kk ou2 _ _ ls hI3 hG hS (lv_sub hl [2, 3, 4, 5, 6] rfl)
    · refine lv_aload_n hx hb d_Lw_law_239 rfl (lv_at hl 5 rfl) ?_
      refine lv_iconst (v := 0) hx hb d_Lw_law_240 (by decide) ?_
      refine gn_lald E hK.1 hG ho 1 rfl (j := 0) (by decide) (by decide) d_Lw_law_241 ?_
      refine lv_iload hx hb d_Lw_law_242 (lv_at hl 0 rfl) ?_
      refine lv_i2l hx hb d_Lw_law_244 rfl ?_
      refine W.lcmp hx hb d_Lw_law_245 ?_
      refine lv_if_eq (tgt := 251) hx hb d_Lw_law_246 (by decide) (fun c_3 => ?_) (fun c_3 => ?_)
      · rw [lg_cmp_eq] at c_3
        refine lv_goto (tgt := 1307) hx hb d_Lw_law_251 (by decide) ?_
        refine W.widen (k := C9 + 4) (n := S9 + 25) (by show C9 + 1 ≤ C9 + 4; omega) (by show S9 + 7 ≤ S9 + 25; omega) ?_
        exact hnext _ kk ou2 _ _ ls hI3 hG hS (lv_sub hl [2, 3, 4, 5, 6] rfl)
      · rw [lg_cmp_eq] at c_3
        exact absurd (hval c_2) c_3
  · exact absurd rfl c_1
set_option maxHeartbeats 4000000 in
set_option maxRecDepth 100000 in
theorem lc_move {p : Program} {l : Launch} {e : Env} {s : State} {m : MethodId} {below : List Frame} {meth : Method} {c : Code} {Q : State → Prop} {D : va_G} {k : Nat → ClassId} {zb b L : Nat} {xs : Nat → Int32} (hnt : l.stackTraces = false) (E : gs_E p s m #[Value.ref b] c c_Lw_law wW R_Lw) (hml : c.maxLocals = 7) (hK : gs_K D k s) (hX : gs_X zb s s.heap) (hXs : va_X b L xs s s.heap) (hbl : b < s.heap.size) (hbz : b < zb) (hL : L ≤ 3586) {i o mo out : Nat} (hi : i + 7 ≤ L) {C9 S9 : Nat} (hC9 : C9 + 4 ≤ 659066) (hS9 : S9 + 25 ≤ 7118872) {G : Nat → Option va_E} {th : Int32} {ou : Nat → Int64} {H : Heap} {locs : List Loc} {ls : Array Slot} (hI : InvT k G o mo out th ou) (hG : gs_W D classes zb G H) (hS : gs_S zb s.heap H locs) (hl : lv_has ls 7 [(0, .ref b), (1, .ref o), (2, .ref mo), (3, .ref out), (4, .int (nI i))]) (hnext : ∀ (G2 : Nat → Option va_E) (th2 : Int32) (ou2 : Nat → Int64) (H2 : Heap) (locs2 : List Loc) (ls2 : Array Slot), InvT k G2 o mo out th2 ou2 → gs_W D classes zb G2 H2 → gs_S zb s.heap H2 locs2 → lv_has ls2 7 [(0, .ref b), (1, .ref o), (2, .ref mo), (3, .ref out), (4, .int (nI i))] → W p l e room_1 s m #[Value.ref b] below meth c H2 locs2 (C9 + 4) (S9 + 25) Q (F0 m 1307 ls2 [])) : W p l e room_1 s m #[Value.ref b] below meth c H locs C9 S9 Q (F0 m 254 ls []) := by
  obtain ⟨hx, hb, hw, hown⟩ := id E
  obtain ⟨aB, aW, aH, aS, aT, wn, hn, nb, nw, ba, wa, ha, bf, hf, wf, sh, tk, cB, cT, cS, cL, cW, bx, tr, su, li, wi, l1, l2, l3, l4, hC, hM, hv, hh, hwf, ho⟩ := hI
  refine lv_aload_n hx hb d_Lw_law_254 rfl (lv_at hl 1 rfl) ?_
  refine lv_aload_n hx hb d_Lw_law_255 rfl (lv_at hl 0 rfl) ?_
  refine lv_iload hx hb d_Lw_law_256 (lv_at hl 4 rfl) ?_
  refine lv_iconst (v := 1) hx hb d_Lw_law_258 (by decide) ?_
  refine lv_iadd hx hb d_Lw_law_259 ?_
  refine lv_topE (show (nI i) + 1 = nI (i + 1) from nI_add i 1) ?_
  refine va_sld hx hb hXs hbl (Nat.not_le.mpr hbz) hS (vp_in_nI (n := (i + 1)) (by omega) (by omega)) d_Lw_law_260 ?_
  refine lv_topE (show xs (nI (i + 1)).toNatClampNeg = xs (i + 1) from by rw [nI_clamp (by omega)]) ?_
  refine lv_aload_n hx hb d_Lw_law_261 rfl (lv_at hl 0 rfl) ?_
  refine lv_iload hx hb d_Lw_law_262 (lv_at hl 4 rfl) ?_
  refine lv_iconst (v := 2) hx hb d_Lw_law_264 (by decide) ?_
  refine lv_iadd hx hb d_Lw_law_265 ?_
  refine lv_topE (show (nI i) + 2 = nI (i + 2) from nI_add i 2) ?_
  refine va_sld hx hb hXs hbl (Nat.not_le.mpr hbz) hS (vp_in_nI (n := (i + 2)) (by omega) (by omega)) d_Lw_law_266 ?_
  refine lv_topE (show xs (nI (i + 2)).toNatClampNeg = xs (i + 2) from by rw [nI_clamp (by omega)]) ?_
  refine lv_aload_n hx hb d_Lw_law_267 rfl (lv_at hl 0 rfl) ?_
  refine lv_iload hx hb d_Lw_law_268 (lv_at hl 4 rfl) ?_
  refine lv_iconst (v := 3) hx hb d_Lw_law_270 (by decide) ?_
  refine lv_iadd hx hb d_Lw_law_271 ?_
  refine lv_topE (show (nI i) + 3 = nI (i + 3) from nI_add i 3) ?_
  refine va_sld hx hb hXs hbl (Nat.not_le.mpr hbz) hS (vp_in_nI (n := (i + 3)) (by omega) (by omega)) d_Lw_law_272 ?_
  refine lv_topE (show xs (nI (i + 3)).toNatClampNeg = xs (i + 3) from by rw [nI_clamp (by omega)]) ?_
  refine lv_aload_n hx hb d_Lw_law_273 rfl (lv_at hl 0 rfl) ?_
  refine lv_iload hx hb d_Lw_law_274 (lv_at hl 4 rfl) ?_
  refine lv_iconst (v := 4) hx hb d_Lw_law_276 (by decide) ?_
  refine lv_iadd hx hb d_Lw_law_277 ?_
  refine lv_topE (show (nI i) + 4 = nI (i + 4) from nI_add i 4) ?_
  refine va_sld hx hb hXs hbl (Nat.not_le.mpr hbz) hS (vp_in_nI (n := (i + 4)) (by omega) (by omega)) d_Lw_law_278 ?_
  refine lv_topE (show xs (nI (i + 4)).toNatClampNeg = xs (i + 4) from by rw [nI_clamp (by omega)]) ?_
  refine lv_aload_n hx hb d_Lw_law_279 rfl (lv_at hl 3 rfl) ?_
  refine gs_StW (As := [.ref o, .int (xs (i + 1)), .int (xs (i + 2)), .int (xs (i + 3)), .int (xs (i + 4)), .ref out]) (rest := []) (k_Lw_move l hnt D k zb G o aB aW aH aS aT wn hn nb nw ba wa ha bf hf wf sh tk out ou (xs (i + 1)) (xs (i + 2)) (xs (i + 3)) (xs (i + 4)) hC ho) E hml hl.1 (cg_SW hw w_217 w_215 w_0 w_216 hd_Lw_move ⟨by exact Nat.le_of_ble_eq_true rfl, by exact Nat.le_of_ble_eq_true rfl⟩) hG hK hX hS rfl rfl (by exact Nat.le_of_ble_eq_true rfl) d_Lw_law_280 ⟨Nat.le_trans (show C9 + 0 + 2 ≤ 659066 by omega) (by exact Nat.le_of_ble_eq_true rfl), Nat.le_trans (show S9 + 0 + 12 ≤ 7118872 by omega) (by exact Nat.le_of_ble_eq_true rfl)⟩ (fun v G1 H locs hp hG hS => ?_)
  obtain ⟨kk, hv1, hM1, hmid⟩ := mid_move hC hM hv hh hwf ho hp
  subst hv1
  refine W.eq (g2 := F0 m 283 ls [.int kk]) rfl ?_
  refine lv_istore (lv' := [(5, .int kk), (0, .ref b), (1, .ref o), (2, .ref mo), (3, .ref out), (4, .int (nI i))]) hx hb d_Lw_law_283 hl (by decide) rfl (fun ls hl => ?_)
  refine lv_aload_n hx hb d_Lw_law_285 rfl (lv_at hl 3 rfl) ?_
  refine lv_aload_n hx hb d_Lw_law_286 rfl (lv_at hl 1 rfl) ?_
  refine lv_iload hx hb d_Lw_law_287 (lv_at hl 5 rfl) ?_
  refine lv_iconst (v := 1) hx hb d_Lw_law_289 (by decide) ?_
  refine lv_iadd hx hb d_Lw_law_290 ?_
  refine lv_topE (show (nI i) + 1 = nI (i + 1) from nI_add i 1) ?_
  refine va_sld hx hb hXs hbl (Nat.not_le.mpr hbz) hS (vp_in_nI (n := (i + 1)) (by omega) (by omega)) d_Lw_law_291 ?_
  refine lv_topE (show xs (nI (i + 1)).toNatClampNeg = xs (i + 1) from by rw [nI_clamp (by omega)]) ?_
  refine lv_aload_n hx hb d_Lw_law_292 rfl (lv_at hl 1 rfl) ?_
  refine lv_iload hx hb d_Lw_law_293 (lv_at hl 5 rfl) ?_
  refine lv_iconst (v := 2) hx hb d_Lw_law_295 (by decide) ?_
  refine lv_iadd hx hb d_Lw_law_296 ?_
  refine lv_topE (show (nI i) + 2 = nI (i + 2) from nI_add i 2) ?_
  refine va_sld hx hb hXs hbl (Nat.not_le.mpr hbz) hS (vp_in_nI (n := (i + 2)) (by omega) (by omega)) d_Lw_law_297 ?_
  refine lv_topE (show xs (nI (i + 2)).toNatClampNeg = xs (i + 2) from by rw [nI_clamp (by omega)]) ?_
  refine lv_aload_n hx hb d_Lw_law_298 rfl (lv_at hl 1 rfl) ?_
  refine lv_iload hx hb d_Lw_law_299 (lv_at hl 5 rfl) ?_
  refine lv_iconst (v := 3) hx hb d_Lw_law_301 (by decide) ?_
  refine lv_iadd hx hb d_Lw_law_302 ?_
  refine lv_topE (show (nI i) + 3 = nI (i + 3) from nI_add i 3) ?_
  refine va_sld hx hb hXs hbl (Nat.not_le.mpr hbz) hS (vp_in_nI (n := (i + 3)) (by omega) (by omega)) d_Lw_law_303 ?_
  refine lv_topE (show xs (nI (i + 3)).toNatClampNeg = xs (i + 3) from by rw [nI_clamp (by omega)]) ?_
  refine lv_aload_n hx hb d_Lw_law_304 rfl (lv_at hl 1 rfl) ?_
  refine lv_iload hx hb d_Lw_law_305 (lv_at hl 5 rfl) ?_
  refine lv_iconst (v := 4) hx hb d_Lw_law_307 (by decide) ?_
  refine lv_iadd hx hb d_Lw_law_308 ?_
  refine lv_topE (show (nI i) + 4 = nI (i + 4) from nI_add i 4) ?_
  refine va_sld hx hb hXs hbl (Nat.not_le.mpr hbz) hS (vp_in_nI (n := (i + 4)) (by omega) (by omega)) d_Lw_law_309 ?_
  refine lv_topE (show xs (nI (i + 4)).toNatClampNeg = xs (i + 4) from by rw [nI_clamp (by omega)]) ?_
  refine gs_V (As := [.int (xs (i + 1)), .int (xs (i + 2)), .int (xs (i + 3)), .int (xs (i + 4))]) (rest := []) (k_Md_move l D k zb G1 mo cB cT cS cL cW th wn hn nb nw bx tr su li wi l1 l2 l3 l4 (xs (i + 1)) (xs (i + 2)) (xs (i + 3)) (xs (i + 4)) hM1 hC.2.1.1 hC.2.1.2.1 ⟨hC.2.1.2.2.1, hC.2.1.2.2.2.1⟩ ⟨hC.2.1.2.2.2.2.1, hC.2.1.2.2.2.2.2⟩ (fun i hi => (hv i hi).2.2)) E hml hl.1 (cg_V (C := R_Md) hw w_528 w_525 w_4 w_526 sel_Md_move hd_Md_move ⟨by exact Nat.le_of_ble_eq_true rfl, by exact Nat.le_of_ble_eq_true rfl⟩) hG hK hX hS hM1.1 rfl rfl rfl rfl (by exact Nat.le_of_ble_eq_true rfl) d_Lw_law_310 ⟨Nat.le_trans (show C9 + 2 + 0 ≤ 659066 by omega) (by exact Nat.le_of_ble_eq_true rfl), Nat.le_trans (show S9 + 12 + 0 ≤ 7118872 by omega) (by exact Nat.le_of_ble_eq_true rfl)⟩ (fun v G1 H locs hp hG hS => ?_)
  obtain ⟨r, ou2, hv2, hI2, hval⟩ := hmid _ _ hp
  subst hv2
  have hI3 := hI2
  obtain ⟨aB, aW, aH, aS, aT, wn, hn, nb, nw, ba, wa, ha, bf, hf, wf, sh, tk, cB, cT, cS, cL, cW, bx, tr, su, li, wi, l1, l2, l3, l4, hC, hM, hv, hh, hwf, ho⟩ := hI2
  refine W.eq (g2 := F0 m 313 ls [.int r]) rfl ?_
  refine lv_istore (lv' := [(6, .int r), (5, .int kk), (0, .ref b), (1, .ref o), (2, .ref mo), (3, .ref out), (4, .int (nI i))]) hx hb d_Lw_law_313 hl (by decide) rfl (fun ls hl => ?_)
  refine lv_aload_n hx hb d_Lw_law_315 rfl (lv_at hl 4 rfl) ?_
  refine gs_V (As := []) (rest := []) (k_Md_thrown l D k zb G1 mo cB cT cS cL cW kk wn hn nb nw bx tr su li wi l1 l2 l3 l4 hM) E hml hl.1 (cg_V (C := R_Md) hw w_510 w_507 w_4 w_508 sel_Md_thrown hd_Md_thrown ⟨by exact Nat.le_of_ble_eq_true rfl, by exact Nat.le_of_ble_eq_true rfl⟩) hG hK hX hS hM.1 rfl rfl rfl rfl (by exact Nat.le_of_ble_eq_true rfl) d_Lw_law_316 ⟨Nat.le_trans (show C9 + 2 + 0 ≤ 659066 by omega) (by exact Nat.le_of_ble_eq_true rfl), Nat.le_trans (show S9 + 12 + 0 ≤ 7118872 by omega) (by exact Nat.le_of_ble_eq_true rfl)⟩ (fun v G1 H locs hp hG hS => ?_)
  obtain ⟨hv1, hG1⟩ := hp
  subst hv1
  rw [hG1] at hG
  refine W.eq (g2 := F0 m 319 ls [.int kk]) rfl ?_
  refine lv_iload hx hb d_Lw_law_319 (lv_at hl 1 rfl) ?_
  refine lv_icmp_eq (tgt := 326) hx hb d_Lw_law_321 (by decide) (fun c_1 => ?_) (fun c_1 => ?_)
  · refine lv_iload hx hb d_Lw_law_326 (lv_at hl 1 rfl) ?_
    refine lv_if_ne (tgt := 350) hx hb d_Lw_law_328 (by decide) (fun c_2 => ?_) (fun c_2 => ?_)
    · refine lv_goto (tgt := 1307) hx hb d_Lw_law_350 (by decide) ?_
      refine W.widen (k := C9 + 4) (n := S9 + 25) (by show C9 + 2 ≤ C9 + 4; omega) (by show S9 + 12 ≤ S9 + 25; omega) ?_
      exact hnext _ kk ou2 _ _ ls hI3 hG hS (lv_sub hl [2, 3, 4, 5, 6] rfl)
    · refine lv_aload_n hx hb d_Lw_law_331 rfl (lv_at hl 5 rfl) ?_
      refine lv_iconst (v := 0) hx hb d_Lw_law_332 (by decide) ?_
      refine gn_lald E hK.1 hG ho 1 rfl (j := 0) (by decide) (by decide) d_Lw_law_333 ?_
      refine lv_iload hx hb d_Lw_law_334 (lv_at hl 0 rfl) ?_
      refine lv_if_eq (tgt := 343) hx hb d_Lw_law_336 (by decide) (fun c_3 => ?_) (fun c_3 => ?_)
      · refine lv_lconst (v := 0) hx hb d_Lw_law_343 (by decide) ?_
        refine W.lcmp hx hb d_Lw_law_344 ?_
        refine lv_if_eq (tgt := 350) hx hb d_Lw_law_345 (by decide) (fun c_4 => ?_) (fun c_4 => ?_)
        · rw [lg_cmp_eq] at c_4
          refine lv_goto (tgt := 1307) hx hb d_Lw_law_350 (by decide) ?_
          refine W.widen (k := C9 + 4) (n := S9 + 25) (by show C9 + 2 ≤ C9 + 4; omega) (by show S9 + 12 ≤ S9 + 25; omega) ?_
          exact hnext _ kk ou2 _ _ ls hI3 hG hS (lv_sub hl [2, 3, 4, 5, 6] rfl)
        · rw [lg_cmp_eq] at c_4
          exact absurd ((hval c_2).trans (if_pos c_3)) c_4
      · refine lv_lconst (v := 1) hx hb d_Lw_law_339 (by decide) ?_
        refine lv_goto (tgt := 344) hx hb d_Lw_law_340 (by decide) ?_
        refine W.lcmp hx hb d_Lw_law_344 ?_
        refine lv_if_eq (tgt := 350) hx hb d_Lw_law_345 (by decide) (fun c_5 => ?_) (fun c_5 => ?_)
        · rw [lg_cmp_eq] at c_5
          refine lv_goto (tgt := 1307) hx hb d_Lw_law_350 (by decide) ?_
          refine W.widen (k := C9 + 4) (n := S9 + 25) (by show C9 + 2 ≤ C9 + 4; omega) (by show S9 + 12 ≤ S9 + 25; omega) ?_
          exact hnext _ kk ou2 _ _ ls hI3 hG hS (lv_sub hl [2, 3, 4, 5, 6] rfl)
        · rw [lg_cmp_eq] at c_5
          exact absurd ((hval c_2).trans (if_neg c_3)) c_5
  · exact absurd rfl c_1
set_option maxHeartbeats 4000000 in
set_option maxRecDepth 100000 in
theorem lc_there {p : Program} {l : Launch} {e : Env} {s : State} {m : MethodId} {below : List Frame} {meth : Method} {c : Code} {Q : State → Prop} {D : va_G} {k : Nat → ClassId} {zb b L : Nat} {xs : Nat → Int32} (hnt : l.stackTraces = false) (E : gs_E p s m #[Value.ref b] c c_Lw_law wW R_Lw) (hml : c.maxLocals = 7) (hK : gs_K D k s) (hX : gs_X zb s s.heap) (hXs : va_X b L xs s s.heap) (hbl : b < s.heap.size) (hbz : b < zb) (hL : L ≤ 3586) {i o mo out : Nat} (hi : i + 7 ≤ L) {C9 S9 : Nat} (hC9 : C9 + 4 ≤ 659066) (hS9 : S9 + 25 ≤ 7118872) {G : Nat → Option va_E} {th : Int32} {ou : Nat → Int64} {H : Heap} {locs : List Loc} {ls : Array Slot} (hI : InvT k G o mo out th ou) (hG : gs_W D classes zb G H) (hS : gs_S zb s.heap H locs) (hl : lv_has ls 7 [(0, .ref b), (1, .ref o), (2, .ref mo), (3, .ref out), (4, .int (nI i))]) (hnext : ∀ (G2 : Nat → Option va_E) (th2 : Int32) (ou2 : Nat → Int64) (H2 : Heap) (locs2 : List Loc) (ls2 : Array Slot), InvT k G2 o mo out th2 ou2 → gs_W D classes zb G2 H2 → gs_S zb s.heap H2 locs2 → lv_has ls2 7 [(0, .ref b), (1, .ref o), (2, .ref mo), (3, .ref out), (4, .int (nI i))] → W p l e room_1 s m #[Value.ref b] below meth c H2 locs2 (C9 + 4) (S9 + 25) Q (F0 m 1307 ls2 [])) : W p l e room_1 s m #[Value.ref b] below meth c H locs C9 S9 Q (F0 m 353 ls []) := by
  obtain ⟨hx, hb, hw, hown⟩ := id E
  obtain ⟨aB, aW, aH, aS, aT, wn, hn, nb, nw, ba, wa, ha, bf, hf, wf, sh, tk, cB, cT, cS, cL, cW, bx, tr, su, li, wi, l1, l2, l3, l4, hC, hM, hv, hh, hwf, ho⟩ := hI
  refine lv_aload_n hx hb d_Lw_law_353 rfl (lv_at hl 1 rfl) ?_
  refine lv_aload_n hx hb d_Lw_law_354 rfl (lv_at hl 0 rfl) ?_
  refine lv_iload hx hb d_Lw_law_355 (lv_at hl 4 rfl) ?_
  refine lv_iconst (v := 1) hx hb d_Lw_law_357 (by decide) ?_
  refine lv_iadd hx hb d_Lw_law_358 ?_
  refine lv_topE (show (nI i) + 1 = nI (i + 1) from nI_add i 1) ?_
  refine va_sld hx hb hXs hbl (Nat.not_le.mpr hbz) hS (vp_in_nI (n := (i + 1)) (by omega) (by omega)) d_Lw_law_359 ?_
  refine lv_topE (show xs (nI (i + 1)).toNatClampNeg = xs (i + 1) from by rw [nI_clamp (by omega)]) ?_
  refine lv_aload_n hx hb d_Lw_law_360 rfl (lv_at hl 0 rfl) ?_
  refine lv_iload hx hb d_Lw_law_361 (lv_at hl 4 rfl) ?_
  refine lv_iconst (v := 2) hx hb d_Lw_law_363 (by decide) ?_
  refine lv_iadd hx hb d_Lw_law_364 ?_
  refine lv_topE (show (nI i) + 2 = nI (i + 2) from nI_add i 2) ?_
  refine va_sld hx hb hXs hbl (Nat.not_le.mpr hbz) hS (vp_in_nI (n := (i + 2)) (by omega) (by omega)) d_Lw_law_365 ?_
  refine lv_topE (show xs (nI (i + 2)).toNatClampNeg = xs (i + 2) from by rw [nI_clamp (by omega)]) ?_
  refine lv_if_eq (tgt := 373) hx hb d_Lw_law_366 (by decide) (fun c_1 => ?_) (fun c_1 => ?_)
  · refine lv_iconst (v := 0) hx hb d_Lw_law_373 (by decide) ?_
    refine lv_aload_n hx hb d_Lw_law_374 rfl (lv_at hl 3 rfl) ?_
    refine gs_StW (As := [.ref o, .int (xs (i + 1)), .int 0, .ref out]) (rest := []) (k_Lw_there l hnt D k zb G o aB aW aH aS aT wn hn nb nw ba wa ha bf hf wf sh tk out ou (xs (i + 1)) 0 hC ho (Or.inl rfl) (fun i hi => by obtain ⟨⟨-, -, -, -, -, -, e6⟩, -, h01⟩ := hv i hi; rw [e6]; exact h01)) E hml hl.1 (cg_SW hw w_238 w_236 w_0 w_237 hd_Lw_there ⟨by exact Nat.le_of_ble_eq_true rfl, by exact Nat.le_of_ble_eq_true rfl⟩) hG hK hX hS rfl rfl (by exact Nat.le_of_ble_eq_true rfl) d_Lw_law_375 ⟨Nat.le_trans (show C9 + 0 + 1 ≤ 659066 by omega) (by exact Nat.le_of_ble_eq_true rfl), Nat.le_trans (show S9 + 0 + 6 ≤ 7118872 by omega) (by exact Nat.le_of_ble_eq_true rfl)⟩ (fun v G1 H locs hp hG hS => ?_)
    obtain ⟨kk, hv1, hM1, hmid⟩ := mid_there hC hM hv hh hwf ho (Or.inl rfl) hp
    subst hv1
    refine W.eq (g2 := F0 m 378 ls [.int kk]) rfl ?_
    refine lv_istore (lv' := [(5, .int kk), (0, .ref b), (1, .ref o), (2, .ref mo), (3, .ref out), (4, .int (nI i))]) hx hb d_Lw_law_378 hl (by decide) rfl (fun ls hl => ?_)
    refine lv_aload_n hx hb d_Lw_law_380 rfl (lv_at hl 3 rfl) ?_
    refine lv_aload_n hx hb d_Lw_law_381 rfl (lv_at hl 1 rfl) ?_
    refine lv_iload hx hb d_Lw_law_382 (lv_at hl 5 rfl) ?_
    refine lv_iconst (v := 1) hx hb d_Lw_law_384 (by decide) ?_
    refine lv_iadd hx hb d_Lw_law_385 ?_
    refine lv_topE (show (nI i) + 1 = nI (i + 1) from nI_add i 1) ?_
    refine va_sld hx hb hXs hbl (Nat.not_le.mpr hbz) hS (vp_in_nI (n := (i + 1)) (by omega) (by omega)) d_Lw_law_386 ?_
    refine lv_topE (show xs (nI (i + 1)).toNatClampNeg = xs (i + 1) from by rw [nI_clamp (by omega)]) ?_
    refine lv_aload_n hx hb d_Lw_law_387 rfl (lv_at hl 1 rfl) ?_
    refine lv_iload hx hb d_Lw_law_388 (lv_at hl 5 rfl) ?_
    refine lv_iconst (v := 2) hx hb d_Lw_law_390 (by decide) ?_
    refine lv_iadd hx hb d_Lw_law_391 ?_
    refine lv_topE (show (nI i) + 2 = nI (i + 2) from nI_add i 2) ?_
    refine va_sld hx hb hXs hbl (Nat.not_le.mpr hbz) hS (vp_in_nI (n := (i + 2)) (by omega) (by omega)) d_Lw_law_392 ?_
    refine lv_topE (show xs (nI (i + 2)).toNatClampNeg = xs (i + 2) from by rw [nI_clamp (by omega)]) ?_
    refine lv_if_eq (tgt := 400) hx hb d_Lw_law_393 (by decide) (fun c_2 => ?_) (fun c_2 => ?_)
    · refine lv_iconst (v := 0) hx hb d_Lw_law_400 (by decide) ?_
      refine gs_V (As := [.int (xs (i + 1)), .int 0]) (rest := []) (k_Md_there l D k zb G1 mo cB cT cS cL cW th wn hn nb nw bx tr su li wi l1 l2 l3 l4 (xs (i + 1)) 0 hM1 hC.2.1.1 hC.2.1.2.1 ⟨hC.2.1.2.2.1, hC.2.1.2.2.2.1⟩ ⟨hC.2.1.2.2.2.2.1, hC.2.1.2.2.2.2.2⟩ (Or.inl rfl) (fun i hi => (hv i hi).2.2)) E hml hl.1 (cg_V (C := R_Md) hw w_536 w_533 w_4 w_534 sel_Md_there hd_Md_there ⟨by exact Nat.le_of_ble_eq_true rfl, by exact Nat.le_of_ble_eq_true rfl⟩) hG hK hX hS hM1.1 rfl rfl rfl rfl (by exact Nat.le_of_ble_eq_true rfl) d_Lw_law_401 ⟨Nat.le_trans (show C9 + 1 + 0 ≤ 659066 by omega) (by exact Nat.le_of_ble_eq_true rfl), Nat.le_trans (show S9 + 6 + 0 ≤ 7118872 by omega) (by exact Nat.le_of_ble_eq_true rfl)⟩ (fun v G1 H locs hp hG hS => ?_)
      obtain ⟨r, ou2, hv2, hI2, hval⟩ := hmid _ _ hp
      subst hv2
      have hI3 := hI2
      obtain ⟨aB, aW, aH, aS, aT, wn, hn, nb, nw, ba, wa, ha, bf, hf, wf, sh, tk, cB, cT, cS, cL, cW, bx, tr, su, li, wi, l1, l2, l3, l4, hC, hM, hv, hh, hwf, ho⟩ := hI2
      refine W.eq (g2 := F0 m 404 ls [.int r]) rfl ?_
      refine lv_istore (lv' := [(6, .int r), (5, .int kk), (0, .ref b), (1, .ref o), (2, .ref mo), (3, .ref out), (4, .int (nI i))]) hx hb d_Lw_law_404 hl (by decide) rfl (fun ls hl => ?_)
      refine lv_aload_n hx hb d_Lw_law_406 rfl (lv_at hl 4 rfl) ?_
      refine gs_V (As := []) (rest := []) (k_Md_thrown l D k zb G1 mo cB cT cS cL cW kk wn hn nb nw bx tr su li wi l1 l2 l3 l4 hM) E hml hl.1 (cg_V (C := R_Md) hw w_510 w_507 w_4 w_508 sel_Md_thrown hd_Md_thrown ⟨by exact Nat.le_of_ble_eq_true rfl, by exact Nat.le_of_ble_eq_true rfl⟩) hG hK hX hS hM.1 rfl rfl rfl rfl (by exact Nat.le_of_ble_eq_true rfl) d_Lw_law_407 ⟨Nat.le_trans (show C9 + 1 + 0 ≤ 659066 by omega) (by exact Nat.le_of_ble_eq_true rfl), Nat.le_trans (show S9 + 6 + 0 ≤ 7118872 by omega) (by exact Nat.le_of_ble_eq_true rfl)⟩ (fun v G1 H locs hp hG hS => ?_)
      obtain ⟨hv1, hG1⟩ := hp
      subst hv1
      rw [hG1] at hG
      refine W.eq (g2 := F0 m 410 ls [.int kk]) rfl ?_
      refine lv_iload hx hb d_Lw_law_410 (lv_at hl 1 rfl) ?_
      refine lv_icmp_eq (tgt := 417) hx hb d_Lw_law_412 (by decide) (fun c_3 => ?_) (fun c_3 => ?_)
      · refine lv_iload hx hb d_Lw_law_417 (lv_at hl 1 rfl) ?_
        refine lv_if_ne (tgt := 441) hx hb d_Lw_law_419 (by decide) (fun c_4 => ?_) (fun c_4 => ?_)
        · refine lv_goto (tgt := 1307) hx hb d_Lw_law_441 (by decide) ?_
          refine W.widen (k := C9 + 4) (n := S9 + 25) (by show C9 + 1 ≤ C9 + 4; omega) (by show S9 + 6 ≤ S9 + 25; omega) ?_
          exact hnext _ kk ou2 _ _ ls hI3 hG hS (lv_sub hl [2, 3, 4, 5, 6] rfl)
        · refine lv_aload_n hx hb d_Lw_law_422 rfl (lv_at hl 5 rfl) ?_
          refine lv_iconst (v := 0) hx hb d_Lw_law_423 (by decide) ?_
          refine gn_lald E hK.1 hG ho 1 rfl (j := 0) (by decide) (by decide) d_Lw_law_424 ?_
          refine lv_iload hx hb d_Lw_law_425 (lv_at hl 0 rfl) ?_
          refine lv_if_eq (tgt := 434) hx hb d_Lw_law_427 (by decide) (fun c_5 => ?_) (fun c_5 => ?_)
          · refine lv_lconst (v := 0) hx hb d_Lw_law_434 (by decide) ?_
            refine W.lcmp hx hb d_Lw_law_435 ?_
            refine lv_if_eq (tgt := 441) hx hb d_Lw_law_436 (by decide) (fun c_6 => ?_) (fun c_6 => ?_)
            · rw [lg_cmp_eq] at c_6
              refine lv_goto (tgt := 1307) hx hb d_Lw_law_441 (by decide) ?_
              refine W.widen (k := C9 + 4) (n := S9 + 25) (by show C9 + 1 ≤ C9 + 4; omega) (by show S9 + 6 ≤ S9 + 25; omega) ?_
              exact hnext _ kk ou2 _ _ ls hI3 hG hS (lv_sub hl [2, 3, 4, 5, 6] rfl)
            · rw [lg_cmp_eq] at c_6
              exact absurd ((hval c_4).trans (if_pos c_5)) c_6
          · refine lv_lconst (v := 1) hx hb d_Lw_law_430 (by decide) ?_
            refine lv_goto (tgt := 435) hx hb d_Lw_law_431 (by decide) ?_
            refine W.lcmp hx hb d_Lw_law_435 ?_
            refine lv_if_eq (tgt := 441) hx hb d_Lw_law_436 (by decide) (fun c_7 => ?_) (fun c_7 => ?_)
            · rw [lg_cmp_eq] at c_7
              refine lv_goto (tgt := 1307) hx hb d_Lw_law_441 (by decide) ?_
              refine W.widen (k := C9 + 4) (n := S9 + 25) (by show C9 + 1 ≤ C9 + 4; omega) (by show S9 + 6 ≤ S9 + 25; omega) ?_
              exact hnext _ kk ou2 _ _ ls hI3 hG hS (lv_sub hl [2, 3, 4, 5, 6] rfl)
            · rw [lg_cmp_eq] at c_7
              exact absurd ((hval c_4).trans (if_neg c_5)) c_7
      · exact absurd rfl c_3
    · exact absurd c_1 c_2
  · refine lv_iconst (v := 1) hx hb d_Lw_law_369 (by decide) ?_
    refine lv_goto (tgt := 374) hx hb d_Lw_law_370 (by decide) ?_
    refine lv_aload_n hx hb d_Lw_law_374 rfl (lv_at hl 3 rfl) ?_
    refine gs_StW (As := [.ref o, .int (xs (i + 1)), .int 1, .ref out]) (rest := []) (k_Lw_there l hnt D k zb G o aB aW aH aS aT wn hn nb nw ba wa ha bf hf wf sh tk out ou (xs (i + 1)) 1 hC ho (Or.inr rfl) (fun i hi => by obtain ⟨⟨-, -, -, -, -, -, e6⟩, -, h01⟩ := hv i hi; rw [e6]; exact h01)) E hml hl.1 (cg_SW hw w_238 w_236 w_0 w_237 hd_Lw_there ⟨by exact Nat.le_of_ble_eq_true rfl, by exact Nat.le_of_ble_eq_true rfl⟩) hG hK hX hS rfl rfl (by exact Nat.le_of_ble_eq_true rfl) d_Lw_law_375 ⟨Nat.le_trans (show C9 + 0 + 1 ≤ 659066 by omega) (by exact Nat.le_of_ble_eq_true rfl), Nat.le_trans (show S9 + 0 + 6 ≤ 7118872 by omega) (by exact Nat.le_of_ble_eq_true rfl)⟩ (fun v G1 H locs hp hG hS => ?_)
    obtain ⟨kk, hv1, hM1, hmid⟩ := mid_there hC hM hv hh hwf ho (Or.inr rfl) hp
    subst hv1
    refine W.eq (g2 := F0 m 378 ls [.int kk]) rfl ?_
    refine lv_istore (lv' := [(5, .int kk), (0, .ref b), (1, .ref o), (2, .ref mo), (3, .ref out), (4, .int (nI i))]) hx hb d_Lw_law_378 hl (by decide) rfl (fun ls hl => ?_)
    refine lv_aload_n hx hb d_Lw_law_380 rfl (lv_at hl 3 rfl) ?_
    refine lv_aload_n hx hb d_Lw_law_381 rfl (lv_at hl 1 rfl) ?_
    refine lv_iload hx hb d_Lw_law_382 (lv_at hl 5 rfl) ?_
    refine lv_iconst (v := 1) hx hb d_Lw_law_384 (by decide) ?_
    refine lv_iadd hx hb d_Lw_law_385 ?_
    refine lv_topE (show (nI i) + 1 = nI (i + 1) from nI_add i 1) ?_
    refine va_sld hx hb hXs hbl (Nat.not_le.mpr hbz) hS (vp_in_nI (n := (i + 1)) (by omega) (by omega)) d_Lw_law_386 ?_
    refine lv_topE (show xs (nI (i + 1)).toNatClampNeg = xs (i + 1) from by rw [nI_clamp (by omega)]) ?_
    refine lv_aload_n hx hb d_Lw_law_387 rfl (lv_at hl 1 rfl) ?_
    refine lv_iload hx hb d_Lw_law_388 (lv_at hl 5 rfl) ?_
    refine lv_iconst (v := 2) hx hb d_Lw_law_390 (by decide) ?_
    refine lv_iadd hx hb d_Lw_law_391 ?_
    refine lv_topE (show (nI i) + 2 = nI (i + 2) from nI_add i 2) ?_
    refine va_sld hx hb hXs hbl (Nat.not_le.mpr hbz) hS (vp_in_nI (n := (i + 2)) (by omega) (by omega)) d_Lw_law_392 ?_
    refine lv_topE (show xs (nI (i + 2)).toNatClampNeg = xs (i + 2) from by rw [nI_clamp (by omega)]) ?_
    refine lv_if_eq (tgt := 400) hx hb d_Lw_law_393 (by decide) (fun c_8 => ?_) (fun c_8 => ?_)
    · exact absurd c_8 c_1
    · refine lv_iconst (v := 1) hx hb d_Lw_law_396 (by decide) ?_
      refine lv_goto (tgt := 401) hx hb d_Lw_law_397 (by decide) ?_
      refine gs_V (As := [.int (xs (i + 1)), .int 1]) (rest := []) (k_Md_there l D k zb G1 mo cB cT cS cL cW th wn hn nb nw bx tr su li wi l1 l2 l3 l4 (xs (i + 1)) 1 hM1 hC.2.1.1 hC.2.1.2.1 ⟨hC.2.1.2.2.1, hC.2.1.2.2.2.1⟩ ⟨hC.2.1.2.2.2.2.1, hC.2.1.2.2.2.2.2⟩ (Or.inr rfl) (fun i hi => (hv i hi).2.2)) E hml hl.1 (cg_V (C := R_Md) hw w_536 w_533 w_4 w_534 sel_Md_there hd_Md_there ⟨by exact Nat.le_of_ble_eq_true rfl, by exact Nat.le_of_ble_eq_true rfl⟩) hG hK hX hS hM1.1 rfl rfl rfl rfl (by exact Nat.le_of_ble_eq_true rfl) d_Lw_law_401 ⟨Nat.le_trans (show C9 + 1 + 0 ≤ 659066 by omega) (by exact Nat.le_of_ble_eq_true rfl), Nat.le_trans (show S9 + 6 + 0 ≤ 7118872 by omega) (by exact Nat.le_of_ble_eq_true rfl)⟩ (fun v G1 H locs hp hG hS => ?_)
      obtain ⟨r, ou2, hv2, hI2, hval⟩ := hmid _ _ hp
      subst hv2
      have hI3 := hI2
      obtain ⟨aB, aW, aH, aS, aT, wn, hn, nb, nw, ba, wa, ha, bf, hf, wf, sh, tk, cB, cT, cS, cL, cW, bx, tr, su, li, wi, l1, l2, l3, l4, hC, hM, hv, hh, hwf, ho⟩ := hI2
      refine W.eq (g2 := F0 m 404 ls [.int r]) rfl ?_
      refine lv_istore (lv' := [(6, .int r), (5, .int kk), (0, .ref b), (1, .ref o), (2, .ref mo), (3, .ref out), (4, .int (nI i))]) hx hb d_Lw_law_404 hl (by decide) rfl (fun ls hl => ?_)
      refine lv_aload_n hx hb d_Lw_law_406 rfl (lv_at hl 4 rfl) ?_
      refine gs_V (As := []) (rest := []) (k_Md_thrown l D k zb G1 mo cB cT cS cL cW kk wn hn nb nw bx tr su li wi l1 l2 l3 l4 hM) E hml hl.1 (cg_V (C := R_Md) hw w_510 w_507 w_4 w_508 sel_Md_thrown hd_Md_thrown ⟨by exact Nat.le_of_ble_eq_true rfl, by exact Nat.le_of_ble_eq_true rfl⟩) hG hK hX hS hM.1 rfl rfl rfl rfl (by exact Nat.le_of_ble_eq_true rfl) d_Lw_law_407 ⟨Nat.le_trans (show C9 + 1 + 0 ≤ 659066 by omega) (by exact Nat.le_of_ble_eq_true rfl), Nat.le_trans (show S9 + 6 + 0 ≤ 7118872 by omega) (by exact Nat.le_of_ble_eq_true rfl)⟩ (fun v G1 H locs hp hG hS => ?_)
      obtain ⟨hv1, hG1⟩ := hp
      subst hv1
      rw [hG1] at hG
      refine W.eq (g2 := F0 m 410 ls [.int kk]) rfl ?_
      refine lv_iload hx hb d_Lw_law_410 (lv_at hl 1 rfl) ?_
      refine lv_icmp_eq (tgt := 417) hx hb d_Lw_law_412 (by decide) (fun c_9 => ?_) (fun c_9 => ?_)
      · refine lv_iload hx hb d_Lw_law_417 (lv_at hl 1 rfl) ?_
        refine lv_if_ne (tgt := 441) hx hb d_Lw_law_419 (by decide) (fun c_10 => ?_) (fun c_10 => ?_)
        · refine lv_goto (tgt := 1307) hx hb d_Lw_law_441 (by decide) ?_
          refine W.widen (k := C9 + 4) (n := S9 + 25) (by show C9 + 1 ≤ C9 + 4; omega) (by show S9 + 6 ≤ S9 + 25; omega) ?_
          exact hnext _ kk ou2 _ _ ls hI3 hG hS (lv_sub hl [2, 3, 4, 5, 6] rfl)
        · refine lv_aload_n hx hb d_Lw_law_422 rfl (lv_at hl 5 rfl) ?_
          refine lv_iconst (v := 0) hx hb d_Lw_law_423 (by decide) ?_
          refine gn_lald E hK.1 hG ho 1 rfl (j := 0) (by decide) (by decide) d_Lw_law_424 ?_
          refine lv_iload hx hb d_Lw_law_425 (lv_at hl 0 rfl) ?_
          refine lv_if_eq (tgt := 434) hx hb d_Lw_law_427 (by decide) (fun c_11 => ?_) (fun c_11 => ?_)
          · refine lv_lconst (v := 0) hx hb d_Lw_law_434 (by decide) ?_
            refine W.lcmp hx hb d_Lw_law_435 ?_
            refine lv_if_eq (tgt := 441) hx hb d_Lw_law_436 (by decide) (fun c_12 => ?_) (fun c_12 => ?_)
            · rw [lg_cmp_eq] at c_12
              refine lv_goto (tgt := 1307) hx hb d_Lw_law_441 (by decide) ?_
              refine W.widen (k := C9 + 4) (n := S9 + 25) (by show C9 + 1 ≤ C9 + 4; omega) (by show S9 + 6 ≤ S9 + 25; omega) ?_
              exact hnext _ kk ou2 _ _ ls hI3 hG hS (lv_sub hl [2, 3, 4, 5, 6] rfl)
            · rw [lg_cmp_eq] at c_12
              exact absurd ((hval c_10).trans (if_pos c_11)) c_12
          · refine lv_lconst (v := 1) hx hb d_Lw_law_430 (by decide) ?_
            refine lv_goto (tgt := 435) hx hb d_Lw_law_431 (by decide) ?_
            refine W.lcmp hx hb d_Lw_law_435 ?_
            refine lv_if_eq (tgt := 441) hx hb d_Lw_law_436 (by decide) (fun c_13 => ?_) (fun c_13 => ?_)
            · rw [lg_cmp_eq] at c_13
              refine lv_goto (tgt := 1307) hx hb d_Lw_law_441 (by decide) ?_
              refine W.widen (k := C9 + 4) (n := S9 + 25) (by show C9 + 1 ≤ C9 + 4; omega) (by show S9 + 6 ≤ S9 + 25; omega) ?_
              exact hnext _ kk ou2 _ _ ls hI3 hG hS (lv_sub hl [2, 3, 4, 5, 6] rfl)
            · rw [lg_cmp_eq] at c_13
              exact absurd ((hval c_10).trans (if_neg c_11)) c_13
      · exact absurd rfl c_9
set_option maxHeartbeats 4000000 in
set_option maxRecDepth 100000 in
theorem lc_sun {p : Program} {l : Launch} {e : Env} {s : State} {m : MethodId} {below : List Frame} {meth : Method} {c : Code} {Q : State → Prop} {D : va_G} {k : Nat → ClassId} {zb b L : Nat} {xs : Nat → Int32} (hnt : l.stackTraces = false) (E : gs_E p s m #[Value.ref b] c c_Lw_law wW R_Lw) (hml : c.maxLocals = 7) (hK : gs_K D k s) (hX : gs_X zb s s.heap) (hXs : va_X b L xs s s.heap) (hbl : b < s.heap.size) (hbz : b < zb) (hL : L ≤ 3586) {i o mo out : Nat} (hi : i + 7 ≤ L) {C9 S9 : Nat} (hC9 : C9 + 4 ≤ 659066) (hS9 : S9 + 25 ≤ 7118872) {G : Nat → Option va_E} {th : Int32} {ou : Nat → Int64} {H : Heap} {locs : List Loc} {ls : Array Slot} (hI : InvT k G o mo out th ou) (hG : gs_W D classes zb G H) (hS : gs_S zb s.heap H locs) (hl : lv_has ls 7 [(0, .ref b), (1, .ref o), (2, .ref mo), (3, .ref out), (4, .int (nI i))]) (hnext : ∀ (G2 : Nat → Option va_E) (th2 : Int32) (ou2 : Nat → Int64) (H2 : Heap) (locs2 : List Loc) (ls2 : Array Slot), InvT k G2 o mo out th2 ou2 → gs_W D classes zb G2 H2 → gs_S zb s.heap H2 locs2 → lv_has ls2 7 [(0, .ref b), (1, .ref o), (2, .ref mo), (3, .ref out), (4, .int (nI i))] → W p l e room_1 s m #[Value.ref b] below meth c H2 locs2 (C9 + 4) (S9 + 25) Q (F0 m 1307 ls2 [])) : W p l e room_1 s m #[Value.ref b] below meth c H locs C9 S9 Q (F0 m 444 ls []) := by
  obtain ⟨hx, hb, hw, hown⟩ := id E
  obtain ⟨aB, aW, aH, aS, aT, wn, hn, nb, nw, ba, wa, ha, bf, hf, wf, sh, tk, cB, cT, cS, cL, cW, bx, tr, su, li, wi, l1, l2, l3, l4, hC, hM, hv, hh, hwf, ho⟩ := hI
  refine lv_aload_n hx hb d_Lw_law_444 rfl (lv_at hl 1 rfl) ?_
  refine lv_aload_n hx hb d_Lw_law_445 rfl (lv_at hl 0 rfl) ?_
  refine lv_iload hx hb d_Lw_law_446 (lv_at hl 4 rfl) ?_
  refine lv_iconst (v := 1) hx hb d_Lw_law_448 (by decide) ?_
  refine lv_iadd hx hb d_Lw_law_449 ?_
  refine lv_topE (show (nI i) + 1 = nI (i + 1) from nI_add i 1) ?_
  refine va_sld hx hb hXs hbl (Nat.not_le.mpr hbz) hS (vp_in_nI (n := (i + 1)) (by omega) (by omega)) d_Lw_law_450 ?_
  refine lv_topE (show xs (nI (i + 1)).toNatClampNeg = xs (i + 1) from by rw [nI_clamp (by omega)]) ?_
  refine lv_aload_n hx hb d_Lw_law_451 rfl (lv_at hl 0 rfl) ?_
  refine lv_iload hx hb d_Lw_law_452 (lv_at hl 4 rfl) ?_
  refine lv_iconst (v := 2) hx hb d_Lw_law_454 (by decide) ?_
  refine lv_iadd hx hb d_Lw_law_455 ?_
  refine lv_topE (show (nI i) + 2 = nI (i + 2) from nI_add i 2) ?_
  refine va_sld hx hb hXs hbl (Nat.not_le.mpr hbz) hS (vp_in_nI (n := (i + 2)) (by omega) (by omega)) d_Lw_law_456 ?_
  refine lv_topE (show xs (nI (i + 2)).toNatClampNeg = xs (i + 2) from by rw [nI_clamp (by omega)]) ?_
  refine lv_aload_n hx hb d_Lw_law_457 rfl (lv_at hl 0 rfl) ?_
  refine lv_iload hx hb d_Lw_law_458 (lv_at hl 4 rfl) ?_
  refine lv_iconst (v := 3) hx hb d_Lw_law_460 (by decide) ?_
  refine lv_iadd hx hb d_Lw_law_461 ?_
  refine lv_topE (show (nI i) + 3 = nI (i + 3) from nI_add i 3) ?_
  refine va_sld hx hb hXs hbl (Nat.not_le.mpr hbz) hS (vp_in_nI (n := (i + 3)) (by omega) (by omega)) d_Lw_law_462 ?_
  refine lv_topE (show xs (nI (i + 3)).toNatClampNeg = xs (i + 3) from by rw [nI_clamp (by omega)]) ?_
  refine lv_aload_n hx hb d_Lw_law_463 rfl (lv_at hl 0 rfl) ?_
  refine lv_iload hx hb d_Lw_law_464 (lv_at hl 4 rfl) ?_
  refine lv_iconst (v := 4) hx hb d_Lw_law_466 (by decide) ?_
  refine lv_iadd hx hb d_Lw_law_467 ?_
  refine lv_topE (show (nI i) + 4 = nI (i + 4) from nI_add i 4) ?_
  refine va_sld hx hb hXs hbl (Nat.not_le.mpr hbz) hS (vp_in_nI (n := (i + 4)) (by omega) (by omega)) d_Lw_law_468 ?_
  refine lv_topE (show xs (nI (i + 4)).toNatClampNeg = xs (i + 4) from by rw [nI_clamp (by omega)]) ?_
  refine gs_StW (As := [.ref o, .int (xs (i + 1)), .int (xs (i + 2)), .int (xs (i + 3)), .int (xs (i + 4))]) (rest := []) (k_Lw_sun l hnt D k zb G o aB aW aH aS aT wn hn nb nw ba wa ha bf hf wf sh tk out ou (xs (i + 1)) (xs (i + 2)) (xs (i + 3)) (xs (i + 4)) hC ho) E hml hl.1 (cg_SW hw w_245 w_243 w_0 w_244 hd_Lw_sun ⟨by exact Nat.le_of_ble_eq_true rfl, by exact Nat.le_of_ble_eq_true rfl⟩) hG hK hX hS rfl rfl (by exact Nat.le_of_ble_eq_true rfl) d_Lw_law_469 ⟨Nat.le_trans (show C9 + 0 + 2 ≤ 659066 by omega) (by exact Nat.le_of_ble_eq_true rfl), Nat.le_trans (show S9 + 0 + 12 ≤ 7118872 by omega) (by exact Nat.le_of_ble_eq_true rfl)⟩ (fun v G1 H locs hp hG hS => ?_)
  obtain ⟨kk, hv1, hM1, hmid⟩ := mid_sun hC hM hv hh hwf ho hp
  subst hv1
  refine W.eq (g2 := F0 m 472 ls [.int kk]) rfl ?_
  refine lv_istore (lv' := [(5, .int kk), (0, .ref b), (1, .ref o), (2, .ref mo), (3, .ref out), (4, .int (nI i))]) hx hb d_Lw_law_472 hl (by decide) rfl (fun ls hl => ?_)
  refine lv_aload_n hx hb d_Lw_law_474 rfl (lv_at hl 3 rfl) ?_
  refine lv_aload_n hx hb d_Lw_law_475 rfl (lv_at hl 1 rfl) ?_
  refine lv_iload hx hb d_Lw_law_476 (lv_at hl 5 rfl) ?_
  refine lv_iconst (v := 1) hx hb d_Lw_law_478 (by decide) ?_
  refine lv_iadd hx hb d_Lw_law_479 ?_
  refine lv_topE (show (nI i) + 1 = nI (i + 1) from nI_add i 1) ?_
  refine va_sld hx hb hXs hbl (Nat.not_le.mpr hbz) hS (vp_in_nI (n := (i + 1)) (by omega) (by omega)) d_Lw_law_480 ?_
  refine lv_topE (show xs (nI (i + 1)).toNatClampNeg = xs (i + 1) from by rw [nI_clamp (by omega)]) ?_
  refine lv_aload_n hx hb d_Lw_law_481 rfl (lv_at hl 1 rfl) ?_
  refine lv_iload hx hb d_Lw_law_482 (lv_at hl 5 rfl) ?_
  refine lv_iconst (v := 2) hx hb d_Lw_law_484 (by decide) ?_
  refine lv_iadd hx hb d_Lw_law_485 ?_
  refine lv_topE (show (nI i) + 2 = nI (i + 2) from nI_add i 2) ?_
  refine va_sld hx hb hXs hbl (Nat.not_le.mpr hbz) hS (vp_in_nI (n := (i + 2)) (by omega) (by omega)) d_Lw_law_486 ?_
  refine lv_topE (show xs (nI (i + 2)).toNatClampNeg = xs (i + 2) from by rw [nI_clamp (by omega)]) ?_
  refine lv_aload_n hx hb d_Lw_law_487 rfl (lv_at hl 1 rfl) ?_
  refine lv_iload hx hb d_Lw_law_488 (lv_at hl 5 rfl) ?_
  refine lv_iconst (v := 3) hx hb d_Lw_law_490 (by decide) ?_
  refine lv_iadd hx hb d_Lw_law_491 ?_
  refine lv_topE (show (nI i) + 3 = nI (i + 3) from nI_add i 3) ?_
  refine va_sld hx hb hXs hbl (Nat.not_le.mpr hbz) hS (vp_in_nI (n := (i + 3)) (by omega) (by omega)) d_Lw_law_492 ?_
  refine lv_topE (show xs (nI (i + 3)).toNatClampNeg = xs (i + 3) from by rw [nI_clamp (by omega)]) ?_
  refine lv_aload_n hx hb d_Lw_law_493 rfl (lv_at hl 1 rfl) ?_
  refine lv_iload hx hb d_Lw_law_494 (lv_at hl 5 rfl) ?_
  refine lv_iconst (v := 4) hx hb d_Lw_law_496 (by decide) ?_
  refine lv_iadd hx hb d_Lw_law_497 ?_
  refine lv_topE (show (nI i) + 4 = nI (i + 4) from nI_add i 4) ?_
  refine va_sld hx hb hXs hbl (Nat.not_le.mpr hbz) hS (vp_in_nI (n := (i + 4)) (by omega) (by omega)) d_Lw_law_498 ?_
  refine lv_topE (show xs (nI (i + 4)).toNatClampNeg = xs (i + 4) from by rw [nI_clamp (by omega)]) ?_
  refine gs_V (As := [.int (xs (i + 1)), .int (xs (i + 2)), .int (xs (i + 3)), .int (xs (i + 4))]) (rest := []) (k_Md_sun l D k zb G1 mo cB cT cS cL cW th wn hn nb nw bx tr su li wi l1 l2 l3 l4 (xs (i + 1)) (xs (i + 2)) (xs (i + 3)) (xs (i + 4)) hM1 hC.2.1.1 hC.2.1.2.1 ⟨hC.2.1.2.2.1, hC.2.1.2.2.2.1⟩ ⟨hC.2.1.2.2.2.2.1, hC.2.1.2.2.2.2.2⟩) E hml hl.1 (cg_V (C := R_Md) hw w_540 w_537 w_4 w_538 sel_Md_sun hd_Md_sun ⟨by exact Nat.le_of_ble_eq_true rfl, by exact Nat.le_of_ble_eq_true rfl⟩) hG hK hX hS hM1.1 rfl rfl rfl rfl (by exact Nat.le_of_ble_eq_true rfl) d_Lw_law_499 ⟨Nat.le_trans (show C9 + 2 + 0 ≤ 659066 by omega) (by exact Nat.le_of_ble_eq_true rfl), Nat.le_trans (show S9 + 12 + 0 ≤ 7118872 by omega) (by exact Nat.le_of_ble_eq_true rfl)⟩ (fun v G1 H locs hp hG hS => ?_)
  obtain ⟨ou2, hv2, hI2⟩ := hmid _ _ hp
  subst hv2
  have hI3 := hI2
  obtain ⟨aB, aW, aH, aS, aT, wn, hn, nb, nw, ba, wa, ha, bf, hf, wf, sh, tk, cB, cT, cS, cL, cW, bx, tr, su, li, wi, l1, l2, l3, l4, hC, hM, hv, hh, hwf, ho⟩ := hI2
  refine W.eq (g2 := F0 m 502 ls []) rfl ?_
  refine lv_aload_n hx hb d_Lw_law_502 rfl (lv_at hl 3 rfl) ?_
  refine gs_V (As := []) (rest := []) (k_Md_thrown l D k zb G1 mo cB cT cS cL cW kk wn hn nb nw bx tr su li wi l1 l2 l3 l4 hM) E hml hl.1 (cg_V (C := R_Md) hw w_510 w_507 w_4 w_508 sel_Md_thrown hd_Md_thrown ⟨by exact Nat.le_of_ble_eq_true rfl, by exact Nat.le_of_ble_eq_true rfl⟩) hG hK hX hS hM.1 rfl rfl rfl rfl (by exact Nat.le_of_ble_eq_true rfl) d_Lw_law_503 ⟨Nat.le_trans (show C9 + 2 + 0 ≤ 659066 by omega) (by exact Nat.le_of_ble_eq_true rfl), Nat.le_trans (show S9 + 12 + 0 ≤ 7118872 by omega) (by exact Nat.le_of_ble_eq_true rfl)⟩ (fun v G1 H locs hp hG hS => ?_)
  obtain ⟨hv1, hG1⟩ := hp
  subst hv1
  rw [hG1] at hG
  refine W.eq (g2 := F0 m 506 ls [.int kk]) rfl ?_
  refine lv_iload hx hb d_Lw_law_506 (lv_at hl 0 rfl) ?_
  refine lv_icmp_eq (tgt := 513) hx hb d_Lw_law_508 (by decide) (fun c_1 => ?_) (fun c_1 => ?_)
  · refine lv_goto (tgt := 1307) hx hb d_Lw_law_513 (by decide) ?_
    refine W.widen (k := C9 + 4) (n := S9 + 25) (by show C9 + 2 ≤ C9 + 4; omega) (by show S9 + 12 ≤ S9 + 25; omega) ?_
    exact hnext _ kk ou2 _ _ ls hI3 hG hS (lv_sub hl [1, 2, 3, 4, 5] rfl)
  · exact absurd rfl c_1
set_option maxHeartbeats 4000000 in
set_option maxRecDepth 100000 in
theorem lc_light {p : Program} {l : Launch} {e : Env} {s : State} {m : MethodId} {below : List Frame} {meth : Method} {c : Code} {Q : State → Prop} {D : va_G} {k : Nat → ClassId} {zb b L : Nat} {xs : Nat → Int32} (hnt : l.stackTraces = false) (E : gs_E p s m #[Value.ref b] c c_Lw_law wW R_Lw) (hml : c.maxLocals = 7) (hK : gs_K D k s) (hX : gs_X zb s s.heap) (hXs : va_X b L xs s s.heap) (hbl : b < s.heap.size) (hbz : b < zb) (hL : L ≤ 3586) {i o mo out : Nat} (hi : i + 7 ≤ L) {C9 S9 : Nat} (hC9 : C9 + 4 ≤ 659066) (hS9 : S9 + 25 ≤ 7118872) {G : Nat → Option va_E} {th : Int32} {ou : Nat → Int64} {H : Heap} {locs : List Loc} {ls : Array Slot} (hI : InvT k G o mo out th ou) (hG : gs_W D classes zb G H) (hS : gs_S zb s.heap H locs) (hl : lv_has ls 7 [(0, .ref b), (1, .ref o), (2, .ref mo), (3, .ref out), (4, .int (nI i))]) (hnext : ∀ (G2 : Nat → Option va_E) (th2 : Int32) (ou2 : Nat → Int64) (H2 : Heap) (locs2 : List Loc) (ls2 : Array Slot), InvT k G2 o mo out th2 ou2 → gs_W D classes zb G2 H2 → gs_S zb s.heap H2 locs2 → lv_has ls2 7 [(0, .ref b), (1, .ref o), (2, .ref mo), (3, .ref out), (4, .int (nI i))] → W p l e room_1 s m #[Value.ref b] below meth c H2 locs2 (C9 + 4) (S9 + 25) Q (F0 m 1307 ls2 [])) : W p l e room_1 s m #[Value.ref b] below meth c H locs C9 S9 Q (F0 m 516 ls []) := by
  obtain ⟨hx, hb, hw, hown⟩ := id E
  obtain ⟨aB, aW, aH, aS, aT, wn, hn, nb, nw, ba, wa, ha, bf, hf, wf, sh, tk, cB, cT, cS, cL, cW, bx, tr, su, li, wi, l1, l2, l3, l4, hC, hM, hv, hh, hwf, ho⟩ := hI
  refine lv_aload_n hx hb d_Lw_law_516 rfl (lv_at hl 1 rfl) ?_
  refine lv_aload_n hx hb d_Lw_law_517 rfl (lv_at hl 0 rfl) ?_
  refine lv_iload hx hb d_Lw_law_518 (lv_at hl 4 rfl) ?_
  refine lv_iconst (v := 1) hx hb d_Lw_law_520 (by decide) ?_
  refine lv_iadd hx hb d_Lw_law_521 ?_
  refine lv_topE (show (nI i) + 1 = nI (i + 1) from nI_add i 1) ?_
  refine va_sld hx hb hXs hbl (Nat.not_le.mpr hbz) hS (vp_in_nI (n := (i + 1)) (by omega) (by omega)) d_Lw_law_522 ?_
  refine lv_topE (show xs (nI (i + 1)).toNatClampNeg = xs (i + 1) from by rw [nI_clamp (by omega)]) ?_
  refine lv_aload_n hx hb d_Lw_law_523 rfl (lv_at hl 0 rfl) ?_
  refine lv_iload hx hb d_Lw_law_524 (lv_at hl 4 rfl) ?_
  refine lv_iconst (v := 2) hx hb d_Lw_law_526 (by decide) ?_
  refine lv_iadd hx hb d_Lw_law_527 ?_
  refine lv_topE (show (nI i) + 2 = nI (i + 2) from nI_add i 2) ?_
  refine va_sld hx hb hXs hbl (Nat.not_le.mpr hbz) hS (vp_in_nI (n := (i + 2)) (by omega) (by omega)) d_Lw_law_528 ?_
  refine lv_topE (show xs (nI (i + 2)).toNatClampNeg = xs (i + 2) from by rw [nI_clamp (by omega)]) ?_
  refine lv_aload_n hx hb d_Lw_law_529 rfl (lv_at hl 3 rfl) ?_
  refine gs_StW (As := [.ref o, .int (xs (i + 1)), .int (xs (i + 2)), .ref out]) (rest := []) (k_Lw_light l hnt D k zb G o aB aW aH aS aT wn hn nb nw ba wa ha bf hf wf sh tk out ou (xs (i + 1)) (xs (i + 2)) hC ho) E hml hl.1 (cg_SW hw w_258 w_256 w_0 w_257 hd_Lw_light ⟨by exact Nat.le_of_ble_eq_true rfl, by exact Nat.le_of_ble_eq_true rfl⟩) hG hK hX hS rfl rfl (by exact Nat.le_of_ble_eq_true rfl) d_Lw_law_530 ⟨Nat.le_trans (show C9 + 0 + 2 ≤ 659066 by omega) (by exact Nat.le_of_ble_eq_true rfl), Nat.le_trans (show S9 + 0 + 12 ≤ 7118872 by omega) (by exact Nat.le_of_ble_eq_true rfl)⟩ (fun v G1 H locs hp hG hS => ?_)
  obtain ⟨kk, hv1, hM1, hmid⟩ := mid_light hC hM hv hh hwf ho hp
  subst hv1
  refine W.eq (g2 := F0 m 533 ls [.int kk]) rfl ?_
  refine lv_istore (lv' := [(5, .int kk), (0, .ref b), (1, .ref o), (2, .ref mo), (3, .ref out), (4, .int (nI i))]) hx hb d_Lw_law_533 hl (by decide) rfl (fun ls hl => ?_)
  refine lv_aload_n hx hb d_Lw_law_535 rfl (lv_at hl 3 rfl) ?_
  refine lv_aload_n hx hb d_Lw_law_536 rfl (lv_at hl 1 rfl) ?_
  refine lv_iload hx hb d_Lw_law_537 (lv_at hl 5 rfl) ?_
  refine lv_iconst (v := 1) hx hb d_Lw_law_539 (by decide) ?_
  refine lv_iadd hx hb d_Lw_law_540 ?_
  refine lv_topE (show (nI i) + 1 = nI (i + 1) from nI_add i 1) ?_
  refine va_sld hx hb hXs hbl (Nat.not_le.mpr hbz) hS (vp_in_nI (n := (i + 1)) (by omega) (by omega)) d_Lw_law_541 ?_
  refine lv_topE (show xs (nI (i + 1)).toNatClampNeg = xs (i + 1) from by rw [nI_clamp (by omega)]) ?_
  refine lv_aload_n hx hb d_Lw_law_542 rfl (lv_at hl 1 rfl) ?_
  refine lv_iload hx hb d_Lw_law_543 (lv_at hl 5 rfl) ?_
  refine lv_iconst (v := 2) hx hb d_Lw_law_545 (by decide) ?_
  refine lv_iadd hx hb d_Lw_law_546 ?_
  refine lv_topE (show (nI i) + 2 = nI (i + 2) from nI_add i 2) ?_
  refine va_sld hx hb hXs hbl (Nat.not_le.mpr hbz) hS (vp_in_nI (n := (i + 2)) (by omega) (by omega)) d_Lw_law_547 ?_
  refine lv_topE (show xs (nI (i + 2)).toNatClampNeg = xs (i + 2) from by rw [nI_clamp (by omega)]) ?_
  refine gs_V (As := [.int (xs (i + 1)), .int (xs (i + 2))]) (rest := []) (k_Md_light l D k zb G1 mo cB cT cS cL cW th wn hn nb nw bx tr su li wi l1 l2 l3 l4 (xs (i + 1)) (xs (i + 2)) hM1 hC.2.1.1 hC.2.1.2.1 ⟨hC.2.1.2.2.1, hC.2.1.2.2.2.1⟩ ⟨hC.2.1.2.2.2.2.1, hC.2.1.2.2.2.2.2⟩) E hml hl.1 (cg_V (C := R_Md) hw w_547 w_544 w_4 w_545 sel_Md_light hd_Md_light ⟨by exact Nat.le_of_ble_eq_true rfl, by exact Nat.le_of_ble_eq_true rfl⟩) hG hK hX hS hM1.1 rfl rfl rfl rfl (by exact Nat.le_of_ble_eq_true rfl) d_Lw_law_548 ⟨Nat.le_trans (show C9 + 2 + 0 ≤ 659066 by omega) (by exact Nat.le_of_ble_eq_true rfl), Nat.le_trans (show S9 + 12 + 0 ≤ 7118872 by omega) (by exact Nat.le_of_ble_eq_true rfl)⟩ (fun v G1 H locs hp hG hS => ?_)
  obtain ⟨r, ou2, hv2, hI2, hval⟩ := hmid _ _ hp
  subst hv2
  have hI3 := hI2
  obtain ⟨aB, aW, aH, aS, aT, wn, hn, nb, nw, ba, wa, ha, bf, hf, wf, sh, tk, cB, cT, cS, cL, cW, bx, tr, su, li, wi, l1, l2, l3, l4, hC, hM, hv, hh, hwf, ho⟩ := hI2
  refine W.eq (g2 := F0 m 551 ls [.int r]) rfl ?_
  refine lv_istore (lv' := [(6, .int r), (5, .int kk), (0, .ref b), (1, .ref o), (2, .ref mo), (3, .ref out), (4, .int (nI i))]) hx hb d_Lw_law_551 hl (by decide) rfl (fun ls hl => ?_)
  refine lv_aload_n hx hb d_Lw_law_553 rfl (lv_at hl 4 rfl) ?_
  refine gs_V (As := []) (rest := []) (k_Md_thrown l D k zb G1 mo cB cT cS cL cW kk wn hn nb nw bx tr su li wi l1 l2 l3 l4 hM) E hml hl.1 (cg_V (C := R_Md) hw w_510 w_507 w_4 w_508 sel_Md_thrown hd_Md_thrown ⟨by exact Nat.le_of_ble_eq_true rfl, by exact Nat.le_of_ble_eq_true rfl⟩) hG hK hX hS hM.1 rfl rfl rfl rfl (by exact Nat.le_of_ble_eq_true rfl) d_Lw_law_554 ⟨Nat.le_trans (show C9 + 2 + 0 ≤ 659066 by omega) (by exact Nat.le_of_ble_eq_true rfl), Nat.le_trans (show S9 + 12 + 0 ≤ 7118872 by omega) (by exact Nat.le_of_ble_eq_true rfl)⟩ (fun v G1 H locs hp hG hS => ?_)
  obtain ⟨hv1, hG1⟩ := hp
  subst hv1
  rw [hG1] at hG
  refine W.eq (g2 := F0 m 557 ls [.int kk]) rfl ?_
  refine lv_iload hx hb d_Lw_law_557 (lv_at hl 1 rfl) ?_
  refine lv_icmp_eq (tgt := 564) hx hb d_Lw_law_559 (by decide) (fun c_1 => ?_) (fun c_1 => ?_)
  · refine lv_iload hx hb d_Lw_law_564 (lv_at hl 1 rfl) ?_
    refine lv_if_ne (tgt := 581) hx hb d_Lw_law_566 (by decide) (fun c_2 => ?_) (fun c_2 => ?_)
    · refine lv_goto (tgt := 1307) hx hb d_Lw_law_581 (by decide) ?_
      refine W.widen (k := C9 + 4) (n := S9 + 25) (by show C9 + 2 ≤ C9 + 4; omega) (by show S9 + 12 ≤ S9 + 25; omega) ?_
      exact hnext _ kk ou2 _ _ ls hI3 hG hS (lv_sub hl [2, 3, 4, 5, 6] rfl)
    · refine lv_aload_n hx hb d_Lw_law_569 rfl (lv_at hl 5 rfl) ?_
      refine lv_iconst (v := 0) hx hb d_Lw_law_570 (by decide) ?_
      refine gn_lald E hK.1 hG ho 1 rfl (j := 0) (by decide) (by decide) d_Lw_law_571 ?_
      refine lv_iload hx hb d_Lw_law_572 (lv_at hl 0 rfl) ?_
      refine lv_i2l hx hb d_Lw_law_574 rfl ?_
      refine W.lcmp hx hb d_Lw_law_575 ?_
      refine lv_if_eq (tgt := 581) hx hb d_Lw_law_576 (by decide) (fun c_3 => ?_) (fun c_3 => ?_)
      · rw [lg_cmp_eq] at c_3
        refine lv_goto (tgt := 1307) hx hb d_Lw_law_581 (by decide) ?_
        refine W.widen (k := C9 + 4) (n := S9 + 25) (by show C9 + 2 ≤ C9 + 4; omega) (by show S9 + 12 ≤ S9 + 25; omega) ?_
        exact hnext _ kk ou2 _ _ ls hI3 hG hS (lv_sub hl [2, 3, 4, 5, 6] rfl)
      · rw [lg_cmp_eq] at c_3
        exact absurd (hval c_2) c_3
  · exact absurd rfl c_1
