/-! the law's loop -/
set_option maxHeartbeats 4000000 in
set_option maxRecDepth 100000 in
theorem law_loop {p : Program} {l : Launch} {e : Env} {s : State} {m : MethodId} {below : List Frame} {meth : Method} {c : Code} {D : va_G} {k : Nat → ClassId} {zb b L : Nat} {xs : Nat → Int32} (hnt : l.stackTraces = false) (E : gs_E p s m #[Value.ref b] c c_Lw_law wW R_Lw) (hml : c.maxLocals = 7) (hK : gs_K D k s) (hX : gs_X zb s s.heap) (hXs : va_X b L xs s s.heap) (hbl : b < s.heap.size) (hbz : b < zb) (hL : L ≤ 3586) (hzb : s.heap.size ≤ zb) (hr : meth.sig.returnType = ret) (hlocks : meth.locks = false) {o mo out : Nat} : ∀ (fu i : Nat) (G : Nat → Option va_E) (th : Int32) (ou : Nat → Int64) (H : Heap) (locs : List Loc) (ls : Array Slot), i ≤ L + 7 → L + 8 ≤ i + fu → InvT k G o mo out th ou → gs_W D classes zb G H → gs_S zb s.heap H locs → lv_has ls 7 [(0, .ref b), (1, .ref o), (2, .ref mo), (3, .ref out), (4, .int (nI i))] → W p l e room_1 s m #[Value.ref b] below meth c H locs (100 + 4 * i) (1000 + 25 * i) (lw_Z below #[Value.ref b] s) (F0 m 43 ls []) := by
  intro fu
  induction fu with
  | zero => intro i G th ou H locs ls hle hfu; omega
  | succ fu ih =>
    intro i G th ou H locs ls hle hfu hI hG hS hl
    obtain ⟨hx, hb, hw, hown⟩ := id E
    refine lv_iload hx hb d_Lw_law_43 (lv_at hl 4 rfl) ?_
    refine lv_aload_n hx hb d_Lw_law_45 rfl (lv_at hl 0 rfl) ?_
    refine va_slen hx hb hXs hbl (Nat.not_le.mpr hbz) hS d_Lw_law_46 ?_
    refine W.eq (g2 := F0 m 47 ls [.int (nI L), .int (nI i)]) rfl ?_
    refine lv_bipush (v := 7) hx hb d_Lw_law_47 (by decide) ?_
    refine lv_isub hx hb d_Lw_law_49 ?_
    refine lv_icmp_gt (tgt := 1313) hx hb d_Lw_law_50 (by decide) (fun c_1 => ?_) (fun c_1 => ?_)
    · refine lv_iconst (v := 1) hx hb d_Lw_law_1313 (by decide) ?_
      refine W.widen (k := 659066) (n := 7118872) (by omega) (by omega) ?_
      refine va_forget (fun q hq => Nat.le_trans hzb (hS.2.2 q hq)) ?_
      exact lw_ret hx hb hr hlocks d_Lw_law_1314
    · have hlt : i + 7 ≤ L := l7 hL (by omega) c_1
      refine lv_aload_n hx hb d_Lw_law_53 rfl (lv_at hl 0 rfl) ?_
      refine lv_iload hx hb d_Lw_law_54 (lv_at hl 4 rfl) ?_
      refine va_sld hx hb hXs hbl (Nat.not_le.mpr hbz) hS (vp_in_nI (n := i) (by omega) (by omega)) d_Lw_law_56 ?_
      refine lv_topE (show xs (nI i).toNatClampNeg = xs i from by rw [nI_clamp (by omega)]) ?_
      refine lv_bipush (v := 15) hx hb d_Lw_law_57 (by decide) ?_
      refine lv_iand hx hb d_Lw_law_59 ?_
      obtain ⟨t, ht, et⟩ := and15 (xs i)
      refine lv_topE et ?_
      have hnext : ∀ (G2 : Nat → Option va_E) (th2 : Int32) (ou2 : Nat → Int64) (H2 : Heap) (locs2 : List Loc) (ls2 : Array Slot), InvT k G2 o mo out th2 ou2 → gs_W D classes zb G2 H2 → gs_S zb s.heap H2 locs2 → lv_has ls2 7 [(0, .ref b), (1, .ref o), (2, .ref mo), (3, .ref out), (4, .int (nI i))] → W p l e room_1 s m #[Value.ref b] below meth c H2 locs2 (100 + 4 * i + 4) (1000 + 25 * i + 25) (lw_Z below #[Value.ref b] s) (F0 m 1307 ls2 []) := by
        intro G2 th2 ou2 H2 locs2 ls2 hI2 hG2 hS2 hl2
        refine lv_iinc (v := nI (i + 7)) (lv' := [(4, .int (nI (i + 7))), (0, .ref b), (1, .ref o), (2, .ref mo), (3, .ref out)]) hx hb d_Lw_law_1307 hl2 (k := 4) rfl (nI_add i 7) (by decide) rfl (fun ls hl => ?_)
        refine lv_goto (tgt := 43) hx hb d_Lw_law_1310 (by decide) ?_
        refine W.widen (k := 100 + 4 * (i + 7)) (n := 1000 + 25 * (i + 7)) (by omega) (by omega) ?_
        exact ih (i + 7) G2 th2 ou2 H2 locs2 ls (by omega) (by omega) hI2 hG2 hS2 (lv_sub hl [1, 2, 3, 4, 0] rfl)
      have hl : lv_has ls 7 [(0, .ref b), (1, .ref o), (2, .ref mo), (3, .ref out), (4, .int (nI i))] := lv_sub hl [0, 1, 2, 3, 4] rfl
      match t, ht with
      | 0, _ =>
        refine lv_tableIn (tgt := 136) hx hb d_Lw_law_60 (by decide) (by decide) rfl (by decide) ?_
        exact lc_box hnt E hml hK hX hXs hbl hbz hL hlt (by omega) (by omega) hI hG hS hl hnext
      | 1, _ =>
        refine lv_tableIn (tgt := 254) hx hb d_Lw_law_60 (by decide) (by decide) rfl (by decide) ?_
        exact lc_move hnt E hml hK hX hXs hbl hbz hL hlt (by omega) (by omega) hI hG hS hl hnext
      | 2, _ =>
        refine lv_tableIn (tgt := 353) hx hb d_Lw_law_60 (by decide) (by decide) rfl (by decide) ?_
        exact lc_there hnt E hml hK hX hXs hbl hbz hL hlt (by omega) (by omega) hI hG hS hl hnext
      | 3, _ =>
        refine lv_tableIn (tgt := 444) hx hb d_Lw_law_60 (by decide) (by decide) rfl (by decide) ?_
        exact lc_sun hnt E hml hK hX hXs hbl hbz hL hlt (by omega) (by omega) hI hG hS hl hnext
      | 4, _ =>
        refine lv_tableIn (tgt := 516) hx hb d_Lw_law_60 (by decide) (by decide) rfl (by decide) ?_
        exact lc_light hnt E hml hK hX hXs hbl hbz hL hlt (by omega) (by omega) hI hG hS hl hnext
      | 5, _ =>
        refine lv_tableIn (tgt := 584) hx hb d_Lw_law_60 (by decide) (by decide) rfl (by decide) ?_
        exact lc_window hnt E hml hK hX hXs hbl hbz hL hlt (by omega) (by omega) hI hG hS hl hnext
      | 6, _ =>
        refine lv_tableIn (tgt := 676) hx hb d_Lw_law_60 (by decide) (by decide) rfl (by decide) ?_
        exact lc_shadow hnt E hml hK hX hXs hbl hbz hL hlt (by omega) (by omega) hI hG hS hl hnext
      | 7, _ =>
        refine lv_tableIn (tgt := 763) hx hb d_Lw_law_60 (by decide) (by decide) rfl (by decide) ?_
        exact lc_shadows hnt E hml hK hX hXs hbl hbz hL hlt (by omega) (by omega) hI hG hS hl hnext
      | 8, _ =>
        refine lv_tableIn (tgt := 831) hx hb d_Lw_law_60 (by decide) (by decide) rfl (by decide) ?_
        exact lc_dark hnt E hml hK hX hXs hbl hbz hL hlt (by omega) (by omega) hI hG hS hl hnext
      | 9, _ =>
        refine lv_tableIn (tgt := 899) hx hb d_Lw_law_60 (by decide) (by decide) rfl (by decide) ?_
        exact lc_cell hnt E hml hK hX hXs hbl hbz hL hlt (by omega) (by omega) hI hG hS hl hnext
      | 10, _ =>
        refine lv_tableIn (tgt := 967) hx hb d_Lw_law_60 (by decide) (by decide) rfl (by decide) ?_
        exact lc_lit hnt E hml hK hX hXs hbl hbz hL hlt (by omega) (by omega) hI hG hS hl hnext
      | 11, _ =>
        refine lv_tableIn (tgt := 1035) hx hb d_Lw_law_60 (by decide) (by decide) rfl (by decide) ?_
        exact lc_brightest hnt E hml hK hX hXs hbl hbz hL hlt (by omega) (by omega) hI hG hS hl hnext
      | 12, _ =>
        refine lv_tableIn (tgt := 1091) hx hb d_Lw_law_60 (by decide) (by decide) rfl (by decide) ?_
        exact lc_ledge hnt E hml hK hX hXs hbl hbz hL hlt (by omega) (by omega) hI hG hS hl hnext
      | 13, _ =>
        refine lv_tableIn (tgt := 1171) hx hb d_Lw_law_60 (by decide) (by decide) rfl (by decide) ?_
        exact lc_deep hnt E hml hK hX hXs hbl hbz hL hlt (by omega) (by omega) hI hG hS hl hnext
      | 14, _ =>
        refine lv_tableIn (tgt := 1251) hx hb d_Lw_law_60 (by decide) (by decide) rfl (by decide) ?_
        exact lc_worst hnt E hml hK hX hXs hbl hbz hL hlt (by omega) (by omega) hI hG hS hl hnext
      | 15, _ =>
        refine lv_tableOut (tgt := 1307) hx hb d_Lw_law_60 (Or.inr (by decide)) (by decide) ?_
        refine W.widen (k := 100 + 4 * i + 4) (n := 1000 + 25 * i + 25) (by omega) (by omega) ?_
        exact hnext _ _ _ _ _ _ hI hG hS hl
      | t + 16, ht => exact absurd ht (by omega)
