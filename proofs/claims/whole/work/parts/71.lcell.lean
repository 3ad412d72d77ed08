/-! the law's cell, by program -/
set_option maxHeartbeats 4000000 in
set_option maxRecDepth 100000 in
theorem k_Lw_cell_s (l : Launch) (D : va_G) (k : Nat → ClassId) (zb : Nat) (G : Nat → Option va_E) (b L : Nat) (xs : Nat → Int32) (n : Nat) (hbz : b < zb) (hn9 : n < 2 ^ 31) (hL9 : L < 2 ^ 31) : Met l y_Lw_cell_s (wM y_Lw_cell_s c_Lw_cell_s 2 (some .int)) ({ frames := 0, cells := 0, slots := 0, locals := 0 }) (gs_PX D k zb G b L xs [.ref b, .int (nI n)]) (gs_Q D zb (fun v G1 => v = some (.int (jl_c L xs n)) ∧ G1 = G)) 0 0 (fun q : Nat => zb ≤ q) := by
  refine Met.ofW (cc := c_Lw_cell_s) (maxL := 2) (ret := (some .int)) (by decide) rfl ?_
  intro p e s m args below meth c s₁ B hml hv
  obtain ⟨⟨rfl, hG, hK, hX⟩, hXs, hbl⟩ := hv
  have hx := B.exec
  have hb := B.bytes
  have hr := B.returns
  have hts := atoms_spec (ws := wM y_Lw_cell_s c_Lw_cell_s 2 (some .int)) B.pre
  have hw : ∀ w9 ∈ wW, w9.before ([.ref b, .int (nI n)] : List Value).toArray s = true := fun w9 h9 => hts w9 (gi_in w9 h9)
  have hown : s.vm.findClass R_Lw = some m.cls := findClass_of_methodNamed B.named
  have hlocks := B.notSynchronized
  have E : gs_E p s m ([.ref b, .int (nI n)] : List Value).toArray c c_Lw_cell_s wW R_Lw := ⟨hx, hb, hw, hown⟩
  have hS : gs_S zb s.heap s.heap [] := va_S.rf
  have hl := lv_entry ([.ref b, .int (nI n)]) (n := 2) (Nat.le_of_ble_eq_true rfl)
  rw [lg_entry_eq]
  generalize (lg_sl ([.ref b, .int (nI n)]) ++ List.replicate (2 - (lg_sl ([.ref b, .int (nI n)])).length) Slot.unset).toArray = ls at hl ⊢
  have hl : lv_has ls 2 [(0, .ref b), (1, .int (nI n))] := hl
  refine lv_iload_n hx hb d_Lw_cell_s_0 rfl (lv_at hl 1 rfl) ?_
  refine lv_aload_n hx hb d_Lw_cell_s_1 rfl (lv_at hl 0 rfl) ?_
  refine va_slen hx hb hXs hbl (Nat.not_le.mpr hbz) hS d_Lw_cell_s_2 ?_
  refine W.eq (g2 := F0 m 3 ls [.int (nI L), .int (nI n)]) rfl ?_
  refine lv_icmp_ge (tgt := 12) hx hb d_Lw_cell_s_3 (by decide) (fun c_1 => ?_) (fun c_1 => ?_)
  · refine lv_iconst (v := 0) hx hb d_Lw_cell_s_12 (by decide) ?_
    refine W.iret (v := 0) hx hb hr (gs_end ⟨?_, rfl⟩ hG hS) hS.2.2 d_Lw_cell_s_13
    unfold jl_c; rw [if_pos c_1]
  · have hlt : n < L := by rcases Nat.lt_or_ge n L with q9 | q9; exact q9; exact absurd (nI_le q9 hn9) c_1
    refine lv_aload_n hx hb d_Lw_cell_s_6 rfl (lv_at hl 0 rfl) ?_
    refine lv_iload_n hx hb d_Lw_cell_s_7 rfl (lv_at hl 1 rfl) ?_
    refine va_sld hx hb hXs hbl (Nat.not_le.mpr hbz) hS (vp_in_nI (n := n) hlt hL9) d_Lw_cell_s_8 ?_
    refine lv_topE (show xs (nI n).toNatClampNeg = xs n from by rw [nI_clamp hn9]) ?_
    refine lv_goto (tgt := 13) hx hb d_Lw_cell_s_9 (by decide) ?_
    refine W.iret (v := (xs n)) hx hb hr (gs_end ⟨?_, rfl⟩ hG hS) hS.2.2 d_Lw_cell_s_13
    unfold jl_c; rw [if_neg c_1]
