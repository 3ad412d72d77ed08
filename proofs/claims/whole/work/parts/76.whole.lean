/-! the law, from its entry -/
theorem vS_0 : vS 0 0 0 := ⟨⟨by decide, by decide⟩, ⟨by decide, by decide⟩, by decide, by decide⟩
theorem i0_b : (0 : Int) ≤ (0 : Int32).toInt ∧ (0 : Int32).toInt ≤ 1000 := by decide
theorem hR_0 : hR (fun _ _ => 0) (fun _ => 0) (fun _ => 0) := fun _ _ => ⟨⟨rfl, rfl, rfl, rfl⟩, vS_0, i0_b⟩
set_option maxHeartbeats 4000000 in
set_option maxRecDepth 100000 in
theorem whole_start {p : Program} {e : Env} {s : State} {m : MethodId} {below : List Frame} {meth : Method} {c : Code} (l : Launch) (hnt : l.stackTraces = false) {b L : Nat} {xs : Nat → Int32} (hL : L ≤ 3586) (C0 : lw_At p s m meth c b L xs) : W p l e room_1 s m #[Value.ref b] below meth c s.heap [] 0 0 (lw_Z below #[Value.ref b] s) (entryFrame m ([Value.ref b] : List Value).toArray 7) := by
  obtain ⟨hx, hb, hr, hml, hown, hts, hXs, hbl, hlocks, hgv⟩ := id C0
  have hw : ∀ w9 ∈ wW, w9.before #[Value.ref b] s = true := fun w9 h9 => hts w9 (wW_t h9)
  have ht : ∀ w9 ∈ tables_1, w9.before #[Value.ref b] s = true := fun w9 h9 => hts w9 (List.mem_append_right _ h9)
  have hfl := flat_of_before _ hgv
  obtain ⟨D, k, hK⟩ := lw_K ht hw (hfl _ (by decide +kernel))
  obtain ⟨zb, hzb⟩ : ∃ z : Nat, z = s.heap.size := ⟨_, rfl⟩
  have hX : gs_X zb s s.heap := lw_X hzb ht hw (hfl _ (by decide +kernel)) (hfl _ (by decide +kernel))
  have hbz : b < zb := by omega
  have E : gs_E p s m #[Value.ref b] c c_Lw_law wW R_Lw := ⟨hx, hb, hw, hown⟩
  have hS : gs_S zb s.heap s.heap [] := va_S.rf
  obtain ⟨G, eG⟩ : ∃ z : Nat → Option va_E, z = fun _ => none := ⟨_, rfl⟩
  have hG : gs_W D classes zb G s.heap := ⟨Nat.le_of_eq hzb, fun a e9 h9 => by rw [eG] at h9; cases h9⟩
  have hl := lv_entry ([.ref b]) (n := 7) (Nat.le_of_ble_eq_true rfl)
  rw [lg_entry_eq]
  generalize (lg_sl ([.ref b]) ++ List.replicate (7 - (lg_sl ([.ref b])).length) Slot.unset).toArray = ls at hl ⊢
  have hl : lv_has ls 7 [(0, .ref b)] := hl
  refine gs_new E hK.1 hG hS (C := R_Ss) (T := F_Ss) (N := 9) (ci := 3) (fs := [.int 0, .int 0, .null, .null, .null, .null, .null, .int 0, .int 0]) rfl i_Ss t_Ss t_Ss_ok w_13 w_14 w_1 (fun j hj => by rcases (show j = 0 ∨ j = 1 ∨ j = 2 ∨ j = 3 ∨ j = 4 ∨ j = 5 ∨ j = 6 ∨ j = 7 ∨ j = 8 by omega) with rfl | rfl | rfl | rfl | rfl | rfl | rfl | rfl | rfl <;> rfl) (by exact Nat.le_of_ble_eq_true rfl) (by exact Nat.le_of_ble_eq_true rfl) d_Lw_law_0 (fun H_2 hG9 hS9 => ?_)
  have hfq_1 : G s.heap.size = none := hG.fresh
  obtain ⟨q_1, eq_1⟩ : ∃ z : Nat, z = s.heap.size := ⟨_, rfl⟩
  rw [← eq_1] at hG9 hfq_1 ⊢
  obtain ⟨G_3, eG_3⟩ : ∃ z, z = gs_u G q_1 (.inr (3, [.int 0, .int 0, .null, .null, .null, .null, .null, .int 0, .int 0])) := ⟨_, rfl⟩
  have hG : gs_W D classes zb G_3 H_2 := by rw [eG_3]; exact hG9
  have hS := hS9
  have hc_4 : G_3 q_1 = some (.inr (3, [.int 0, .int 0, .null, .null, .null, .null, .null, .int 0, .int 0])) := by rw [eG_3]; exact gs_us _ _ _
  refine W.eq (g2 := F0 m 3 ls [.ref q_1]) rfl ?_
  refine lv_dup hx hb d_Lw_law_3 rfl ?_
  refine lv_aload_n hx hb d_Lw_law_4 rfl (lv_at hl 0 rfl) ?_
  refine lv_iconst (v := 0) hx hb d_Lw_law_5 (by decide) ?_
  refine gs_StX (As := [.ref b, .int (nI 0)]) (rest := [.ref q_1, .ref q_1]) (k_Lw_cell_s l D k zb G_3 b L xs 0 hbz (by decide) (by omega)) E hml hl.1 (cg_S hw w_90 w_88 w_0 w_89 hd_Lw_cell_s ⟨by exact Nat.le_of_ble_eq_true rfl, by exact Nat.le_of_ble_eq_true rfl⟩) hXs hbl hbz hG hK hX hS rfl rfl (by exact Nat.le_of_ble_eq_true rfl) d_Lw_law_6 ⟨by exact Nat.le_of_ble_eq_true rfl, by exact Nat.le_of_ble_eq_true rfl⟩ (fun v G1 H locs hp hG hS => ?_)
  obtain ⟨hv1, hG1⟩ := hp
  subst hv1
  rw [hG1] at hG
  refine W.eq (g2 := F0 m 9 ls [.int (jl_c L xs 0), .ref q_1, .ref q_1]) rfl ?_
  refine lv_aload_n hx hb d_Lw_law_9 rfl (lv_at hl 0 rfl) ?_
  refine lv_iconst (v := 1) hx hb d_Lw_law_10 (by decide) ?_
  refine gs_StX (As := [.ref b, .int (nI 1)]) (rest := [.int (jl_c L xs 0), .ref q_1, .ref q_1]) (k_Lw_cell_s l D k zb G_3 b L xs 1 hbz (by decide) (by omega)) E hml hl.1 (cg_S hw w_90 w_88 w_0 w_89 hd_Lw_cell_s ⟨by exact Nat.le_of_ble_eq_true rfl, by exact Nat.le_of_ble_eq_true rfl⟩) hXs hbl hbz hG hK hX hS rfl rfl (by exact Nat.le_of_ble_eq_true rfl) d_Lw_law_11 ⟨by exact Nat.le_of_ble_eq_true rfl, by exact Nat.le_of_ble_eq_true rfl⟩ (fun v G1 H locs hp hG hS => ?_)
  obtain ⟨hv1, hG1⟩ := hp
  subst hv1
  rw [hG1] at hG
  refine W.eq (g2 := F0 m 14 ls [.int (jl_c L xs 1), .int (jl_c L xs 0), .ref q_1, .ref q_1]) rfl ?_
  refine gs_I (As := [.int (jl_c L xs 0), .int (jl_c L xs 1)]) (rest := [.ref q_1]) (k_Ss_init l D k zb G_3 q_1 (jl_c L xs 0) (jl_c L xs 1) hc_4) E hml hl.1 (cg_I hw w_17 w_15 w_1 w_16 rfl hd_Ss_init ⟨by exact Nat.le_of_ble_eq_true rfl, by exact Nat.le_of_ble_eq_true rfl⟩) hG hK hX hS rfl rfl (by exact Nat.le_of_ble_eq_true rfl) d_Lw_law_14 ⟨by exact Nat.le_of_ble_eq_true rfl, by exact Nat.le_of_ble_eq_true rfl⟩ (fun v G1 H locs hp hG hS => ?_)
  obtain ⟨hv1, aB, aW, aH, aS, aT, wn, hn, ha, ew, eh, hC, hmono⟩ := hp
  subst hv1
  refine W.eq (g2 := F0 m 17 ls [.ref q_1]) rfl ?_
  refine lv_astore_n (lv' := [(1, .ref q_1), (0, .ref b)]) hx hb d_Lw_law_17 rfl hl (by decide) rfl (fun ls hl => ?_)
  refine gs_new E hK.1 hG hS (C := R_Md) (T := F_Md) (N := 14) (ci := 4) (fs := [.int 0, .int 0, .int 0, .int 0, .null, .null, .null, .null, .int 0, .null, .long 0, .long 0, .long 0, .long 0]) rfl i_Md t_Md t_Md_ok w_457 w_458 w_4 (fun j hj => by rcases (show j = 0 ∨ j = 1 ∨ j = 2 ∨ j = 3 ∨ j = 4 ∨ j = 5 ∨ j = 6 ∨ j = 7 ∨ j = 8 ∨ j = 9 ∨ j = 10 ∨ j = 11 ∨ j = 12 ∨ j = 13 by omega) with rfl | rfl | rfl | rfl | rfl | rfl | rfl | rfl | rfl | rfl | rfl | rfl | rfl | rfl <;> rfl) (by exact Nat.le_of_ble_eq_true rfl) (by exact Nat.le_of_ble_eq_true rfl) d_Lw_law_18 (fun H_6 hG9 hS9 => ?_)
  have hfq_5 : G1 H.size = none := hG.fresh
  obtain ⟨q_5, eq_5⟩ : ∃ z : Nat, z = H.size := ⟨_, rfl⟩
  rw [← eq_5] at hG9 hfq_5 ⊢
  obtain ⟨G_7, eG_7⟩ : ∃ z, z = gs_u G1 q_5 (.inr (4, [.int 0, .int 0, .int 0, .int 0, .null, .null, .null, .null, .int 0, .null, .long 0, .long 0, .long 0, .long 0])) := ⟨_, rfl⟩
  have hG : gs_W D classes zb G_7 H_6 := by rw [eG_7]; exact hG9
  have hS := hS9
  have hc_8 : G_7 q_5 = some (.inr (4, [.int 0, .int 0, .int 0, .int 0, .null, .null, .null, .null, .int 0, .null, .long 0, .long 0, .long 0, .long 0])) := by rw [eG_7]; exact gs_us _ _ _
  have hC2 := sC_at (e := .inr (4, [.int 0, .int 0, .int 0, .int 0, .null, .null, .null, .null, .int 0, .null, .long 0, .long 0, .long 0, .long 0])) hC hfq_5
  rw [← eG_7] at hC2
  refine W.eq (g2 := F0 m 21 ls [.ref q_5]) rfl ?_
  refine lv_dup hx hb d_Lw_law_21 rfl ?_
  refine lv_aload_n hx hb d_Lw_law_22 rfl (lv_at hl 1 rfl) ?_
  refine lv_iconst (v := 0) hx hb d_Lw_law_23 (by decide) ?_
  refine gs_StX (As := [.ref b, .int (nI 0)]) (rest := [.ref q_5, .ref q_5]) (k_Lw_cell_s l D k zb G_7 b L xs 0 hbz (by decide) (by omega)) E hml hl.1 (cg_S hw w_90 w_88 w_0 w_89 hd_Lw_cell_s ⟨by exact Nat.le_of_ble_eq_true rfl, by exact Nat.le_of_ble_eq_true rfl⟩) hXs hbl hbz hG hK hX hS rfl rfl (by exact Nat.le_of_ble_eq_true rfl) d_Lw_law_24 ⟨by exact Nat.le_of_ble_eq_true rfl, by exact Nat.le_of_ble_eq_true rfl⟩ (fun v G1 H locs hp hG hS => ?_)
  obtain ⟨hv1, hG1⟩ := hp
  subst hv1
  rw [hG1] at hG
  refine W.eq (g2 := F0 m 27 ls [.int (jl_c L xs 0), .ref q_5, .ref q_5]) rfl ?_
  refine lv_aload_n hx hb d_Lw_law_27 rfl (lv_at hl 1 rfl) ?_
  refine lv_iconst (v := 1) hx hb d_Lw_law_28 (by decide) ?_
  refine gs_StX (As := [.ref b, .int (nI 1)]) (rest := [.int (jl_c L xs 0), .ref q_5, .ref q_5]) (k_Lw_cell_s l D k zb G_7 b L xs 1 hbz (by decide) (by omega)) E hml hl.1 (cg_S hw w_90 w_88 w_0 w_89 hd_Lw_cell_s ⟨by exact Nat.le_of_ble_eq_true rfl, by exact Nat.le_of_ble_eq_true rfl⟩) hXs hbl hbz hG hK hX hS rfl rfl (by exact Nat.le_of_ble_eq_true rfl) d_Lw_law_29 ⟨by exact Nat.le_of_ble_eq_true rfl, by exact Nat.le_of_ble_eq_true rfl⟩ (fun v G1 H locs hp hG hS => ?_)
  obtain ⟨hv1, hG1⟩ := hp
  subst hv1
  rw [hG1] at hG
  refine W.eq (g2 := F0 m 32 ls [.int (jl_c L xs 1), .int (jl_c L xs 0), .ref q_5, .ref q_5]) rfl ?_
  refine gs_I (As := [.int (jl_c L xs 0), .int (jl_c L xs 1)]) (rest := [.ref q_5]) (k_Md_init l D k zb G_7 q_5 (jl_c L xs 0) (jl_c L xs 1) hc_8) E hml hl.1 (cg_I hw w_461 w_459 w_4 w_460 rfl hd_Md_init ⟨by exact Nat.le_of_ble_eq_true rfl, by exact Nat.le_of_ble_eq_true rfl⟩) hG hK hX hS rfl rfl (by exact Nat.le_of_ble_eq_true rfl) d_Lw_law_32 ⟨by exact Nat.le_of_ble_eq_true rfl, by exact Nat.le_of_ble_eq_true rfl⟩ (fun v G1 H locs hp hG hS => ?_)
  obtain ⟨hv1, cB, cT, cS, cL, cW, wn2, hn2, hwn2, hhn2, ew2, eh2, hM, hmono2⟩ := hp
  subst hv1
  have hC3 := hC2.keep (fun b9 e9 hb9 he9 => hmono2 b9 e9 (fun z => by rw [z, hc_8] at hb9; cases hb9; exact absurd he9 (by simp [ofC, kd])) hb9)
  have hb2 := hC3.2.1
  have e1 : wn2 = wn := eq_nI (by omega) (by omega) (ew2.symm.trans ew)
  have e2 : hn2 = hn := eq_nI (by omega) (by omega) (eh2.symm.trans eh)
  subst e1
  subst e2
  refine W.eq (g2 := F0 m 35 ls [.ref q_5]) rfl ?_
  refine lv_astore_n (lv' := [(2, .ref q_5), (1, .ref q_1), (0, .ref b)]) hx hb d_Lw_law_35 rfl hl (by decide) rfl (fun ls hl => ?_)
  refine lv_iconst (v := 1) hx hb d_Lw_law_36 (by decide) ?_
  refine gs_newa E hK.1 hG hS (atype := .long) w_58 (cA := k 1) (hK.1.2 1 _ rfl).2 (N' := 1) (a0 := (1, .inr (.inl (fun _ => 0)))) (fun cA => rfl) (by decide) (by decide) (by decide) (by exact Nat.le_of_ble_eq_true rfl) (by exact Nat.le_of_ble_eq_true rfl) d_Lw_law_37 (fun H_9 hG9 hS9 => ?_)
  have hfq_10 : G1 H.size = none := hG.fresh
  obtain ⟨q_10, eq_10⟩ : ∃ z : Nat, z = H.size := ⟨_, rfl⟩
  rw [← eq_10] at hG9 hfq_10 ⊢
  obtain ⟨G_11, eG_11⟩ : ∃ z, z = gs_u G1 q_10 (aLong (k 1) 1 (fun _ => 0)) := ⟨_, rfl⟩
  have hG : gs_W D classes zb G_11 H_9 := by rw [eG_11]; exact hG9
  have hS := hS9
  have hc_12 : G_11 q_10 = some (aLong (k 1) 1 (fun _ => 0)) := by rw [eG_11]; exact gs_us _ _ _
  have hC4 := sC_at (e := aLong (k 1) 1 (fun _ => 0)) hC3 hfq_10
  rw [← eG_11] at hC4
  have hM4 := sM_at (e := aLong (k 1) 1 (fun _ => 0)) hM hfq_10
  rw [← eG_11] at hM4
  refine W.eq (g2 := F0 m 39 ls [.ref q_10]) rfl ?_
  refine lv_astore_n (lv' := [(3, .ref q_10), (2, .ref q_5), (1, .ref q_1), (0, .ref b)]) hx hb d_Lw_law_39 rfl hl (by decide) rfl (fun ls hl => ?_)
  refine lv_iconst (v := 2) hx hb d_Lw_law_40 (by decide) ?_
  refine lv_istore (lv' := [(4, .int 2), (3, .ref q_10), (2, .ref q_5), (1, .ref q_1), (0, .ref b)]) hx hb d_Lw_law_41 hl (by decide) rfl (fun ls hl => ?_)
  refine W.widen (k := 100 + 4 * 2) (n := 1000 + 25 * 2) (by exact Nat.le_of_ble_eq_true rfl) (by exact Nat.le_of_ble_eq_true rfl) ?_
  exact law_loop hnt E hml hK hX hXs hbl hbz hL (Nat.le_of_eq hzb.symm) hr hlocks (L + 8) 2 _ 0 (fun _ => 0) _ _ ls (by omega) (by omega) (IT_of hC4 hM4 (fun i hi => absurd hi (Nat.not_lt_zero i)) hR_0 (fun i hi => absurd hi (Nat.not_lt_zero i)) hc_12) hG hS (lv_sub hl [4, 3, 2, 1, 0] rfl)
