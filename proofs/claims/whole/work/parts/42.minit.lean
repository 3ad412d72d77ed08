/-! contracts, by program -/
set_option maxHeartbeats 4000000 in
set_option maxRecDepth 100000 in
theorem k_Md_init (l : Launch) (D : va_G) (k : Nat → ClassId) (zb : Nat) (G : Nat → Option va_E) (mo : Nat) (wq hq : Int32) (hb0 : G mo = some (.inr (4, [.int 0, .int 0, .int 0, .int 0, .null, .null, .null, .null, .int 0, .null, .long 0, .long 0, .long 0, .long 0]))) : Met l y_Md_init (wM y_Md_init c_Md_init 3 none) ({ frames := 1, cells := 5, slots := 213, locals := 20 }) (gs_P D k zb G [.ref mo, .int wq, .int hq]) (gs_Q D zb (fun v G1 => v = none ∧ ∃ cB cT cS cL cW wn hn : Nat, (1 ≤ wn ∧ wn ≤ 60) ∧ (1 ≤ hn ∧ hn ≤ 60) ∧ jm_cl wq = nI wn ∧ jm_cl hq = nI hn ∧ sM k G1 mo cB cT cS cL cW 0 wn hn 0 0 (fun _ => 0) (fun _ => 0) (fun _ => 0) (fun _ => 0) (fun _ => 0) 0 0 0 0 ∧ ∀ (b : Nat) (e9 : va_E), ¬ b = mo → G b = some e9 → G1 b = some e9)) 5 213 (fun q : Nat => zb ≤ q) := by
  refine Met.ofW (cc := c_Md_init) (maxL := 3) (ret := none) (by decide) rfl ?_
  intro p e s m args below meth c s₁ B hml hv
  obtain ⟨rfl, hG, hK, hX⟩ := hv
  have hx := B.exec
  have hb := B.bytes
  have hr := B.returns
  have hts := atoms_spec (ws := wM y_Md_init c_Md_init 3 none) B.pre
  have hw : ∀ w9 ∈ wW, w9.before ([.ref mo, .int wq, .int hq] : List Value).toArray s = true := fun w9 h9 => hts w9 (gi_in w9 h9)
  have hown : s.vm.findClass R_Md = some m.cls := findClass_of_methodNamed B.named
  have hlocks := B.notSynchronized
  have hin : meth.name = "<init>" := (name_of_methodNamed B.named B.method).1
  have E : gs_E p s m ([.ref mo, .int wq, .int hq] : List Value).toArray c c_Md_init wW R_Md := ⟨hx, hb, hw, hown⟩
  have hS : gs_S zb s.heap s.heap [] := va_S.rf
  have hl := lv_entry ([.ref mo, .int wq, .int hq]) (n := 3) (Nat.le_of_ble_eq_true rfl)
  rw [lg_entry_eq]
  generalize (lg_sl ([.ref mo, .int wq, .int hq]) ++ List.replicate (3 - (lg_sl ([.ref mo, .int wq, .int hq])).length) Slot.unset).toArray = ls at hl ⊢
  have hl : lv_has ls 3 [(0, .ref mo), (1, .int wq), (2, .int hq)] := hl
  refine lv_aload_n hx hb d_Md_init_0 rfl (lv_at hl 0 rfl) ?_
  refine W.objInit hx hb hown (hw _ w_462) (hw _ w_19) (hw _ w_20) rfl (by rw [hml]; exact hl.1) rfl d_Md_init_1 (by exact Nat.le_of_ble_eq_true rfl) (by exact Nat.le_of_ble_eq_true rfl) ?_
  refine W.eq (g2 := F0 m 4 ls []) rfl ?_
  refine lv_aload_n hx hb d_Md_init_4 rfl (lv_at hl 0 rfl) ?_
  refine lv_bipush (v := 66) hx hb d_Md_init_5 (by decide) ?_
  refine gs_newa E hK.1 hG hS (atype := .int) w_59 (cA := k 0) (hK.1.2 0 _ rfl).2 (N' := 66) (a0 := (66, .inl (fun _ => 0))) (fun cA => rfl) (by decide) (by decide) (by decide) (by exact Nat.le_of_ble_eq_true rfl) (by exact Nat.le_of_ble_eq_true rfl) d_Md_init_7 (fun H_1 hG9 hS9 => ?_)
  have hfq_2 : G s.heap.size = none := hG.fresh
  obtain ⟨q_2, eq_2⟩ : ∃ z : Nat, z = s.heap.size := ⟨_, rfl⟩
  rw [← eq_2] at hG9 hfq_2 ⊢
  obtain ⟨G_3, eG_3⟩ : ∃ z, z = gs_u G q_2 (aInt (k 0) 66 (fun _ => 0)) := ⟨_, rfl⟩
  have hG : gs_W D classes zb G_3 H_1 := by rw [eG_3]; exact hG9
  have hS := hS9
  have hc_4 : G_3 mo = some (.inr (4, [.int 0, .int 0, .int 0, .int 0, .null, .null, .null, .null, .int 0, .null, .long 0, .long 0, .long 0, .long 0])) := by rw [eG_3]; exact gs_keepN hb0 hfq_2
  have hc_5 : G_3 q_2 = some (aInt (k 0) 66 (fun _ => 0)) := by rw [eG_3]; exact gs_us _ _ _
  refine W.eq (g2 := F0 m 9 ls [.ref q_2, .ref mo]) rfl ?_
  refine gs_putF E hK.1 hG hS hc_4 (C := R_Md) (T := F_Md) (N := 14) rfl i_Md t_Md t_Md_ok n_Md 4 (by decide) w_467 rfl hin rfl (v := .ref q_2) rfl rfl (Nat.le_of_ble_eq_true rfl) d_Md_init_9 (fun H locs hG hS => ?_)
  obtain ⟨G_6, eG_6⟩ : ∃ z, z = gs_u G_3 mo (.inr (4, [.int 0, .int 0, .int 0, .int 0, .ref q_2, .null, .null, .null, .int 0, .null, .long 0, .long 0, .long 0, .long 0])) := ⟨_, rfl⟩
  have hG : gs_W D classes zb G_6 H := by rw [eG_6]; exact hG
  have hc_7 : G_6 q_2 = some (aInt (k 0) 66 (fun _ => 0)) := by rw [eG_6]; exact gs_keep hc_5 hc_4 (by simp)
  have hc_8 : G_6 mo = some (.inr (4, [.int 0, .int 0, .int 0, .int 0, .ref q_2, .null, .null, .null, .int 0, .null, .long 0, .long 0, .long 0, .long 0])) := by rw [eG_6]; exact gs_us _ _ _
  refine lv_aload_n hx hb d_Md_init_12 rfl (lv_at hl 0 rfl) ?_
  refine lv_bipush (v := 11) hx hb d_Md_init_13 (by decide) ?_
  refine gs_newa E hK.1 hG hS (atype := .boolean) w_506 (cA := k 2) (hK.1.2 2 _ rfl).2 (N' := 11) (a0 := (11, .inl (fun _ => 0))) (fun cA => rfl) (by decide) (by decide) (by decide) (by exact Nat.le_of_ble_eq_true rfl) (by exact Nat.le_of_ble_eq_true rfl) d_Md_init_15 (fun H_9 hG9 hS9 => ?_)
  have hfq_10 : G_6 H.size = none := hG.fresh
  obtain ⟨q_10, eq_10⟩ : ∃ z : Nat, z = H.size := ⟨_, rfl⟩
  rw [← eq_10] at hG9 hfq_10 ⊢
  obtain ⟨G_11, eG_11⟩ : ∃ z, z = gs_u G_6 q_10 (aInt (k 2) 11 (fun _ => 0)) := ⟨_, rfl⟩
  have hG : gs_W D classes zb G_11 H_9 := by rw [eG_11]; exact hG9
  have hS := hS9
  have hc_12 : G_11 mo = some (.inr (4, [.int 0, .int 0, .int 0, .int 0, .ref q_2, .null, .null, .null, .int 0, .null, .long 0, .long 0, .long 0, .long 0])) := by rw [eG_11]; exact gs_keepN hc_8 hfq_10
  have hc_13 : G_11 q_2 = some (aInt (k 0) 66 (fun _ => 0)) := by rw [eG_11]; exact gs_keepN hc_7 hfq_10
  have hc_14 : G_11 q_10 = some (aInt (k 2) 11 (fun _ => 0)) := by rw [eG_11]; exact gs_us _ _ _
  refine W.eq (g2 := F0 m 17 ls [.ref q_10, .ref mo]) rfl ?_
  refine gs_putF E hK.1 hG hS hc_12 (C := R_Md) (T := F_Md) (N := 14) rfl i_Md t_Md t_Md_ok n_Md 5 (by decide) w_468 rfl hin rfl (v := .ref q_10) rfl rfl (Nat.le_of_ble_eq_true rfl) d_Md_init_17 (fun H locs hG hS => ?_)
  obtain ⟨G_15, eG_15⟩ : ∃ z, z = gs_u G_11 mo (.inr (4, [.int 0, .int 0, .int 0, .int 0, .ref q_2, .ref q_10, .null, .null, .int 0, .null, .long 0, .long 0, .long 0, .long 0])) := ⟨_, rfl⟩
  have hG : gs_W D classes zb G_15 H := by rw [eG_15]; exact hG
  have hc_16 : G_15 q_2 = some (aInt (k 0) 66 (fun _ => 0)) := by rw [eG_15]; exact gs_keep hc_13 hc_12 (by simp)
  have hc_17 : G_15 q_10 = some (aInt (k 2) 11 (fun _ => 0)) := by rw [eG_15]; exact gs_keep hc_14 hc_12 (by simp)
  have hc_18 : G_15 mo = some (.inr (4, [.int 0, .int 0, .int 0, .int 0, .ref q_2, .ref q_10, .null, .null, .int 0, .null, .long 0, .long 0, .long 0, .long 0])) := by rw [eG_15]; exact gs_us _ _ _
  refine lv_aload_n hx hb d_Md_init_20 rfl (lv_at hl 0 rfl) ?_
  refine lv_bipush (v := 72) hx hb d_Md_init_21 (by decide) ?_
  refine gs_newa E hK.1 hG hS (atype := .int) w_59 (cA := k 0) (hK.1.2 0 _ rfl).2 (N' := 72) (a0 := (72, .inl (fun _ => 0))) (fun cA => rfl) (by decide) (by decide) (by decide) (by exact Nat.le_of_ble_eq_true rfl) (by exact Nat.le_of_ble_eq_true rfl) d_Md_init_23 (fun H_19 hG9 hS9 => ?_)
  have hfq_20 : G_15 H.size = none := hG.fresh
  obtain ⟨q_20, eq_20⟩ : ∃ z : Nat, z = H.size := ⟨_, rfl⟩
  rw [← eq_20] at hG9 hfq_20 ⊢
  obtain ⟨G_21, eG_21⟩ : ∃ z, z = gs_u G_15 q_20 (aInt (k 0) 72 (fun _ => 0)) := ⟨_, rfl⟩
  have hG : gs_W D classes zb G_21 H_19 := by rw [eG_21]; exact hG9
  have hS := hS9
  have hc_22 : G_21 mo = some (.inr (4, [.int 0, .int 0, .int 0, .int 0, .ref q_2, .ref q_10, .null, .null, .int 0, .null, .long 0, .long 0, .long 0, .long 0])) := by rw [eG_21]; exact gs_keepN hc_18 hfq_20
  have hc_23 : G_21 q_2 = some (aInt (k 0) 66 (fun _ => 0)) := by rw [eG_21]; exact gs_keepN hc_16 hfq_20
  have hc_24 : G_21 q_10 = some (aInt (k 2) 11 (fun _ => 0)) := by rw [eG_21]; exact gs_keepN hc_17 hfq_20
  have hc_25 : G_21 q_20 = some (aInt (k 0) 72 (fun _ => 0)) := by rw [eG_21]; exact gs_us _ _ _
  refine W.eq (g2 := F0 m 25 ls [.ref q_20, .ref mo]) rfl ?_
  refine gs_putF E hK.1 hG hS hc_22 (C := R_Md) (T := F_Md) (N := 14) rfl i_Md t_Md t_Md_ok n_Md 6 (by decide) w_469 rfl hin rfl (v := .ref q_20) rfl rfl (Nat.le_of_ble_eq_true rfl) d_Md_init_25 (fun H locs hG hS => ?_)
  obtain ⟨G_26, eG_26⟩ : ∃ z, z = gs_u G_21 mo (.inr (4, [.int 0, .int 0, .int 0, .int 0, .ref q_2, .ref q_10, .ref q_20, .null, .int 0, .null, .long 0, .long 0, .long 0, .long 0])) := ⟨_, rfl⟩
  have hG : gs_W D classes zb G_26 H := by rw [eG_26]; exact hG
  have hc_27 : G_26 q_2 = some (aInt (k 0) 66 (fun _ => 0)) := by rw [eG_26]; exact gs_keep hc_23 hc_22 (by simp)
  have hc_28 : G_26 q_10 = some (aInt (k 2) 11 (fun _ => 0)) := by rw [eG_26]; exact gs_keep hc_24 hc_22 (by simp)
  have hc_29 : G_26 q_20 = some (aInt (k 0) 72 (fun _ => 0)) := by rw [eG_26]; exact gs_keep hc_25 hc_22 (by simp)
  have hc_30 : G_26 mo = some (.inr (4, [.int 0, .int 0, .int 0, .int 0, .ref q_2, .ref q_10, .ref q_20, .null, .int 0, .null, .long 0, .long 0, .long 0, .long 0])) := by rw [eG_26]; exact gs_us _ _ _
  refine lv_aload_n hx hb d_Md_init_28 rfl (lv_at hl 0 rfl) ?_
  refine lv_bipush (v := 24) hx hb d_Md_init_29 (by decide) ?_
  refine gs_newa E hK.1 hG hS (atype := .int) w_59 (cA := k 0) (hK.1.2 0 _ rfl).2 (N' := 24) (a0 := (24, .inl (fun _ => 0))) (fun cA => rfl) (by decide) (by decide) (by decide) (by exact Nat.le_of_ble_eq_true rfl) (by exact Nat.le_of_ble_eq_true rfl) d_Md_init_31 (fun H_31 hG9 hS9 => ?_)
  have hfq_32 : G_26 H.size = none := hG.fresh
  obtain ⟨q_32, eq_32⟩ : ∃ z : Nat, z = H.size := ⟨_, rfl⟩
  rw [← eq_32] at hG9 hfq_32 ⊢
  obtain ⟨G_33, eG_33⟩ : ∃ z, z = gs_u G_26 q_32 (aInt (k 0) 24 (fun _ => 0)) := ⟨_, rfl⟩
  have hG : gs_W D classes zb G_33 H_31 := by rw [eG_33]; exact hG9
  have hS := hS9
  have hc_34 : G_33 mo = some (.inr (4, [.int 0, .int 0, .int 0, .int 0, .ref q_2, .ref q_10, .ref q_20, .null, .int 0, .null, .long 0, .long 0, .long 0, .long 0])) := by rw [eG_33]; exact gs_keepN hc_30 hfq_32
  have hc_35 : G_33 q_2 = some (aInt (k 0) 66 (fun _ => 0)) := by rw [eG_33]; exact gs_keepN hc_27 hfq_32
  have hc_36 : G_33 q_10 = some (aInt (k 2) 11 (fun _ => 0)) := by rw [eG_33]; exact gs_keepN hc_28 hfq_32
  have hc_37 : G_33 q_20 = some (aInt (k 0) 72 (fun _ => 0)) := by rw [eG_33]; exact gs_keepN hc_29 hfq_32
  have hc_38 : G_33 q_32 = some (aInt (k 0) 24 (fun _ => 0)) := by rw [eG_33]; exact gs_us _ _ _
  refine W.eq (g2 := F0 m 33 ls [.ref q_32, .ref mo]) rfl ?_
  refine gs_putF E hK.1 hG hS hc_34 (C := R_Md) (T := F_Md) (N := 14) rfl i_Md t_Md t_Md_ok n_Md 7 (by decide) w_470 rfl hin rfl (v := .ref q_32) rfl rfl (Nat.le_of_ble_eq_true rfl) d_Md_init_33 (fun H locs hG hS => ?_)
  obtain ⟨G_39, eG_39⟩ : ∃ z, z = gs_u G_33 mo (.inr (4, [.int 0, .int 0, .int 0, .int 0, .ref q_2, .ref q_10, .ref q_20, .ref q_32, .int 0, .null, .long 0, .long 0, .long 0, .long 0])) := ⟨_, rfl⟩
  have hG : gs_W D classes zb G_39 H := by rw [eG_39]; exact hG
  have hc_40 : G_39 q_2 = some (aInt (k 0) 66 (fun _ => 0)) := by rw [eG_39]; exact gs_keep hc_35 hc_34 (by simp)
  have hc_41 : G_39 q_10 = some (aInt (k 2) 11 (fun _ => 0)) := by rw [eG_39]; exact gs_keep hc_36 hc_34 (by simp)
  have hc_42 : G_39 q_20 = some (aInt (k 0) 72 (fun _ => 0)) := by rw [eG_39]; exact gs_keep hc_37 hc_34 (by simp)
  have hc_43 : G_39 q_32 = some (aInt (k 0) 24 (fun _ => 0)) := by rw [eG_39]; exact gs_keep hc_38 hc_34 (by simp)
  have hc_44 : G_39 mo = some (.inr (4, [.int 0, .int 0, .int 0, .int 0, .ref q_2, .ref q_10, .ref q_20, .ref q_32, .int 0, .null, .long 0, .long 0, .long 0, .long 0])) := by rw [eG_39]; exact gs_us _ _ _
  refine lv_aload_n hx hb d_Md_init_36 rfl (lv_at hl 0 rfl) ?_
  refine lv_bipush (v := 40) hx hb d_Md_init_37 (by decide) ?_
  refine gs_newa E hK.1 hG hS (atype := .int) w_59 (cA := k 0) (hK.1.2 0 _ rfl).2 (N' := 40) (a0 := (40, .inl (fun _ => 0))) (fun cA => rfl) (by decide) (by decide) (by decide) (by exact Nat.le_of_ble_eq_true rfl) (by exact Nat.le_of_ble_eq_true rfl) d_Md_init_39 (fun H_45 hG9 hS9 => ?_)
  have hfq_46 : G_39 H.size = none := hG.fresh
  obtain ⟨q_46, eq_46⟩ : ∃ z : Nat, z = H.size := ⟨_, rfl⟩
  rw [← eq_46] at hG9 hfq_46 ⊢
  obtain ⟨G_47, eG_47⟩ : ∃ z, z = gs_u G_39 q_46 (aInt (k 0) 40 (fun _ => 0)) := ⟨_, rfl⟩
  have hG : gs_W D classes zb G_47 H_45 := by rw [eG_47]; exact hG9
  have hS := hS9
  have hc_48 : G_47 mo = some (.inr (4, [.int 0, .int 0, .int 0, .int 0, .ref q_2, .ref q_10, .ref q_20, .ref q_32, .int 0, .null, .long 0, .long 0, .long 0, .long 0])) := by rw [eG_47]; exact gs_keepN hc_44 hfq_46
  have hc_49 : G_47 q_2 = some (aInt (k 0) 66 (fun _ => 0)) := by rw [eG_47]; exact gs_keepN hc_40 hfq_46
  have hc_50 : G_47 q_10 = some (aInt (k 2) 11 (fun _ => 0)) := by rw [eG_47]; exact gs_keepN hc_41 hfq_46
  have hc_51 : G_47 q_20 = some (aInt (k 0) 72 (fun _ => 0)) := by rw [eG_47]; exact gs_keepN hc_42 hfq_46
  have hc_52 : G_47 q_32 = some (aInt (k 0) 24 (fun _ => 0)) := by rw [eG_47]; exact gs_keepN hc_43 hfq_46
  have hc_53 : G_47 q_46 = some (aInt (k 0) 40 (fun _ => 0)) := by rw [eG_47]; exact gs_us _ _ _
  refine W.eq (g2 := F0 m 41 ls [.ref q_46, .ref mo]) rfl ?_
  refine gs_putF E hK.1 hG hS hc_48 (C := R_Md) (T := F_Md) (N := 14) rfl i_Md t_Md t_Md_ok n_Md 9 (by decide) w_472 rfl hin rfl (v := .ref q_46) rfl rfl (Nat.le_of_ble_eq_true rfl) d_Md_init_41 (fun H locs hG hS => ?_)
  obtain ⟨G_54, eG_54⟩ : ∃ z, z = gs_u G_47 mo (.inr (4, [.int 0, .int 0, .int 0, .int 0, .ref q_2, .ref q_10, .ref q_20, .ref q_32, .int 0, .ref q_46, .long 0, .long 0, .long 0, .long 0])) := ⟨_, rfl⟩
  have hG : gs_W D classes zb G_54 H := by rw [eG_54]; exact hG
  have hc_55 : G_54 q_2 = some (aInt (k 0) 66 (fun _ => 0)) := by rw [eG_54]; exact gs_keep hc_49 hc_48 (by simp)
  have hc_56 : G_54 q_10 = some (aInt (k 2) 11 (fun _ => 0)) := by rw [eG_54]; exact gs_keep hc_50 hc_48 (by simp)
  have hc_57 : G_54 q_20 = some (aInt (k 0) 72 (fun _ => 0)) := by rw [eG_54]; exact gs_keep hc_51 hc_48 (by simp)
  have hc_58 : G_54 q_32 = some (aInt (k 0) 24 (fun _ => 0)) := by rw [eG_54]; exact gs_keep hc_52 hc_48 (by simp)
  have hc_59 : G_54 q_46 = some (aInt (k 0) 40 (fun _ => 0)) := by rw [eG_54]; exact gs_keep hc_53 hc_48 (by simp)
  have hc_60 : G_54 mo = some (.inr (4, [.int 0, .int 0, .int 0, .int 0, .ref q_2, .ref q_10, .ref q_20, .ref q_32, .int 0, .ref q_46, .long 0, .long 0, .long 0, .long 0])) := by rw [eG_54]; exact gs_us _ _ _
  refine lv_aload_n hx hb d_Md_init_44 rfl (lv_at hl 0 rfl) ?_
  refine lv_iload_n hx hb d_Md_init_45 rfl (lv_at hl 1 rfl) ?_
  refine lv_iconst (v := 1) hx hb d_Md_init_46 (by decide) ?_
  refine lv_icmp_ge (tgt := 54) hx hb d_Md_init_47 (by decide) (fun c_61 => ?_) (fun c_61 => ?_)
  · refine lv_iload_n hx hb d_Md_init_54 rfl (lv_at hl 1 rfl) ?_
    refine lv_bipush (v := 60) hx hb d_Md_init_55 (by decide) ?_
    refine lv_icmp_le (tgt := 65) hx hb d_Md_init_57 (by decide) (fun c_62 => ?_) (fun c_62 => ?_)
    · refine lv_iload_n hx hb d_Md_init_65 rfl (lv_at hl 1 rfl) ?_
      obtain ⟨wn, hwn, ewn⟩ : ∃ n : Nat, (1 ≤ n ∧ n ≤ 60) ∧ (wq : Int32) = nI n := cl_w c_61 c_62
      have eclwn : jm_cl wq = nI wn := by unfold jm_cl; rw [if_pos c_61, if_pos c_62, ← ewn]
      refine lv_topE ewn ?_
      refine gs_put E hK.1 hG hS hc_60 (C := R_Md) (T := F_Md) (N := 14) rfl i_Md t_Md t_Md_ok n_Md 1 (by decide) w_464 rfl (v := .int (nI wn)) rfl rfl (Nat.le_of_ble_eq_true rfl) d_Md_init_66 (fun H locs hG hS => ?_)
      obtain ⟨G_63, eG_63⟩ : ∃ z, z = gs_u G_54 mo (.inr (4, [.int 0, .int (nI wn), .int 0, .int 0, .ref q_2, .ref q_10, .ref q_20, .ref q_32, .int 0, .ref q_46, .long 0, .long 0, .long 0, .long 0])) := ⟨_, rfl⟩
      have hG : gs_W D classes zb G_63 H := by rw [eG_63]; exact hG
      have hc_64 : G_63 q_2 = some (aInt (k 0) 66 (fun _ => 0)) := by rw [eG_63]; exact gs_keep hc_55 hc_60 (by simp)
      have hc_65 : G_63 q_10 = some (aInt (k 2) 11 (fun _ => 0)) := by rw [eG_63]; exact gs_keep hc_56 hc_60 (by simp)
      have hc_66 : G_63 q_20 = some (aInt (k 0) 72 (fun _ => 0)) := by rw [eG_63]; exact gs_keep hc_57 hc_60 (by simp)
      have hc_67 : G_63 q_32 = some (aInt (k 0) 24 (fun _ => 0)) := by rw [eG_63]; exact gs_keep hc_58 hc_60 (by simp)
      have hc_68 : G_63 q_46 = some (aInt (k 0) 40 (fun _ => 0)) := by rw [eG_63]; exact gs_keep hc_59 hc_60 (by simp)
      have hc_69 : G_63 mo = some (.inr (4, [.int 0, .int (nI wn), .int 0, .int 0, .ref q_2, .ref q_10, .ref q_20, .ref q_32, .int 0, .ref q_46, .long 0, .long 0, .long 0, .long 0])) := by rw [eG_63]; exact gs_us _ _ _
      refine lv_aload_n hx hb d_Md_init_69 rfl (lv_at hl 0 rfl) ?_
      refine lv_iload_n hx hb d_Md_init_70 rfl (lv_at hl 2 rfl) ?_
      refine lv_iconst (v := 1) hx hb d_Md_init_71 (by decide) ?_
      refine lv_icmp_ge (tgt := 79) hx hb d_Md_init_72 (by decide) (fun c_70 => ?_) (fun c_70 => ?_)
      · refine lv_iload_n hx hb d_Md_init_79 rfl (lv_at hl 2 rfl) ?_
        refine lv_bipush (v := 60) hx hb d_Md_init_80 (by decide) ?_
        refine lv_icmp_le (tgt := 90) hx hb d_Md_init_82 (by decide) (fun c_71 => ?_) (fun c_71 => ?_)
        · refine lv_iload_n hx hb d_Md_init_90 rfl (lv_at hl 2 rfl) ?_
          obtain ⟨hn, hhn, ehn⟩ : ∃ n : Nat, (1 ≤ n ∧ n ≤ 60) ∧ (hq : Int32) = nI n := cl_w c_70 c_71
          have eclhn : jm_cl hq = nI hn := by unfold jm_cl; rw [if_pos c_70, if_pos c_71, ← ehn]
          refine lv_topE ehn ?_
          refine gs_put E hK.1 hG hS hc_69 (C := R_Md) (T := F_Md) (N := 14) rfl i_Md t_Md t_Md_ok n_Md 2 (by decide) w_465 rfl (v := .int (nI hn)) rfl rfl (Nat.le_of_ble_eq_true rfl) d_Md_init_91 (fun H locs hG hS => ?_)
          obtain ⟨G_72, eG_72⟩ : ∃ z, z = gs_u G_63 mo (.inr (4, [.int 0, .int (nI wn), .int (nI hn), .int 0, .ref q_2, .ref q_10, .ref q_20, .ref q_32, .int 0, .ref q_46, .long 0, .long 0, .long 0, .long 0])) := ⟨_, rfl⟩
          have hG : gs_W D classes zb G_72 H := by rw [eG_72]; exact hG
          have hc_73 : G_72 q_2 = some (aInt (k 0) 66 (fun _ => 0)) := by rw [eG_72]; exact gs_keep hc_64 hc_69 (by simp)
          have hc_74 : G_72 q_10 = some (aInt (k 2) 11 (fun _ => 0)) := by rw [eG_72]; exact gs_keep hc_65 hc_69 (by simp)
          have hc_75 : G_72 q_20 = some (aInt (k 0) 72 (fun _ => 0)) := by rw [eG_72]; exact gs_keep hc_66 hc_69 (by simp)
          have hc_76 : G_72 q_32 = some (aInt (k 0) 24 (fun _ => 0)) := by rw [eG_72]; exact gs_keep hc_67 hc_69 (by simp)
          have hc_77 : G_72 q_46 = some (aInt (k 0) 40 (fun _ => 0)) := by rw [eG_72]; exact gs_keep hc_68 hc_69 (by simp)
          have hc_78 : G_72 mo = some (.inr (4, [.int 0, .int (nI wn), .int (nI hn), .int 0, .ref q_2, .ref q_10, .ref q_20, .ref q_32, .int 0, .ref q_46, .long 0, .long 0, .long 0, .long 0])) := by rw [eG_72]; exact gs_us _ _ _
          have hmono : ∀ (b : Nat) (e9 : va_E), ¬ b = mo → G b = some e9 → G_72 b = some e9 := by
            intro b e9 hne hbe
            have hbe : G_3 b = some e9 := by rw [eG_3]; exact gs_keepN hbe hfq_2
            have hbe : G_6 b = some e9 := by rw [eG_6]; exact (gs_un hne).trans hbe
            have hbe : G_11 b = some e9 := by rw [eG_11]; exact gs_keepN hbe hfq_10
            have hbe : G_15 b = some e9 := by rw [eG_15]; exact (gs_un hne).trans hbe
            have hbe : G_21 b = some e9 := by rw [eG_21]; exact gs_keepN hbe hfq_20
            have hbe : G_26 b = some e9 := by rw [eG_26]; exact (gs_un hne).trans hbe
            have hbe : G_33 b = some e9 := by rw [eG_33]; exact gs_keepN hbe hfq_32
            have hbe : G_39 b = some e9 := by rw [eG_39]; exact (gs_un hne).trans hbe
            have hbe : G_47 b = some e9 := by rw [eG_47]; exact gs_keepN hbe hfq_46
            have hbe : G_54 b = some e9 := by rw [eG_54]; exact (gs_un hne).trans hbe
            have hbe : G_63 b = some e9 := by rw [eG_63]; exact (gs_un hne).trans hbe
            have hbe : G_72 b = some e9 := by rw [eG_72]; exact (gs_un hne).trans hbe
            exact hbe
          exact W.vret hx hb hr (gs_end ⟨rfl, q_2, q_10, q_20, q_32, q_46, wn, hn, hwn, hhn, eclwn, eclhn, ⟨hc_78, hc_73, hc_74, hc_75, hc_76, hc_77⟩, hmono⟩ hG hS) hS.2.2 d_Md_init_94
        · refine lv_bipush (v := 60) hx hb d_Md_init_85 (by decide) ?_
          refine lv_goto (tgt := 91) hx hb d_Md_init_87 (by decide) ?_
          obtain ⟨hn, hhn, ehn⟩ : ∃ n : Nat, (1 ≤ n ∧ n ≤ 60) ∧ (60 : Int32) = nI n := ⟨60, by decide, rfl⟩
          have eclhn : jm_cl hq = nI hn := by unfold jm_cl; rw [if_pos c_70, if_neg c_71, ← ehn]
          refine lv_topE ehn ?_
          refine gs_put E hK.1 hG hS hc_69 (C := R_Md) (T := F_Md) (N := 14) rfl i_Md t_Md t_Md_ok n_Md 2 (by decide) w_465 rfl (v := .int (nI hn)) rfl rfl (Nat.le_of_ble_eq_true rfl) d_Md_init_91 (fun H locs hG hS => ?_)
          obtain ⟨G_79, eG_79⟩ : ∃ z, z = gs_u G_63 mo (.inr (4, [.int 0, .int (nI wn), .int (nI hn), .int 0, .ref q_2, .ref q_10, .ref q_20, .ref q_32, .int 0, .ref q_46, .long 0, .long 0, .long 0, .long 0])) := ⟨_, rfl⟩
          have hG : gs_W D classes zb G_79 H := by rw [eG_79]; exact hG
          have hc_80 : G_79 q_2 = some (aInt (k 0) 66 (fun _ => 0)) := by rw [eG_79]; exact gs_keep hc_64 hc_69 (by simp)
          have hc_81 : G_79 q_10 = some (aInt (k 2) 11 (fun _ => 0)) := by rw [eG_79]; exact gs_keep hc_65 hc_69 (by simp)
          have hc_82 : G_79 q_20 = some (aInt (k 0) 72 (fun _ => 0)) := by rw [eG_79]; exact gs_keep hc_66 hc_69 (by simp)
          have hc_83 : G_79 q_32 = some (aInt (k 0) 24 (fun _ => 0)) := by rw [eG_79]; exact gs_keep hc_67 hc_69 (by simp)
          have hc_84 : G_79 q_46 = some (aInt (k 0) 40 (fun _ => 0)) := by rw [eG_79]; exact gs_keep hc_68 hc_69 (by simp)
          have hc_85 : G_79 mo = some (.inr (4, [.int 0, .int (nI wn), .int (nI hn), .int 0, .ref q_2, .ref q_10, .ref q_20, .ref q_32, .int 0, .ref q_46, .long 0, .long 0, .long 0, .long 0])) := by rw [eG_79]; exact gs_us _ _ _
          have hmono : ∀ (b : Nat) (e9 : va_E), ¬ b = mo → G b = some e9 → G_79 b = some e9 := by
            intro b e9 hne hbe
            have hbe : G_3 b = some e9 := by rw [eG_3]; exact gs_keepN hbe hfq_2
            have hbe : G_6 b = some e9 := by rw [eG_6]; exact (gs_un hne).trans hbe
            have hbe : G_11 b = some e9 := by rw [eG_11]; exact gs_keepN hbe hfq_10
            have hbe : G_15 b = some e9 := by rw [eG_15]; exact (gs_un hne).trans hbe
            have hbe : G_21 b = some e9 := by rw [eG_21]; exact gs_keepN hbe hfq_20
            have hbe : G_26 b = some e9 := by rw [eG_26]; exact (gs_un hne).trans hbe
            have hbe : G_33 b = some e9 := by rw [eG_33]; exact gs_keepN hbe hfq_32
            have hbe : G_39 b = some e9 := by rw [eG_39]; exact (gs_un hne).trans hbe
            have hbe : G_47 b = some e9 := by rw [eG_47]; exact gs_keepN hbe hfq_46
            have hbe : G_54 b = some e9 := by rw [eG_54]; exact (gs_un hne).trans hbe
            have hbe : G_63 b = some e9 := by rw [eG_63]; exact (gs_un hne).trans hbe
            have hbe : G_79 b = some e9 := by rw [eG_79]; exact (gs_un hne).trans hbe
            exact hbe
          exact W.vret hx hb hr (gs_end ⟨rfl, q_2, q_10, q_20, q_32, q_46, wn, hn, hwn, hhn, eclwn, eclhn, ⟨hc_85, hc_80, hc_81, hc_82, hc_83, hc_84⟩, hmono⟩ hG hS) hS.2.2 d_Md_init_94
      · refine lv_iconst (v := 1) hx hb d_Md_init_75 (by decide) ?_
        refine lv_goto (tgt := 91) hx hb d_Md_init_76 (by decide) ?_
        obtain ⟨hn, hhn, ehn⟩ : ∃ n : Nat, (1 ≤ n ∧ n ≤ 60) ∧ (1 : Int32) = nI n := ⟨1, by decide, rfl⟩
        have eclhn : jm_cl hq = nI hn := by unfold jm_cl; rw [if_neg c_70, ← ehn]
        refine lv_topE ehn ?_
        refine gs_put E hK.1 hG hS hc_69 (C := R_Md) (T := F_Md) (N := 14) rfl i_Md t_Md t_Md_ok n_Md 2 (by decide) w_465 rfl (v := .int (nI hn)) rfl rfl (Nat.le_of_ble_eq_true rfl) d_Md_init_91 (fun H locs hG hS => ?_)
        obtain ⟨G_86, eG_86⟩ : ∃ z, z = gs_u G_63 mo (.inr (4, [.int 0, .int (nI wn), .int (nI hn), .int 0, .ref q_2, .ref q_10, .ref q_20, .ref q_32, .int 0, .ref q_46, .long 0, .long 0, .long 0, .long 0])) := ⟨_, rfl⟩
        have hG : gs_W D classes zb G_86 H := by rw [eG_86]; exact hG
        have hc_87 : G_86 q_2 = some (aInt (k 0) 66 (fun _ => 0)) := by rw [eG_86]; exact gs_keep hc_64 hc_69 (by simp)
        have hc_88 : G_86 q_10 = some (aInt (k 2) 11 (fun _ => 0)) := by rw [eG_86]; exact gs_keep hc_65 hc_69 (by simp)
        have hc_89 : G_86 q_20 = some (aInt (k 0) 72 (fun _ => 0)) := by rw [eG_86]; exact gs_keep hc_66 hc_69 (by simp)
        have hc_90 : G_86 q_32 = some (aInt (k 0) 24 (fun _ => 0)) := by rw [eG_86]; exact gs_keep hc_67 hc_69 (by simp)
        have hc_91 : G_86 q_46 = some (aInt (k 0) 40 (fun _ => 0)) := by rw [eG_86]; exact gs_keep hc_68 hc_69 (by simp)
        have hc_92 : G_86 mo = some (.inr (4, [.int 0, .int (nI wn), .int (nI hn), .int 0, .ref q_2, .ref q_10, .ref q_20, .ref q_32, .int 0, .ref q_46, .long 0, .long 0, .long 0, .long 0])) := by rw [eG_86]; exact gs_us _ _ _
        have hmono : ∀ (b : Nat) (e9 : va_E), ¬ b = mo → G b = some e9 → G_86 b = some e9 := by
          intro b e9 hne hbe
          have hbe : G_3 b = some e9 := by rw [eG_3]; exact gs_keepN hbe hfq_2
          have hbe : G_6 b = some e9 := by rw [eG_6]; exact (gs_un hne).trans hbe
          have hbe : G_11 b = some e9 := by rw [eG_11]; exact gs_keepN hbe hfq_10
          have hbe : G_15 b = some e9 := by rw [eG_15]; exact (gs_un hne).trans hbe
          have hbe : G_21 b = some e9 := by rw [eG_21]; exact gs_keepN hbe hfq_20
          have hbe : G_26 b = some e9 := by rw [eG_26]; exact (gs_un hne).trans hbe
          have hbe : G_33 b = some e9 := by rw [eG_33]; exact gs_keepN hbe hfq_32
          have hbe : G_39 b = some e9 := by rw [eG_39]; exact (gs_un hne).trans hbe
          have hbe : G_47 b = some e9 := by rw [eG_47]; exact gs_keepN hbe hfq_46
          have hbe : G_54 b = some e9 := by rw [eG_54]; exact (gs_un hne).trans hbe
          have hbe : G_63 b = some e9 := by rw [eG_63]; exact (gs_un hne).trans hbe
          have hbe : G_86 b = some e9 := by rw [eG_86]; exact (gs_un hne).trans hbe
          exact hbe
        exact W.vret hx hb hr (gs_end ⟨rfl, q_2, q_10, q_20, q_32, q_46, wn, hn, hwn, hhn, eclwn, eclhn, ⟨hc_92, hc_87, hc_88, hc_89, hc_90, hc_91⟩, hmono⟩ hG hS) hS.2.2 d_Md_init_94
    · refine lv_bipush (v := 60) hx hb d_Md_init_60 (by decide) ?_
      refine lv_goto (tgt := 66) hx hb d_Md_init_62 (by decide) ?_
      obtain ⟨wn, hwn, ewn⟩ : ∃ n : Nat, (1 ≤ n ∧ n ≤ 60) ∧ (60 : Int32) = nI n := ⟨60, by decide, rfl⟩
      have eclwn : jm_cl wq = nI wn := by unfold jm_cl; rw [if_pos c_61, if_neg c_62, ← ewn]
      refine lv_topE ewn ?_
      refine gs_put E hK.1 hG hS hc_60 (C := R_Md) (T := F_Md) (N := 14) rfl i_Md t_Md t_Md_ok n_Md 1 (by decide) w_464 rfl (v := .int (nI wn)) rfl rfl (Nat.le_of_ble_eq_true rfl) d_Md_init_66 (fun H locs hG hS => ?_)
      obtain ⟨G_93, eG_93⟩ : ∃ z, z = gs_u G_54 mo (.inr (4, [.int 0, .int (nI wn), .int 0, .int 0, .ref q_2, .ref q_10, .ref q_20, .ref q_32, .int 0, .ref q_46, .long 0, .long 0, .long 0, .long 0])) := ⟨_, rfl⟩
      have hG : gs_W D classes zb G_93 H := by rw [eG_93]; exact hG
      have hc_94 : G_93 q_2 = some (aInt (k 0) 66 (fun _ => 0)) := by rw [eG_93]; exact gs_keep hc_55 hc_60 (by simp)
      have hc_95 : G_93 q_10 = some (aInt (k 2) 11 (fun _ => 0)) := by rw [eG_93]; exact gs_keep hc_56 hc_60 (by simp)
      have hc_96 : G_93 q_20 = some (aInt (k 0) 72 (fun _ => 0)) := by rw [eG_93]; exact gs_keep hc_57 hc_60 (by simp)
      have hc_97 : G_93 q_32 = some (aInt (k 0) 24 (fun _ => 0)) := by rw [eG_93]; exact gs_keep hc_58 hc_60 (by simp)
      have hc_98 : G_93 q_46 = some (aInt (k 0) 40 (fun _ => 0)) := by rw [eG_93]; exact gs_keep hc_59 hc_60 (by simp)
      have hc_99 : G_93 mo = some (.inr (4, [.int 0, .int (nI wn), .int 0, .int 0, .ref q_2, .ref q_10, .ref q_20, .ref q_32, .int 0, .ref q_46, .long 0, .long 0, .long 0, .long 0])) := by rw [eG_93]; exact gs_us _ _ _
      refine lv_aload_n hx hb d_Md_init_69 rfl (lv_at hl 0 rfl) ?_
      refine lv_iload_n hx hb d_Md_init_70 rfl (lv_at hl 2 rfl) ?_
      refine lv_iconst (v := 1) hx hb d_Md_init_71 (by decide) ?_
      refine lv_icmp_ge (tgt := 79) hx hb d_Md_init_72 (by decide) (fun c_100 => ?_) (fun c_100 => ?_)
      · refine lv_iload_n hx hb d_Md_init_79 rfl (lv_at hl 2 rfl) ?_
        refine lv_bipush (v := 60) hx hb d_Md_init_80 (by decide) ?_
        refine lv_icmp_le (tgt := 90) hx hb d_Md_init_82 (by decide) (fun c_101 => ?_) (fun c_101 => ?_)
        · refine lv_iload_n hx hb d_Md_init_90 rfl (lv_at hl 2 rfl) ?_
          obtain ⟨hn, hhn, ehn⟩ : ∃ n : Nat, (1 ≤ n ∧ n ≤ 60) ∧ (hq : Int32) = nI n := cl_w c_100 c_101
          have eclhn : jm_cl hq = nI hn := by unfold jm_cl; rw [if_pos c_100, if_pos c_101, ← ehn]
          refine lv_topE ehn ?_
          refine gs_put E hK.1 hG hS hc_99 (C := R_Md) (T := F_Md) (N := 14) rfl i_Md t_Md t_Md_ok n_Md 2 (by decide) w_465 rfl (v := .int (nI hn)) rfl rfl (Nat.le_of_ble_eq_true rfl) d_Md_init_91 (fun H locs hG hS => ?_)
          obtain ⟨G_102, eG_102⟩ : ∃ z, z = gs_u G_93 mo (.inr (4, [.int 0, .int (nI wn), .int (nI hn), .int 0, .ref q_2, .ref q_10, .ref q_20, .ref q_32, .int 0, .ref q_46, .long 0, .long 0, .long 0, .long 0])) := ⟨_, rfl⟩
          have hG : gs_W D classes zb G_102 H := by rw [eG_102]; exact hG
          have hc_103 : G_102 q_2 = some (aInt (k 0) 66 (fun _ => 0)) := by rw [eG_102]; exact gs_keep hc_94 hc_99 (by simp)
          have hc_104 : G_102 q_10 = some (aInt (k 2) 11 (fun _ => 0)) := by rw [eG_102]; exact gs_keep hc_95 hc_99 (by simp)
          have hc_105 : G_102 q_20 = some (aInt (k 0) 72 (fun _ => 0)) := by rw [eG_102]; exact gs_keep hc_96 hc_99 (by simp)
          have hc_106 : G_102 q_32 = some (aInt (k 0) 24 (fun _ => 0)) := by rw [eG_102]; exact gs_keep hc_97 hc_99 (by simp)
          have hc_107 : G_102 q_46 = some (aInt (k 0) 40 (fun _ => 0)) := by rw [eG_102]; exact gs_keep hc_98 hc_99 (by simp)
          have hc_108 : G_102 mo = some (.inr (4, [.int 0, .int (nI wn), .int (nI hn), .int 0, .ref q_2, .ref q_10, .ref q_20, .ref q_32, .int 0, .ref q_46, .long 0, .long 0, .long 0, .long 0])) := by rw [eG_102]; exact gs_us _ _ _
          have hmono : ∀ (b : Nat) (e9 : va_E), ¬ b = mo → G b = some e9 → G_102 b = some e9 := by
            intro b e9 hne hbe
            have hbe : G_3 b = some e9 := by rw [eG_3]; exact gs_keepN hbe hfq_2
            have hbe : G_6 b = some e9 := by rw [eG_6]; exact (gs_un hne).trans hbe
            have hbe : G_11 b = some e9 := by rw [eG_11]; exact gs_keepN hbe hfq_10
            have hbe : G_15 b = some e9 := by rw [eG_15]; exact (gs_un hne).trans hbe
            have hbe : G_21 b = some e9 := by rw [eG_21]; exact gs_keepN hbe hfq_20
            have hbe : G_26 b = some e9 := by rw [eG_26]; exact (gs_un hne).trans hbe
            have hbe : G_33 b = some e9 := by rw [eG_33]; exact gs_keepN hbe hfq_32
            have hbe : G_39 b = some e9 := by rw [eG_39]; exact (gs_un hne).trans hbe
            have hbe : G_47 b = some e9 := by rw [eG_47]; exact gs_keepN hbe hfq_46
            have hbe : G_54 b = some e9 := by rw [eG_54]; exact (gs_un hne).trans hbe
            have hbe : G_93 b = some e9 := by rw [eG_93]; exact (gs_un hne).trans hbe
            have hbe : G_102 b = some e9 := by rw [eG_102]; exact (gs_un hne).trans hbe
            exact hbe
          exact W.vret hx hb hr (gs_end ⟨rfl, q_2, q_10, q_20, q_32, q_46, wn, hn, hwn, hhn, eclwn, eclhn, ⟨hc_108, hc_103, hc_104, hc_105, hc_106, hc_107⟩, hmono⟩ hG hS) hS.2.2 d_Md_init_94
        · refine lv_bipush (v := 60) hx hb d_Md_init_85 (by decide) ?_
          refine lv_goto (tgt := 91) hx hb d_Md_init_87 (by decide) ?_
          obtain ⟨hn, hhn, ehn⟩ : ∃ n : Nat, (1 ≤ n ∧ n ≤ 60) ∧ (60 : Int32) = nI n := ⟨60, by decide, rfl⟩
          have eclhn : jm_cl hq = nI hn := by unfold jm_cl; rw [if_pos c_100, if_neg c_101, ← ehn]
          refine lv_topE ehn ?_
          refine gs_put E hK.1 hG hS hc_99 (C := R_Md) (T := F_Md) (N := 14) rfl i_Md t_Md t_Md_ok n_Md 2 (by decide) w_465 rfl (v := .int (nI hn)) rfl rfl (Nat.le_of_ble_eq_true rfl) d_Md_init_91 (fun H locs hG hS => ?_)
          obtain ⟨G_109, eG_109⟩ : ∃ z, z = gs_u G_93 mo (.inr (4, [.int 0, .int (nI wn), .int (nI hn), .int 0, .ref q_2, .ref q_10, .ref q_20, .ref q_32, .int 0, .ref q_46, .long 0, .long 0, .long 0, .long 0])) := ⟨_, rfl⟩
          have hG : gs_W D classes zb G_109 H := by rw [eG_109]; exact hG
          have hc_110 : G_109 q_2 = some (aInt (k 0) 66 (fun _ => 0)) := by rw [eG_109]; exact gs_keep hc_94 hc_99 (by simp)
          have hc_111 : G_109 q_10 = some (aInt (k 2) 11 (fun _ => 0)) := by rw [eG_109]; exact gs_keep hc_95 hc_99 (by simp)
          have hc_112 : G_109 q_20 = some (aInt (k 0) 72 (fun _ => 0)) := by rw [eG_109]; exact gs_keep hc_96 hc_99 (by simp)
          have hc_113 : G_109 q_32 = some (aInt (k 0) 24 (fun _ => 0)) := by rw [eG_109]; exact gs_keep hc_97 hc_99 (by simp)
          have hc_114 : G_109 q_46 = some (aInt (k 0) 40 (fun _ => 0)) := by rw [eG_109]; exact gs_keep hc_98 hc_99 (by simp)
          have hc_115 : G_109 mo = some (.inr (4, [.int 0, .int (nI wn), .int (nI hn), .int 0, .ref q_2, .ref q_10, .ref q_20, .ref q_32, .int 0, .ref q_46, .long 0, .long 0, .long 0, .long 0])) := by rw [eG_109]; exact gs_us _ _ _
          have hmono : ∀ (b : Nat) (e9 : va_E), ¬ b = mo → G b = some e9 → G_109 b = some e9 := by
            intro b e9 hne hbe
            have hbe : G_3 b = some e9 := by rw [eG_3]; exact gs_keepN hbe hfq_2
            have hbe : G_6 b = some e9 := by rw [eG_6]; exact (gs_un hne).trans hbe
            have hbe : G_11 b = some e9 := by rw [eG_11]; exact gs_keepN hbe hfq_10
            have hbe : G_15 b = some e9 := by rw [eG_15]; exact (gs_un hne).trans hbe
            have hbe : G_21 b = some e9 := by rw [eG_21]; exact gs_keepN hbe hfq_20
            have hbe : G_26 b = some e9 := by rw [eG_26]; exact (gs_un hne).trans hbe
            have hbe : G_33 b = some e9 := by rw [eG_33]; exact gs_keepN hbe hfq_32
            have hbe : G_39 b = some e9 := by rw [eG_39]; exact (gs_un hne).trans hbe
            have hbe : G_47 b = some e9 := by rw [eG_47]; exact gs_keepN hbe hfq_46
            have hbe : G_54 b = some e9 := by rw [eG_54]; exact (gs_un hne).trans hbe
            have hbe : G_93 b = some e9 := by rw [eG_93]; exact (gs_un hne).trans hbe
            have hbe : G_109 b = some e9 := by rw [eG_109]; exact (gs_un hne).trans hbe
            exact hbe
          exact W.vret hx hb hr (gs_end ⟨rfl, q_2, q_10, q_20, q_32, q_46, wn, hn, hwn, hhn, eclwn, eclhn, ⟨hc_115, hc_110, hc_111, hc_112, hc_113, hc_114⟩, hmono⟩ hG hS) hS.2.2 d_Md_init_94
      · refine lv_iconst (v := 1) hx hb d_Md_init_75 (by decide) ?_
        refine lv_goto (tgt := 91) hx hb d_Md_init_76 (by decide) ?_
        obtain ⟨hn, hhn, ehn⟩ : ∃ n : Nat, (1 ≤ n ∧ n ≤ 60) ∧ (1 : Int32) = nI n := ⟨1, by decide, rfl⟩
        have eclhn : jm_cl hq = nI hn := by unfold jm_cl; rw [if_neg c_100, ← ehn]
        refine lv_topE ehn ?_
        refine gs_put E hK.1 hG hS hc_99 (C := R_Md) (T := F_Md) (N := 14) rfl i_Md t_Md t_Md_ok n_Md 2 (by decide) w_465 rfl (v := .int (nI hn)) rfl rfl (Nat.le_of_ble_eq_true rfl) d_Md_init_91 (fun H locs hG hS => ?_)
        obtain ⟨G_116, eG_116⟩ : ∃ z, z = gs_u G_93 mo (.inr (4, [.int 0, .int (nI wn), .int (nI hn), .int 0, .ref q_2, .ref q_10, .ref q_20, .ref q_32, .int 0, .ref q_46, .long 0, .long 0, .long 0, .long 0])) := ⟨_, rfl⟩
        have hG : gs_W D classes zb G_116 H := by rw [eG_116]; exact hG
        have hc_117 : G_116 q_2 = some (aInt (k 0) 66 (fun _ => 0)) := by rw [eG_116]; exact gs_keep hc_94 hc_99 (by simp)
        have hc_118 : G_116 q_10 = some (aInt (k 2) 11 (fun _ => 0)) := by rw [eG_116]; exact gs_keep hc_95 hc_99 (by simp)
        have hc_119 : G_116 q_20 = some (aInt (k 0) 72 (fun _ => 0)) := by rw [eG_116]; exact gs_keep hc_96 hc_99 (by simp)
        have hc_120 : G_116 q_32 = some (aInt (k 0) 24 (fun _ => 0)) := by rw [eG_116]; exact gs_keep hc_97 hc_99 (by simp)
        have hc_121 : G_116 q_46 = some (aInt (k 0) 40 (fun _ => 0)) := by rw [eG_116]; exact gs_keep hc_98 hc_99 (by simp)
        have hc_122 : G_116 mo = some (.inr (4, [.int 0, .int (nI wn), .int (nI hn), .int 0, .ref q_2, .ref q_10, .ref q_20, .ref q_32, .int 0, .ref q_46, .long 0, .long 0, .long 0, .long 0])) := by rw [eG_116]; exact gs_us _ _ _
        have hmono : ∀ (b : Nat) (e9 : va_E), ¬ b = mo → G b = some e9 → G_116 b = some e9 := by
          intro b e9 hne hbe
          have hbe : G_3 b = some e9 := by rw [eG_3]; exact gs_keepN hbe hfq_2
          have hbe : G_6 b = some e9 := by rw [eG_6]; exact (gs_un hne).trans hbe
          have hbe : G_11 b = some e9 := by rw [eG_11]; exact gs_keepN hbe hfq_10
          have hbe : G_15 b = some e9 := by rw [eG_15]; exact (gs_un hne).trans hbe
          have hbe : G_21 b = some e9 := by rw [eG_21]; exact gs_keepN hbe hfq_20
          have hbe : G_26 b = some e9 := by rw [eG_26]; exact (gs_un hne).trans hbe
          have hbe : G_33 b = some e9 := by rw [eG_33]; exact gs_keepN hbe hfq_32
          have hbe : G_39 b = some e9 := by rw [eG_39]; exact (gs_un hne).trans hbe
          have hbe : G_47 b = some e9 := by rw [eG_47]; exact gs_keepN hbe hfq_46
          have hbe : G_54 b = some e9 := by rw [eG_54]; exact (gs_un hne).trans hbe
          have hbe : G_93 b = some e9 := by rw [eG_93]; exact (gs_un hne).trans hbe
          have hbe : G_116 b = some e9 := by rw [eG_116]; exact (gs_un hne).trans hbe
          exact hbe
        exact W.vret hx hb hr (gs_end ⟨rfl, q_2, q_10, q_20, q_32, q_46, wn, hn, hwn, hhn, eclwn, eclhn, ⟨hc_122, hc_117, hc_118, hc_119, hc_120, hc_121⟩, hmono⟩ hG hS) hS.2.2 d_Md_init_94
  · refine lv_iconst (v := 1) hx hb d_Md_init_50 (by decide) ?_
    refine lv_goto (tgt := 66) hx hb d_Md_init_51 (by decide) ?_
    obtain ⟨wn, hwn, ewn⟩ : ∃ n : Nat, (1 ≤ n ∧ n ≤ 60) ∧ (1 : Int32) = nI n := ⟨1, by decide, rfl⟩
    have eclwn : jm_cl wq = nI wn := by unfold jm_cl; rw [if_neg c_61, ← ewn]
    refine lv_topE ewn ?_
    refine gs_put E hK.1 hG hS hc_60 (C := R_Md) (T := F_Md) (N := 14) rfl i_Md t_Md t_Md_ok n_Md 1 (by decide) w_464 rfl (v := .int (nI wn)) rfl rfl (Nat.le_of_ble_eq_true rfl) d_Md_init_66 (fun H locs hG hS => ?_)
    obtain ⟨G_123, eG_123⟩ : ∃ z, z = gs_u G_54 mo (.inr (4, [.int 0, .int (nI wn), .int 0, .int 0, .ref q_2, .ref q_10, .ref q_20, .ref q_32, .int 0, .ref q_46, .long 0, .long 0, .long 0, .long 0])) := ⟨_, rfl⟩
    have hG : gs_W D classes zb G_123 H := by rw [eG_123]; exact hG
    have hc_124 : G_123 q_2 = some (aInt (k 0) 66 (fun _ => 0)) := by rw [eG_123]; exact gs_keep hc_55 hc_60 (by simp)
    have hc_125 : G_123 q_10 = some (aInt (k 2) 11 (fun _ => 0)) := by rw [eG_123]; exact gs_keep hc_56 hc_60 (by simp)
    have hc_126 : G_123 q_20 = some (aInt (k 0) 72 (fun _ => 0)) := by rw [eG_123]; exact gs_keep hc_57 hc_60 (by simp)
    have hc_127 : G_123 q_32 = some (aInt (k 0) 24 (fun _ => 0)) := by rw [eG_123]; exact gs_keep hc_58 hc_60 (by simp)
    have hc_128 : G_123 q_46 = some (aInt (k 0) 40 (fun _ => 0)) := by rw [eG_123]; exact gs_keep hc_59 hc_60 (by simp)
    have hc_129 : G_123 mo = some (.inr (4, [.int 0, .int (nI wn), .int 0, .int 0, .ref q_2, .ref q_10, .ref q_20, .ref q_32, .int 0, .ref q_46, .long 0, .long 0, .long 0, .long 0])) := by rw [eG_123]; exact gs_us _ _ _
    refine lv_aload_n hx hb d_Md_init_69 rfl (lv_at hl 0 rfl) ?_
    refine lv_iload_n hx hb d_Md_init_70 rfl (lv_at hl 2 rfl) ?_
    refine lv_iconst (v := 1) hx hb d_Md_init_71 (by decide) ?_
    refine lv_icmp_ge (tgt := 79) hx hb d_Md_init_72 (by decide) (fun c_130 => ?_) (fun c_130 => ?_)
    · refine lv_iload_n hx hb d_Md_init_79 rfl (lv_at hl 2 rfl) ?_
      refine lv_bipush (v := 60) hx hb d_Md_init_80 (by decide) ?_
      refine lv_icmp_le (tgt := 90) hx hb d_Md_init_82 (by decide) (fun c_131 => ?_) (fun c_131 => ?_)
      · refine lv_iload_n hx hb d_Md_init_90 rfl (lv_at hl 2 rfl) ?_
        obtain ⟨hn, hhn, ehn⟩ : ∃ n : Nat, (1 ≤ n ∧ n ≤ 60) ∧ (hq : Int32) = nI n := cl_w c_130 c_131
        have eclhn : jm_cl hq = nI hn := by unfold jm_cl; rw [if_pos c_130, if_pos c_131, ← ehn]
        refine lv_topE ehn ?_
        refine gs_put E hK.1 hG hS hc_129 (C := R_Md) (T := F_Md) (N := 14) rfl i_Md t_Md t_Md_ok n_Md 2 (by decide) w_465 rfl (v := .int (nI hn)) rfl rfl (Nat.le_of_ble_eq_true rfl) d_Md_init_91 (fun H locs hG hS => ?_)
        obtain ⟨G_132, eG_132⟩ : ∃ z, z = gs_u G_123 mo (.inr (4, [.int 0, .int (nI wn), .int (nI hn), .int 0, .ref q_2, .ref q_10, .ref q_20, .ref q_32, .int 0, .ref q_46, .long 0, .long 0, .long 0, .long 0])) := ⟨_, rfl⟩
        have hG : gs_W D classes zb G_132 H := by rw [eG_132]; exact hG
        have hc_133 : G_132 q_2 = some (aInt (k 0) 66 (fun _ => 0)) := by rw [eG_132]; exact gs_keep hc_124 hc_129 (by simp)
        have hc_134 : G_132 q_10 = some (aInt (k 2) 11 (fun _ => 0)) := by rw [eG_132]; exact gs_keep hc_125 hc_129 (by simp)
        have hc_135 : G_132 q_20 = some (aInt (k 0) 72 (fun _ => 0)) := by rw [eG_132]; exact gs_keep hc_126 hc_129 (by simp)
        have hc_136 : G_132 q_32 = some (aInt (k 0) 24 (fun _ => 0)) := by rw [eG_132]; exact gs_keep hc_127 hc_129 (by simp)
        have hc_137 : G_132 q_46 = some (aInt (k 0) 40 (fun _ => 0)) := by rw [eG_132]; exact gs_keep hc_128 hc_129 (by simp)
        have hc_138 : G_132 mo = some (.inr (4, [.int 0, .int (nI wn), .int (nI hn), .int 0, .ref q_2, .ref q_10, .ref q_20, .ref q_32, .int 0, .ref q_46, .long 0, .long 0, .long 0, .long 0])) := by rw [eG_132]; exact gs_us _ _ _
        have hmono : ∀ (b : Nat) (e9 : va_E), ¬ b = mo → G b = some e9 → G_132 b = some e9 := by
          intro b e9 hne hbe
          have hbe : G_3 b = some e9 := by rw [eG_3]; exact gs_keepN hbe hfq_2
          have hbe : G_6 b = some e9 := by rw [eG_6]; exact (gs_un hne).trans hbe
          have hbe : G_11 b = some e9 := by rw [eG_11]; exact gs_keepN hbe hfq_10
          have hbe : G_15 b = some e9 := by rw [eG_15]; exact (gs_un hne).trans hbe
          have hbe : G_21 b = some e9 := by rw [eG_21]; exact gs_keepN hbe hfq_20
          have hbe : G_26 b = some e9 := by rw [eG_26]; exact (gs_un hne).trans hbe
          have hbe : G_33 b = some e9 := by rw [eG_33]; exact gs_keepN hbe hfq_32
          have hbe : G_39 b = some e9 := by rw [eG_39]; exact (gs_un hne).trans hbe
          have hbe : G_47 b = some e9 := by rw [eG_47]; exact gs_keepN hbe hfq_46
          have hbe : G_54 b = some e9 := by rw [eG_54]; exact (gs_un hne).trans hbe
          have hbe : G_123 b = some e9 := by rw [eG_123]; exact (gs_un hne).trans hbe
          have hbe : G_132 b = some e9 := by rw [eG_132]; exact (gs_un hne).trans hbe
          exact hbe
        exact W.vret hx hb hr (gs_end ⟨rfl, q_2, q_10, q_20, q_32, q_46, wn, hn, hwn, hhn, eclwn, eclhn, ⟨hc_138, hc_133, hc_134, hc_135, hc_136, hc_137⟩, hmono⟩ hG hS) hS.2.2 d_Md_init_94
      · refine lv_bipush (v := 60) hx hb d_Md_init_85 (by decide) ?_
        refine lv_goto (tgt := 91) hx hb d_Md_init_87 (by decide) ?_
        obtain ⟨hn, hhn, ehn⟩ : ∃ n : Nat, (1 ≤ n ∧ n ≤ 60) ∧ (60 : Int32) = nI n := ⟨60, by decide, rfl⟩
        have eclhn : jm_cl hq = nI hn := by unfold jm_cl; rw [if_pos c_130, if_neg c_131, ← ehn]
        refine lv_topE ehn ?_
        refine gs_put E hK.1 hG hS hc_129 (C := R_Md) (T := F_Md) (N := 14) rfl i_Md t_Md t_Md_ok n_Md 2 (by decide) w_465 rfl (v := .int (nI hn)) rfl rfl (Nat.le_of_ble_eq_true rfl) d_Md_init_91 (fun H locs hG hS => ?_)
        obtain ⟨G_139, eG_139⟩ : ∃ z, z = gs_u G_123 mo (.inr (4, [.int 0, .int (nI wn), .int (nI hn), .int 0, .ref q_2, .ref q_10, .ref q_20, .ref q_32, .int 0, .ref q_46, .long 0, .long 0, .long 0, .long 0])) := ⟨_, rfl⟩
        have hG : gs_W D classes zb G_139 H := by rw [eG_139]; exact hG
        have hc_140 : G_139 q_2 = some (aInt (k 0) 66 (fun _ => 0)) := by rw [eG_139]; exact gs_keep hc_124 hc_129 (by simp)
        have hc_141 : G_139 q_10 = some (aInt (k 2) 11 (fun _ => 0)) := by rw [eG_139]; exact gs_keep hc_125 hc_129 (by simp)
        have hc_142 : G_139 q_20 = some (aInt (k 0) 72 (fun _ => 0)) := by rw [eG_139]; exact gs_keep hc_126 hc_129 (by simp)
        have hc_143 : G_139 q_32 = some (aInt (k 0) 24 (fun _ => 0)) := by rw [eG_139]; exact gs_keep hc_127 hc_129 (by simp)
        have hc_144 : G_139 q_46 = some (aInt (k 0) 40 (fun _ => 0)) := by rw [eG_139]; exact gs_keep hc_128 hc_129 (by simp)
        have hc_145 : G_139 mo = some (.inr (4, [.int 0, .int (nI wn), .int (nI hn), .int 0, .ref q_2, .ref q_10, .ref q_20, .ref q_32, .int 0, .ref q_46, .long 0, .long 0, .long 0, .long 0])) := by rw [eG_139]; exact gs_us _ _ _
        have hmono : ∀ (b : Nat) (e9 : va_E), ¬ b = mo → G b = some e9 → G_139 b = some e9 := by
          intro b e9 hne hbe
          have hbe : G_3 b = some e9 := by rw [eG_3]; exact gs_keepN hbe hfq_2
          have hbe : G_6 b = some e9 := by rw [eG_6]; exact (gs_un hne).trans hbe
          have hbe : G_11 b = some e9 := by rw [eG_11]; exact gs_keepN hbe hfq_10
          have hbe : G_15 b = some e9 := by rw [eG_15]; exact (gs_un hne).trans hbe
          have hbe : G_21 b = some e9 := by rw [eG_21]; exact gs_keepN hbe hfq_20
          have hbe : G_26 b = some e9 := by rw [eG_26]; exact (gs_un hne).trans hbe
          have hbe : G_33 b = some e9 := by rw [eG_33]; exact gs_keepN hbe hfq_32
          have hbe : G_39 b = some e9 := by rw [eG_39]; exact (gs_un hne).trans hbe
          have hbe : G_47 b = some e9 := by rw [eG_47]; exact gs_keepN hbe hfq_46
          have hbe : G_54 b = some e9 := by rw [eG_54]; exact (gs_un hne).trans hbe
          have hbe : G_123 b = some e9 := by rw [eG_123]; exact (gs_un hne).trans hbe
          have hbe : G_139 b = some e9 := by rw [eG_139]; exact (gs_un hne).trans hbe
          exact hbe
        exact W.vret hx hb hr (gs_end ⟨rfl, q_2, q_10, q_20, q_32, q_46, wn, hn, hwn, hhn, eclwn, eclhn, ⟨hc_145, hc_140, hc_141, hc_142, hc_143, hc_144⟩, hmono⟩ hG hS) hS.2.2 d_Md_init_94
    · refine lv_iconst (v := 1) hx hb d_Md_init_75 (by decide) ?_
      refine lv_goto (tgt := 91) hx hb d_Md_init_76 (by decide) ?_
      obtain ⟨hn, hhn, ehn⟩ : ∃ n : Nat, (1 ≤ n ∧ n ≤ 60) ∧ (1 : Int32) = nI n := ⟨1, by decide, rfl⟩
      have eclhn : jm_cl hq = nI hn := by unfold jm_cl; rw [if_neg c_130, ← ehn]
      refine lv_topE ehn ?_
      refine gs_put E hK.1 hG hS hc_129 (C := R_Md) (T := F_Md) (N := 14) rfl i_Md t_Md t_Md_ok n_Md 2 (by decide) w_465 rfl (v := .int (nI hn)) rfl rfl (Nat.le_of_ble_eq_true rfl) d_Md_init_91 (fun H locs hG hS => ?_)
      obtain ⟨G_146, eG_146⟩ : ∃ z, z = gs_u G_123 mo (.inr (4, [.int 0, .int (nI wn), .int (nI hn), .int 0, .ref q_2, .ref q_10, .ref q_20, .ref q_32, .int 0, .ref q_46, .long 0, .long 0, .long 0, .long 0])) := ⟨_, rfl⟩
      have hG : gs_W D classes zb G_146 H := by rw [eG_146]; exact hG
      have hc_147 : G_146 q_2 = some (aInt (k 0) 66 (fun _ => 0)) := by rw [eG_146]; exact gs_keep hc_124 hc_129 (by simp)
      have hc_148 : G_146 q_10 = some (aInt (k 2) 11 (fun _ => 0)) := by rw [eG_146]; exact gs_keep hc_125 hc_129 (by simp)
      have hc_149 : G_146 q_20 = some (aInt (k 0) 72 (fun _ => 0)) := by rw [eG_146]; exact gs_keep hc_126 hc_129 (by simp)
      have hc_150 : G_146 q_32 = some (aInt (k 0) 24 (fun _ => 0)) := by rw [eG_146]; exact gs_keep hc_127 hc_129 (by simp)
      have hc_151 : G_146 q_46 = some (aInt (k 0) 40 (fun _ => 0)) := by rw [eG_146]; exact gs_keep hc_128 hc_129 (by simp)
      have hc_152 : G_146 mo = some (.inr (4, [.int 0, .int (nI wn), .int (nI hn), .int 0, .ref q_2, .ref q_10, .ref q_20, .ref q_32, .int 0, .ref q_46, .long 0, .long 0, .long 0, .long 0])) := by rw [eG_146]; exact gs_us _ _ _
      have hmono : ∀ (b : Nat) (e9 : va_E), ¬ b = mo → G b = some e9 → G_146 b = some e9 := by
        intro b e9 hne hbe
        have hbe : G_3 b = some e9 := by rw [eG_3]; exact gs_keepN hbe hfq_2
        have hbe : G_6 b = some e9 := by rw [eG_6]; exact (gs_un hne).trans hbe
        have hbe : G_11 b = some e9 := by rw [eG_11]; exact gs_keepN hbe hfq_10
        have hbe : G_15 b = some e9 := by rw [eG_15]; exact (gs_un hne).trans hbe
        have hbe : G_21 b = some e9 := by rw [eG_21]; exact gs_keepN hbe hfq_20
        have hbe : G_26 b = some e9 := by rw [eG_26]; exact (gs_un hne).trans hbe
        have hbe : G_33 b = some e9 := by rw [eG_33]; exact gs_keepN hbe hfq_32
        have hbe : G_39 b = some e9 := by rw [eG_39]; exact (gs_un hne).trans hbe
        have hbe : G_47 b = some e9 := by rw [eG_47]; exact gs_keepN hbe hfq_46
        have hbe : G_54 b = some e9 := by rw [eG_54]; exact (gs_un hne).trans hbe
        have hbe : G_123 b = some e9 := by rw [eG_123]; exact (gs_un hne).trans hbe
        have hbe : G_146 b = some e9 := by rw [eG_146]; exact (gs_un hne).trans hbe
        exact hbe
      exact W.vret hx hb hr (gs_end ⟨rfl, q_2, q_10, q_20, q_32, q_46, wn, hn, hwn, hhn, eclwn, eclhn, ⟨hc_152, hc_147, hc_148, hc_149, hc_150, hc_151⟩, hmono⟩ hG hS) hS.2.2 d_Md_init_94
