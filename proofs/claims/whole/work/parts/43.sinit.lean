/-! contracts, by program -/
set_option maxHeartbeats 4000000 in
set_option maxRecDepth 100000 in
theorem k_Ss_init (l : Launch) (D : va_G) (k : Nat → ClassId) (zb : Nat) (G : Nat → Option va_E) (o : Nat) (wq hq : Int32) (hb0 : G o = some (.inr (3, [.int 0, .int 0, .null, .null, .null, .null, .null, .int 0, .int 0]))) : Met l y_Ss_init (wM y_Ss_init c_Ss_init 4 none) ({ frames := 2, cells := 29, slots := 160, locals := 40 }) (gs_P D k zb G [.ref o, .int wq, .int hq]) (gs_Q D zb (fun v G1 => v = none ∧ ∃ (aB aW aH aS aT wn hn : Nat) (ha : Nat → Nat), jm_cl wq = nI wn ∧ jm_cl hq = nI hn ∧ sC k G1 o aB aW aH aS aT wn hn 0 0 (fun _ => 0) (fun _ => 0) ha (fun _ _ => 0) (fun _ _ => 0) (fun _ _ => 0) (fun _ => 0) (fun _ => 0) ∧ ∀ (b : Nat) (e9 : va_E), ¬ b = o → G b = some e9 → G1 b = some e9)) 29 160 (fun q : Nat => zb ≤ q) := by
  refine Met.ofW (cc := c_Ss_init) (maxL := 4) (ret := none) (by decide) rfl ?_
  intro p e s m args below meth c s₁ B hml hv
  obtain ⟨rfl, hG, hK, hX⟩ := hv
  have hx := B.exec
  have hb := B.bytes
  have hr := B.returns
  have hts := atoms_spec (ws := wM y_Ss_init c_Ss_init 4 none) B.pre
  have hw : ∀ w9 ∈ wW, w9.before ([.ref o, .int wq, .int hq] : List Value).toArray s = true := fun w9 h9 => hts w9 (gi_in w9 h9)
  have hown : s.vm.findClass R_Ss = some m.cls := findClass_of_methodNamed B.named
  have hlocks := B.notSynchronized
  have hin : meth.name = "<init>" := (name_of_methodNamed B.named B.method).1
  have E : gs_E p s m ([.ref o, .int wq, .int hq] : List Value).toArray c c_Ss_init wW R_Ss := ⟨hx, hb, hw, hown⟩
  have hS : gs_S zb s.heap s.heap [] := va_S.rf
  have hl := lv_entry ([.ref o, .int wq, .int hq]) (n := 4) (Nat.le_of_ble_eq_true rfl)
  rw [lg_entry_eq]
  generalize (lg_sl ([.ref o, .int wq, .int hq]) ++ List.replicate (4 - (lg_sl ([.ref o, .int wq, .int hq])).length) Slot.unset).toArray = ls at hl ⊢
  have hl : lv_has ls 4 [(0, .ref o), (1, .int wq), (2, .int hq)] := hl
  refine lv_aload_n hx hb d_Ss_init_0 rfl (lv_at hl 0 rfl) ?_
  refine W.objInit hx hb hown (hw _ w_18) (hw _ w_19) (hw _ w_20) rfl (by rw [hml]; exact hl.1) rfl d_Ss_init_1 (by exact Nat.le_of_ble_eq_true rfl) (by exact Nat.le_of_ble_eq_true rfl) ?_
  refine W.eq (g2 := F0 m 4 ls []) rfl ?_
  refine lv_aload_n hx hb d_Ss_init_4 rfl (lv_at hl 0 rfl) ?_
  refine lv_bipush (v := 10) hx hb d_Ss_init_5 (by decide) ?_
  refine gs_newq E hK.1 hG hS (C := R_Bx) w_21 hK.2.2.1.1 (cA := k 3) (by obtain ⟨_, _, _, _, _, h9⟩ := (hK.1.2 3 _ rfl).2; exact h9) (N' := 10) (by decide) (by decide) (by decide) (by exact Nat.le_of_ble_eq_true rfl) (by exact Nat.le_of_ble_eq_true rfl) d_Ss_init_7 (fun H_1 hG9 hS9 => ?_)
  have hfq_2 : G s.heap.size = none := hG.fresh
  obtain ⟨q_2, eq_2⟩ : ∃ z : Nat, z = s.heap.size := ⟨_, rfl⟩
  rw [← eq_2] at hG9 hfq_2 ⊢
  obtain ⟨G_3, eG_3⟩ : ∃ z, z = gs_u G q_2 (aRef (k 3) 10 (fun _ => none)) := ⟨_, rfl⟩
  have hG : gs_W D classes zb G_3 H_1 := by rw [eG_3]; exact hG9
  have hS := hS9
  have hc_4 : G_3 o = some (.inr (3, [.int 0, .int 0, .null, .null, .null, .null, .null, .int 0, .int 0])) := by rw [eG_3]; exact gs_keepN hb0 hfq_2
  have hc_5 : G_3 q_2 = some (aRef (k 3) 10 (fun _ => none)) := by rw [eG_3]; exact gs_us _ _ _
  refine W.eq (g2 := F0 m 10 ls [.ref q_2, .ref o]) rfl ?_
  refine gs_putF E hK.1 hG hS hc_4 (C := R_Ss) (T := F_Ss) (N := 9) rfl i_Ss t_Ss t_Ss_ok n_Ss 2 (by decide) w_62 rfl hin rfl (v := .ref q_2) rfl rfl (Nat.le_of_ble_eq_true rfl) d_Ss_init_10 (fun H locs hG hS => ?_)
  obtain ⟨G_6, eG_6⟩ : ∃ z, z = gs_u G_3 o (.inr (3, [.int 0, .int 0, .ref q_2, .null, .null, .null, .null, .int 0, .int 0])) := ⟨_, rfl⟩
  have hG : gs_W D classes zb G_6 H := by rw [eG_6]; exact hG
  have hc_7 : G_6 q_2 = some (aRef (k 3) 10 (fun _ => none)) := by rw [eG_6]; exact gs_keep hc_5 hc_4 (by simp)
  have hc_8 : G_6 o = some (.inr (3, [.int 0, .int 0, .ref q_2, .null, .null, .null, .null, .int 0, .int 0])) := by rw [eG_6]; exact gs_us _ _ _
  refine lv_aload_n hx hb d_Ss_init_13 rfl (lv_at hl 0 rfl) ?_
  refine lv_bipush (v := 10) hx hb d_Ss_init_14 (by decide) ?_
  refine gs_newq E hK.1 hG hS (C := R_Wn) w_23 hK.2.2.1.2.1 (cA := k 4) (by obtain ⟨_, _, _, _, _, h9⟩ := (hK.1.2 4 _ rfl).2; exact h9) (N' := 10) (by decide) (by decide) (by decide) (by exact Nat.le_of_ble_eq_true rfl) (by exact Nat.le_of_ble_eq_true rfl) d_Ss_init_16 (fun H_9 hG9 hS9 => ?_)
  have hfq_10 : G_6 H.size = none := hG.fresh
  obtain ⟨q_10, eq_10⟩ : ∃ z : Nat, z = H.size := ⟨_, rfl⟩
  rw [← eq_10] at hG9 hfq_10 ⊢
  obtain ⟨G_11, eG_11⟩ : ∃ z, z = gs_u G_6 q_10 (aRef (k 4) 10 (fun _ => none)) := ⟨_, rfl⟩
  have hG : gs_W D classes zb G_11 H_9 := by rw [eG_11]; exact hG9
  have hS := hS9
  have hc_12 : G_11 o = some (.inr (3, [.int 0, .int 0, .ref q_2, .null, .null, .null, .null, .int 0, .int 0])) := by rw [eG_11]; exact gs_keepN hc_8 hfq_10
  have hc_13 : G_11 q_2 = some (aRef (k 3) 10 (fun _ => none)) := by rw [eG_11]; exact gs_keepN hc_7 hfq_10
  have hc_14 : G_11 q_10 = some (aRef (k 4) 10 (fun _ => none)) := by rw [eG_11]; exact gs_us _ _ _
  refine W.eq (g2 := F0 m 19 ls [.ref q_10, .ref o]) rfl ?_
  refine gs_putF E hK.1 hG hS hc_12 (C := R_Ss) (T := F_Ss) (N := 9) rfl i_Ss t_Ss t_Ss_ok n_Ss 3 (by decide) w_63 rfl hin rfl (v := .ref q_10) rfl rfl (Nat.le_of_ble_eq_true rfl) d_Ss_init_19 (fun H locs hG hS => ?_)
  obtain ⟨G_15, eG_15⟩ : ∃ z, z = gs_u G_11 o (.inr (3, [.int 0, .int 0, .ref q_2, .ref q_10, .null, .null, .null, .int 0, .int 0])) := ⟨_, rfl⟩
  have hG : gs_W D classes zb G_15 H := by rw [eG_15]; exact hG
  have hc_16 : G_15 q_2 = some (aRef (k 3) 10 (fun _ => none)) := by rw [eG_15]; exact gs_keep hc_13 hc_12 (by simp)
  have hc_17 : G_15 q_10 = some (aRef (k 4) 10 (fun _ => none)) := by rw [eG_15]; exact gs_keep hc_14 hc_12 (by simp)
  have hc_18 : G_15 o = some (.inr (3, [.int 0, .int 0, .ref q_2, .ref q_10, .null, .null, .null, .int 0, .int 0])) := by rw [eG_15]; exact gs_us _ _ _
  refine lv_aload_n hx hb d_Ss_init_22 rfl (lv_at hl 0 rfl) ?_
  refine lv_bipush (v := 24) hx hb d_Ss_init_23 (by decide) ?_
  refine gs_newq E hK.1 hG hS (C := R_Hr) w_25 hK.2.2.1.2.2 (cA := k 5) (by obtain ⟨_, _, _, _, _, h9⟩ := (hK.1.2 5 _ rfl).2; exact h9) (N' := 24) (by decide) (by decide) (by decide) (by exact Nat.le_of_ble_eq_true rfl) (by exact Nat.le_of_ble_eq_true rfl) d_Ss_init_25 (fun H_19 hG9 hS9 => ?_)
  have hfq_20 : G_15 H.size = none := hG.fresh
  obtain ⟨q_20, eq_20⟩ : ∃ z : Nat, z = H.size := ⟨_, rfl⟩
  rw [← eq_20] at hG9 hfq_20 ⊢
  obtain ⟨G_21, eG_21⟩ : ∃ z, z = gs_u G_15 q_20 (aRef (k 5) 24 (fun _ => none)) := ⟨_, rfl⟩
  have hG : gs_W D classes zb G_21 H_19 := by rw [eG_21]; exact hG9
  have hS := hS9
  have hc_22 : G_21 o = some (.inr (3, [.int 0, .int 0, .ref q_2, .ref q_10, .null, .null, .null, .int 0, .int 0])) := by rw [eG_21]; exact gs_keepN hc_18 hfq_20
  have hc_23 : G_21 q_2 = some (aRef (k 3) 10 (fun _ => none)) := by rw [eG_21]; exact gs_keepN hc_16 hfq_20
  have hc_24 : G_21 q_10 = some (aRef (k 4) 10 (fun _ => none)) := by rw [eG_21]; exact gs_keepN hc_17 hfq_20
  have hc_25 : G_21 q_20 = some (aRef (k 5) 24 (fun _ => none)) := by rw [eG_21]; exact gs_us _ _ _
  refine W.eq (g2 := F0 m 28 ls [.ref q_20, .ref o]) rfl ?_
  refine gs_putF E hK.1 hG hS hc_22 (C := R_Ss) (T := F_Ss) (N := 9) rfl i_Ss t_Ss t_Ss_ok n_Ss 4 (by decide) w_64 rfl hin rfl (v := .ref q_20) rfl rfl (Nat.le_of_ble_eq_true rfl) d_Ss_init_28 (fun H locs hG hS => ?_)
  obtain ⟨G_26, eG_26⟩ : ∃ z, z = gs_u G_21 o (.inr (3, [.int 0, .int 0, .ref q_2, .ref q_10, .ref q_20, .null, .null, .int 0, .int 0])) := ⟨_, rfl⟩
  have hG : gs_W D classes zb G_26 H := by rw [eG_26]; exact hG
  have hc_27 : G_26 q_2 = some (aRef (k 3) 10 (fun _ => none)) := by rw [eG_26]; exact gs_keep hc_23 hc_22 (by simp)
  have hc_28 : G_26 q_10 = some (aRef (k 4) 10 (fun _ => none)) := by rw [eG_26]; exact gs_keep hc_24 hc_22 (by simp)
  have hc_29 : G_26 q_20 = some (aRef (k 5) 24 (fun _ => none)) := by rw [eG_26]; exact gs_keep hc_25 hc_22 (by simp)
  have hc_30 : G_26 o = some (.inr (3, [.int 0, .int 0, .ref q_2, .ref q_10, .ref q_20, .null, .null, .int 0, .int 0])) := by rw [eG_26]; exact gs_us _ _ _
  refine lv_aload_n hx hb d_Ss_init_31 rfl (lv_at hl 0 rfl) ?_
  refine lv_bipush (v := 10) hx hb d_Ss_init_32 (by decide) ?_
  refine gs_newa E hK.1 hG hS (atype := .long) w_58 (cA := k 1) (hK.1.2 1 _ rfl).2 (N' := 10) (a0 := (10, .inr (.inl (fun _ => 0)))) (fun cA => rfl) (by decide) (by decide) (by decide) (by exact Nat.le_of_ble_eq_true rfl) (by exact Nat.le_of_ble_eq_true rfl) d_Ss_init_34 (fun H_31 hG9 hS9 => ?_)
  have hfq_32 : G_26 H.size = none := hG.fresh
  obtain ⟨q_32, eq_32⟩ : ∃ z : Nat, z = H.size := ⟨_, rfl⟩
  rw [← eq_32] at hG9 hfq_32 ⊢
  obtain ⟨G_33, eG_33⟩ : ∃ z, z = gs_u G_26 q_32 (aLong (k 1) 10 (fun _ => 0)) := ⟨_, rfl⟩
  have hG : gs_W D classes zb G_33 H_31 := by rw [eG_33]; exact hG9
  have hS := hS9
  have hc_34 : G_33 o = some (.inr (3, [.int 0, .int 0, .ref q_2, .ref q_10, .ref q_20, .null, .null, .int 0, .int 0])) := by rw [eG_33]; exact gs_keepN hc_30 hfq_32
  have hc_35 : G_33 q_2 = some (aRef (k 3) 10 (fun _ => none)) := by rw [eG_33]; exact gs_keepN hc_27 hfq_32
  have hc_36 : G_33 q_10 = some (aRef (k 4) 10 (fun _ => none)) := by rw [eG_33]; exact gs_keepN hc_28 hfq_32
  have hc_37 : G_33 q_20 = some (aRef (k 5) 24 (fun _ => none)) := by rw [eG_33]; exact gs_keepN hc_29 hfq_32
  have hc_38 : G_33 q_32 = some (aLong (k 1) 10 (fun _ => 0)) := by rw [eG_33]; exact gs_us _ _ _
  refine W.eq (g2 := F0 m 36 ls [.ref q_32, .ref o]) rfl ?_
  refine gs_putF E hK.1 hG hS hc_34 (C := R_Ss) (T := F_Ss) (N := 9) rfl i_Ss t_Ss t_Ss_ok n_Ss 5 (by decide) w_65 rfl hin rfl (v := .ref q_32) rfl rfl (Nat.le_of_ble_eq_true rfl) d_Ss_init_36 (fun H locs hG hS => ?_)
  obtain ⟨G_39, eG_39⟩ : ∃ z, z = gs_u G_33 o (.inr (3, [.int 0, .int 0, .ref q_2, .ref q_10, .ref q_20, .ref q_32, .null, .int 0, .int 0])) := ⟨_, rfl⟩
  have hG : gs_W D classes zb G_39 H := by rw [eG_39]; exact hG
  have hc_40 : G_39 q_2 = some (aRef (k 3) 10 (fun _ => none)) := by rw [eG_39]; exact gs_keep hc_35 hc_34 (by simp)
  have hc_41 : G_39 q_10 = some (aRef (k 4) 10 (fun _ => none)) := by rw [eG_39]; exact gs_keep hc_36 hc_34 (by simp)
  have hc_42 : G_39 q_20 = some (aRef (k 5) 24 (fun _ => none)) := by rw [eG_39]; exact gs_keep hc_37 hc_34 (by simp)
  have hc_43 : G_39 q_32 = some (aLong (k 1) 10 (fun _ => 0)) := by rw [eG_39]; exact gs_keep hc_38 hc_34 (by simp)
  have hc_44 : G_39 o = some (.inr (3, [.int 0, .int 0, .ref q_2, .ref q_10, .ref q_20, .ref q_32, .null, .int 0, .int 0])) := by rw [eG_39]; exact gs_us _ _ _
  refine lv_aload_n hx hb d_Ss_init_39 rfl (lv_at hl 0 rfl) ?_
  refine lv_bipush (v := 10) hx hb d_Ss_init_40 (by decide) ?_
  refine gs_newa E hK.1 hG hS (atype := .int) w_59 (cA := k 0) (hK.1.2 0 _ rfl).2 (N' := 10) (a0 := (10, .inl (fun _ => 0))) (fun cA => rfl) (by decide) (by decide) (by decide) (by exact Nat.le_of_ble_eq_true rfl) (by exact Nat.le_of_ble_eq_true rfl) d_Ss_init_42 (fun H_45 hG9 hS9 => ?_)
  have hfq_46 : G_39 H.size = none := hG.fresh
  obtain ⟨q_46, eq_46⟩ : ∃ z : Nat, z = H.size := ⟨_, rfl⟩
  rw [← eq_46] at hG9 hfq_46 ⊢
  obtain ⟨G_47, eG_47⟩ : ∃ z, z = gs_u G_39 q_46 (aInt (k 0) 10 (fun _ => 0)) := ⟨_, rfl⟩
  have hG : gs_W D classes zb G_47 H_45 := by rw [eG_47]; exact hG9
  have hS := hS9
  have hc_48 : G_47 o = some (.inr (3, [.int 0, .int 0, .ref q_2, .ref q_10, .ref q_20, .ref q_32, .null, .int 0, .int 0])) := by rw [eG_47]; exact gs_keepN hc_44 hfq_46
  have hc_49 : G_47 q_2 = some (aRef (k 3) 10 (fun _ => none)) := by rw [eG_47]; exact gs_keepN hc_40 hfq_46
  have hc_50 : G_47 q_10 = some (aRef (k 4) 10 (fun _ => none)) := by rw [eG_47]; exact gs_keepN hc_41 hfq_46
  have hc_51 : G_47 q_20 = some (aRef (k 5) 24 (fun _ => none)) := by rw [eG_47]; exact gs_keepN hc_42 hfq_46
  have hc_52 : G_47 q_32 = some (aLong (k 1) 10 (fun _ => 0)) := by rw [eG_47]; exact gs_keepN hc_43 hfq_46
  have hc_53 : G_47 q_46 = some (aInt (k 0) 10 (fun _ => 0)) := by rw [eG_47]; exact gs_us _ _ _
  refine W.eq (g2 := F0 m 44 ls [.ref q_46, .ref o]) rfl ?_
  refine gs_putF E hK.1 hG hS hc_48 (C := R_Ss) (T := F_Ss) (N := 9) rfl i_Ss t_Ss t_Ss_ok n_Ss 6 (by decide) w_66 rfl hin rfl (v := .ref q_46) rfl rfl (Nat.le_of_ble_eq_true rfl) d_Ss_init_44 (fun H locs hG hS => ?_)
  obtain ⟨G_54, eG_54⟩ : ∃ z, z = gs_u G_47 o (.inr (3, [.int 0, .int 0, .ref q_2, .ref q_10, .ref q_20, .ref q_32, .ref q_46, .int 0, .int 0])) := ⟨_, rfl⟩
  have hG : gs_W D classes zb G_54 H := by rw [eG_54]; exact hG
  have hc_55 : G_54 q_2 = some (aRef (k 3) 10 (fun _ => none)) := by rw [eG_54]; exact gs_keep hc_49 hc_48 (by simp)
  have hc_56 : G_54 q_10 = some (aRef (k 4) 10 (fun _ => none)) := by rw [eG_54]; exact gs_keep hc_50 hc_48 (by simp)
  have hc_57 : G_54 q_20 = some (aRef (k 5) 24 (fun _ => none)) := by rw [eG_54]; exact gs_keep hc_51 hc_48 (by simp)
  have hc_58 : G_54 q_32 = some (aLong (k 1) 10 (fun _ => 0)) := by rw [eG_54]; exact gs_keep hc_52 hc_48 (by simp)
  have hc_59 : G_54 q_46 = some (aInt (k 0) 10 (fun _ => 0)) := by rw [eG_54]; exact gs_keep hc_53 hc_48 (by simp)
  have hc_60 : G_54 o = some (.inr (3, [.int 0, .int 0, .ref q_2, .ref q_10, .ref q_20, .ref q_32, .ref q_46, .int 0, .int 0])) := by rw [eG_54]; exact gs_us _ _ _
  refine lv_aload_n hx hb d_Ss_init_47 rfl (lv_at hl 0 rfl) ?_
  refine lv_iconst (v := 0) hx hb d_Ss_init_48 (by decide) ?_
  refine gs_put E hK.1 hG hS hc_60 (C := R_Ss) (T := F_Ss) (N := 9) rfl i_Ss t_Ss t_Ss_ok n_Ss 7 (by decide) w_67 rfl (v := .int 0) rfl rfl (Nat.le_of_ble_eq_true rfl) d_Ss_init_49 (fun H locs hG hS => ?_)
  obtain ⟨G_61, eG_61⟩ : ∃ z, z = gs_u G_54 o (.inr (3, [.int 0, .int 0, .ref q_2, .ref q_10, .ref q_20, .ref q_32, .ref q_46, .int 0, .int 0])) := ⟨_, rfl⟩
  have hG : gs_W D classes zb G_61 H := by rw [eG_61]; exact hG
  have hc_62 : G_61 q_2 = some (aRef (k 3) 10 (fun _ => none)) := by rw [eG_61]; exact gs_keep hc_55 hc_60 (by simp)
  have hc_63 : G_61 q_10 = some (aRef (k 4) 10 (fun _ => none)) := by rw [eG_61]; exact gs_keep hc_56 hc_60 (by simp)
  have hc_64 : G_61 q_20 = some (aRef (k 5) 24 (fun _ => none)) := by rw [eG_61]; exact gs_keep hc_57 hc_60 (by simp)
  have hc_65 : G_61 q_32 = some (aLong (k 1) 10 (fun _ => 0)) := by rw [eG_61]; exact gs_keep hc_58 hc_60 (by simp)
  have hc_66 : G_61 q_46 = some (aInt (k 0) 10 (fun _ => 0)) := by rw [eG_61]; exact gs_keep hc_59 hc_60 (by simp)
  have hc_67 : G_61 o = some (.inr (3, [.int 0, .int 0, .ref q_2, .ref q_10, .ref q_20, .ref q_32, .ref q_46, .int 0, .int 0])) := by rw [eG_61]; exact gs_us _ _ _
  refine lv_aload_n hx hb d_Ss_init_52 rfl (lv_at hl 0 rfl) ?_
  refine lv_iconst (v := 0) hx hb d_Ss_init_53 (by decide) ?_
  refine gs_put E hK.1 hG hS hc_67 (C := R_Ss) (T := F_Ss) (N := 9) rfl i_Ss t_Ss t_Ss_ok n_Ss 8 (by decide) w_68 rfl (v := .int 0) rfl rfl (Nat.le_of_ble_eq_true rfl) d_Ss_init_54 (fun H locs hG hS => ?_)
  obtain ⟨G_68, eG_68⟩ : ∃ z, z = gs_u G_61 o (.inr (3, [.int 0, .int 0, .ref q_2, .ref q_10, .ref q_20, .ref q_32, .ref q_46, .int 0, .int 0])) := ⟨_, rfl⟩
  have hG : gs_W D classes zb G_68 H := by rw [eG_68]; exact hG
  have hc_69 : G_68 q_2 = some (aRef (k 3) 10 (fun _ => none)) := by rw [eG_68]; exact gs_keep hc_62 hc_67 (by simp)
  have hc_70 : G_68 q_10 = some (aRef (k 4) 10 (fun _ => none)) := by rw [eG_68]; exact gs_keep hc_63 hc_67 (by simp)
  have hc_71 : G_68 q_20 = some (aRef (k 5) 24 (fun _ => none)) := by rw [eG_68]; exact gs_keep hc_64 hc_67 (by simp)
  have hc_72 : G_68 q_32 = some (aLong (k 1) 10 (fun _ => 0)) := by rw [eG_68]; exact gs_keep hc_65 hc_67 (by simp)
  have hc_73 : G_68 q_46 = some (aInt (k 0) 10 (fun _ => 0)) := by rw [eG_68]; exact gs_keep hc_66 hc_67 (by simp)
  have hc_74 : G_68 o = some (.inr (3, [.int 0, .int 0, .ref q_2, .ref q_10, .ref q_20, .ref q_32, .ref q_46, .int 0, .int 0])) := by rw [eG_68]; exact gs_us _ _ _
  refine lv_aload_n hx hb d_Ss_init_57 rfl (lv_at hl 0 rfl) ?_
  refine lv_iconst (v := 1) hx hb d_Ss_init_58 (by decide) ?_
  refine lv_iload_n hx hb d_Ss_init_59 rfl (lv_at hl 1 rfl) ?_
  refine lv_bipush (v := 60) hx hb d_Ss_init_60 (by decide) ?_
  refine va_mmin hx hb (hml.trans hl.1.symm) hown (hw _ w_27) (hw _ w_28) (hw _ w_2) (hw _ w_29) (by exact Nat.le_of_ble_eq_true rfl) (by exact Nat.le_of_ble_eq_true rfl) (by exact Nat.le_of_ble_eq_true rfl) (by exact Nat.le_of_ble_eq_true rfl) d_Ss_init_62 ?_
  refine W.eq (g2 := F0 m 65 ls [.int (jc_min wq 60), .int 1, .ref o]) rfl ?_
  refine va_mmax hx hb (hml.trans hl.1.symm) hown (hw _ w_30) (hw _ w_31) (hw _ w_2) (hw _ w_32) (by exact Nat.le_of_ble_eq_true rfl) (by exact Nat.le_of_ble_eq_true rfl) (by exact Nat.le_of_ble_eq_true rfl) (by exact Nat.le_of_ble_eq_true rfl) d_Ss_init_65 ?_
  refine W.eq (g2 := F0 m 68 ls [.int (jc_max 1 (jc_min wq 60)), .ref o]) rfl ?_
  obtain ⟨wn, hwn, eclwn⟩ := cl_ex wq
  refine lv_topE ((cl_jc wq).trans eclwn) ?_
  refine gs_putF E hK.1 hG hS hc_74 (C := R_Ss) (T := F_Ss) (N := 9) rfl i_Ss t_Ss t_Ss_ok n_Ss 0 (by decide) w_60 rfl hin rfl (v := .int (nI wn)) rfl rfl (Nat.le_of_ble_eq_true rfl) d_Ss_init_68 (fun H locs hG hS => ?_)
  obtain ⟨G_75, eG_75⟩ : ∃ z, z = gs_u G_68 o (.inr (3, [.int (nI wn), .int 0, .ref q_2, .ref q_10, .ref q_20, .ref q_32, .ref q_46, .int 0, .int 0])) := ⟨_, rfl⟩
  have hG : gs_W D classes zb G_75 H := by rw [eG_75]; exact hG
  have hc_76 : G_75 q_2 = some (aRef (k 3) 10 (fun _ => none)) := by rw [eG_75]; exact gs_keep hc_69 hc_74 (by simp)
  have hc_77 : G_75 q_10 = some (aRef (k 4) 10 (fun _ => none)) := by rw [eG_75]; exact gs_keep hc_70 hc_74 (by simp)
  have hc_78 : G_75 q_20 = some (aRef (k 5) 24 (fun _ => none)) := by rw [eG_75]; exact gs_keep hc_71 hc_74 (by simp)
  have hc_79 : G_75 q_32 = some (aLong (k 1) 10 (fun _ => 0)) := by rw [eG_75]; exact gs_keep hc_72 hc_74 (by simp)
  have hc_80 : G_75 q_46 = some (aInt (k 0) 10 (fun _ => 0)) := by rw [eG_75]; exact gs_keep hc_73 hc_74 (by simp)
  have hc_81 : G_75 o = some (.inr (3, [.int (nI wn), .int 0, .ref q_2, .ref q_10, .ref q_20, .ref q_32, .ref q_46, .int 0, .int 0])) := by rw [eG_75]; exact gs_us _ _ _
  refine lv_aload_n hx hb d_Ss_init_71 rfl (lv_at hl 0 rfl) ?_
  refine lv_iconst (v := 1) hx hb d_Ss_init_72 (by decide) ?_
  refine lv_iload_n hx hb d_Ss_init_73 rfl (lv_at hl 2 rfl) ?_
  refine lv_bipush (v := 60) hx hb d_Ss_init_74 (by decide) ?_
  refine va_mmin hx hb (hml.trans hl.1.symm) hown (hw _ w_27) (hw _ w_28) (hw _ w_2) (hw _ w_29) (by exact Nat.le_of_ble_eq_true rfl) (by exact Nat.le_of_ble_eq_true rfl) (by exact Nat.le_of_ble_eq_true rfl) (by exact Nat.le_of_ble_eq_true rfl) d_Ss_init_76 ?_
  refine W.eq (g2 := F0 m 79 ls [.int (jc_min hq 60), .int 1, .ref o]) rfl ?_
  refine va_mmax hx hb (hml.trans hl.1.symm) hown (hw _ w_30) (hw _ w_31) (hw _ w_2) (hw _ w_32) (by exact Nat.le_of_ble_eq_true rfl) (by exact Nat.le_of_ble_eq_true rfl) (by exact Nat.le_of_ble_eq_true rfl) (by exact Nat.le_of_ble_eq_true rfl) d_Ss_init_79 ?_
  refine W.eq (g2 := F0 m 82 ls [.int (jc_max 1 (jc_min hq 60)), .ref o]) rfl ?_
  obtain ⟨hn, hhn, eclhn⟩ := cl_ex hq
  refine lv_topE ((cl_jc hq).trans eclhn) ?_
  refine gs_putF E hK.1 hG hS hc_81 (C := R_Ss) (T := F_Ss) (N := 9) rfl i_Ss t_Ss t_Ss_ok n_Ss 1 (by decide) w_61 rfl hin rfl (v := .int (nI hn)) rfl rfl (Nat.le_of_ble_eq_true rfl) d_Ss_init_82 (fun H locs hG hS => ?_)
  obtain ⟨G_82, eG_82⟩ : ∃ z, z = gs_u G_75 o (.inr (3, [.int (nI wn), .int (nI hn), .ref q_2, .ref q_10, .ref q_20, .ref q_32, .ref q_46, .int 0, .int 0])) := ⟨_, rfl⟩
  have hG : gs_W D classes zb G_82 H := by rw [eG_82]; exact hG
  have hc_83 : G_82 q_2 = some (aRef (k 3) 10 (fun _ => none)) := by rw [eG_82]; exact gs_keep hc_76 hc_81 (by simp)
  have hc_84 : G_82 q_10 = some (aRef (k 4) 10 (fun _ => none)) := by rw [eG_82]; exact gs_keep hc_77 hc_81 (by simp)
  have hc_85 : G_82 q_20 = some (aRef (k 5) 24 (fun _ => none)) := by rw [eG_82]; exact gs_keep hc_78 hc_81 (by simp)
  have hc_86 : G_82 q_32 = some (aLong (k 1) 10 (fun _ => 0)) := by rw [eG_82]; exact gs_keep hc_79 hc_81 (by simp)
  have hc_87 : G_82 q_46 = some (aInt (k 0) 10 (fun _ => 0)) := by rw [eG_82]; exact gs_keep hc_80 hc_81 (by simp)
  have hc_88 : G_82 o = some (.inr (3, [.int (nI wn), .int (nI hn), .ref q_2, .ref q_10, .ref q_20, .ref q_32, .ref q_46, .int 0, .int 0])) := by rw [eG_82]; exact gs_us _ _ _
  refine lv_iconst (v := 0) hx hb d_Ss_init_85 (by decide) ?_
  refine lv_istore_n (lv' := [(3, .int 0), (0, .ref o), (1, .int wq), (2, .int hq)]) hx hb d_Ss_init_86 rfl hl (by decide) rfl (fun ls hl => ?_)
  have hmono : ∀ (b : Nat) (e9 : va_E), ¬ b = o → G b = some e9 → G_82 b = some e9 := by
    intro b e9 hne hbe
    have hbe : G_3 b = some e9 := by rw [eG_3]; exact gs_keepN hbe hfq_2
    have hbe : G_6 b = some e9 := by rw [eG_6]; exact (gs_un hne).trans hbe
    have hbe : G_11 b = some e9 := by rw [eG_11]; exact gs_keepN hbe hfq_10
    have hbe : G_15 b = some e9 := by rw [eG_15]; exact (gs_un hne).trans hbe
    have hbe : G_21 b = some e9 := by rw [eG_21]; exact gs_keepN hbe hfq_20
    have hbe : G_26 b = some e9 := by rw [eG_26]; exact (gs_un hne).trans hbe
    have hbe : G_33 b = some e9 := by rw [eG_33]; exact gs_keepN hbe hfq_32
    have hbe : G_39 b = some e9 := by rw [eG_39]; exact (gs_un hne).trans hbe
    have hbe : G_47 b = some e9 := by rw [eG_47]; exact gs_keepN hbe hfq_46
    have hbe : G_54 b = some e9 := by rw [eG_54]; exact (gs_un hne).trans hbe
    have hbe : G_61 b = some e9 := by rw [eG_61]; exact (gs_un hne).trans hbe
    have hbe : G_68 b = some e9 := by rw [eG_68]; exact (gs_un hne).trans hbe
    have hbe : G_75 b = some e9 := by rw [eG_75]; exact (gs_un hne).trans hbe
    have hbe : G_82 b = some e9 := by rw [eG_82]; exact (gs_un hne).trans hbe
    exact hbe
  have hfr : G q_20 = none := by
    rcases hgq : G q_20 with _ | e9
    · rfl
    · exfalso
      have hne : ¬ q_20 = o := gs_ne hc_85 hc_88 (by simp)
      have hbe := hgq
      have hbe : G_3 q_20 = some e9 := by rw [eG_3]; exact gs_keepN hbe hfq_2
      have hbe : G_6 q_20 = some e9 := by rw [eG_6]; exact (gs_un hne).trans hbe
      have hbe : G_11 q_20 = some e9 := by rw [eG_11]; exact gs_keepN hbe hfq_10
      have hbe : G_15 q_20 = some e9 := by rw [eG_15]; exact (gs_un hne).trans hbe
      rw [hfq_20] at hbe; cases hbe
  have lpu : ∀ (fu : Nat) (i : Nat) (G9 : Nat → Option va_E) (ha : Nat → Nat), i ≤ 24 → 24 + 1 ≤ i + fu → (u1 : G9 o = some (oSs wn hn q_2 q_10 q_20 q_32 q_46 0 0)) → (u2 : G9 q_2 = some (aRef (k 3) 10 (fun _ => none))) → (u3 : G9 q_10 = some (aRef (k 4) 10 (fun _ => none))) → (u4 : G9 q_20 = some (aRef (k 5) 24 (upTo i ha))) → (u5 : G9 q_32 = some (aLong (k 1) 10 (fun _ => 0))) → (u6 : G9 q_46 = some (aInt (k 0) 10 (fun _ => 0))) → (u7 : ∀ j, j < i → G9 (ha j) = some (oHr (fun _ => 0))) → (u8 : ∀ a b, a < i → b < i → ha a = ha b → a = b) → (u9 : ∀ (b : Nat) (e9 : va_E), ¬ b = o → G b = some e9 → G9 b = some e9) → ∀ (H : Heap) (locs : List Loc), gs_W D classes zb G9 H → gs_S zb s.heap H locs → ∀ (ls : Array Slot), lv_has ls 4 [(0, .ref o), (1, .int wq), (2, .int hq), (3, .int (nI i))] → W p l e (headSpec (wM y_Ss_init c_Ss_init 4 none) ({ frames := 2, cells := 29, slots := 160, locals := 40 })).room s m ([.ref o, .int wq, .int hq] : List Value).toArray below meth c H locs (5 + i) (64 + 4 * i) (MQ below (gs_Q D zb (fun v G1 => v = none ∧ ∃ (aB aW aH aS aT wn hn : Nat) (ha : Nat → Nat), jm_cl wq = nI wn ∧ jm_cl hq = nI hn ∧ sC k G1 o aB aW aH aS aT wn hn 0 0 (fun _ => 0) (fun _ => 0) ha (fun _ _ => 0) (fun _ _ => 0) (fun _ _ => 0) (fun _ => 0) (fun _ => 0) ∧ ∀ (b : Nat) (e9 : va_E), ¬ b = o → G b = some e9 → G1 b = some e9)) ([.ref o, .int wq, .int hq] : List Value).toArray s 29 160 (fun q : Nat => zb ≤ q)) (F0 m 87 ls []) := by
    intro fu
    induction fu with
    | zero => intro i G9 ha hle hfu; exact absurd hfu (by omega)
    | succ fu IHlpu =>
      intro i G9 ha hle hfu u1 u2 u3 u4 u5 u6 u7 u8 u9 H locs hG hS ls hl
      refine lv_iload_n hx hb d_Ss_init_87 rfl (lv_at hl 3 rfl) ?_
      refine lv_aload_n hx hb d_Ss_init_88 rfl (lv_at hl 0 rfl) ?_
      refine gs_get E hK.1 hG u1 (C := R_Ss) (T := F_Ss) (N := 9) rfl i_Ss 4 (by decide) w_64 (v := .ref q_20) rfl d_Ss_init_89 ?_
      refine gs_alen E hK.1 hG u4 5 rfl (v := 24) rfl d_Ss_init_92 ?_
      refine lv_icmp_ge (tgt := 115) hx hb d_Ss_init_93 (by decide) (fun c_89 => ?_) (fun c_89 => ?_)
      · have hend : i = 24 := cl_eq (N := 24) (by decide) hle c_89
        refine W.widen (k := 29) (n := 160) (by show 5 + i + 0 ≤ 29; omega) (by show 64 + 4 * i + 0 ≤ 160; omega) ?_
        subst hend
        exact W.vret hx hb hr (gs_end ⟨rfl, q_2, q_10, q_20, q_32, q_46, wn, hn, ha, eclwn, eclhn, ⟨⟨u1, by rw [upTo_0]; exact u2, by rw [upTo_0]; exact u3, u4, u5, u6⟩, ⟨by omega, by omega, hwn.1, hwn.2, hhn.1, hhn.2⟩, fun i hi => absurd hi (Nat.not_lt_zero i), fun i hi => absurd hi (Nat.not_lt_zero i), u7, fun i j hi => absurd hi (Nat.not_lt_zero i), u8, fun i hi => absurd hi (Nat.not_lt_zero i)⟩, u9⟩ hG hS) hS.2.2 d_Ss_init_115
      · have hlt : i < 24 := cl_lt (N := 24) (by decide) hle c_89
        refine lv_aload_n hx hb d_Ss_init_96 rfl (lv_at hl 0 rfl) ?_
        refine gs_get E hK.1 hG u1 (C := R_Ss) (T := F_Ss) (N := 9) rfl i_Ss 4 (by decide) w_64 (v := .ref q_20) rfl d_Ss_init_97 ?_
        refine lv_iload_n hx hb d_Ss_init_100 rfl (lv_at hl 3 rfl) ?_
        refine gs_new E hK.1 hG hS (C := R_Hr) (T := F_Hr) (N := 4) (ci := 1) (fs := [.int 0, .int 0, .int 0, .int 0]) rfl i_Hr t_Hr t_Hr_ok w_25 w_33 w_3 (fun j hj => by rcases (show j = 0 ∨ j = 1 ∨ j = 2 ∨ j = 3 by omega) with rfl | rfl | rfl | rfl <;> rfl) (Nat.le_trans (show 5 + i + 0 + 1 ≤ 29 by omega) (by exact Nat.le_of_ble_eq_true rfl)) (Nat.le_trans (show 64 + 4 * i + 0 + 4 ≤ 160 by omega) (by exact Nat.le_of_ble_eq_true rfl)) d_Ss_init_101 (fun H_91 hG9 hS9 => ?_)
        have hfq_90 : G9 H.size = none := hG.fresh
        obtain ⟨q_90, eq_90⟩ : ∃ z : Nat, z = H.size := ⟨_, rfl⟩
        rw [← eq_90] at hG9 hfq_90 ⊢
        obtain ⟨G_92, eG_92⟩ : ∃ z, z = gs_u G9 q_90 (.inr (1, [.int 0, .int 0, .int 0, .int 0])) := ⟨_, rfl⟩
        have hG : gs_W D classes zb G_92 H_91 := by rw [eG_92]; exact hG9
        have hS := hS9
        have hc_93 : G_92 o = some (.inr (3, [.int (nI wn), .int (nI hn), .ref q_2, .ref q_10, .ref q_20, .ref q_32, .ref q_46, .int (nI 0), .int (nI 0)])) := by rw [eG_92]; exact gs_keepN u1 hfq_90
        have hc_94 : G_92 q_2 = some (aRef (k 3) 10 (fun _ => none)) := by rw [eG_92]; exact gs_keepN u2 hfq_90
        have hc_95 : G_92 q_10 = some (aRef (k 4) 10 (fun _ => none)) := by rw [eG_92]; exact gs_keepN u3 hfq_90
        have hc_96 : G_92 q_20 = some (aRef (k 5) 24 (upTo i ha)) := by rw [eG_92]; exact gs_keepN u4 hfq_90
        have hc_97 : G_92 q_32 = some (aLong (k 1) 10 (fun _ => 0)) := by rw [eG_92]; exact gs_keepN u5 hfq_90
        have hc_98 : G_92 q_46 = some (aInt (k 0) 10 (fun _ => 0)) := by rw [eG_92]; exact gs_keepN u6 hfq_90
        have hc_99 : G_92 q_90 = some (.inr (1, [.int 0, .int 0, .int 0, .int 0])) := by rw [eG_92]; exact gs_us _ _ _
        refine W.eq (g2 := F0 m 104 ls [.ref q_90, .int (nI i), .ref q_20]) rfl ?_
        refine lv_dup hx hb d_Ss_init_104 rfl ?_
        refine gs_IN (As := []) (rest := [.ref q_90, .int (nI i), .ref q_20]) (k_Hr_init l D k zb G_92 q_90  hc_99) E hml hl.1 (cg_N hw w_36 hK.2.1.1 w_3 hd_Hr_init ⟨by exact Nat.le_of_ble_eq_true rfl, by exact Nat.le_of_ble_eq_true rfl⟩) rfl w_35 hG hK hX hS rfl rfl (by exact Nat.le_of_ble_eq_true rfl) d_Ss_init_105 ⟨Nat.le_trans (show 5 + i + 1 + 0 ≤ 29 by omega) (by exact Nat.le_of_ble_eq_true rfl), Nat.le_trans (show 64 + 4 * i + 4 + 0 ≤ 160 by omega) (by exact Nat.le_of_ble_eq_true rfl)⟩ (fun v G1 H locs hp hG hS => ?_)
        obtain ⟨hv1, hG1⟩ := hp
        subst hv1
        rw [hG1] at hG
        obtain ⟨G_100, eG_100⟩ : ∃ z, z = gs_u G_92 q_90 (.inr (1, [.int 0, .int 0, .int 0, .int 0])) := ⟨_, rfl⟩
        have hG : gs_W D classes zb G_100 H := by rw [eG_100]; exact hG
        have hc_101 : G_100 o = some (.inr (3, [.int (nI wn), .int (nI hn), .ref q_2, .ref q_10, .ref q_20, .ref q_32, .ref q_46, .int (nI 0), .int (nI 0)])) := by rw [eG_100]; exact gs_keep hc_93 hc_99 (by simp)
        have hc_102 : G_100 q_2 = some (aRef (k 3) 10 (fun _ => none)) := by rw [eG_100]; exact gs_keep hc_94 hc_99 (by simp)
        have hc_103 : G_100 q_10 = some (aRef (k 4) 10 (fun _ => none)) := by rw [eG_100]; exact gs_keep hc_95 hc_99 (by simp)
        have hc_104 : G_100 q_20 = some (aRef (k 5) 24 (upTo i ha)) := by rw [eG_100]; exact gs_keep hc_96 hc_99 (by simp)
        have hc_105 : G_100 q_32 = some (aLong (k 1) 10 (fun _ => 0)) := by rw [eG_100]; exact gs_keep hc_97 hc_99 (by simp)
        have hc_106 : G_100 q_46 = some (aInt (k 0) 10 (fun _ => 0)) := by rw [eG_100]; exact gs_keep hc_98 hc_99 (by simp)
        have hc_107 : G_100 q_90 = some (.inr (1, [.int 0, .int 0, .int 0, .int 0])) := by rw [eG_100]; exact gs_us _ _ _
        refine W.eq (g2 := F0 m 108 ls [.ref q_90, .int (nI i), .ref q_20]) rfl ?_
        refine gn_astq E hK.1 hG hS hc_104 5 (r := (R_Hr, F_Hr, 4)) rfl hc_107 rfl (j := i) hlt (by decide) d_Ss_init_108 (fun H locs hG hS => ?_)
        obtain ⟨G_108, eG_108⟩ : ∃ z, z = gs_u G_100 q_20 (aRef (k 5) 24 (va_up (upTo i ha) i (some q_90))) := ⟨_, rfl⟩
        have hG : gs_W D classes zb G_108 H := by rw [eG_108]; exact hG
        have hc_109 : G_108 o = some (.inr (3, [.int (nI wn), .int (nI hn), .ref q_2, .ref q_10, .ref q_20, .ref q_32, .ref q_46, .int (nI 0), .int (nI 0)])) := by rw [eG_108]; exact gs_keep hc_101 hc_104 (by simp)
        have hc_110 : G_108 q_2 = some (aRef (k 3) 10 (fun _ => none)) := by rw [eG_108]; exact gs_keep hc_102 hc_104 (by simp)
        have hc_111 : G_108 q_10 = some (aRef (k 4) 10 (fun _ => none)) := by rw [eG_108]; exact gs_keep hc_103 hc_104 (by simp)
        have hc_112 : G_108 q_32 = some (aLong (k 1) 10 (fun _ => 0)) := by rw [eG_108]; exact gs_keep hc_105 hc_104 (by simp)
        have hc_113 : G_108 q_46 = some (aInt (k 0) 10 (fun _ => 0)) := by rw [eG_108]; exact gs_keep hc_106 hc_104 (by simp)
        have hc_114 : G_108 q_90 = some (.inr (1, [.int 0, .int 0, .int 0, .int 0])) := by rw [eG_108]; exact gs_keep hc_107 hc_104 (by simp)
        have hc_115 : G_108 q_20 = some (aRef (k 5) 24 (va_up (upTo i ha) i (some q_90))) := by rw [eG_108]; exact gs_us _ _ _
        refine lv_iinc (v := nI (i + 1)) (lv' := [(3, .int (nI (i + 1))), (0, .ref o), (1, .int wq), (2, .int hq)]) hx hb d_Ss_init_109 hl (k := 3) rfl (nI_1 _) (by decide) rfl (fun ls hl => ?_)
        refine lv_goto (tgt := 87) hx hb d_Ss_init_112 (by decide) ?_
        have hmv : ∀ (b : Nat) (e9 : va_E), G9 b = some e9 → ¬ b = q_20 → G_108 b = some e9 := fun b e9 h1 h2 => by
          have hbq : b ≠ q_90 := fun z => by rw [z, hfq_90] at h1; cases h1
          rw [eG_108, gs_un h2, eG_100, gs_un hbq, eG_92, gs_un hbq]; exact h1
        have hhH : ∀ j, j < i → ¬ ha j = q_20 := fun j hj => gs_ne (u7 j hj) u4 (by simp)
        have hhq : ∀ j, j < i → ¬ ha j = q_90 := fun j hj z => by have h9 := u7 j hj; rw [z, hfq_90] at h9; cases h9
        have hao : ¬ q_20 = o := gs_ne u4 u1 (by simp)
        refine W.widen (k := 5 + (i + 1)) (n := 64 + 4 * (i + 1)) (by show 5 + i + 1 ≤ 5 + (i + 1); omega) (by show 64 + 4 * i + 4 ≤ 64 + 4 * (i + 1); omega) ?_
        exact IHlpu (i + 1) G_108 (upn ha i q_90) (by omega) (by omega) hc_109 hc_110 hc_111 (by rw [← upTo_s]; exact hc_115) hc_112 hc_113 (fun j hj => by by_cases h9 : j = i; (· subst h9; rw [upn_s]; exact hc_114); (· rw [upn_n h9]; exact hmv _ _ (u7 j (by omega)) (hhH j (by omega)))) (fun a b h1 h2 h3 => by by_cases h4 : a = i <;> by_cases h5 : b = i; (· omega); (· subst h4; rw [upn_s, upn_n h5] at h3; exact absurd h3.symm (hhq b (by omega))); (· subst h5; rw [upn_s, upn_n h4] at h3; exact absurd h3 (hhq a (by omega))); (· rw [upn_n h4, upn_n h5] at h3; exact u8 a b (by omega) (by omega) h3)) (fun b e9 h1 h2 => hmv b e9 (u9 b e9 h1 h2) (fun z => by rw [z, hfr] at h2; cases h2)) _ _ hG hS ls (lv_sub hl [1, 2, 3, 0] rfl)
  exact lpu (24 + 1) 0 G_82 (fun _ => 0) (by omega) (by omega) hc_88 hc_83 hc_84 (by rw [upTo_0]; exact hc_85) hc_86 hc_87 (fun j hj => absurd hj (Nat.not_lt_zero j)) (fun a b h => absurd h (Nat.not_lt_zero a)) hmono _ _ hG hS ls (lv_sub hl [1, 2, 3, 0] rfl)
