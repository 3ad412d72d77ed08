/-! contracts, by program -/
set_option maxHeartbeats 4000000 in
set_option maxRecDepth 100000 in
theorem k_Bx_init (l : Launch) (D : va_G) (k : Nat → ClassId) (zb : Nat) (G : Nat → Option va_E) (a0 : Nat) (x0 y0 z0 x1 y1 z1 : Int32) (hb0 : G a0 = some (.inr (0, [.int 0, .int 0, .int 0, .int 0, .int 0, .int 0, .int 0]))) : Met l y_Bx_init (wM y_Bx_init c_Bx_init 7 none) ({ frames := 1, cells := 0, slots := 0, locals := 20 }) (gs_P D k zb G [.ref a0, .int x0, .int y0, .int z0, .int x1, .int y1, .int z1]) (gs_Q D zb (fun v G1 => v = none ∧ G1 = gs_u G a0 (.inr (0, [.int x0, .int y0, .int z0, .int x1, .int y1, .int z1, .int 1])))) 0 0 (fun q : Nat => zb ≤ q) := by
  refine Met.ofW (cc := c_Bx_init) (maxL := 7) (ret := none) (by decide) rfl ?_
  intro p e s m args below meth c s₁ B hml hv
  obtain ⟨rfl, hG, hK, hX⟩ := hv
  have hx := B.exec
  have hb := B.bytes
  have hr := B.returns
  have hts := atoms_spec (ws := wM y_Bx_init c_Bx_init 7 none) B.pre
  have hw : ∀ w9 ∈ wW, w9.before ([.ref a0, .int x0, .int y0, .int z0, .int x1, .int y1, .int z1] : List Value).toArray s = true := fun w9 h9 => hts w9 (gi_in w9 h9)
  have hown : s.vm.findClass R_Bx = some m.cls := findClass_of_methodNamed B.named
  have hlocks := B.notSynchronized
  have hin : meth.name = "<init>" := (name_of_methodNamed B.named B.method).1
  have E : gs_E p s m ([.ref a0, .int x0, .int y0, .int z0, .int x1, .int y1, .int z1] : List Value).toArray c c_Bx_init wW R_Bx := ⟨hx, hb, hw, hown⟩
  have hS : gs_S zb s.heap s.heap [] := va_S.rf
  have hl := lv_entry ([.ref a0, .int x0, .int y0, .int z0, .int x1, .int y1, .int z1]) (n := 7) (Nat.le_of_ble_eq_true rfl)
  rw [lg_entry_eq]
  generalize (lg_sl ([.ref a0, .int x0, .int y0, .int z0, .int x1, .int y1, .int z1]) ++ List.replicate (7 - (lg_sl ([.ref a0, .int x0, .int y0, .int z0, .int x1, .int y1, .int z1])).length) Slot.unset).toArray = ls at hl ⊢
  have hl : lv_has ls 7 [(0, .ref a0), (1, .int x0), (2, .int y0), (3, .int z0), (4, .int x1), (5, .int y1), (6, .int z1)] := hl
  refine lv_aload_n hx hb d_Bx_init_0 rfl (lv_at hl 0 rfl) ?_
  refine W.objInit hx hb hown (hw _ w_190) (hw _ w_19) (hw _ w_20) rfl (by rw [hml]; exact hl.1) rfl d_Bx_init_1 (by exact Nat.le_of_ble_eq_true rfl) (by exact Nat.le_of_ble_eq_true rfl) ?_
  refine W.eq (g2 := F0 m 4 ls []) rfl ?_
  refine lv_aload_n hx hb d_Bx_init_4 rfl (lv_at hl 0 rfl) ?_
  refine lv_iconst (v := 1) hx hb d_Bx_init_5 (by decide) ?_
  refine gs_put E hK.1 hG hS hb0 (C := R_Bx) (T := F_Bx) (N := 7) rfl i_Bx t_Bx t_Bx_ok n_Bx 6 (by decide) w_198 rfl (v := .int 1) (by decide) rfl (Nat.le_of_ble_eq_true rfl) d_Bx_init_6 (fun H locs hG hS => ?_)
  obtain ⟨G_1, eG_1⟩ : ∃ z, z = gs_u G a0 (.inr (0, [.int 0, .int 0, .int 0, .int 0, .int 0, .int 0, .int 1])) := ⟨_, rfl⟩
  have hG : gs_W D classes zb G_1 H := by rw [eG_1]; exact hG
  have hc_2 : G_1 a0 = some (.inr (0, [.int 0, .int 0, .int 0, .int 0, .int 0, .int 0, .int 1])) := by rw [eG_1]; exact gs_us _ _ _
  refine lv_aload_n hx hb d_Bx_init_9 rfl (lv_at hl 0 rfl) ?_
  refine lv_iload_n hx hb d_Bx_init_10 rfl (lv_at hl 1 rfl) ?_
  refine gs_put E hK.1 hG hS hc_2 (C := R_Bx) (T := F_Bx) (N := 7) rfl i_Bx t_Bx t_Bx_ok n_Bx 0 (by decide) w_191 rfl (v := .int x0) rfl rfl (Nat.le_of_ble_eq_true rfl) d_Bx_init_11 (fun H locs hG hS => ?_)
  obtain ⟨G_3, eG_3⟩ : ∃ z, z = gs_u G_1 a0 (.inr (0, [.int x0, .int 0, .int 0, .int 0, .int 0, .int 0, .int 1])) := ⟨_, rfl⟩
  have hG : gs_W D classes zb G_3 H := by rw [eG_3]; exact hG
  have hc_4 : G_3 a0 = some (.inr (0, [.int x0, .int 0, .int 0, .int 0, .int 0, .int 0, .int 1])) := by rw [eG_3]; exact gs_us _ _ _
  refine lv_aload_n hx hb d_Bx_init_14 rfl (lv_at hl 0 rfl) ?_
  refine lv_iload_n hx hb d_Bx_init_15 rfl (lv_at hl 2 rfl) ?_
  refine gs_put E hK.1 hG hS hc_4 (C := R_Bx) (T := F_Bx) (N := 7) rfl i_Bx t_Bx t_Bx_ok n_Bx 1 (by decide) w_192 rfl (v := .int y0) rfl rfl (Nat.le_of_ble_eq_true rfl) d_Bx_init_16 (fun H locs hG hS => ?_)
  obtain ⟨G_5, eG_5⟩ : ∃ z, z = gs_u G_3 a0 (.inr (0, [.int x0, .int y0, .int 0, .int 0, .int 0, .int 0, .int 1])) := ⟨_, rfl⟩
  have hG : gs_W D classes zb G_5 H := by rw [eG_5]; exact hG
  have hc_6 : G_5 a0 = some (.inr (0, [.int x0, .int y0, .int 0, .int 0, .int 0, .int 0, .int 1])) := by rw [eG_5]; exact gs_us _ _ _
  refine lv_aload_n hx hb d_Bx_init_19 rfl (lv_at hl 0 rfl) ?_
  refine lv_iload_n hx hb d_Bx_init_20 rfl (lv_at hl 3 rfl) ?_
  refine gs_put E hK.1 hG hS hc_6 (C := R_Bx) (T := F_Bx) (N := 7) rfl i_Bx t_Bx t_Bx_ok n_Bx 2 (by decide) w_193 rfl (v := .int z0) rfl rfl (Nat.le_of_ble_eq_true rfl) d_Bx_init_21 (fun H locs hG hS => ?_)
  obtain ⟨G_7, eG_7⟩ : ∃ z, z = gs_u G_5 a0 (.inr (0, [.int x0, .int y0, .int z0, .int 0, .int 0, .int 0, .int 1])) := ⟨_, rfl⟩
  have hG : gs_W D classes zb G_7 H := by rw [eG_7]; exact hG
  have hc_8 : G_7 a0 = some (.inr (0, [.int x0, .int y0, .int z0, .int 0, .int 0, .int 0, .int 1])) := by rw [eG_7]; exact gs_us _ _ _
  refine lv_aload_n hx hb d_Bx_init_24 rfl (lv_at hl 0 rfl) ?_
  refine lv_iload hx hb d_Bx_init_25 (lv_at hl 4 rfl) ?_
  refine gs_put E hK.1 hG hS hc_8 (C := R_Bx) (T := F_Bx) (N := 7) rfl i_Bx t_Bx t_Bx_ok n_Bx 3 (by decide) w_194 rfl (v := .int x1) rfl rfl (Nat.le_of_ble_eq_true rfl) d_Bx_init_27 (fun H locs hG hS => ?_)
  obtain ⟨G_9, eG_9⟩ : ∃ z, z = gs_u G_7 a0 (.inr (0, [.int x0, .int y0, .int z0, .int x1, .int 0, .int 0, .int 1])) := ⟨_, rfl⟩
  have hG : gs_W D classes zb G_9 H := by rw [eG_9]; exact hG
  have hc_10 : G_9 a0 = some (.inr (0, [.int x0, .int y0, .int z0, .int x1, .int 0, .int 0, .int 1])) := by rw [eG_9]; exact gs_us _ _ _
  refine lv_aload_n hx hb d_Bx_init_30 rfl (lv_at hl 0 rfl) ?_
  refine lv_iload hx hb d_Bx_init_31 (lv_at hl 5 rfl) ?_
  refine gs_put E hK.1 hG hS hc_10 (C := R_Bx) (T := F_Bx) (N := 7) rfl i_Bx t_Bx t_Bx_ok n_Bx 4 (by decide) w_195 rfl (v := .int y1) rfl rfl (Nat.le_of_ble_eq_true rfl) d_Bx_init_33 (fun H locs hG hS => ?_)
  obtain ⟨G_11, eG_11⟩ : ∃ z, z = gs_u G_9 a0 (.inr (0, [.int x0, .int y0, .int z0, .int x1, .int y1, .int 0, .int 1])) := ⟨_, rfl⟩
  have hG : gs_W D classes zb G_11 H := by rw [eG_11]; exact hG
  have hc_12 : G_11 a0 = some (.inr (0, [.int x0, .int y0, .int z0, .int x1, .int y1, .int 0, .int 1])) := by rw [eG_11]; exact gs_us _ _ _
  refine lv_aload_n hx hb d_Bx_init_36 rfl (lv_at hl 0 rfl) ?_
  refine lv_iload hx hb d_Bx_init_37 (lv_at hl 6 rfl) ?_
  refine gs_put E hK.1 hG hS hc_12 (C := R_Bx) (T := F_Bx) (N := 7) rfl i_Bx t_Bx t_Bx_ok n_Bx 5 (by decide) w_196 rfl (v := .int z1) rfl rfl (Nat.le_of_ble_eq_true rfl) d_Bx_init_39 (fun H locs hG hS => ?_)
  obtain ⟨G_13, eG_13⟩ : ∃ z, z = gs_u G_11 a0 (.inr (0, [.int x0, .int y0, .int z0, .int x1, .int y1, .int z1, .int 1])) := ⟨_, rfl⟩
  have hG : gs_W D classes zb G_13 H := by rw [eG_13]; exact hG
  have hc_14 : G_13 a0 = some (.inr (0, [.int x0, .int y0, .int z0, .int x1, .int y1, .int z1, .int 1])) := by rw [eG_13]; exact gs_us _ _ _
  refine W.vret hx hb hr (gs_end ⟨rfl, ?_⟩ hG hS) hS.2.2 d_Bx_init_42
  simp only [eG_13, eG_11, eG_9, eG_7, eG_5, eG_3, eG_1, gs_uu]
set_option maxHeartbeats 4000000 in
set_option maxRecDepth 100000 in
theorem k_Wn_init (l : Launch) (D : va_G) (k : Nat → ClassId) (zb : Nat) (G : Nat → Option va_E) (a0 : Nat) (u0 v0 u1 v1 : Int32) (hb0 : G a0 = some (.inr (2, [.int 0, .int 0, .int 0, .int 0]))) : Met l y_Wn_init (wM y_Wn_init c_Wn_init 5 none) ({ frames := 1, cells := 0, slots := 0, locals := 20 }) (gs_P D k zb G [.ref a0, .int u0, .int v0, .int u1, .int v1]) (gs_Q D zb (fun v G1 => v = none ∧ G1 = gs_u G a0 (.inr (2, [.int u0, .int v0, .int u1, .int v1])))) 0 0 (fun q : Nat => zb ≤ q) := by
  refine Met.ofW (cc := c_Wn_init) (maxL := 5) (ret := none) (by decide) rfl ?_
  intro p e s m args below meth c s₁ B hml hv
  obtain ⟨rfl, hG, hK, hX⟩ := hv
  have hx := B.exec
  have hb := B.bytes
  have hr := B.returns
  have hts := atoms_spec (ws := wM y_Wn_init c_Wn_init 5 none) B.pre
  have hw : ∀ w9 ∈ wW, w9.before ([.ref a0, .int u0, .int v0, .int u1, .int v1] : List Value).toArray s = true := fun w9 h9 => hts w9 (gi_in w9 h9)
  have hown : s.vm.findClass R_Wn = some m.cls := findClass_of_methodNamed B.named
  have hlocks := B.notSynchronized
  have hin : meth.name = "<init>" := (name_of_methodNamed B.named B.method).1
  have E : gs_E p s m ([.ref a0, .int u0, .int v0, .int u1, .int v1] : List Value).toArray c c_Wn_init wW R_Wn := ⟨hx, hb, hw, hown⟩
  have hS : gs_S zb s.heap s.heap [] := va_S.rf
  have hl := lv_entry ([.ref a0, .int u0, .int v0, .int u1, .int v1]) (n := 5) (Nat.le_of_ble_eq_true rfl)
  rw [lg_entry_eq]
  generalize (lg_sl ([.ref a0, .int u0, .int v0, .int u1, .int v1]) ++ List.replicate (5 - (lg_sl ([.ref a0, .int u0, .int v0, .int u1, .int v1])).length) Slot.unset).toArray = ls at hl ⊢
  have hl : lv_has ls 5 [(0, .ref a0), (1, .int u0), (2, .int v0), (3, .int u1), (4, .int v1)] := hl
  refine lv_aload_n hx hb d_Wn_init_0 rfl (lv_at hl 0 rfl) ?_
  refine W.objInit hx hb hown (hw _ w_277) (hw _ w_19) (hw _ w_20) rfl (by rw [hml]; exact hl.1) rfl d_Wn_init_1 (by exact Nat.le_of_ble_eq_true rfl) (by exact Nat.le_of_ble_eq_true rfl) ?_
  refine W.eq (g2 := F0 m 4 ls []) rfl ?_
  refine lv_aload_n hx hb d_Wn_init_4 rfl (lv_at hl 0 rfl) ?_
  refine lv_iload_n hx hb d_Wn_init_5 rfl (lv_at hl 1 rfl) ?_
  refine gs_putF E hK.1 hG hS hb0 (C := R_Wn) (T := F_Wn) (N := 4) rfl i_Wn t_Wn t_Wn_ok n_Wn 0 (by decide) w_278 rfl hin rfl (v := .int u0) rfl rfl (Nat.le_of_ble_eq_true rfl) d_Wn_init_6 (fun H locs hG hS => ?_)
  obtain ⟨G_1, eG_1⟩ : ∃ z, z = gs_u G a0 (.inr (2, [.int u0, .int 0, .int 0, .int 0])) := ⟨_, rfl⟩
  have hG : gs_W D classes zb G_1 H := by rw [eG_1]; exact hG
  have hc_2 : G_1 a0 = some (.inr (2, [.int u0, .int 0, .int 0, .int 0])) := by rw [eG_1]; exact gs_us _ _ _
  refine lv_aload_n hx hb d_Wn_init_9 rfl (lv_at hl 0 rfl) ?_
  refine lv_iload_n hx hb d_Wn_init_10 rfl (lv_at hl 2 rfl) ?_
  refine gs_putF E hK.1 hG hS hc_2 (C := R_Wn) (T := F_Wn) (N := 4) rfl i_Wn t_Wn t_Wn_ok n_Wn 1 (by decide) w_279 rfl hin rfl (v := .int v0) rfl rfl (Nat.le_of_ble_eq_true rfl) d_Wn_init_11 (fun H locs hG hS => ?_)
  obtain ⟨G_3, eG_3⟩ : ∃ z, z = gs_u G_1 a0 (.inr (2, [.int u0, .int v0, .int 0, .int 0])) := ⟨_, rfl⟩
  have hG : gs_W D classes zb G_3 H := by rw [eG_3]; exact hG
  have hc_4 : G_3 a0 = some (.inr (2, [.int u0, .int v0, .int 0, .int 0])) := by rw [eG_3]; exact gs_us _ _ _
  refine lv_aload_n hx hb d_Wn_init_14 rfl (lv_at hl 0 rfl) ?_
  refine lv_iload_n hx hb d_Wn_init_15 rfl (lv_at hl 3 rfl) ?_
  refine gs_putF E hK.1 hG hS hc_4 (C := R_Wn) (T := F_Wn) (N := 4) rfl i_Wn t_Wn t_Wn_ok n_Wn 2 (by decide) w_281 rfl hin rfl (v := .int u1) rfl rfl (Nat.le_of_ble_eq_true rfl) d_Wn_init_16 (fun H locs hG hS => ?_)
  obtain ⟨G_5, eG_5⟩ : ∃ z, z = gs_u G_3 a0 (.inr (2, [.int u0, .int v0, .int u1, .int 0])) := ⟨_, rfl⟩
  have hG : gs_W D classes zb G_5 H := by rw [eG_5]; exact hG
  have hc_6 : G_5 a0 = some (.inr (2, [.int u0, .int v0, .int u1, .int 0])) := by rw [eG_5]; exact gs_us _ _ _
  refine lv_aload_n hx hb d_Wn_init_19 rfl (lv_at hl 0 rfl) ?_
  refine lv_iload hx hb d_Wn_init_20 (lv_at hl 4 rfl) ?_
  refine gs_putF E hK.1 hG hS hc_6 (C := R_Wn) (T := F_Wn) (N := 4) rfl i_Wn t_Wn t_Wn_ok n_Wn 3 (by decide) w_282 rfl hin rfl (v := .int v1) rfl rfl (Nat.le_of_ble_eq_true rfl) d_Wn_init_22 (fun H locs hG hS => ?_)
  obtain ⟨G_7, eG_7⟩ : ∃ z, z = gs_u G_5 a0 (.inr (2, [.int u0, .int v0, .int u1, .int v1])) := ⟨_, rfl⟩
  have hG : gs_W D classes zb G_7 H := by rw [eG_7]; exact hG
  have hc_8 : G_7 a0 = some (.inr (2, [.int u0, .int v0, .int u1, .int v1])) := by rw [eG_7]; exact gs_us _ _ _
  refine W.vret hx hb hr (gs_end ⟨rfl, ?_⟩ hG hS) hS.2.2 d_Wn_init_25
  simp only [eG_7, eG_5, eG_3, eG_1, gs_uu]
set_option maxHeartbeats 4000000 in
set_option maxRecDepth 100000 in
theorem k_Hr_init (l : Launch) (D : va_G) (k : Nat → ClassId) (zb : Nat) (G : Nat → Option va_E) (a0 : Nat)  (hb0 : G a0 = some (.inr (1, [.int 0, .int 0, .int 0, .int 0]))) : Met l y_Hr_init (wM y_Hr_init c_Hr_init 1 none) ({ frames := 1, cells := 0, slots := 0, locals := 20 }) (gs_P D k zb G [.ref a0]) (gs_Q D zb (fun v G1 => v = none ∧ G1 = gs_u G a0 (.inr (1, [.int 0, .int 0, .int 0, .int 0])))) 0 0 (fun q : Nat => zb ≤ q) := by
  refine Met.ofW (cc := c_Hr_init) (maxL := 1) (ret := none) (by decide) rfl ?_
  intro p e s m args below meth c s₁ B hml hv
  obtain ⟨rfl, hG, hK, hX⟩ := hv
  have hx := B.exec
  have hb := B.bytes
  have hr := B.returns
  have hts := atoms_spec (ws := wM y_Hr_init c_Hr_init 1 none) B.pre
  have hw : ∀ w9 ∈ wW, w9.before ([.ref a0] : List Value).toArray s = true := fun w9 h9 => hts w9 (gi_in w9 h9)
  have hown : s.vm.findClass R_Hr = some m.cls := findClass_of_methodNamed B.named
  have hlocks := B.notSynchronized
  have hin : meth.name = "<init>" := (name_of_methodNamed B.named B.method).1
  have E : gs_E p s m ([.ref a0] : List Value).toArray c c_Hr_init wW R_Hr := ⟨hx, hb, hw, hown⟩
  have hS : gs_S zb s.heap s.heap [] := va_S.rf
  have hl := lv_entry ([.ref a0]) (n := 1) (Nat.le_of_ble_eq_true rfl)
  rw [lg_entry_eq]
  generalize (lg_sl ([.ref a0]) ++ List.replicate (1 - (lg_sl ([.ref a0])).length) Slot.unset).toArray = ls at hl ⊢
  have hl : lv_has ls 1 [(0, .ref a0)] := hl
  refine lv_aload_n hx hb d_Hr_init_0 rfl (lv_at hl 0 rfl) ?_
  refine W.objInit hx hb hown (hw _ w_37) (hw _ w_19) (hw _ w_20) rfl (by rw [hml]; exact hl.1) rfl d_Hr_init_1 (by exact Nat.le_of_ble_eq_true rfl) (by exact Nat.le_of_ble_eq_true rfl) ?_
  refine W.eq (g2 := F0 m 4 ls []) rfl ?_
  refine lv_aload_n hx hb d_Hr_init_4 rfl (lv_at hl 0 rfl) ?_
  refine lv_iconst (v := 0) hx hb d_Hr_init_5 (by decide) ?_
  refine gs_put E hK.1 hG hS hb0 (C := R_Hr) (T := F_Hr) (N := 4) rfl i_Hr t_Hr t_Hr_ok n_Hr 0 (by decide) w_38 rfl (v := .int 0) rfl rfl (Nat.le_of_ble_eq_true rfl) d_Hr_init_6 (fun H locs hG hS => ?_)
  obtain ⟨G_1, eG_1⟩ : ∃ z, z = gs_u G a0 (.inr (1, [.int 0, .int 0, .int 0, .int 0])) := ⟨_, rfl⟩
  have hG : gs_W D classes zb G_1 H := by rw [eG_1]; exact hG
  have hc_2 : G_1 a0 = some (.inr (1, [.int 0, .int 0, .int 0, .int 0])) := by rw [eG_1]; exact gs_us _ _ _
  refine lv_aload_n hx hb d_Hr_init_9 rfl (lv_at hl 0 rfl) ?_
  refine lv_iconst (v := 0) hx hb d_Hr_init_10 (by decide) ?_
  refine gs_put E hK.1 hG hS hc_2 (C := R_Hr) (T := F_Hr) (N := 4) rfl i_Hr t_Hr t_Hr_ok n_Hr 1 (by decide) w_41 rfl (v := .int 0) rfl rfl (Nat.le_of_ble_eq_true rfl) d_Hr_init_11 (fun H locs hG hS => ?_)
  obtain ⟨G_3, eG_3⟩ : ∃ z, z = gs_u G_1 a0 (.inr (1, [.int 0, .int 0, .int 0, .int 0])) := ⟨_, rfl⟩
  have hG : gs_W D classes zb G_3 H := by rw [eG_3]; exact hG
  have hc_4 : G_3 a0 = some (.inr (1, [.int 0, .int 0, .int 0, .int 0])) := by rw [eG_3]; exact gs_us _ _ _
  refine lv_aload_n hx hb d_Hr_init_14 rfl (lv_at hl 0 rfl) ?_
  refine lv_iconst (v := 0) hx hb d_Hr_init_15 (by decide) ?_
  refine gs_put E hK.1 hG hS hc_4 (C := R_Hr) (T := F_Hr) (N := 4) rfl i_Hr t_Hr t_Hr_ok n_Hr 2 (by decide) w_44 rfl (v := .int 0) rfl rfl (Nat.le_of_ble_eq_true rfl) d_Hr_init_16 (fun H locs hG hS => ?_)
  obtain ⟨G_5, eG_5⟩ : ∃ z, z = gs_u G_3 a0 (.inr (1, [.int 0, .int 0, .int 0, .int 0])) := ⟨_, rfl⟩
  have hG : gs_W D classes zb G_5 H := by rw [eG_5]; exact hG
  have hc_6 : G_5 a0 = some (.inr (1, [.int 0, .int 0, .int 0, .int 0])) := by rw [eG_5]; exact gs_us _ _ _
  refine lv_aload_n hx hb d_Hr_init_19 rfl (lv_at hl 0 rfl) ?_
  refine lv_iconst (v := 0) hx hb d_Hr_init_20 (by decide) ?_
  refine gs_put E hK.1 hG hS hc_6 (C := R_Hr) (T := F_Hr) (N := 4) rfl i_Hr t_Hr t_Hr_ok n_Hr 3 (by decide) w_47 rfl (v := .int 0) rfl rfl (Nat.le_of_ble_eq_true rfl) d_Hr_init_21 (fun H locs hG hS => ?_)
  obtain ⟨G_7, eG_7⟩ : ∃ z, z = gs_u G_5 a0 (.inr (1, [.int 0, .int 0, .int 0, .int 0])) := ⟨_, rfl⟩
  have hG : gs_W D classes zb G_7 H := by rw [eG_7]; exact hG
  have hc_8 : G_7 a0 = some (.inr (1, [.int 0, .int 0, .int 0, .int 0])) := by rw [eG_7]; exact gs_us _ _ _
  refine W.vret hx hb hr (gs_end ⟨rfl, ?_⟩ hG hS) hS.2.2 d_Hr_init_24
  simp only [eG_7, eG_5, eG_3, eG_1, gs_uu]
set_option maxHeartbeats 4000000 in
set_option maxRecDepth 100000 in
theorem k_Bx_shiftIfAllowed (l : Launch) (D : va_G) (k : Nat → ClassId) (zb : Nat) (G : Nat → Option va_E) (a0 : Nat) (x0 y0 z0 x1 y1 z1 pr : Int32) (d1 d2 d3 : Int32) (hb0 : G a0 = some (.inr (0, [.int x0, .int y0, .int z0, .int x1, .int y1, .int z1, .int pr]))) : Met l y_Bx_shiftIfAllowed (wM y_Bx_shiftIfAllowed c_Bx_shiftIfAllowed 4 (some .boolean)) ({ frames := 1, cells := 0, slots := 0, locals := 25 }) (gs_P D k zb G [.ref a0, .int d1, .int d2, .int d3]) (gs_Q D zb (fun v G1 => (jc_allowed (x0 + d1) (y0 + d2) (z0 + d3) (x1 + d1) (y1 + d2) (z1 + d3) = 0 ∧ v = some (.int 0) ∧ G1 = G) ∨ (¬ jc_allowed (x0 + d1) (y0 + d2) (z0 + d3) (x1 + d1) (y1 + d2) (z1 + d3) = 0 ∧ v = some (.int 1) ∧ G1 = gs_u G a0 (.inr (0, [.int (x0 + d1), .int (y0 + d2), .int (z0 + d3), .int (x1 + d1), .int (y1 + d2), .int (z1 + d3), .int pr]))))) 0 0 (fun q : Nat => zb ≤ q) := by
  refine Met.ofW (cc := c_Bx_shiftIfAllowed) (maxL := 4) (ret := (some .boolean)) (by decide) rfl ?_
  intro p e s m args below meth c s₁ B hml hv
  obtain ⟨rfl, hG, hK, hX⟩ := hv
  have hx := B.exec
  have hb := B.bytes
  have hr := B.returns
  have hts := atoms_spec (ws := wM y_Bx_shiftIfAllowed c_Bx_shiftIfAllowed 4 (some .boolean)) B.pre
  have hw : ∀ w9 ∈ wW, w9.before ([.ref a0, .int d1, .int d2, .int d3] : List Value).toArray s = true := fun w9 h9 => hts w9 (gi_in w9 h9)
  have hown : s.vm.findClass R_Bx = some m.cls := findClass_of_methodNamed B.named
  have hlocks := B.notSynchronized
  have E : gs_E p s m ([.ref a0, .int d1, .int d2, .int d3] : List Value).toArray c c_Bx_shiftIfAllowed wW R_Bx := ⟨hx, hb, hw, hown⟩
  have hS : gs_S zb s.heap s.heap [] := va_S.rf
  have hl := lv_entry ([.ref a0, .int d1, .int d2, .int d3]) (n := 4) (Nat.le_of_ble_eq_true rfl)
  rw [lg_entry_eq]
  generalize (lg_sl ([.ref a0, .int d1, .int d2, .int d3]) ++ List.replicate (4 - (lg_sl ([.ref a0, .int d1, .int d2, .int d3])).length) Slot.unset).toArray = ls at hl ⊢
  have hl : lv_has ls 4 [(0, .ref a0), (1, .int d1), (2, .int d2), (3, .int d3)] := hl
  refine lv_aload_n hx hb d_Bx_shiftIfAllowed_0 rfl (lv_at hl 0 rfl) ?_
  refine gs_get E hK.1 hG hb0 (C := R_Bx) (T := F_Bx) (N := 7) rfl i_Bx 0 (by decide) w_191 (v := .int x0) rfl d_Bx_shiftIfAllowed_1 ?_
  refine lv_iload_n hx hb d_Bx_shiftIfAllowed_4 rfl (lv_at hl 1 rfl) ?_
  refine lv_iadd hx hb d_Bx_shiftIfAllowed_5 ?_
  refine lv_aload_n hx hb d_Bx_shiftIfAllowed_6 rfl (lv_at hl 0 rfl) ?_
  refine gs_get E hK.1 hG hb0 (C := R_Bx) (T := F_Bx) (N := 7) rfl i_Bx 1 (by decide) w_192 (v := .int y0) rfl d_Bx_shiftIfAllowed_7 ?_
  refine lv_iload_n hx hb d_Bx_shiftIfAllowed_10 rfl (lv_at hl 2 rfl) ?_
  refine lv_iadd hx hb d_Bx_shiftIfAllowed_11 ?_
  refine lv_aload_n hx hb d_Bx_shiftIfAllowed_12 rfl (lv_at hl 0 rfl) ?_
  refine gs_get E hK.1 hG hb0 (C := R_Bx) (T := F_Bx) (N := 7) rfl i_Bx 2 (by decide) w_193 (v := .int z0) rfl d_Bx_shiftIfAllowed_13 ?_
  refine lv_iload_n hx hb d_Bx_shiftIfAllowed_16 rfl (lv_at hl 3 rfl) ?_
  refine lv_iadd hx hb d_Bx_shiftIfAllowed_17 ?_
  refine lv_aload_n hx hb d_Bx_shiftIfAllowed_18 rfl (lv_at hl 0 rfl) ?_
  refine gs_get E hK.1 hG hb0 (C := R_Bx) (T := F_Bx) (N := 7) rfl i_Bx 3 (by decide) w_194 (v := .int x1) rfl d_Bx_shiftIfAllowed_19 ?_
  refine lv_iload_n hx hb d_Bx_shiftIfAllowed_22 rfl (lv_at hl 1 rfl) ?_
  refine lv_iadd hx hb d_Bx_shiftIfAllowed_23 ?_
  refine lv_aload_n hx hb d_Bx_shiftIfAllowed_24 rfl (lv_at hl 0 rfl) ?_
  refine gs_get E hK.1 hG hb0 (C := R_Bx) (T := F_Bx) (N := 7) rfl i_Bx 4 (by decide) w_195 (v := .int y1) rfl d_Bx_shiftIfAllowed_25 ?_
  refine lv_iload_n hx hb d_Bx_shiftIfAllowed_28 rfl (lv_at hl 2 rfl) ?_
  refine lv_iadd hx hb d_Bx_shiftIfAllowed_29 ?_
  refine lv_aload_n hx hb d_Bx_shiftIfAllowed_30 rfl (lv_at hl 0 rfl) ?_
  refine gs_get E hK.1 hG hb0 (C := R_Bx) (T := F_Bx) (N := 7) rfl i_Bx 5 (by decide) w_196 (v := .int z1) rfl d_Bx_shiftIfAllowed_31 ?_
  refine lv_iload_n hx hb d_Bx_shiftIfAllowed_34 rfl (lv_at hl 3 rfl) ?_
  refine lv_iadd hx hb d_Bx_shiftIfAllowed_35 ?_
  refine gs_St (As := [.int (x0 + d1), .int (y0 + d2), .int (z0 + d3), .int (x1 + d1), .int (y1 + d2), .int (z1 + d3)]) (rest := []) (k_Bx_isAllowed l D k zb G (x0 + d1) (y0 + d2) (z0 + d3) (x1 + d1) (y1 + d2) (z1 + d3)) E hml hl.1 (cg_S hw w_102 w_235 w_5 w_101 hd_Bx_isAllowed ⟨by exact Nat.le_of_ble_eq_true rfl, by exact Nat.le_of_ble_eq_true rfl⟩) hG hK hX hS rfl rfl (by exact Nat.le_of_ble_eq_true rfl) d_Bx_shiftIfAllowed_36 ⟨by exact Nat.le_of_ble_eq_true rfl, by exact Nat.le_of_ble_eq_true rfl⟩ (fun v G1 H locs hp hG hS => ?_)
  obtain ⟨hv1, hG1⟩ := hp
  subst hv1
  rw [hG1] at hG
  refine W.eq (g2 := F0 m 39 ls [.int (jc_allowed (x0 + d1) (y0 + d2) (z0 + d3) (x1 + d1) (y1 + d2) (z1 + d3))]) rfl ?_
  refine lv_if_ne (tgt := 44) hx hb d_Bx_shiftIfAllowed_39 (by decide) (fun c_1 => ?_) (fun c_1 => ?_)
  · refine lv_aload_n hx hb d_Bx_shiftIfAllowed_44 rfl (lv_at hl 0 rfl) ?_
    refine lv_dup hx hb d_Bx_shiftIfAllowed_45 rfl ?_
    refine gs_get E hK.1 hG hb0 (C := R_Bx) (T := F_Bx) (N := 7) rfl i_Bx 0 (by decide) w_191 (v := .int x0) rfl d_Bx_shiftIfAllowed_46 ?_
    refine lv_iload_n hx hb d_Bx_shiftIfAllowed_49 rfl (lv_at hl 1 rfl) ?_
    refine lv_iadd hx hb d_Bx_shiftIfAllowed_50 ?_
    refine lv_topi (fun v_2 ev_2 => ?_)
    refine gs_put E hK.1 hG hS hb0 (C := R_Bx) (T := F_Bx) (N := 7) rfl i_Bx t_Bx t_Bx_ok n_Bx 0 (by decide) w_191 rfl (v := .int v_2) rfl rfl (Nat.le_of_ble_eq_true rfl) d_Bx_shiftIfAllowed_51 (fun H locs hG hS => ?_)
    obtain ⟨G_3, eG_3⟩ : ∃ z, z = gs_u G a0 (.inr (0, [.int v_2, .int y0, .int z0, .int x1, .int y1, .int z1, .int pr])) := ⟨_, rfl⟩
    have hG : gs_W D classes zb G_3 H := by rw [eG_3]; exact hG
    have hc_4 : G_3 a0 = some (.inr (0, [.int v_2, .int y0, .int z0, .int x1, .int y1, .int z1, .int pr])) := by rw [eG_3]; exact gs_us _ _ _
    refine lv_aload_n hx hb d_Bx_shiftIfAllowed_54 rfl (lv_at hl 0 rfl) ?_
    refine lv_dup hx hb d_Bx_shiftIfAllowed_55 rfl ?_
    refine gs_get E hK.1 hG hc_4 (C := R_Bx) (T := F_Bx) (N := 7) rfl i_Bx 1 (by decide) w_192 (v := .int y0) rfl d_Bx_shiftIfAllowed_56 ?_
    refine lv_iload_n hx hb d_Bx_shiftIfAllowed_59 rfl (lv_at hl 2 rfl) ?_
    refine lv_iadd hx hb d_Bx_shiftIfAllowed_60 ?_
    refine lv_topi (fun v_5 ev_5 => ?_)
    refine gs_put E hK.1 hG hS hc_4 (C := R_Bx) (T := F_Bx) (N := 7) rfl i_Bx t_Bx t_Bx_ok n_Bx 1 (by decide) w_192 rfl (v := .int v_5) rfl rfl (Nat.le_of_ble_eq_true rfl) d_Bx_shiftIfAllowed_61 (fun H locs hG hS => ?_)
    obtain ⟨G_6, eG_6⟩ : ∃ z, z = gs_u G_3 a0 (.inr (0, [.int v_2, .int v_5, .int z0, .int x1, .int y1, .int z1, .int pr])) := ⟨_, rfl⟩
    have hG : gs_W D classes zb G_6 H := by rw [eG_6]; exact hG
    have hc_7 : G_6 a0 = some (.inr (0, [.int v_2, .int v_5, .int z0, .int x1, .int y1, .int z1, .int pr])) := by rw [eG_6]; exact gs_us _ _ _
    refine lv_aload_n hx hb d_Bx_shiftIfAllowed_64 rfl (lv_at hl 0 rfl) ?_
    refine lv_dup hx hb d_Bx_shiftIfAllowed_65 rfl ?_
    refine gs_get E hK.1 hG hc_7 (C := R_Bx) (T := F_Bx) (N := 7) rfl i_Bx 2 (by decide) w_193 (v := .int z0) rfl d_Bx_shiftIfAllowed_66 ?_
    refine lv_iload_n hx hb d_Bx_shiftIfAllowed_69 rfl (lv_at hl 3 rfl) ?_
    refine lv_iadd hx hb d_Bx_shiftIfAllowed_70 ?_
    refine lv_topi (fun v_8 ev_8 => ?_)
    refine gs_put E hK.1 hG hS hc_7 (C := R_Bx) (T := F_Bx) (N := 7) rfl i_Bx t_Bx t_Bx_ok n_Bx 2 (by decide) w_193 rfl (v := .int v_8) rfl rfl (Nat.le_of_ble_eq_true rfl) d_Bx_shiftIfAllowed_71 (fun H locs hG hS => ?_)
    obtain ⟨G_9, eG_9⟩ : ∃ z, z = gs_u G_6 a0 (.inr (0, [.int v_2, .int v_5, .int v_8, .int x1, .int y1, .int z1, .int pr])) := ⟨_, rfl⟩
    have hG : gs_W D classes zb G_9 H := by rw [eG_9]; exact hG
    have hc_10 : G_9 a0 = some (.inr (0, [.int v_2, .int v_5, .int v_8, .int x1, .int y1, .int z1, .int pr])) := by rw [eG_9]; exact gs_us _ _ _
    refine lv_aload_n hx hb d_Bx_shiftIfAllowed_74 rfl (lv_at hl 0 rfl) ?_
    refine lv_dup hx hb d_Bx_shiftIfAllowed_75 rfl ?_
    refine gs_get E hK.1 hG hc_10 (C := R_Bx) (T := F_Bx) (N := 7) rfl i_Bx 3 (by decide) w_194 (v := .int x1) rfl d_Bx_shiftIfAllowed_76 ?_
    refine lv_iload_n hx hb d_Bx_shiftIfAllowed_79 rfl (lv_at hl 1 rfl) ?_
    refine lv_iadd hx hb d_Bx_shiftIfAllowed_80 ?_
    refine lv_topi (fun v_11 ev_11 => ?_)
    refine gs_put E hK.1 hG hS hc_10 (C := R_Bx) (T := F_Bx) (N := 7) rfl i_Bx t_Bx t_Bx_ok n_Bx 3 (by decide) w_194 rfl (v := .int v_11) rfl rfl (Nat.le_of_ble_eq_true rfl) d_Bx_shiftIfAllowed_81 (fun H locs hG hS => ?_)
    obtain ⟨G_12, eG_12⟩ : ∃ z, z = gs_u G_9 a0 (.inr (0, [.int v_2, .int v_5, .int v_8, .int v_11, .int y1, .int z1, .int pr])) := ⟨_, rfl⟩
    have hG : gs_W D classes zb G_12 H := by rw [eG_12]; exact hG
    have hc_13 : G_12 a0 = some (.inr (0, [.int v_2, .int v_5, .int v_8, .int v_11, .int y1, .int z1, .int pr])) := by rw [eG_12]; exact gs_us _ _ _
    refine lv_aload_n hx hb d_Bx_shiftIfAllowed_84 rfl (lv_at hl 0 rfl) ?_
    refine lv_dup hx hb d_Bx_shiftIfAllowed_85 rfl ?_
    refine gs_get E hK.1 hG hc_13 (C := R_Bx) (T := F_Bx) (N := 7) rfl i_Bx 4 (by decide) w_195 (v := .int y1) rfl d_Bx_shiftIfAllowed_86 ?_
    refine lv_iload_n hx hb d_Bx_shiftIfAllowed_89 rfl (lv_at hl 2 rfl) ?_
    refine lv_iadd hx hb d_Bx_shiftIfAllowed_90 ?_
    refine lv_topi (fun v_14 ev_14 => ?_)
    refine gs_put E hK.1 hG hS hc_13 (C := R_Bx) (T := F_Bx) (N := 7) rfl i_Bx t_Bx t_Bx_ok n_Bx 4 (by decide) w_195 rfl (v := .int v_14) rfl rfl (Nat.le_of_ble_eq_true rfl) d_Bx_shiftIfAllowed_91 (fun H locs hG hS => ?_)
    obtain ⟨G_15, eG_15⟩ : ∃ z, z = gs_u G_12 a0 (.inr (0, [.int v_2, .int v_5, .int v_8, .int v_11, .int v_14, .int z1, .int pr])) := ⟨_, rfl⟩
    have hG : gs_W D classes zb G_15 H := by rw [eG_15]; exact hG
    have hc_16 : G_15 a0 = some (.inr (0, [.int v_2, .int v_5, .int v_8, .int v_11, .int v_14, .int z1, .int pr])) := by rw [eG_15]; exact gs_us _ _ _
    refine lv_aload_n hx hb d_Bx_shiftIfAllowed_94 rfl (lv_at hl 0 rfl) ?_
    refine lv_dup hx hb d_Bx_shiftIfAllowed_95 rfl ?_
    refine gs_get E hK.1 hG hc_16 (C := R_Bx) (T := F_Bx) (N := 7) rfl i_Bx 5 (by decide) w_196 (v := .int z1) rfl d_Bx_shiftIfAllowed_96 ?_
    refine lv_iload_n hx hb d_Bx_shiftIfAllowed_99 rfl (lv_at hl 3 rfl) ?_
    refine lv_iadd hx hb d_Bx_shiftIfAllowed_100 ?_
    refine lv_topi (fun v_17 ev_17 => ?_)
    refine gs_put E hK.1 hG hS hc_16 (C := R_Bx) (T := F_Bx) (N := 7) rfl i_Bx t_Bx t_Bx_ok n_Bx 5 (by decide) w_196 rfl (v := .int v_17) rfl rfl (Nat.le_of_ble_eq_true rfl) d_Bx_shiftIfAllowed_101 (fun H locs hG hS => ?_)
    obtain ⟨G_18, eG_18⟩ : ∃ z, z = gs_u G_15 a0 (.inr (0, [.int v_2, .int v_5, .int v_8, .int v_11, .int v_14, .int v_17, .int pr])) := ⟨_, rfl⟩
    have hG : gs_W D classes zb G_18 H := by rw [eG_18]; exact hG
    have hc_19 : G_18 a0 = some (.inr (0, [.int v_2, .int v_5, .int v_8, .int v_11, .int v_14, .int v_17, .int pr])) := by rw [eG_18]; exact gs_us _ _ _
    refine lv_iconst (v := 1) hx hb d_Bx_shiftIfAllowed_104 (by decide) ?_
    refine W.zret (v := 1) hx hb hr (by decide) (gs_end (Or.inr ⟨c_1, rfl, ?_⟩) hG hS) hS.2.2 d_Bx_shiftIfAllowed_105
    subst ev_17 ev_14 ev_11 ev_8 ev_5 ev_2
    simp only [eG_18, eG_15, eG_12, eG_9, eG_6, eG_3, gs_uu]
  · refine lv_iconst (v := 0) hx hb d_Bx_shiftIfAllowed_42 (by decide) ?_
    refine W.zret (v := 0) hx hb hr (by decide) (gs_end (Or.inl ⟨c_1, rfl, rfl⟩) hG hS) hS.2.2 d_Bx_shiftIfAllowed_43
set_option maxHeartbeats 4000000 in
set_option maxRecDepth 100000 in
theorem k_Ss_there (l : Launch) (hnt : l.stackTraces = false) (D : va_G) (k : Nat → ClassId) (zb : Nat) (G : Nat → Option va_E) (o aB aW aH aS aT : Nat) (wn hn nb nw : Nat) (ba wa ha : Nat → Nat) (bf hf : Nat → Nat → Int32) (wf : Nat → Nat → Nat) (sh : Nat → Int64) (tk : Nat → Int32) (b on : Int32) (hC : sC k G o aB aW aH aS aT wn hn nb nw ba wa ha bf hf wf sh tk) (hon : on = 0 ∨ on = 1) (hpr : ∀ i, i < nb → bf i 6 = 0 ∨ bf i 6 = 1) : vx_Met l y_Ss_there (wM y_Ss_there c_Ss_there 5 (some .boolean)) ({ frames := 7, cells := 1, slots := 6, locals := 112 }) (gs_P D k zb G [.ref o, .int b, .int on]) (gs_Q D zb (fun v G1 => ∃ i : Nat, i < nb ∧ b = nI i ∧ v = some (.int (bf i 6)) ∧ G1 = gs_u G (ba i) (.inr (0, [.int (bf i 0), .int (bf i 1), .int (bf i 2), .int (bf i 3), .int (bf i 4), .int (bf i 5), .int on])))) (gs_T D zb G (fun E => E = e_IA ∧ (¬ ∃ i : Nat, i < nb ∧ b = nI i))) 1 6 (fun q : Nat => zb ≤ q) := by
  refine vx_ofW (cc := c_Ss_there) (maxL := 5) (ret := (some .boolean)) (by decide) rfl ?_
  intro p e s m args below meth c s₁ B hml ht hv
  obtain ⟨rfl, hG, hK, hX⟩ := hv
  have hx := B.exec
  have hb := B.bytes
  have hr := B.returns
  have hts := atoms_spec (ws := wM y_Ss_there c_Ss_there 5 (some .boolean)) B.pre
  have hw : ∀ w9 ∈ wW, w9.before ([.ref o, .int b, .int on] : List Value).toArray s = true := fun w9 h9 => hts w9 (gi_in w9 h9)
  have hown : s.vm.findClass R_Ss = some m.cls := findClass_of_methodNamed B.named
  have hlocks := B.notSynchronized
  have E : gs_E p s m ([.ref o, .int b, .int on] : List Value).toArray c c_Ss_there wW R_Ss := ⟨hx, hb, hw, hown⟩
  have hS : gs_S zb s.heap s.heap [] := va_S.rf
  have hl := lv_entry ([.ref o, .int b, .int on]) (n := 5) (Nat.le_of_ble_eq_true rfl)
  rw [lg_entry_eq]
  generalize (lg_sl ([.ref o, .int b, .int on]) ++ List.replicate (5 - (lg_sl ([.ref o, .int b, .int on])).length) Slot.unset).toArray = ls at hl ⊢
  have hl : lv_has ls 5 [(0, .ref o), (1, .int b), (2, .int on)] := hl
  refine lv_aload_n hx hb d_Ss_there_0 rfl (lv_at hl 0 rfl) ?_
  refine lv_iload_n hx hb d_Ss_there_1 rfl (lv_at hl 1 rfl) ?_
  refine gs_VX (As := [.int b]) (rest := []) (k_Ss_knownBox l hnt D k zb G o aB aW aH aS aT wn hn nb nw ba wa ha bf hf wf sh tk b hC) E hml hl.1 (cg_V (C := R_Ss) hw w_225 w_222 w_1 w_224 sel_Ss_knownBox hd_Ss_knownBox ⟨by exact Nat.le_of_ble_eq_true rfl, by exact Nat.le_of_ble_eq_true rfl⟩) hG hK hX hS hC.1.1 rfl rfl rfl rfl (by exact Nat.le_of_ble_eq_true rfl) d_Ss_there_2 ⟨by exact Nat.le_of_ble_eq_true rfl, by exact Nat.le_of_ble_eq_true rfl⟩ (fun E9 ce q9 H locs hp hG hS hq1 hq2 hq3 => ?_) (fun v G1 H locs hp hG hS => ?_)
  · exact gs_on ht hlocks (hp) hG hS hq1 hq2 hq3 (by decide) (by decide)
  obtain ⟨ib, hib, eib, hv1, hG1⟩ := hp
  subst hv1
  rw [hG1] at hG
  refine W.eq (g2 := F0 m 5 ls [.ref (ba ib)]) rfl ?_
  refine lv_astore_n (lv' := [(3, .ref (ba ib)), (0, .ref o), (1, .int b), (2, .int on)]) hx hb d_Ss_there_5 rfl hl (by decide) rfl (fun ls hl => ?_)
  refine lv_aload_n hx hb d_Ss_there_6 rfl (lv_at hl 0 rfl) ?_
  refine gs_get E hK.1 hG (hC.2.2.1 ib hib) (C := R_Bx) (T := F_Bx) (N := 7) rfl i_Bx 6 (by decide) w_199 (v := .int (bf ib 6)) rfl d_Ss_there_7 ?_
  refine lv_topi (fun v_1 ev_1 => ?_)
  refine lv_istore (lv' := [(4, .int v_1), (3, .ref (ba ib)), (0, .ref o), (1, .int b), (2, .int on)]) hx hb d_Ss_there_10 hl (by decide) rfl (fun ls hl => ?_)
  refine lv_aload_n hx hb d_Ss_there_12 rfl (lv_at hl 1 rfl) ?_
  refine lv_iload_n hx hb d_Ss_there_13 rfl (lv_at hl 4 rfl) ?_
  refine gs_put E hK.1 hG hS (hC.2.2.1 ib hib) (C := R_Bx) (T := F_Bx) (N := 7) rfl i_Bx t_Bx t_Bx_ok n_Bx 6 (by decide) w_199 rfl (v := .int on) (nar01 hon) (fit01 hon) (Nat.le_of_ble_eq_true rfl) d_Ss_there_14 (fun H locs hG hS => ?_)
  obtain ⟨G_2, eG_2⟩ : ∃ z, z = gs_u G (ba ib) (.inr (0, [.int (bf ib 0), .int (bf ib 1), .int (bf ib 2), .int (bf ib 3), .int (bf ib 4), .int (bf ib 5), .int on])) := ⟨_, rfl⟩
  have hG : gs_W D classes zb G_2 H := by rw [eG_2]; exact hG
  have hc_3 : G_2 o = some (.inr (3, [.int (nI wn), .int (nI hn), .ref aB, .ref aW, .ref aH, .ref aS, .ref aT, .int (nI nb), .int (nI nw)])) := by rw [eG_2]; exact gs_keep hC.1.1 (hC.2.2.1 ib hib) (by simp)
  have hc_4 : G_2 (ba ib) = some (.inr (0, [.int (bf ib 0), .int (bf ib 1), .int (bf ib 2), .int (bf ib 3), .int (bf ib 4), .int (bf ib 5), .int on])) := by rw [eG_2]; exact gs_us _ _ _
  refine lv_iload hx hb d_Ss_there_17 (lv_at hl 0 rfl) ?_
  refine vx_ret ?_
  refine W.zret (v := v_1) hx hb hr (nar01 (by rw [ev_1]; exact hpr ib hib)) (gs_end ⟨ib, hib, eib, by rw [ev_1], ?_⟩ hG hS) hS.2.2 d_Ss_there_19
  subst ev_1
  simp only [eG_2, gs_uu]
set_option maxHeartbeats 4000000 in
set_option maxRecDepth 100000 in
theorem k_Ss_sun (l : Launch) (hnt : l.stackTraces = false) (D : va_G) (k : Nat → ClassId) (zb : Nat) (G : Nat → Option va_E) (o aB aW aH aS aT : Nat) (wn hn nb nw : Nat) (ba wa ha : Nat → Nat) (bf hf : Nat → Nat → Int32) (wf : Nat → Nat → Nat) (sh : Nat → Int64) (tk : Nat → Int32) (t d1 d2 d3 : Int32) (hC : sC k G o aB aW aH aS aT wn hn nb nw ba wa ha bf hf wf sh tk) : vx_Met l y_Ss_sun (wM y_Ss_sun c_Ss_sun 6 none) ({ frames := 7, cells := 2, slots := 12, locals := 112 }) (gs_P D k zb G [.ref o, .int t, .int d1, .int d2, .int d3]) (gs_Q D zb (fun v G1 => v = none ∧ ∃ i : Nat, i < 24 ∧ t = nI i ∧ (¬ jc_within d1 (-300) 300 = 0 ∧ ¬ jc_within d2 (-300) 300 = 0 ∧ ¬ jc_within d3 0 100 = 0) ∧ G1 = gs_u G (ha i) (.inr (1, [.int d1, .int d2, .int d3, .int (hf i 3)])))) (gs_T D zb G (fun E => E = e_IA ∧ ((¬ ∃ i : Nat, i < 24 ∧ t = nI i) ∨ jc_within d1 (-300) 300 = 0 ∨ jc_within d2 (-300) 300 = 0 ∨ jc_within d3 0 100 = 0))) 2 12 (fun q : Nat => zb ≤ q) := by
  refine vx_ofW (cc := c_Ss_sun) (maxL := 6) (ret := none) (by decide) rfl ?_
  intro p e s m args below meth c s₁ B hml ht hv
  obtain ⟨rfl, hG, hK, hX⟩ := hv
  have hx := B.exec
  have hb := B.bytes
  have hr := B.returns
  have hts := atoms_spec (ws := wM y_Ss_sun c_Ss_sun 6 none) B.pre
  have hw : ∀ w9 ∈ wW, w9.before ([.ref o, .int t, .int d1, .int d2, .int d3] : List Value).toArray s = true := fun w9 h9 => hts w9 (gi_in w9 h9)
  have hown : s.vm.findClass R_Ss = some m.cls := findClass_of_methodNamed B.named
  have hlocks := B.notSynchronized
  have E : gs_E p s m ([.ref o, .int t, .int d1, .int d2, .int d3] : List Value).toArray c c_Ss_sun wW R_Ss := ⟨hx, hb, hw, hown⟩
  have hS : gs_S zb s.heap s.heap [] := va_S.rf
  have hl := lv_entry ([.ref o, .int t, .int d1, .int d2, .int d3]) (n := 6) (Nat.le_of_ble_eq_true rfl)
  rw [lg_entry_eq]
  generalize (lg_sl ([.ref o, .int t, .int d1, .int d2, .int d3]) ++ List.replicate (6 - (lg_sl ([.ref o, .int t, .int d1, .int d2, .int d3])).length) Slot.unset).toArray = ls at hl ⊢
  have hl : lv_has ls 6 [(0, .ref o), (1, .int t), (2, .int d1), (3, .int d2), (4, .int d3)] := hl
  refine lv_aload_n hx hb d_Ss_sun_0 rfl (lv_at hl 0 rfl) ?_
  refine lv_iload_n hx hb d_Ss_sun_1 rfl (lv_at hl 1 rfl) ?_
  refine gs_VX (As := [.int t]) (rest := []) (k_Ss_knownHour l hnt D k zb G o aB aW aH aS aT wn hn nb nw ba wa ha bf hf wf sh tk t hC) E hml hl.1 (cg_V (C := R_Ss) hw w_253 w_250 w_1 w_252 sel_Ss_knownHour hd_Ss_knownHour ⟨by exact Nat.le_of_ble_eq_true rfl, by exact Nat.le_of_ble_eq_true rfl⟩) hG hK hX hS hC.1.1 rfl rfl rfl rfl (by exact Nat.le_of_ble_eq_true rfl) d_Ss_sun_2 ⟨by exact Nat.le_of_ble_eq_true rfl, by exact Nat.le_of_ble_eq_true rfl⟩ (fun E9 ce q9 H locs hp hG hS hq1 hq2 hq3 => ?_) (fun v G1 H locs hp hG hS => ?_)
  · exact gs_on ht hlocks (⟨hp.1, Or.inl hp.2⟩) hG hS hq1 hq2 hq3 (by decide) (by decide)
  obtain ⟨ih, hih, eih, hv1, hG1⟩ := hp
  subst hv1
  rw [hG1] at hG
  refine W.eq (g2 := F0 m 5 ls [.ref (ha ih)]) rfl ?_
  refine lv_astore (lv' := [(5, .ref (ha ih)), (0, .ref o), (1, .int t), (2, .int d1), (3, .int d2), (4, .int d3)]) hx hb d_Ss_sun_5 hl (by decide) rfl (fun ls hl => ?_)
  refine lv_iload_n hx hb d_Ss_sun_7 rfl (lv_at hl 3 rfl) ?_
  refine lv_sipush (v := (-300)) hx hb d_Ss_sun_8 (by decide) ?_
  refine lv_sipush (v := 300) hx hb d_Ss_sun_11 (by decide) ?_
  refine gs_St (As := [.int d1, .int (-300), .int 300]) (rest := []) (k_Ss_isWithin l D k zb G d1 (-300) 300) E hml hl.1 (cg_S hw w_229 w_227 w_1 w_228 hd_Ss_isWithin ⟨by exact Nat.le_of_ble_eq_true rfl, by exact Nat.le_of_ble_eq_true rfl⟩) hG hK hX hS rfl rfl (by exact Nat.le_of_ble_eq_true rfl) d_Ss_sun_14 ⟨by exact Nat.le_of_ble_eq_true rfl, by exact Nat.le_of_ble_eq_true rfl⟩ (fun v G1 H locs hp hG hS => ?_)
  obtain ⟨hv1, hG1⟩ := hp
  subst hv1
  rw [hG1] at hG
  refine W.eq (g2 := F0 m 17 ls [.int (jc_within d1 (-300) 300)]) rfl ?_
  refine lv_if_eq (tgt := 44) hx hb d_Ss_sun_17 (by decide) (fun c_1 => ?_) (fun c_1 => ?_)
  · exact gs_throwIA (text := "the sun's direction is out of bounds") hnt E hG hK hX hS ht (hl.1.trans hml.symm) w_103 w_9 (by decide) (⟨rfl, Or.inr (Or.inl c_1)⟩) d_Ss_sun_44 d_Ss_sun_47 d_Ss_sun_48 d_Ss_sun_50 d_Ss_sun_53 (by exact Nat.le_of_ble_eq_true rfl) (by exact Nat.le_of_ble_eq_true rfl) (by exact Nat.le_of_ble_eq_true rfl) (by exact Nat.le_of_ble_eq_true rfl) hlocks (by decide) (by decide)
  · refine lv_iload_n hx hb d_Ss_sun_20 rfl (lv_at hl 4 rfl) ?_
    refine lv_sipush (v := (-300)) hx hb d_Ss_sun_21 (by decide) ?_
    refine lv_sipush (v := 300) hx hb d_Ss_sun_24 (by decide) ?_
    refine gs_St (As := [.int d2, .int (-300), .int 300]) (rest := []) (k_Ss_isWithin l D k zb G d2 (-300) 300) E hml hl.1 (cg_S hw w_229 w_227 w_1 w_228 hd_Ss_isWithin ⟨by exact Nat.le_of_ble_eq_true rfl, by exact Nat.le_of_ble_eq_true rfl⟩) hG hK hX hS rfl rfl (by exact Nat.le_of_ble_eq_true rfl) d_Ss_sun_27 ⟨by exact Nat.le_of_ble_eq_true rfl, by exact Nat.le_of_ble_eq_true rfl⟩ (fun v G1 H locs hp hG hS => ?_)
    obtain ⟨hv1, hG1⟩ := hp
    subst hv1
    rw [hG1] at hG
    refine W.eq (g2 := F0 m 30 ls [.int (jc_within d2 (-300) 300)]) rfl ?_
    refine lv_if_eq (tgt := 44) hx hb d_Ss_sun_30 (by decide) (fun c_2 => ?_) (fun c_2 => ?_)
    · exact gs_throwIA (text := "the sun's direction is out of bounds") hnt E hG hK hX hS ht (hl.1.trans hml.symm) w_103 w_9 (by decide) (⟨rfl, Or.inr (Or.inr (Or.inl c_2))⟩) d_Ss_sun_44 d_Ss_sun_47 d_Ss_sun_48 d_Ss_sun_50 d_Ss_sun_53 (by exact Nat.le_of_ble_eq_true rfl) (by exact Nat.le_of_ble_eq_true rfl) (by exact Nat.le_of_ble_eq_true rfl) (by exact Nat.le_of_ble_eq_true rfl) hlocks (by decide) (by decide)
    · refine lv_iload hx hb d_Ss_sun_33 (lv_at hl 5 rfl) ?_
      refine lv_iconst (v := 0) hx hb d_Ss_sun_35 (by decide) ?_
      refine lv_bipush (v := 100) hx hb d_Ss_sun_36 (by decide) ?_
      refine gs_St (As := [.int d3, .int 0, .int 100]) (rest := []) (k_Ss_isWithin l D k zb G d3 0 100) E hml hl.1 (cg_S hw w_229 w_227 w_1 w_228 hd_Ss_isWithin ⟨by exact Nat.le_of_ble_eq_true rfl, by exact Nat.le_of_ble_eq_true rfl⟩) hG hK hX hS rfl rfl (by exact Nat.le_of_ble_eq_true rfl) d_Ss_sun_38 ⟨by exact Nat.le_of_ble_eq_true rfl, by exact Nat.le_of_ble_eq_true rfl⟩ (fun v G1 H locs hp hG hS => ?_)
      obtain ⟨hv1, hG1⟩ := hp
      subst hv1
      rw [hG1] at hG
      refine W.eq (g2 := F0 m 41 ls [.int (jc_within d3 0 100)]) rfl ?_
      refine lv_if_ne (tgt := 54) hx hb d_Ss_sun_41 (by decide) (fun c_3 => ?_) (fun c_3 => ?_)
      · refine lv_aload hx hb d_Ss_sun_54 (lv_at hl 0 rfl) ?_
        refine lv_iload_n hx hb d_Ss_sun_56 rfl (lv_at hl 3 rfl) ?_
        refine gs_put E hK.1 hG hS (hC.2.2.2.2.1 ih hih) (C := R_Hr) (T := F_Hr) (N := 4) rfl i_Hr t_Hr t_Hr_ok n_Hr 0 (by decide) w_40 rfl (v := .int d1) rfl rfl (Nat.le_of_ble_eq_true rfl) d_Ss_sun_57 (fun H locs hG hS => ?_)
        obtain ⟨G_4, eG_4⟩ : ∃ z, z = gs_u G (ha ih) (.inr (1, [.int d1, .int (hf ih 1), .int (hf ih 2), .int (hf ih 3)])) := ⟨_, rfl⟩
        have hG : gs_W D classes zb G_4 H := by rw [eG_4]; exact hG
        have hc_5 : G_4 o = some (.inr (3, [.int (nI wn), .int (nI hn), .ref aB, .ref aW, .ref aH, .ref aS, .ref aT, .int (nI nb), .int (nI nw)])) := by rw [eG_4]; exact gs_keep hC.1.1 (hC.2.2.2.2.1 ih hih) (by simp)
        have hc_6 : G_4 (ha ih) = some (.inr (1, [.int d1, .int (hf ih 1), .int (hf ih 2), .int (hf ih 3)])) := by rw [eG_4]; exact gs_us _ _ _
        refine lv_aload hx hb d_Ss_sun_60 (lv_at hl 0 rfl) ?_
        refine lv_iload_n hx hb d_Ss_sun_62 rfl (lv_at hl 4 rfl) ?_
        refine gs_put E hK.1 hG hS hc_6 (C := R_Hr) (T := F_Hr) (N := 4) rfl i_Hr t_Hr t_Hr_ok n_Hr 1 (by decide) w_43 rfl (v := .int d2) rfl rfl (Nat.le_of_ble_eq_true rfl) d_Ss_sun_63 (fun H locs hG hS => ?_)
        obtain ⟨G_7, eG_7⟩ : ∃ z, z = gs_u G_4 (ha ih) (.inr (1, [.int d1, .int d2, .int (hf ih 2), .int (hf ih 3)])) := ⟨_, rfl⟩
        have hG : gs_W D classes zb G_7 H := by rw [eG_7]; exact hG
        have hc_8 : G_7 o = some (.inr (3, [.int (nI wn), .int (nI hn), .ref aB, .ref aW, .ref aH, .ref aS, .ref aT, .int (nI nb), .int (nI nw)])) := by rw [eG_7]; exact gs_keep hc_5 hc_6 (by simp)
        have hc_9 : G_7 (ha ih) = some (.inr (1, [.int d1, .int d2, .int (hf ih 2), .int (hf ih 3)])) := by rw [eG_7]; exact gs_us _ _ _
        refine lv_aload hx hb d_Ss_sun_66 (lv_at hl 0 rfl) ?_
        refine lv_iload hx hb d_Ss_sun_68 (lv_at hl 5 rfl) ?_
        refine gs_put E hK.1 hG hS hc_9 (C := R_Hr) (T := F_Hr) (N := 4) rfl i_Hr t_Hr t_Hr_ok n_Hr 2 (by decide) w_46 rfl (v := .int d3) rfl rfl (Nat.le_of_ble_eq_true rfl) d_Ss_sun_70 (fun H locs hG hS => ?_)
        obtain ⟨G_10, eG_10⟩ : ∃ z, z = gs_u G_7 (ha ih) (.inr (1, [.int d1, .int d2, .int d3, .int (hf ih 3)])) := ⟨_, rfl⟩
        have hG : gs_W D classes zb G_10 H := by rw [eG_10]; exact hG
        have hc_11 : G_10 o = some (.inr (3, [.int (nI wn), .int (nI hn), .ref aB, .ref aW, .ref aH, .ref aS, .ref aT, .int (nI nb), .int (nI nw)])) := by rw [eG_10]; exact gs_keep hc_8 hc_9 (by simp)
        have hc_12 : G_10 (ha ih) = some (.inr (1, [.int d1, .int d2, .int d3, .int (hf ih 3)])) := by rw [eG_10]; exact gs_us _ _ _
        refine W.widen (k := 2) (n := 12) (by decide) (by decide) ?_
        refine vx_ret ?_
        refine W.vret hx hb hr (gs_end ⟨rfl, ih, hih, eih, ⟨c_1, c_2, c_3⟩, ?_⟩ hG hS) hS.2.2 d_Ss_sun_73
        simp only [eG_10, eG_7, eG_4, gs_uu]
      · exact gs_throwIA (text := "the sun's direction is out of bounds") hnt E hG hK hX hS ht (hl.1.trans hml.symm) w_103 w_9 (by decide) (⟨rfl, Or.inr (Or.inr (Or.inr c_3))⟩) d_Ss_sun_44 d_Ss_sun_47 d_Ss_sun_48 d_Ss_sun_50 d_Ss_sun_53 (by exact Nat.le_of_ble_eq_true rfl) (by exact Nat.le_of_ble_eq_true rfl) (by exact Nat.le_of_ble_eq_true rfl) (by exact Nat.le_of_ble_eq_true rfl) hlocks (by decide) (by decide)
set_option maxHeartbeats 4000000 in
set_option maxRecDepth 100000 in
theorem k_Ss_light (l : Launch) (hnt : l.stackTraces = false) (D : va_G) (k : Nat → ClassId) (zb : Nat) (G : Nat → Option va_E) (o aB aW aH aS aT : Nat) (wn hn nb nw : Nat) (ba wa ha : Nat → Nat) (bf hf : Nat → Nat → Int32) (wf : Nat → Nat → Nat) (sh : Nat → Int64) (tk : Nat → Int32) (t d1 : Int32) (hC : sC k G o aB aW aH aS aT wn hn nb nw ba wa ha bf hf wf sh tk) : vx_Met l y_Ss_light (wM y_Ss_light c_Ss_light 5 (some .int)) ({ frames := 7, cells := 2, slots := 12, locals := 112 }) (gs_P D k zb G [.ref o, .int t, .int d1]) (gs_Q D zb (fun v G1 => ∃ i : Nat, i < 24 ∧ t = nI i ∧ ¬ jc_within d1 0 1000 = 0 ∧ v = some (.int (hf i 3)) ∧ G1 = gs_u G (ha i) (.inr (1, [.int (hf i 0), .int (hf i 1), .int (hf i 2), .int d1])))) (gs_T D zb G (fun E => E = e_IA ∧ ((¬ ∃ i : Nat, i < 24 ∧ t = nI i) ∨ jc_within d1 0 1000 = 0))) 2 12 (fun q : Nat => zb ≤ q) := by
  refine vx_ofW (cc := c_Ss_light) (maxL := 5) (ret := (some .int)) (by decide) rfl ?_
  intro p e s m args below meth c s₁ B hml ht hv
  obtain ⟨rfl, hG, hK, hX⟩ := hv
  have hx := B.exec
  have hb := B.bytes
  have hr := B.returns
  have hts := atoms_spec (ws := wM y_Ss_light c_Ss_light 5 (some .int)) B.pre
  have hw : ∀ w9 ∈ wW, w9.before ([.ref o, .int t, .int d1] : List Value).toArray s = true := fun w9 h9 => hts w9 (gi_in w9 h9)
  have hown : s.vm.findClass R_Ss = some m.cls := findClass_of_methodNamed B.named
  have hlocks := B.notSynchronized
  have E : gs_E p s m ([.ref o, .int t, .int d1] : List Value).toArray c c_Ss_light wW R_Ss := ⟨hx, hb, hw, hown⟩
  have hS : gs_S zb s.heap s.heap [] := va_S.rf
  have hl := lv_entry ([.ref o, .int t, .int d1]) (n := 5) (Nat.le_of_ble_eq_true rfl)
  rw [lg_entry_eq]
  generalize (lg_sl ([.ref o, .int t, .int d1]) ++ List.replicate (5 - (lg_sl ([.ref o, .int t, .int d1])).length) Slot.unset).toArray = ls at hl ⊢
  have hl : lv_has ls 5 [(0, .ref o), (1, .int t), (2, .int d1)] := hl
  refine lv_aload_n hx hb d_Ss_light_0 rfl (lv_at hl 0 rfl) ?_
  refine lv_iload_n hx hb d_Ss_light_1 rfl (lv_at hl 1 rfl) ?_
  refine gs_VX (As := [.int t]) (rest := []) (k_Ss_knownHour l hnt D k zb G o aB aW aH aS aT wn hn nb nw ba wa ha bf hf wf sh tk t hC) E hml hl.1 (cg_V (C := R_Ss) hw w_253 w_250 w_1 w_252 sel_Ss_knownHour hd_Ss_knownHour ⟨by exact Nat.le_of_ble_eq_true rfl, by exact Nat.le_of_ble_eq_true rfl⟩) hG hK hX hS hC.1.1 rfl rfl rfl rfl (by exact Nat.le_of_ble_eq_true rfl) d_Ss_light_2 ⟨by exact Nat.le_of_ble_eq_true rfl, by exact Nat.le_of_ble_eq_true rfl⟩ (fun E9 ce q9 H locs hp hG hS hq1 hq2 hq3 => ?_) (fun v G1 H locs hp hG hS => ?_)
  · exact gs_on ht hlocks (⟨hp.1, Or.inl hp.2⟩) hG hS hq1 hq2 hq3 (by decide) (by decide)
  obtain ⟨ih, hih, eih, hv1, hG1⟩ := hp
  subst hv1
  rw [hG1] at hG
  refine W.eq (g2 := F0 m 5 ls [.ref (ha ih)]) rfl ?_
  refine lv_astore_n (lv' := [(3, .ref (ha ih)), (0, .ref o), (1, .int t), (2, .int d1)]) hx hb d_Ss_light_5 rfl hl (by decide) rfl (fun ls hl => ?_)
  refine lv_iload_n hx hb d_Ss_light_6 rfl (lv_at hl 3 rfl) ?_
  refine lv_iconst (v := 0) hx hb d_Ss_light_7 (by decide) ?_
  refine lv_sipush (v := 1000) hx hb d_Ss_light_8 (by decide) ?_
  refine gs_St (As := [.int d1, .int 0, .int 1000]) (rest := []) (k_Ss_isWithin l D k zb G d1 0 1000) E hml hl.1 (cg_S hw w_229 w_227 w_1 w_228 hd_Ss_isWithin ⟨by exact Nat.le_of_ble_eq_true rfl, by exact Nat.le_of_ble_eq_true rfl⟩) hG hK hX hS rfl rfl (by exact Nat.le_of_ble_eq_true rfl) d_Ss_light_11 ⟨by exact Nat.le_of_ble_eq_true rfl, by exact Nat.le_of_ble_eq_true rfl⟩ (fun v G1 H locs hp hG hS => ?_)
  obtain ⟨hv1, hG1⟩ := hp
  subst hv1
  rw [hG1] at hG
  refine W.eq (g2 := F0 m 14 ls [.int (jc_within d1 0 1000)]) rfl ?_
  refine lv_if_ne (tgt := 27) hx hb d_Ss_light_14 (by decide) (fun c_1 => ?_) (fun c_1 => ?_)
  · refine lv_aload_n hx hb d_Ss_light_27 rfl (lv_at hl 0 rfl) ?_
    refine gs_get E hK.1 hG (hC.2.2.2.2.1 ih hih) (C := R_Hr) (T := F_Hr) (N := 4) rfl i_Hr 3 (by decide) w_48 (v := .int (hf ih 3)) rfl d_Ss_light_28 ?_
    refine lv_topi (fun v_2 ev_2 => ?_)
    refine lv_istore (lv' := [(4, .int v_2), (3, .ref (ha ih)), (0, .ref o), (1, .int t), (2, .int d1)]) hx hb d_Ss_light_31 hl (by decide) rfl (fun ls hl => ?_)
    refine lv_aload_n hx hb d_Ss_light_33 rfl (lv_at hl 1 rfl) ?_
    refine lv_iload_n hx hb d_Ss_light_34 rfl (lv_at hl 4 rfl) ?_
    refine gs_put E hK.1 hG hS (hC.2.2.2.2.1 ih hih) (C := R_Hr) (T := F_Hr) (N := 4) rfl i_Hr t_Hr t_Hr_ok n_Hr 3 (by decide) w_48 rfl (v := .int d1) rfl rfl (Nat.le_of_ble_eq_true rfl) d_Ss_light_35 (fun H locs hG hS => ?_)
    obtain ⟨G_3, eG_3⟩ : ∃ z, z = gs_u G (ha ih) (.inr (1, [.int (hf ih 0), .int (hf ih 1), .int (hf ih 2), .int d1])) := ⟨_, rfl⟩
    have hG : gs_W D classes zb G_3 H := by rw [eG_3]; exact hG
    have hc_4 : G_3 o = some (.inr (3, [.int (nI wn), .int (nI hn), .ref aB, .ref aW, .ref aH, .ref aS, .ref aT, .int (nI nb), .int (nI nw)])) := by rw [eG_3]; exact gs_keep hC.1.1 (hC.2.2.2.2.1 ih hih) (by simp)
    have hc_5 : G_3 (ha ih) = some (.inr (1, [.int (hf ih 0), .int (hf ih 1), .int (hf ih 2), .int d1])) := by rw [eG_3]; exact gs_us _ _ _
    refine lv_iload hx hb d_Ss_light_38 (lv_at hl 0 rfl) ?_
    refine W.widen (k := 2) (n := 12) (by decide) (by decide) ?_
    refine vx_ret ?_
    refine W.iret (v := v_2) hx hb hr (gs_end ⟨ih, hih, eih, c_1, by subst ev_2; rfl, ?_⟩ hG hS) hS.2.2 d_Ss_light_40
    subst ev_2
    simp only [eG_3, gs_uu]
  · exact gs_throwIA (text := "light is 0 .. 1000") hnt E hG hK hX hS ht (hl.1.trans hml.symm) w_103 w_9 (by decide) (⟨rfl, Or.inr c_1⟩) d_Ss_light_17 d_Ss_light_20 d_Ss_light_21 d_Ss_light_23 d_Ss_light_26 (by exact Nat.le_of_ble_eq_true rfl) (by exact Nat.le_of_ble_eq_true rfl) (by exact Nat.le_of_ble_eq_true rfl) (by exact Nat.le_of_ble_eq_true rfl) hlocks (by decide) (by decide)
set_option maxHeartbeats 4000000 in
set_option maxRecDepth 100000 in
theorem k_Ss_move (l : Launch) (hnt : l.stackTraces = false) (D : va_G) (k : Nat → ClassId) (zb : Nat) (G : Nat → Option va_E) (o aB aW aH aS aT : Nat) (wn hn nb nw : Nat) (ba wa ha : Nat → Nat) (bf hf : Nat → Nat → Int32) (wf : Nat → Nat → Nat) (sh : Nat → Int64) (tk : Nat → Int32) (b d1 d2 d3 : Int32) (hC : sC k G o aB aW aH aS aT wn hn nb nw ba wa ha bf hf wf sh tk) : vx_Met l y_Ss_move (wM y_Ss_move c_Ss_move 6 (some .boolean)) ({ frames := 7, cells := 2, slots := 12, locals := 112 }) (gs_P D k zb G [.ref o, .int b, .int d1, .int d2, .int d3]) (gs_Q D zb (fun v G1 => ∃ i : Nat, i < nb ∧ b = nI i ∧ (¬ jc_within d1 (-300) 300 = 0 ∧ ¬ jc_within d2 (-300) 300 = 0 ∧ ¬ jc_within d3 (-300) 300 = 0) ∧ ((jc_allowed (bf i 0 + d1) (bf i 1 + d2) (bf i 2 + d3) (bf i 3 + d1) (bf i 4 + d2) (bf i 5 + d3) = 0 ∧ v = some (.int 0) ∧ G1 = G) ∨ (¬ jc_allowed (bf i 0 + d1) (bf i 1 + d2) (bf i 2 + d3) (bf i 3 + d1) (bf i 4 + d2) (bf i 5 + d3) = 0 ∧ v = some (.int 1) ∧ G1 = gs_u G (ba i) (.inr (0, [.int (bf i 0 + d1), .int (bf i 1 + d2), .int (bf i 2 + d3), .int (bf i 3 + d1), .int (bf i 4 + d2), .int (bf i 5 + d3), .int (bf i 6)])))))) (gs_T D zb G (fun E => E = e_IA ∧ ((¬ ∃ i : Nat, i < nb ∧ b = nI i) ∨ jc_within d1 (-300) 300 = 0 ∨ jc_within d2 (-300) 300 = 0 ∨ jc_within d3 (-300) 300 = 0))) 2 12 (fun q : Nat => zb ≤ q) := by
  refine vx_ofW (cc := c_Ss_move) (maxL := 6) (ret := (some .boolean)) (by decide) rfl ?_
  intro p e s m args below meth c s₁ B hml ht hv
  obtain ⟨rfl, hG, hK, hX⟩ := hv
  have hx := B.exec
  have hb := B.bytes
  have hr := B.returns
  have hts := atoms_spec (ws := wM y_Ss_move c_Ss_move 6 (some .boolean)) B.pre
  have hw : ∀ w9 ∈ wW, w9.before ([.ref o, .int b, .int d1, .int d2, .int d3] : List Value).toArray s = true := fun w9 h9 => hts w9 (gi_in w9 h9)
  have hown : s.vm.findClass R_Ss = some m.cls := findClass_of_methodNamed B.named
  have hlocks := B.notSynchronized
  have E : gs_E p s m ([.ref o, .int b, .int d1, .int d2, .int d3] : List Value).toArray c c_Ss_move wW R_Ss := ⟨hx, hb, hw, hown⟩
  have hS : gs_S zb s.heap s.heap [] := va_S.rf
  have hl := lv_entry ([.ref o, .int b, .int d1, .int d2, .int d3]) (n := 6) (Nat.le_of_ble_eq_true rfl)
  rw [lg_entry_eq]
  generalize (lg_sl ([.ref o, .int b, .int d1, .int d2, .int d3]) ++ List.replicate (6 - (lg_sl ([.ref o, .int b, .int d1, .int d2, .int d3])).length) Slot.unset).toArray = ls at hl ⊢
  have hl : lv_has ls 6 [(0, .ref o), (1, .int b), (2, .int d1), (3, .int d2), (4, .int d3)] := hl
  refine lv_aload_n hx hb d_Ss_move_0 rfl (lv_at hl 0 rfl) ?_
  refine lv_iload_n hx hb d_Ss_move_1 rfl (lv_at hl 1 rfl) ?_
  refine gs_VX (As := [.int b]) (rest := []) (k_Ss_knownBox l hnt D k zb G o aB aW aH aS aT wn hn nb nw ba wa ha bf hf wf sh tk b hC) E hml hl.1 (cg_V (C := R_Ss) hw w_225 w_222 w_1 w_224 sel_Ss_knownBox hd_Ss_knownBox ⟨by exact Nat.le_of_ble_eq_true rfl, by exact Nat.le_of_ble_eq_true rfl⟩) hG hK hX hS hC.1.1 rfl rfl rfl rfl (by exact Nat.le_of_ble_eq_true rfl) d_Ss_move_2 ⟨by exact Nat.le_of_ble_eq_true rfl, by exact Nat.le_of_ble_eq_true rfl⟩ (fun E9 ce q9 H locs hp hG hS hq1 hq2 hq3 => ?_) (fun v G1 H locs hp hG hS => ?_)
  · exact gs_on ht hlocks (⟨hp.1, Or.inl hp.2⟩) hG hS hq1 hq2 hq3 (by decide) (by decide)
  obtain ⟨ib, hib, eib, hv1, hG1⟩ := hp
  subst hv1
  rw [hG1] at hG
  refine W.eq (g2 := F0 m 5 ls [.ref (ba ib)]) rfl ?_
  refine lv_astore (lv' := [(5, .ref (ba ib)), (0, .ref o), (1, .int b), (2, .int d1), (3, .int d2), (4, .int d3)]) hx hb d_Ss_move_5 hl (by decide) rfl (fun ls hl => ?_)
  refine lv_iload_n hx hb d_Ss_move_7 rfl (lv_at hl 3 rfl) ?_
  refine lv_sipush (v := (-300)) hx hb d_Ss_move_8 (by decide) ?_
  refine lv_sipush (v := 300) hx hb d_Ss_move_11 (by decide) ?_
  refine gs_St (As := [.int d1, .int (-300), .int 300]) (rest := []) (k_Ss_isWithin l D k zb G d1 (-300) 300) E hml hl.1 (cg_S hw w_229 w_227 w_1 w_228 hd_Ss_isWithin ⟨by exact Nat.le_of_ble_eq_true rfl, by exact Nat.le_of_ble_eq_true rfl⟩) hG hK hX hS rfl rfl (by exact Nat.le_of_ble_eq_true rfl) d_Ss_move_14 ⟨by exact Nat.le_of_ble_eq_true rfl, by exact Nat.le_of_ble_eq_true rfl⟩ (fun v G1 H locs hp hG hS => ?_)
  obtain ⟨hv1, hG1⟩ := hp
  subst hv1
  rw [hG1] at hG
  refine W.eq (g2 := F0 m 17 ls [.int (jc_within d1 (-300) 300)]) rfl ?_
  refine lv_if_eq (tgt := 47) hx hb d_Ss_move_17 (by decide) (fun c_1 => ?_) (fun c_1 => ?_)
  · exact gs_throwIA (text := "a box moves by -300 .. 300") hnt E hG hK hX hS ht (hl.1.trans hml.symm) w_103 w_9 (by decide) (⟨rfl, Or.inr (Or.inl c_1)⟩) d_Ss_move_47 d_Ss_move_50 d_Ss_move_51 d_Ss_move_53 d_Ss_move_56 (by exact Nat.le_of_ble_eq_true rfl) (by exact Nat.le_of_ble_eq_true rfl) (by exact Nat.le_of_ble_eq_true rfl) (by exact Nat.le_of_ble_eq_true rfl) hlocks (by decide) (by decide)
  · refine lv_iload_n hx hb d_Ss_move_20 rfl (lv_at hl 4 rfl) ?_
    refine lv_sipush (v := (-300)) hx hb d_Ss_move_21 (by decide) ?_
    refine lv_sipush (v := 300) hx hb d_Ss_move_24 (by decide) ?_
    refine gs_St (As := [.int d2, .int (-300), .int 300]) (rest := []) (k_Ss_isWithin l D k zb G d2 (-300) 300) E hml hl.1 (cg_S hw w_229 w_227 w_1 w_228 hd_Ss_isWithin ⟨by exact Nat.le_of_ble_eq_true rfl, by exact Nat.le_of_ble_eq_true rfl⟩) hG hK hX hS rfl rfl (by exact Nat.le_of_ble_eq_true rfl) d_Ss_move_27 ⟨by exact Nat.le_of_ble_eq_true rfl, by exact Nat.le_of_ble_eq_true rfl⟩ (fun v G1 H locs hp hG hS => ?_)
    obtain ⟨hv1, hG1⟩ := hp
    subst hv1
    rw [hG1] at hG
    refine W.eq (g2 := F0 m 30 ls [.int (jc_within d2 (-300) 300)]) rfl ?_
    refine lv_if_eq (tgt := 47) hx hb d_Ss_move_30 (by decide) (fun c_2 => ?_) (fun c_2 => ?_)
    · exact gs_throwIA (text := "a box moves by -300 .. 300") hnt E hG hK hX hS ht (hl.1.trans hml.symm) w_103 w_9 (by decide) (⟨rfl, Or.inr (Or.inr (Or.inl c_2))⟩) d_Ss_move_47 d_Ss_move_50 d_Ss_move_51 d_Ss_move_53 d_Ss_move_56 (by exact Nat.le_of_ble_eq_true rfl) (by exact Nat.le_of_ble_eq_true rfl) (by exact Nat.le_of_ble_eq_true rfl) (by exact Nat.le_of_ble_eq_true rfl) hlocks (by decide) (by decide)
    · refine lv_iload hx hb d_Ss_move_33 (lv_at hl 5 rfl) ?_
      refine lv_sipush (v := (-300)) hx hb d_Ss_move_35 (by decide) ?_
      refine lv_sipush (v := 300) hx hb d_Ss_move_38 (by decide) ?_
      refine gs_St (As := [.int d3, .int (-300), .int 300]) (rest := []) (k_Ss_isWithin l D k zb G d3 (-300) 300) E hml hl.1 (cg_S hw w_229 w_227 w_1 w_228 hd_Ss_isWithin ⟨by exact Nat.le_of_ble_eq_true rfl, by exact Nat.le_of_ble_eq_true rfl⟩) hG hK hX hS rfl rfl (by exact Nat.le_of_ble_eq_true rfl) d_Ss_move_41 ⟨by exact Nat.le_of_ble_eq_true rfl, by exact Nat.le_of_ble_eq_true rfl⟩ (fun v G1 H locs hp hG hS => ?_)
      obtain ⟨hv1, hG1⟩ := hp
      subst hv1
      rw [hG1] at hG
      refine W.eq (g2 := F0 m 44 ls [.int (jc_within d3 (-300) 300)]) rfl ?_
      refine lv_if_ne (tgt := 57) hx hb d_Ss_move_44 (by decide) (fun c_3 => ?_) (fun c_3 => ?_)
      · refine lv_aload hx hb d_Ss_move_57 (lv_at hl 0 rfl) ?_
        refine lv_iload_n hx hb d_Ss_move_59 rfl (lv_at hl 3 rfl) ?_
        refine lv_iload_n hx hb d_Ss_move_60 rfl (lv_at hl 4 rfl) ?_
        refine lv_iload hx hb d_Ss_move_61 (lv_at hl 5 rfl) ?_
        refine gs_V (As := [.int d1, .int d2, .int d3]) (rest := []) (k_Bx_shiftIfAllowed l D k zb G (ba ib) (bf ib 0) (bf ib 1) (bf ib 2) (bf ib 3) (bf ib 4) (bf ib 5) (bf ib 6) d1 d2 d3 (hC.2.2.1 ib hib)) E hml hl.1 (cg_V (C := R_Bx) hw w_234 w_231 w_5 w_232 sel_Bx_shiftIfAllowed hd_Bx_shiftIfAllowed ⟨by exact Nat.le_of_ble_eq_true rfl, by exact Nat.le_of_ble_eq_true rfl⟩) hG hK hX hS (hC.2.2.1 ib hib) rfl rfl rfl rfl (by exact Nat.le_of_ble_eq_true rfl) d_Ss_move_63 ⟨by exact Nat.le_of_ble_eq_true rfl, by exact Nat.le_of_ble_eq_true rfl⟩ (fun v G1 H locs hp hG hS => ?_)
        rcases hp with ⟨hz1, hv1, hG1⟩ | ⟨hz1, hv1, hG1⟩
        · subst hv1
          refine W.eq (g2 := F0 m 66 ls [.int 0]) rfl ?_
          refine W.widen (k := 2) (n := 12) (by decide) (by decide) ?_
          refine vx_ret ?_
          exact W.zret (v := 0) hx hb hr (by decide) (gs_end ⟨ib, hib, eib, ⟨c_1, c_2, c_3⟩, Or.inl ⟨hz1, rfl, hG1⟩⟩ hG hS) hS.2.2 d_Ss_move_66
        · subst hv1
          refine W.eq (g2 := F0 m 66 ls [.int 1]) rfl ?_
          refine W.widen (k := 2) (n := 12) (by decide) (by decide) ?_
          refine vx_ret ?_
          exact W.zret (v := 1) hx hb hr (by decide) (gs_end ⟨ib, hib, eib, ⟨c_1, c_2, c_3⟩, Or.inr ⟨hz1, rfl, hG1⟩⟩ hG hS) hS.2.2 d_Ss_move_66
      · exact gs_throwIA (text := "a box moves by -300 .. 300") hnt E hG hK hX hS ht (hl.1.trans hml.symm) w_103 w_9 (by decide) (⟨rfl, Or.inr (Or.inr (Or.inr c_3))⟩) d_Ss_move_47 d_Ss_move_50 d_Ss_move_51 d_Ss_move_53 d_Ss_move_56 (by exact Nat.le_of_ble_eq_true rfl) (by exact Nat.le_of_ble_eq_true rfl) (by exact Nat.le_of_ble_eq_true rfl) (by exact Nat.le_of_ble_eq_true rfl) hlocks (by decide) (by decide)
