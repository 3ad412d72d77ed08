/-! the reference's maps; counts; kinds of cells -/
def gM (k : Nat → ClassId) (G : Nat → Option va_E) (mo cB cT : Nat) (bx tr : Nat → Int32) (e : va_E) : Nat → Option va_E := gs_u (gs_u (gs_u G cB (aInt (k 0) 66 bx)) cT (aInt (k 2) 11 tr)) mo e
theorem sM_g {k : Nat → ClassId} {G : Nat → Option va_E} {mo cB cT cS cL cW : Nat} {th : Int32} {wn hn nb nw : Nat} {bx tr su li wi : Nat → Int32} {l1 l2 l3 l4 : Int64} (h : sM k G mo cB cT cS cL cW th wn hn nb nw bx tr su li wi l1 l2 l3 l4) (th2 : Int32) (nb2 nw2 : Nat) (bx2 tr2 : Nat → Int32) (m1 m2 m3 m4 : Int64) : sM k (gM k G mo cB cT bx2 tr2 (oMd th2 wn hn nb2 nw2 cB cT cS cL cW m1 m2 m3 m4)) mo cB cT cS cL cW th2 wn hn nb2 nw2 bx2 tr2 su li wi m1 m2 m3 m4 := by
  obtain ⟨h1, h2, h3, h4, h5, h6⟩ := h
  have a1 := gs_keep (g := aInt (k 0) 66 bx2) h1 h2 (by simp)
  have a3 := gs_keep (g := aInt (k 0) 66 bx2) h3 h2 (by simp)
  have a4 := gs_keep (g := aInt (k 0) 66 bx2) h4 h2 (by simp)
  have a5 := gs_keep (g := aInt (k 0) 66 bx2) h5 h2 (by simp)
  have a6 := gs_keep (g := aInt (k 0) 66 bx2) h6 h2 (by simp)
  have a2 := gs_us G cB (aInt (k 0) 66 bx2)
  have b1 := gs_keep (g := aInt (k 2) 11 tr2) a1 a3 (by simp)
  have b2 := gs_keep (g := aInt (k 2) 11 tr2) a2 a3 (by simp)
  have b4 := gs_keep (g := aInt (k 2) 11 tr2) a4 a3 (by simp)
  have b5 := gs_keep (g := aInt (k 2) 11 tr2) a5 a3 (by simp)
  have b6 := gs_keep (g := aInt (k 2) 11 tr2) a6 a3 (by simp)
  have b3 := gs_us (gs_u G cB (aInt (k 0) 66 bx2)) cT (aInt (k 2) 11 tr2)
  exact ⟨gs_us _ _ _, gs_keep b2 b1 (by simp), gs_keep b3 b1 (by simp), gs_keep b4 b1 (by simp), gs_keep b5 b1 (by simp), gs_keep b6 b1 (by simp)⟩
theorem gM_gM (k : Nat → ClassId) (G : Nat → Option va_E) (mo cB cT : Nat) (b1 t1 b2 t2 : Nat → Int32) (e1 e2 : va_E) : gM k (gM k G mo cB cT b1 t1 e1) mo cB cT b2 t2 e2 = gM k G mo cB cT b2 t2 e2 := by
  funext q
  by_cases h1 : q = mo
  · subst h1; simp [gM, gs_u]
  · by_cases h2 : q = cT
    · subst h2; simp [gM, gs_u, h1]
    · by_cases h3 : q = cB
      · subst h3; simp [gM, gs_u, h1, h2]
      · simp [gM, gs_u, h1, h2, h3]
theorem gM_o (k : Nat → ClassId) (G : Nat → Option va_E) (mo cB cT : Nat) (b1 t1 : Nat → Int32) (e1 e2 : va_E) : gs_u (gM k G mo cB cT b1 t1 e1) mo e2 = gM k G mo cB cT b1 t1 e2 := gs_uu _ _ _ _
theorem gM_id {k : Nat → ClassId} {G : Nat → Option va_E} {mo cB cT cS cL cW : Nat} {th : Int32} {wn hn nb nw : Nat} {bx tr su li wi : Nat → Int32} {l1 l2 l3 l4 : Int64} (h : sM k G mo cB cT cS cL cW th wn hn nb nw bx tr su li wi l1 l2 l3 l4) (e : va_E) : gM k G mo cB cT bx tr e = gs_u G mo e := by
  unfold gM
  rw [gs_id h.2.1, gs_id h.2.2.1]
/-- mo written first -/
theorem gM_r (k : Nat → ClassId) (G : Nat → Option va_E) (mo cB cT : Nat) (b1 t1 : Nat → Int32) (e1 e2 : va_E) : gM k (gs_u G mo e1) mo cB cT b1 t1 e2 = gM k G mo cB cT b1 t1 e2 := by
  funext q
  by_cases h1 : q = mo
  · subst h1; simp [gM, gs_u]
  · by_cases h2 : q = cT
    · subst h2; simp [gM, gs_u, h1]
    · by_cases h3 : q = cB
      · subst h3; simp [gM, gs_u, h1, h2]
      · simp [gM, gs_u, h1, h2, h3]
theorem jm_lay2 (bx : Nat → Int32) (b : Nat) (x0 y0 z0 x1 y1 z1 a0 a1 a2 a3 a4 a5 : Int32) : jm_lay (jm_lay bx b a0 a1 a2 a3 a4 a5) b x0 y0 z0 x1 y1 z1 = jm_lay bx b x0 y0 z0 x1 y1 z1 := by
  funext q
  unfold jm_lay upd
  split
  · rfl
  · rename_i h5
    split
    · rfl
    · rename_i h4
      split
      · rfl
      · rename_i h3
        split
        · rfl
        · rename_i h2
          split
          · rfl
          · rename_i h1
            split
            · rfl
            · rename_i h0
              rfl
theorem upd2 (f : Nat → Int32) (j : Nat) (x y : Int32) : upd (upd f j x) j y = upd f j y := by
  funext q
  unfold upd
  split <;> rfl
theorem jm_lay_ne {bx : Nat → Int32} {b : Nat} {x0 y0 z0 x1 y1 z1 : Int32} {q : Nat} (h : q < 6 * b ∨ 6 * b + 6 ≤ q) : jm_lay bx b x0 y0 z0 x1 y1 z1 q = bx q := by
  unfold jm_lay
  rw [pk_un (by omega), pk_un (by omega), pk_un (by omega), pk_un (by omega), pk_un (by omega), pk_un (by omega)]
theorem pI_ne {P : Prop} (h : ¬ pI P = 0) : P := Classical.byContradiction fun q => h (pI_0.mpr q)
theorem cu_I {P : Nat → Prop} {i : Nat} (h : P i) : nI (cN P i) + 1 = nI (cN P (i + 1)) := by rw [cN, pN_t h, nI_1]
theorem cu_T {P : Nat → Prop} {i : Nat} (h : P i) : nI (cN P i + 1) = nI (cN P (i + 1)) := by rw [cN, pN_t h]
theorem cu_F {P : Nat → Prop} {i : Nat} (h : ¬ P i) : nI (cN P i) = nI (cN P (i + 1)) := by
  rw [cN, pN_f h]
  rfl
/-- the windows of the reference, as numbers -/
def jm_Wf (nw : Nat) (wi : Nat → Int32) (wf : Nat → Nat → Nat) : Prop := ∀ i, i < nw → (wi (4 * i) = nI (wf i 0) ∧ wi (4 * i + 1) = nI (wf i 1) ∧ wi (4 * i + 2) = nI (wf i 2) ∧ wi (4 * i + 3) = nI (wf i 3)) ∧ wf i 0 ≤ wf i 2 ∧ wf i 1 ≤ wf i 3 ∧ wf i 2 ≤ 60 ∧ wf i 3 ≤ 60
def jm_ledge (bx : Nat → Int32) (u0 v1 u1 : Nat) (d : Int32) : Nat → Int32 := jm_lay bx 10 (nI u0) (nI v1) 0 (nI u1) (nI (v1 + 1)) d
noncomputable def jm_led (bx tr su : Nat → Int32) (nb : Nat) (t u0 v0 u1 v1 : Nat) (d : Int32) : Int32 := nI (jm_dark (jm_ledge bx u0 v1 u1 d) (upd tr 10 1) su nb (-1) 1 t u0 v0 u1 v1)
/-- the k-th cell of the wall lies in shadow -/
def jm_at (bx tr su : Nat → Int32) (nb wn t : Nat) (k : Nat) : Prop := jm_D bx tr su nb (-1) 0 t (nI (k % wn)) (nI (k / wn))
def jm_at1 (bx tr su : Nat → Int32) (b wn t : Nat) (k : Nat) : Prop := ¬ tr b = 0 ∧ ¬ jm_b bx su b t (nI (k % wn)) (nI (k / wn)) = 0
def jm_cell (P : Nat → Prop) (wn n : Nat) (a r : Int32) : Prop := (∃ i : Nat, i < n ∧ P i ∧ nI (cN P i) = a ∧ r = 100 * nI (i / wn) + nI (i % wn)) ∨ ((∀ i : Nat, i < n → P i → ¬ nI (cN P i) = a) ∧ r = (-1))
def jm_deep (f : Nat → Int32) (z c r : Int32) : Prop := (¬ z < c ∧ r = 0) ∨ (z < c ∧ ((∃ d : Nat, 1 ≤ d ∧ d ≤ 100 ∧ (∀ i : Nat, 1 ≤ i → i < d → f i < c) ∧ ¬ f d < c ∧ r = nI d) ∨ ((∀ i : Nat, 1 ≤ i → i < 101 → f i < c) ∧ r = (-1))))
noncomputable def jm_more (bx tr su li : Nat → Int32) (nb u0 v0 u1 v1 b : Nat) : Int32 := if tr b = 0 then 0 else jm_day bx tr su li nb (nI b) u0 v0 u1 v1 - jm_day bx tr su li nb (-1) u0 v0 u1 v1
theorem nI_s1 (a : Nat) : nI (a + 1) - 1 = nI a := by
  rw [← nI_1]
  exact Int32.add_sub_cancel _ _
def jm_win (wi : Nat → Int32) (i : Nat) (u0 v0 u1 v1 : Int32) : Nat → Int32 := upd (upd (upd (upd wi (4 * i) u0) (4 * i + 1) v0) (4 * i + 2) u1) (4 * i + 3) v1
def jm_sun (su : Nat → Int32) (j : Nat) (d1 d2 d3 : Int32) : Nat → Int32 := upd (upd (upd su (3 * j) d1) (3 * j + 1) d2) (3 * j + 2) d3
theorem eq_nI {a b : Nat} (ha : a < 2 ^ 31) (hb : b < 2 ^ 31) (h : nI a = nI b) : a = b := by
  have h9 := congrArg Int32.toInt h
  rw [nI_toInt ha, nI_toInt hb] at h9
  omega
theorem nI_n0 {a : Nat} (ha : a < 2 ^ 31) (h : 0 < a) : ¬ nI a = 0 := fun q => absurd (eq_nI ha (b := 0) (by decide) q) (by omega)
theorem jm_led_eq {bx tr bx2 tr2 su : Nat → Int32} {nb t u0 v0 u1 v1 : Nat} {d : Int32} (h1 : ∀ z, jm_ledge bx2 u0 v1 u1 z = jm_ledge bx u0 v1 u1 z) (h2 : upd tr2 10 1 = upd tr 10 1) : jm_led bx2 tr2 su nb t u0 v0 u1 v1 d = jm_led bx tr su nb t u0 v0 u1 v1 d := by
  unfold jm_led
  rw [h1, h2]
theorem le2 {bx bx2 : Nat → Int32} {u0 v1 u1 : Nat} (h1 : ∀ z, jm_ledge bx2 u0 v1 u1 z = jm_ledge bx u0 v1 u1 z) (d z : Int32) : jm_ledge (jm_ledge bx2 u0 v1 u1 d) u0 v1 u1 z = jm_ledge bx u0 v1 u1 z := by
  rw [← h1]
  exact jm_lay2 _ _ _ _ _ _ _ _ _ _ _ _ _ _
