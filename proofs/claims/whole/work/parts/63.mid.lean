/-! between the two calls of a step: rows for all of them -/
theorem noB_iff {b : Int32} {n : Nat} (hn : n < 2 ^ 31) : jm_noB b n = 0 ↔ ∃ j : Nat, j < n ∧ b = nI j := ⟨noB_1 hn, fun h => Classical.byContradiction fun q => noB_0 hn q h⟩
theorem noH_iff {t : Int32} : jm_noH t = 0 ↔ ∃ j : Nat, j < 24 ∧ t = nI j := ⟨noH_1, fun h => Classical.byContradiction fun q => noH_0 q h⟩
theorem Ck_is0 {P : Prop} {t : Int32} {su : Nat → Int32} {c : Int32} {j i : Nat} (hc : jm_Ck P t su c j) (hP : P) (hi : i < 24) (e : t = nI i) (h : ¬ su (3 * i + 2) = 0) : c = 0 ∧ j = i := by
  rcases hc with ⟨-, q | q⟩ | ⟨-, -, h1, h2, h3⟩ | ⟨h0, -, h1, h2, h3⟩
  · exact absurd hP q
  · exact absurd ⟨i, hi, e⟩ q
  · have : j = i := eq_nI (by omega) (by omega) (h2.symm.trans e)
    subst this
    exact absurd h3 h
  · exact ⟨h0, eq_nI (by omega) (by omega) (h2.symm.trans e)⟩
theorem Ck_is1 {P : Prop} {t : Int32} {su : Nat → Int32} {c : Int32} {j : Nat} (hc : jm_Ck P t su c j) (h : ¬ P ∨ ¬ ∃ i : Nat, i < 24 ∧ t = nI i) : c = 1 := by
  rcases hc with ⟨q, -⟩ | ⟨-, h0, h1, h2, -⟩ | ⟨-, h0, h1, h2, -⟩
  · exact q
  · exact (h.elim (fun z => z h0) (fun z => z ⟨j, h1, h2⟩)).elim
  · exact (h.elim (fun z => z h0) (fun z => z ⟨j, h1, h2⟩)).elim
theorem Ck_is2 {P : Prop} {t : Int32} {su : Nat → Int32} {c : Int32} {j i : Nat} (hc : jm_Ck P t su c j) (hP : P) (hi : i < 24) (e : t = nI i) (h : su (3 * i + 2) = 0) : c = 2 := by
  rcases hc with ⟨-, q | q⟩ | ⟨q, -⟩ | ⟨-, -, h1, h2, h3⟩
  · exact absurd hP q
  · exact absurd ⟨i, hi, e⟩ q
  · exact q
  · have : j = i := eq_nI (by omega) (by omega) (h2.symm.trans e)
    subst this
    exact absurd h h3
theorem hR_S {hf : Nat → Nat → Int32} {su li : Nat → Int32} (hh : hR hf su li) {i : Nat} (hi : i < 24) : vS (su (3 * i)) (su (3 * i + 1)) (su (3 * i + 2)) := by
  obtain ⟨⟨q0, q1, q2, -⟩, hS, -⟩ := hh i hi
  rw [q0, q1, q2] at hS
  exact hS
theorem hR_no {hf : Nat → Nat → Int32} {su li : Nat → Int32} (hh : hR hf su li) {i : Nat} (hi : i < 24) : jc_hasSun (hf i 2) = 0 ↔ su (3 * i + 2) = 0 := by
  rw [(hh i hi).1.2.2.1]
  exact hs_0 (hR_S hh hi).2.2.1
theorem hR_Z {hf : Nat → Nat → Int32} {su li : Nat → Int32} (hh : hR hf su li) {i : Nat} (hi : i < 24) (h : ¬ jc_hasSun (hf i 2) = 0) : 0 < (su (3 * i + 2)).toInt := by
  rw [(hh i hi).1.2.2.1] at h
  exact hs_pos h
theorem int_v {a b : Int32} (h : some (Value.int a) = some (Value.int b)) : a = b := by
  cases h
  rfl
section IT
variable {k : Nat → ClassId} {G : Nat → Option va_E} {o aB aW aH aS aT wn hn nb nw : Nat} {ba wa ha : Nat → Nat} {bf hf : Nat → Nat → Int32} {wf : Nat → Nat → Nat} {sh : Nat → Int64} {tk : Nat → Int32} {mo cB cT cS cL cW : Nat} {th : Int32} {bx tr su li wi : Nat → Int32} {l1 l2 l3 l4 : Int64} {out : Nat} {ou : Nat → Int64}
theorem sM_out (hM : sM k G mo cB cT cS cL cW th wn hn nb nw bx tr su li wi l1 l2 l3 l4) (ho : G out = some (aLong (k 1) 1 ou)) (ou1 : Nat → Int64) : sM k (gs_u G out (aLong (k 1) 1 ou1)) mo cB cT cS cL cW th wn hn nb nw bx tr su li wi l1 l2 l3 l4 := sM_k hM ho rfl (by simp [ofM, kd])
theorem sC_out (hC : sC k G o aB aW aH aS aT wn hn nb nw ba wa ha bf hf wf sh tk) (ho : G out = some (aLong (k 1) 1 ou)) (ou1 : Nat → Int64) : sC k (gs_u G out (aLong (k 1) 1 ou1)) o aB aW aH aS aT wn hn nb nw ba wa ha bf hf wf sh tk := sC_k hC ho rfl (by simp [ofC, kd])
theorem IT_mo (hC : sC k G o aB aW aH aS aT wn hn nb nw ba wa ha bf hf wf sh tk) (hM : sM k G mo cB cT cS cL cW th wn hn nb nw bx tr su li wi l1 l2 l3 l4) (hv : vR nb bf bx tr) (hh : hR hf su li) (hwf : jm_Wf nw wi wf) (ho : G out = some (aLong (k 1) 1 ou)) (c9 : Int32) (m1 m2 m3 m4 : Int64) :
    InvT k (gs_u G mo (oMd c9 wn hn nb nw cB cT cS cL cW m1 m2 m3 m4)) o mo out c9 ou :=
  ⟨aB, aW, aH, aS, aT, wn, hn, nb, nw, ba, wa, ha, bf, hf, wf, sh, tk, cB, cT, cS, cL, cW, bx, tr, su, li, wi, m1, m2, m3, m4, sC_k hC hM.1 rfl (by simp [ofC, kd]), sM_o hM c9 nb nw m1 m2 m3 m4, hv, hh, hwf, kd_keep ho hM.1 (by simp [kd])⟩
theorem vR_eq {bx2 tr2 : Nat → Int32} (hv : vR nb bf bx tr) (hnb : nb ≤ 10) (h60 : ∀ i, i < 60 → bx2 i = bx i) (h10 : ∀ i, i < 10 → tr2 i = tr i) : vR nb bf bx2 tr2 := fun i hi => by
  obtain ⟨⟨e0, e1, e2, e3, e4, e5, e6⟩, hB, h01⟩ := hv i hi
  rw [← h60 _ (by omega)] at e0
  rw [← h60 _ (by omega)] at e1
  rw [← h60 _ (by omega)] at e2
  rw [← h60 _ (by omega)] at e3
  rw [← h60 _ (by omega)] at e4
  rw [← h60 _ (by omega)] at e5
  rw [← h10 _ (by omega)] at e6 h01
  exact ⟨⟨e0, e1, e2, e3, e4, e5, e6⟩, hB, h01⟩
theorem keep_gM {b : Nat} {e : va_E} {bx2 tr2 : Nat → Int32} {f : va_E} (hM : sM k G mo cB cT cS cL cW th wn hn nb nw bx tr su li wi l1 l2 l3 l4) (hb : G b = some e) (hk : ¬ ofM (kd e)) : gM k G mo cB cT bx2 tr2 f b = some e := by
  have n1 : ¬ kd e = 166 := fun q => hk (by rw [q]; simp [ofM])
  have n2 : ¬ kd e = 111 := fun q => hk (by rw [q]; simp [ofM])
  have n3 : ¬ kd e = 4 := fun q => hk (by rw [q]; simp [ofM])
  unfold gM
  have a1 : gs_u G cB (aInt (k 0) 66 bx2) b = some e := kd_keep hb hM.2.1 n1
  have a2 : gs_u G cB (aInt (k 0) 66 bx2) cT = some (aInt (k 2) 11 tr) := kd_keep hM.2.2.1 hM.2.1 (by simp [kd])
  have a3 : gs_u G cB (aInt (k 0) 66 bx2) mo = some (oMd th wn hn nb nw cB cT cS cL cW l1 l2 l3 l4) := kd_keep hM.1 hM.2.1 (by simp [kd])
  have b1 : gs_u (gs_u G cB (aInt (k 0) 66 bx2)) cT (aInt (k 2) 11 tr2) b = some e := kd_keep a1 a2 n2
  have b3 : gs_u (gs_u G cB (aInt (k 0) 66 bx2)) cT (aInt (k 2) 11 tr2) mo = some (oMd th wn hn nb nw cB cT cS cL cW l1 l2 l3 l4) := kd_keep a3 a2 (by simp [kd])
  exact kd_keep b1 b3 n3
theorem ofC_M {n : Nat} (h : ofC n) : ¬ ofM n := by
  unfold ofC at h
  unfold ofM
  omega
theorem IT_gM {bx2 tr2 : Nat → Int32} {nb2 : Nat} {ba2 : Nat → Nat} {bf2 : Nat → Nat → Int32} (hC : sC k G o aB aW aH aS aT wn hn nb2 nw ba2 wa ha bf2 hf wf sh tk) (hM : sM k G mo cB cT cS cL cW th wn hn nb nw bx tr su li wi l1 l2 l3 l4) (hv : vR nb2 bf2 bx2 tr2) (hh : hR hf su li) (hwf : jm_Wf nw wi wf) (ho : G out = some (aLong (k 1) 1 ou)) (c9 : Int32) (m1 m2 m3 m4 : Int64) :
    InvT k (gM k G mo cB cT bx2 tr2 (oMd c9 wn hn nb2 nw cB cT cS cL cW m1 m2 m3 m4)) o mo out c9 ou :=
  ⟨aB, aW, aH, aS, aT, wn, hn, nb2, nw, ba2, wa, ha, bf2, hf, wf, sh, tk, cB, cT, cS, cL, cW, bx2, tr2, su, li, wi, m1, m2, m3, m4, hC.keep (fun b e hb he => keep_gM hM hb (ofC_M he)), sM_g hM c9 nb2 nw bx2 tr2 m1 m2 m3 m4, hv, hh, hwf, keep_gM hM ho (by simp [kd, ofM])⟩
end IT
theorem wi_nI {x : Int32} {n : Nat} (hn : n ≤ 60) (h : ¬ jc_within x 0 (nI n - 1) = 0) : ∃ j : Nat, j < n ∧ x = nI j := by
  have h1 : (0 : Int32).toInt ≤ x.toInt ∧ x.toInt ≤ (nI n - 1).toInt := Classical.byContradiction fun q => h (wi_in.mpr q)
  have e0 : (0 : Int32).toInt = 0 := rfl
  have e1 : (nI n - 1).toInt = (n : Int) - 1 := (bd_sub (bd_nI hn (by decide)) bd_1 (by decide)).1
  rw [e0, e1] at h1
  refine ⟨x.toInt.toNat, by omega, i_eq.mpr ?_⟩
  rw [nI_toInt (by omega)]
  omega
