/-! What lies in the heap for an object of ours: the map G, read -/
abbrev oBx (f : Nat → Int32) : va_E := .inr (0, [.int (f 0), .int (f 1), .int (f 2), .int (f 3), .int (f 4), .int (f 5), .int (f 6)])
abbrev oHr (f : Nat → Int32) : va_E := .inr (1, [.int (f 0), .int (f 1), .int (f 2), .int (f 3)])
abbrev oWn (f : Nat → Nat) : va_E := .inr (2, [.int (nI (f 0)), .int (nI (f 1)), .int (nI (f 2)), .int (nI (f 3))])
abbrev aRef (c : ClassId) (n : Nat) (f : Nat → Option Nat) : va_E := .inl (c, n, .inr (.inr (.inr (.inr f))))
abbrev aInt (c : ClassId) (n : Nat) (f : Nat → Int32) : va_E := .inl (c, n, .inl f)
abbrev aLong (c : ClassId) (n : Nat) (f : Nat → Int64) : va_E := .inl (c, n, .inr (.inl f))
abbrev oSs (wn hn : Nat) (aB aW aH aS aT : Nat) (nb nw : Nat) : va_E := .inr (3, [.int (nI wn), .int (nI hn), .ref aB, .ref aW, .ref aH, .ref aS, .ref aT, .int (nI nb), .int (nI nw)])
def upTo (n : Nat) (a : Nat → Nat) : Nat → Option Nat := fun i => if i < n then some (a i) else none
def sC (k : Nat → ClassId) (G : Nat → Option va_E) (o aB aW aH aS aT : Nat) (wn hn nb nw : Nat) (ba wa ha : Nat → Nat) (bf hf : Nat → Nat → Int32) (wf : Nat → Nat → Nat) (sh : Nat → Int64) (tk : Nat → Int32) : Prop :=
  (G o = some (oSs wn hn aB aW aH aS aT nb nw) ∧ G aB = some (aRef (k 3) 10 (upTo nb ba)) ∧ G aW = some (aRef (k 4) 10 (upTo nw wa)) ∧ G aH = some (aRef (k 5) 24 (upTo 24 ha)) ∧ G aS = some (aLong (k 1) 10 sh) ∧ G aT = some (aInt (k 0) 10 tk)) ∧
  (nb ≤ 10 ∧ nw ≤ 10 ∧ 1 ≤ wn ∧ wn ≤ 60 ∧ 1 ≤ hn ∧ hn ≤ 60) ∧ (∀ i, i < nb → G (ba i) = some (oBx (bf i))) ∧ (∀ i, i < nw → G (wa i) = some (oWn (wf i))) ∧ (∀ i, i < 24 → G (ha i) = some (oHr (hf i))) ∧
  (∀ i j, i < nb → j < nb → ba i = ba j → i = j) ∧ (∀ i j, i < 24 → j < 24 → ha i = ha j → i = j) ∧ ∀ i, i < nw → wf i 0 < wf i 2 ∧ wf i 2 ≤ wn ∧ wf i 1 < wf i 3 ∧ wf i 3 ≤ hn
theorem upTo_in {n i : Nat} {a : Nat → Nat} (h : i < n) : upTo n a i = some (a i) := by unfold upTo; rw [if_pos h]
theorem upTo_out {n i : Nat} {a : Nat → Nat} (h : ¬ i < n) : upTo n a i = none := by unfold upTo; rw [if_neg h]
theorem ix_of {x : Int32} {n : Nat} (hn : n < 2 ^ 31) (h0 : ¬ x < 0) (h : ¬ nI n ≤ x) : ∃ j : Nat, j < n ∧ x = nI j := by
  rcases pk_ix x hn with q | q | q
  · exact absurd q h0
  · exact absurd q h
  · exact q
section GN
variable {p : Program} {l : Launch} {e : Env} {R : Room} {s : State} {m : MethodId} {args : Array Value} {below : List Frame} {meth : Method} {c : Code} {H : Heap} {locs : List Loc} {cells slots : Nat} {Q : State → Prop}
variable {cc : ByteArray} {pc : Nat} {ls : Array Slot} {rest : List Value} {D : va_G} {cl : List vw_C} {a j n : Nat} {tys : List (ClassId × FieldType)} {H0 : Heap} {z0 : Nat} {G : Nat → Option va_E} {Ts : List Cond} {own : String}
theorem gn_iald (E : gs_E p s m args c cc Ts own) (hK : va_K D cl tys s) (hG : gs_W D cl z0 G H) {cA : ClassId} {f : Nat → Int32} (ha : G a = some (aInt cA n f)) (t0 : Nat) (ht : tys[t0]? = some (cA, .int)) (hj : j < n) (hn : n < 2 ^ 31) (hdg : decode cc pc = .ok (.iaload, 1))
    (kk : W p l e R s m args below meth c H locs cells slots Q (F0 m (pc + 1) ls (.int (f j) :: rest))) : W p l e R s m args below meth c H locs cells slots Q (F0 m pc ls (.int (nI j) :: .ref a :: rest)) :=
  gs_iald E hK hG ha t0 ht (vp_in_nI hj hn) hdg (by rw [nI_clamp (Nat.lt_trans hj hn)]; exact kk)
theorem gn_zald (E : gs_E p s m args c cc Ts own) (hK : va_K D cl tys s) (hG : gs_W D cl z0 G H) {cA : ClassId} {f : Nat → Int32} (ha : G a = some (aInt cA n f)) (t0 : Nat) (ht : tys[t0]? = some (cA, .boolean)) (hj : j < n) (hn : n < 2 ^ 31) (hdg : decode cc pc = .ok (.baload, 1))
    (kk : W p l e R s m args below meth c H locs cells slots Q (F0 m (pc + 1) ls (.int (f j) :: rest))) : W p l e R s m args below meth c H locs cells slots Q (F0 m pc ls (.int (nI j) :: .ref a :: rest)) :=
  gs_zald E hK hG ha t0 ht (vp_in_nI hj hn) hdg (by rw [nI_clamp (Nat.lt_trans hj hn)]; exact kk)
theorem gn_lald (E : gs_E p s m args c cc Ts own) (hK : va_K D cl tys s) (hG : gs_W D cl z0 G H) {cA : ClassId} {f : Nat → Int64} (ha : G a = some (aLong cA n f)) (t0 : Nat) (ht : tys[t0]? = some (cA, .long)) (hj : j < n) (hn : n < 2 ^ 31) (hdg : decode cc pc = .ok (.laload, 1))
    (kk : W p l e R s m args below meth c H locs cells slots Q (F0 m (pc + 1) ls (.long (f j) :: rest))) : W p l e R s m args below meth c H locs cells slots Q (F0 m pc ls (.int (nI j) :: .ref a :: rest)) :=
  gs_lald E hK hG ha t0 ht (vp_in_nI hj hn) hdg (by rw [nI_clamp (Nat.lt_trans hj hn)]; exact kk)
theorem gn_aldS (E : gs_E p s m args c cc Ts own) (hK : va_K D cl tys s) (hG : gs_W D cl z0 G H) {cA : ClassId} {C : String} {f : Nat → Option Nat} (ha : G a = some (aRef cA n f)) (t0 : Nat) (ht : tys[t0]? = some (cA, .object C)) (hj : j < n) (hn : n < 2 ^ 31) {b : Nat} (hf : f j = some b) (hdg : decode cc pc = .ok (.aaload, 1))
    (kk : W p l e R s m args below meth c H locs cells slots Q (F0 m (pc + 1) ls (.ref b :: rest))) : W p l e R s m args below meth c H locs cells slots Q (F0 m pc ls (.int (nI j) :: .ref a :: rest)) :=
  gs_aldq E hK hG ha t0 ht (vp_in_nI hj hn) hdg (by rw [nI_clamp (Nat.lt_trans hj hn), hf]; exact kk)
theorem gn_aldN (E : gs_E p s m args c cc Ts own) (hK : va_K D cl tys s) (hG : gs_W D cl z0 G H) {cA : ClassId} {C : String} {f : Nat → Option Nat} (ha : G a = some (aRef cA n f)) (t0 : Nat) (ht : tys[t0]? = some (cA, .object C)) (hj : j < n) (hn : n < 2 ^ 31) (hf : f j = none) (hdg : decode cc pc = .ok (.aaload, 1))
    (kk : W p l e R s m args below meth c H locs cells slots Q (F0 m (pc + 1) ls (.null :: rest))) : W p l e R s m args below meth c H locs cells slots Q (F0 m pc ls (.int (nI j) :: .ref a :: rest)) :=
  gs_aldq E hK hG ha t0 ht (vp_in_nI hj hn) hdg (by rw [nI_clamp (Nat.lt_trans hj hn), hf]; exact kk)
theorem gn_iast (E : gs_E p s m args c cc Ts own) (hK : va_K D cl tys s) (hG : gs_W D cl z0 G H) (hS : gs_S z0 H0 H locs) {cA : ClassId} {f : Nat → Int32} (ha : G a = some (aInt cA n f)) (t0 : Nat) (ht : tys[t0]? = some (cA, .int)) {x : Int32} (hj : j < n) (hn : n < 2 ^ 31) (hdg : decode cc pc = .ok (.iastore, 1))
    (kk : ∀ (H1 : Heap) (locs1 : List Loc), gs_W D cl z0 (gs_u G a (aInt cA n (upd f j x))) H1 → gs_S z0 H0 H1 locs1 → W p l e R s m args below meth c H1 locs1 cells slots Q (F0 m (pc + 1) ls rest)) : W p l e R s m args below meth c H locs cells slots Q (F0 m pc ls (.int x :: .int (nI j) :: .ref a :: rest)) :=
  gs_iast E hK hG hS ha t0 ht (vp_in_nI hj hn) hdg (by rw [nI_clamp (Nat.lt_trans hj hn)]; exact kk)
theorem gn_zast (E : gs_E p s m args c cc Ts own) (hK : va_K D cl tys s) (hG : gs_W D cl z0 G H) (hS : gs_S z0 H0 H locs) {cA : ClassId} {f : Nat → Int32} (ha : G a = some (aInt cA n f)) (t0 : Nat) (ht : tys[t0]? = some (cA, .boolean)) {x : Int32} (hx : vp_nar .boolean x = x) (hj : j < n) (hn : n < 2 ^ 31) (hdg : decode cc pc = .ok (.bastore, 1))
    (kk : ∀ (H1 : Heap) (locs1 : List Loc), gs_W D cl z0 (gs_u G a (aInt cA n (upd f j x))) H1 → gs_S z0 H0 H1 locs1 → W p l e R s m args below meth c H1 locs1 cells slots Q (F0 m (pc + 1) ls rest)) : W p l e R s m args below meth c H locs cells slots Q (F0 m pc ls (.int x :: .int (nI j) :: .ref a :: rest)) :=
  gs_zast E hK hG hS ha t0 ht (vp_in_nI hj hn) hdg (by rw [nI_clamp (Nat.lt_trans hj hn), hx]; exact kk)
theorem gn_last (E : gs_E p s m args c cc Ts own) (hK : va_K D cl tys s) (hG : gs_W D cl z0 G H) (hS : gs_S z0 H0 H locs) {cA : ClassId} {f : Nat → Int64} (ha : G a = some (aLong cA n f)) (t0 : Nat) (ht : tys[t0]? = some (cA, .long)) {x : Int64} (hj : j < n) (hn : n < 2 ^ 31) (hdg : decode cc pc = .ok (.lastore, 1))
    (kk : ∀ (H1 : Heap) (locs1 : List Loc), gs_W D cl z0 (gs_u G a (aLong cA n (vp_updL f j x))) H1 → gs_S z0 H0 H1 locs1 → W p l e R s m args below meth c H1 locs1 cells slots Q (F0 m (pc + 1) ls rest)) : W p l e R s m args below meth c H locs cells slots Q (F0 m pc ls (.long x :: .int (nI j) :: .ref a :: rest)) :=
  gs_last E hK hG hS ha t0 ht (vp_in_nI hj hn) hdg (by rw [nI_clamp (Nat.lt_trans hj hn)]; exact kk)
theorem gn_astq (E : gs_E p s m args c cc Ts own) (hK : va_K D cl tys s) (hG : gs_W D cl z0 G H) (hS : gs_S z0 H0 H locs) {cA : ClassId} {r : vw_C} {v ci : Nat} {vs : List Value} {f : Nat → Option Nat} (ha : G a = some (aRef cA n f)) (t0 : Nat) (ht : tys[t0]? = some (cA, .object r.1)) (hv : G v = some (.inr (ci, vs))) (hc : cl[ci]? = some r) (hj : j < n) (hn : n < 2 ^ 31) (hdg : decode cc pc = .ok (.aastore, 1))
    (kk : ∀ (H1 : Heap) (locs1 : List Loc), gs_W D cl z0 (gs_u G a (aRef cA n (va_up f j (some v)))) H1 → gs_S z0 H0 H1 locs1 → W p l e R s m args below meth c H1 locs1 cells slots Q (F0 m (pc + 1) ls rest)) : W p l e R s m args below meth c H locs cells slots Q (F0 m pc ls (.ref v :: .int (nI j) :: .ref a :: rest)) :=
  gs_astq E hK hG hS ha t0 ht hv hc (vp_in_nI hj hn) hdg (by rw [nI_clamp (Nat.lt_trans hj hn)]; exact kk)
end GN
