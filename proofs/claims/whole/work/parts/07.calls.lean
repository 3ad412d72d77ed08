/-! CONTRACTS OVER THE MAP: a call's start, its end, its throw; what the tables and the JVM's own cells must be goes along (gs_K, gs_X) -/
def gs_Q (D : va_G) (z0 : Nat) (post : Option Value → (Nat → Option va_E) → Prop) : Array Value → State → Outcome → State → Prop := fun _ st o t => ∃ (v : Option Value) (G1 : Nat → Option va_E), o = .returned v ∧ post v G1 ∧ gs_W D classes z0 G1 t.heap ∧ va_F (fun q : Nat => z0 ≤ q) st t
/-- a throw leaves the world as it was at the call's start: G -/
def gs_T (D : va_G) (z0 : Nat) (G : Nat → Option va_E) (px : String → Prop) : String → State → State → Prop := fun E st t => px E ∧ gs_W D classes z0 G t.heap ∧ va_F (fun q : Nat => z0 ≤ q) st t
/-- Throwable's two statics, outside of the world -/
def gs_X (z0 : Nat) (U : State) (H : Heap) : Prop := vx_Zq Bundle.tN "UNASSIGNED_STACK" Bundle.steD (fun q : Nat => z0 ≤ q) U H ∧ vx_Zq Bundle.tN "SUPPRESSED_SENTINEL" Bundle.listD (fun q : Nat => z0 ≤ q) U H
theorem gs_X.moved {z0 : Nat} {u U : State} {H : Heap} (hvm : u.vm.Alike U.vm) (h : gs_X z0 u H) : gs_X z0 U H := ⟨h.1.moved hvm, h.2.moved hvm⟩
theorem gs_X.kept {z0 : Nat} {U : State} {H H1 : Heap} (h : gs_X z0 U H) (hq : ∀ a : Nat, a < H.size → ¬ z0 ≤ a → H1[a]? = H[a]?) : gs_X z0 U H1 := ⟨h.1.kept hq, h.2.kept hq⟩
/-- the array types: int, long, boolean, boxes, windows, hours -/
abbrev kt (k : Nat → ClassId) : List (ClassId × FieldType) := [(k 0, .int), (k 1, .long), (k 2, .boolean), (k 3, .object R_Bx), (k 4, .object R_Wn), (k 5, .object R_Hr)]
abbrev e_IA : String := "java/lang/IllegalArgumentException"
abbrev e_IS : String := "java/lang/IllegalStateException"
def gs_texts : List (Nat × String) := [(64, "not a box within the bounds"), (71, "there are 10 boxes"), (181, "no such box"), (85, "a box moves by -300 .. 300"), (185, "no such hour"), (98, "the sun's direction is out of bounds"), (109, "light is 0 .. 1000"), (114, "not a window within the wall"), (116, "there are 10 windows"), (121, "no such cell"), (187, "the hour has no sun"), (183, "no such window"), (152, "a place is not below 0"), (162, "a ledge is 1 .. 100 deep"), (167, "cells are not below 0")]
def gs_K (D : va_G) (k : Nat → ClassId) (U : State) : Prop :=
  va_K D classes (kt k) U ∧ (va_Nw (.methodLinkNest R_Ss 57 y_Hr_init R_Ss) U ∧ va_Nw (.methodLinkNest R_Bx 80 y_Ss_cellsBetween R_Ss) U ∧ va_Nw (.methodLinkNest R_Wn 22 y_Ss_cellsBetween R_Ss) U) ∧ (va_AO R_Bx U ∧ va_AO R_Wn U ∧ va_AO R_Hr U) ∧ (va_Nw (.castable e_IA e_IA) U ∧ va_Nw (.castable e_IS e_IS) U ∧ va_Nc e_IS e_IA U) ∧ (va_Nw (.declares ⟨"java/lang/RuntimeException", "<init>", "(Ljava/lang/String;)V"⟩) U ∧ va_Nw (.declares ⟨"java/lang/Exception", "<init>", "(Ljava/lang/String;)V"⟩) U ∧ va_Nw (.declares ⟨"java/lang/Throwable", "<init>", "(Ljava/lang/String;)V"⟩) U) ∧ ∀ q ∈ gs_texts, ∃ a : Nat, vk_R R_Ss q.1 q.2 a U
theorem gs_K.warm {D : va_G} {k : Nat → ClassId} {s U : State} (hW : s.WarmedH U.vm) (h : gs_K D k s) : gs_K D k U := by
  obtain ⟨h1, ⟨h2, h3, h4⟩, ⟨h5, h6, h7⟩, ⟨h8, h9, h10⟩, ⟨h12, h13, h14⟩, h11⟩ := h
  exact ⟨h1.moved hW.alike, ⟨h2.warmM hW, h3.warmM hW, h4.warmM hW⟩, ⟨h5.moved hW.alike, h6.moved hW.alike, h7.moved hW.alike⟩, ⟨h8.warmC hW, h9.warmC hW, h10.moved hW.alike⟩, ⟨h12.warmD hW, h13.warmD hW, h14.warmD hW⟩, fun q hq => (h11 q hq).elim fun a ha => ⟨a, ha.warm hW⟩⟩
theorem gs_K.same {D : va_G} {k : Nat → ClassId} {u U : State} (hv : U.vm = u.vm) (h : gs_K D k u) : gs_K D k U := by
  obtain ⟨h1, ⟨h2, h3, h4⟩, ⟨h5, h6, h7⟩, ⟨h8, h9, h10⟩, ⟨h12, h13, h14⟩, h11⟩ := h
  have hA : u.vm.Alike U.vm := by rw [hv]; exact Vm.Alike.refl u.vm
  exact ⟨h1.moved hA, ⟨h2.same rfl hv.symm, h3.same rfl hv.symm, h4.same rfl hv.symm⟩, ⟨h5.moved hA, h6.moved hA, h7.moved hA⟩, ⟨h8.same rfl hv.symm, h9.same rfl hv.symm, h10.moved hA⟩, ⟨h12.same rfl hv.symm, h13.same rfl hv.symm, h14.same rfl hv.symm⟩, fun q hq => (h11 q hq).elim fun a ha => ⟨a, ha.same hv⟩⟩
def gs_P (D : va_G) (k : Nat → ClassId) (z0 : Nat) (G : Nat → Option va_E) (av : List Value) : Array Value → State → Prop := fun v U => v = av.toArray ∧ gs_W D classes z0 G U.heap ∧ gs_K D k U ∧ gs_X z0 U U.heap
section GC
variable {p : Program} {l : Launch} {e : Env} {R : Room} {s : State} {m : MethodId} {args : Array Value} {below : List Frame} {meth : Method} {c : Code} {H : Heap} {locs : List Loc} {cells slots : Nat} {Q : State → Prop}
variable {pc : Nat} {ls : Array Slot} {rest st0 : List Value} {D : va_G} {k : Nat → ClassId} {H0 : Heap} {z0 mc ms : Nat} {G : Nat → Option va_E} {a : Array Value} {px : String → Prop} {post : Option Value → (Nat → Option va_E) → Prop}
theorem gs_blind {av : List Value} : FrameBlind (gs_P D k z0 G av) := fun a U g mk q => by
  obtain ⟨q0, q1, q2, q3⟩ := q
  exact ⟨q0, q1, gs_K.same (u := U) (U := U.calling g mk a) rfl q2, gs_X.moved (u := U) (U := U.calling g mk a) (Vm.Alike.refl U.vm) q3⟩
theorem gs_preS (hG : gs_W D classes z0 G H) (hK : gs_K D k s) (hX : gs_X z0 s s.heap) (hS : gs_S z0 s.heap H locs) {As : List Value} : PreS s H (gs_P D k z0 G As) As := ⟨gs_blind, fun U hU hW => ⟨rfl, by rw [hU]; exact hG, gs_K.warm hW hK, by rw [hU]; exact gs_X.moved hW.alike (hX.kept hS.2.1)⟩⟩
theorem gs_recv (hG : gs_W D classes z0 G H) (hK : gs_K D k s) {b ci : Nat} {fs : List Value} {r : vw_C} (hb : G b = some (.inr (ci, fs))) (hc : classes[ci]? = some r) : ∃ cell : Cell, H[b]? = some cell ∧ cell.vm.isStatics = false ∧ s.vm.findClass r.1 = some cell.cls := va_recv hK.1 (hG.P hb) hc (q0 := 0) rfl
theorem gs_preV (hG : gs_W D classes z0 G H) (hK : gs_K D k s) (hX : gs_X z0 s s.heap) (hS : gs_S z0 s.heap H locs) {b ci : Nat} {fs : List Value} {r : vw_C} (hb : G b = some (.inr (ci, fs))) (hc : classes[ci]? = some r) {As : List Value} : PreV s H r.1 b (gs_P D k z0 G (.ref b :: As)) As := ⟨gs_blind, gs_recv hG hK hb hc, fun U hU hW => ⟨rfl, by rw [hU]; exact hG, gs_K.warm hW hK, by rw [hU]; exact gs_X.moved hW.alike (hX.kept hS.2.1)⟩⟩
/-- behind a call that returns -/
theorem gs_call (hr : va_Run p l e R s m args below meth c H locs cells slots mc ms (F0 m pc ls st0) rest (gs_Q D z0 post a) (fun q : Nat => z0 ≤ q)) (hS : gs_S z0 H0 H locs)
    (kk : ∀ (v : Option Value) (G1 : Nat → Option va_E) (H1 : Heap) (locs1 : List Loc), post v G1 → gs_W D classes z0 G1 H1 → gs_S z0 H0 H1 locs1 → W p l e R s m args below meth c H1 locs1 (cells + mc) (slots + ms) Q (F0 m (pc + 3) ls (v.toList ++ rest))) : W p l e R s m args below meth c H locs cells slots Q (F0 m pc ls st0) := by
  intro T hT X
  obtain ⟨v, st₀, t, T', L, h0, X', hL, e1, e2, ⟨v', G1, hv, hp, hw, hF⟩, st⟩ := hr T hT X
  cases hv
  obtain ⟨-, -, k3⟩ := vx_keep (A0 := fun q : Nat => z0 ≤ q) (A1 := fun q : Nat => z0 ≤ q) h0 e1 hS (fun _ _ h => h) (fun _ h => h) hL hF
  obtain ⟨t2, a1, b1⟩ := kk v G1 T'.heap (locs ++ L) hp (by rw [e1]; exact hw) k3 T' rfl X'
  exact ⟨t2, st t2 a1, b1⟩
/-- behind a call that returns or throws -/
theorem gs_callX (hr : vx_Run p l e R s m args below meth c H locs cells slots mc ms (F0 m pc ls st0) rest (gs_Q D z0 post a) (gs_T D z0 G px) (fun q : Nat => z0 ≤ q)) (hS : gs_S z0 H0 H locs)
    (kx : ∀ (E : String) (ce : Cell) (q9 : Addr) (H1 : Heap) (locs1 : List Loc), px E → gs_W D classes z0 G H1 → gs_S z0 H0 H1 locs1 → H1[q9]? = some ce → ce.vm = .none → s.vm.findClass E = some ce.cls → vx_W p l e R s m args below meth c H1 locs1 (cells + mc) (slots + ms) Q (F0 m pc ls rest) q9)
    (kk : ∀ (v : Option Value) (G1 : Nat → Option va_E) (H1 : Heap) (locs1 : List Loc), post v G1 → gs_W D classes z0 G1 H1 → gs_S z0 H0 H1 locs1 → W p l e R s m args below meth c H1 locs1 (cells + mc) (slots + ms) Q (F0 m (pc + 3) ls (v.toList ++ rest))) : W p l e R s m args below meth c H locs cells slots Q (F0 m pc ls st0) := by
  intro T hT X
  rcases hr T hT X with ⟨v, st₀, t, T', L, h0, X', hL, e1, e2, ⟨v', G1, hv, hp, hw, hF⟩, st⟩ | ⟨q, st₀, t, T', L, E, ce, h0, X', hL, e1, e2, ⟨hp, hw, hF⟩, hce, hcv, hcl, st⟩
  · cases hv
    obtain ⟨-, -, k3⟩ := vx_keep (A0 := fun q : Nat => z0 ≤ q) (A1 := fun q : Nat => z0 ≤ q) h0 e1 hS (fun _ _ h => h) (fun _ h => h) hL hF
    obtain ⟨t2, a1, b1⟩ := kk v G1 T'.heap (locs ++ L) hp (by rw [e1]; exact hw) k3 T' rfl X'
    exact ⟨t2, st t2 a1, b1⟩
  · obtain ⟨-, -, k3⟩ := vx_keep (A0 := fun q : Nat => z0 ≤ q) (A1 := fun q : Nat => z0 ≤ q) h0 e1 hS (fun _ _ h => h) (fun _ h => h) hL hF
    obtain ⟨t2, a1, b1⟩ := kx E ce q T'.heap (locs ++ L) hp (by rw [e1]; exact hw) k3 (by rw [e1]; exact hce) hcv hcl T' rfl X'
    exact ⟨t2, st.trans a1, b1⟩
/-- an end -/
theorem gs_end {v : Option Value} (hp : post v G) (hG : gs_W D classes z0 G H) (hS : gs_S z0 s.heap H locs) {as : Array Value} : ∀ t : State, t.heap = H → s.WarmedH t.vm → gs_Q D z0 post as s (.returned v) t := fun _ ht _ => ⟨v, G, rfl, hp, by rw [ht]; exact hG, hS.F ht⟩
end GC
/-- the words of every method: its own code, and all that can be handed on -/
abbrev wM (y : MethodName) (cc : ByteArray) (n : Nat) (ret : Option FieldType) : List Cond := Cond.code y cc n ret :: wW
theorem gi_W {big : List Cond} (h : ∀ w ∈ wW, w ∈ big) {ws : List Cond} (hs : ∀ w ∈ ws, w ∈ wW) : GoodIn big ws := fun w hw => ⟨h w (hs w hw), good_of_word (wW_g (hs w hw))⟩
theorem gi_M {y : MethodName} {cc : ByteArray} {n : Nat} {ret : Option FieldType} (hc : Cond.code y cc n ret ∈ wW) : ∀ w ∈ wM y cc n ret, w ∈ wW := fun w h => (List.mem_cons.mp h).elim (fun e => e ▸ hc) id
theorem gi_V {own C : String} {i : Nat} {y : MethodName} {ws : List Cond} (h1 : Cond.methodLink own i y ∈ wW) (h2 : Cond.instanceMethod y ∈ wW) (h3 : Cond.selects C y y ∈ wW) (h4 : Cond.initialized C ∈ wW) (hs : ∀ w ∈ ws, w ∈ wW) : ∀ w ∈ wsV own i C y ws, w ∈ wW := fun w h => (List.mem_append.mp h).elim (fun h => by
  simp only [List.mem_cons, List.not_mem_nil, or_false] at h
  rcases h with rfl | rfl | rfl | rfl <;> assumption) (hs w)
theorem gi_S {own : String} {i : Nat} {y : MethodName} {ws : List Cond} (h1 : Cond.methodLink own i y ∈ wW) (h2 : Cond.static y ∈ wW) (h4 : Cond.initialized own ∈ wW) (hs : ∀ w ∈ ws, w ∈ wW) : ∀ w ∈ wsS own i y ws, w ∈ wW := fun w h => (List.mem_append.mp h).elim (fun h => by
  simp only [List.mem_cons, List.not_mem_nil, or_false] at h
  rcases h with rfl | rfl | rfl <;> assumption) (hs w)
theorem gi_in {c0 : Cond} : ∀ w ∈ wW, w ∈ c0 :: wW := fun _ h => List.mem_cons_of_mem _ h
