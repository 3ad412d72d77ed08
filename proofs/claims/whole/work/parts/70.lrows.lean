/-! rows for the law itself -/
section LR
variable {p : Program} {l : Launch} {e : Env} {R : Room} {s : State} {m : MethodId} {args : Array Value} {below : List Frame} {meth : Method} {c : Code} {H : Heap} {locs : List Loc} {cells slots : Nat} {Q : State → Prop}
variable {cc : ByteArray} {pc nL : Nat} {ls : Array Slot} {rest st0 As : List Value} {D : va_G} {k : Nat → ClassId} {z0 n index maxL : Nat} {G : Nat → Option va_E} {post : Option Value → (Nat → Option va_E) → Prop}
variable {own : String} {y : MethodName} {bytes : ByteArray} {ret : Option FieldType} {rm : Room} {hh : List (Nat × Nat × Nat × Nat)}
theorem cg_SW (hw : ∀ w ∈ wW, w.before args s = true) (hc : Cond.codeWith y bytes maxL ret hh ∈ wW) (h1 : Cond.methodLink own index y ∈ wW) (h4 : Cond.initialized y.cls ∈ wW) (h2 : Cond.static y ∈ wW) (hd : hdOf y n) (hR : rmOf R rm maxL) : vx_CSW R s args own index y bytes maxL ret hh (wMW y bytes maxL ret hh) rm rm.cells rm.slots n :=
  vx_cwSW n hw (gi_W (fun _ h => h) (fun w h => by
    unfold va_wsS at h
    rcases List.mem_append.mp h with h | h
    · simp only [List.mem_cons, List.not_mem_nil, or_false] at h
      rcases h with rfl | rfl | rfl <;> assumption
    · exact gi_MW hc w h)) rfl rfl rfl hd hR
/-- invokestatic of a method with a table of handlers -/
theorem gs_StW (hM : Met l y (wMW y bytes maxL ret hh) rm (gs_P D k z0 G As) (gs_Q D z0 post) rm.cells rm.slots (fun q : Nat => z0 ≤ q)) (E : gs_E p s m args c cc wW own) (hml : c.maxLocals = nL) (hls : ls.size = nL) (cw : vx_CSW R s args own index y bytes maxL ret hh (wMW y bytes maxL ret hh) rm rm.cells rm.slots n) (hG : gs_W D classes z0 G H) (hK : gs_K D k s) (hX : gs_X z0 s s.heap) (hS : gs_S z0 s.heap H locs) (hn : As.length = n) (hst : st0 = As.reverse ++ rest) (hW : (rest.map fun v => v.category).sum ≤ 8) (hdg : decode cc pc = .ok (.invokestatic index, 3)) (hf : cells + rm.cells ≤ R.cells ∧ slots + rm.slots ≤ R.slots)
    (kk : ∀ (v : Option Value) (G1 : Nat → Option va_E) (H1 : Heap) (locs1 : List Loc), post v G1 → gs_W D classes z0 G1 H1 → gs_S z0 s.heap H1 locs1 → W p l e R s m args below meth c H1 locs1 (cells + rm.cells) (slots + rm.slots) Q (F0 m (pc + 3) ls (v.toList ++ rest))) : W p l e R s m args below meth c H locs cells slots Q (F0 m pc ls st0) :=
  gs_call (vx_runSW (As := As) (rest := rest) ⟨E.1, E.2.1, hml, E.2.2.2, E.2.2.1⟩ hM cw (gs_preS hG hK hX hS) rfl hn hls hst (lv_room hW) hdg hf) hS kk
/-- invokestatic of a method that reads the script -/
def gs_PX (D : va_G) (k : Nat → ClassId) (z0 : Nat) (G : Nat → Option va_E) (b L : Nat) (xs : Nat → Int32) (av : List Value) : Array Value → State → Prop := fun v U => gs_P D k z0 G av v U ∧ va_X b L xs U U.heap ∧ b < U.heap.size
theorem gs_StX {b L : Nat} {xs : Nat → Int32} (hM : Met l y (wM y bytes maxL ret) rm (gs_PX D k z0 G b L xs As) (gs_Q D z0 post) rm.cells rm.slots (fun q : Nat => z0 ≤ q)) (E : gs_E p s m args c cc wW own) (hml : c.maxLocals = nL) (hls : ls.size = nL) (cw : CallB R s args own index y bytes maxL ret (wM y bytes maxL ret) rm rm.cells rm.slots n ∧ (Cond.static y).before args s = true) (hXs : va_X b L xs s s.heap) (hbl : b < s.heap.size) (hbz : b < z0) (hG : gs_W D classes z0 G H) (hK : gs_K D k s) (hX : gs_X z0 s s.heap) (hS : gs_S z0 s.heap H locs) (hn : As.length = n) (hst : st0 = As.reverse ++ rest) (hW : (rest.map fun v => v.category).sum ≤ 8) (hdg : decode cc pc = .ok (.invokestatic index, 3)) (hf : cells + rm.cells ≤ R.cells ∧ slots + rm.slots ≤ R.slots)
    (kk : ∀ (v : Option Value) (G1 : Nat → Option va_E) (H1 : Heap) (locs1 : List Loc), post v G1 → gs_W D classes z0 G1 H1 → gs_S z0 s.heap H1 locs1 → W p l e R s m args below meth c H1 locs1 (cells + rm.cells) (slots + rm.slots) Q (F0 m (pc + 3) ls (v.toList ++ rest))) : W p l e R s m args below meth c H locs cells slots Q (F0 m pc ls st0) :=
  gs_call (va_runS (As := As) (rest := rest) ⟨E.1, E.2.1, hml, E.2.2.2, E.2.2.1⟩ hM cw ⟨fun a U g mk q => ⟨gs_blind a U g mk q.1, va_X.moved (u := U) (U := U.calling g mk a) (Vm.Alike.refl U.vm) q.2.1, q.2.2⟩, fun U hU hW => ⟨(gs_preS hG hK hX hS).2 U hU hW, by rw [hU]; exact va_X.moved hW.alike (hXs.kept (hS.2.1 b hbl (Nat.not_le.mpr hbz))), by rw [hU]; exact Nat.lt_of_lt_of_le hbl hS.1⟩⟩ rfl hn hls hst (lv_room hW) hdg hf) hS kk
end LR
def jl_c (L : Nat) (xs : Nat → Int32) (n : Nat) : Int32 := if nI L ≤ nI n then 0 else xs n
theorem k34 {D : va_G} {k : Nat → ClassId} {s : State} (hK : gs_K D k s) : k 3 ≠ k 4 := fun q => by
  obtain ⟨kA, cA, a1, a2, -, -⟩ := (hK.1.2 3 _ rfl).2
  obtain ⟨kB, cB, b1, b2, -, -⟩ := (hK.1.2 4 _ rfl).2
  rw [q] at a1
  have e := Option.some.inj (a1.symm.trans b1)
  rw [e, b2] at a2
  injection a2 with _ a3
  injection a3 with a4
  exact absurd a4 (by decide)
