/-! CALLS, a row each -/
section GV
variable {p : Program} {l : Launch} {e : Env} {R : Room} {s : State} {m : MethodId} {args : Array Value} {below : List Frame} {meth : Method} {c : Code} {H : Heap} {locs : List Loc} {cells slots : Nat} {Q : State → Prop}
variable {cc : ByteArray} {pc nL : Nat} {ls : Array Slot} {rest st0 As : List Value} {D : va_G} {k : Nat → ClassId} {z0 mc ms n index maxL : Nat} {G : Nat → Option va_E} {px : String → Prop} {post : Option Value → (Nat → Option va_E) → Prop}
variable {own host C : String} {a : Nat} {y : MethodName} {bytes : ByteArray} {ret : Option FieldType} {rm : Room}
abbrev hdOf (y : MethodName) (n : Nat) : Prop := y.cls ≠ "java/lang/invoke/MethodHandle" ∧ y.cls ≠ "java/lang/invoke/VarHandle" ∧ (parseMethodDescriptor y.desc).map (fun d => d.parameters.length) = some n
abbrev rmOf (R rm : Room) (maxL : Nat) : Prop := rm.frames + 1 ≤ R.frames ∧ 8 + (maxL + 11) + rm.locals ≤ R.locals
theorem cg_B (hw : ∀ w ∈ wW, w.before args s = true) (hc : Cond.code y bytes maxL ret ∈ wW) (h1 : Cond.methodLink own index y ∈ wW) (h4 : Cond.initialized y.cls ∈ wW) (hd : hdOf y n) (hR : rmOf R rm maxL) : CallB R s args own index y bytes maxL ret (wM y bytes maxL ret) rm rm.cells rm.slots n :=
  callB_of n hw (gi_W (fun _ h => h) (gi_M hc)) rfl rfl rfl (hw _ h4) (hw _ h1) hd hR
theorem cg_V (hw : ∀ w ∈ wW, w.before args s = true) (hc : Cond.code y bytes maxL ret ∈ wW) (h1 : Cond.methodLink own index y ∈ wW) (h4 : Cond.initialized y.cls ∈ wW) (h2 : Cond.instanceMethod y ∈ wW) (h3 : Cond.selects C y y ∈ wW) (hd : hdOf y n) (hR : rmOf R rm maxL) : CallW R s args own C index y bytes maxL ret (wM y bytes maxL ret) rm rm.cells rm.slots n :=
  ⟨cg_B hw hc h1 h4 hd hR, hw _ h2, hw _ h3⟩
theorem cg_S (hw : ∀ w ∈ wW, w.before args s = true) (hc : Cond.code y bytes maxL ret ∈ wW) (h1 : Cond.methodLink own index y ∈ wW) (h4 : Cond.initialized y.cls ∈ wW) (h2 : Cond.static y ∈ wW) (hd : hdOf y n) (hR : rmOf R rm maxL) : CallB R s args own index y bytes maxL ret (wM y bytes maxL ret) rm rm.cells rm.slots n ∧ (Cond.static y).before args s = true :=
  ⟨cg_B hw hc h1 h4 hd hR, hw _ h2⟩
theorem cg_I (hw : ∀ w ∈ wW, w.before args s = true) (hc : Cond.code y bytes maxL none ∈ wW) (h1 : Cond.methodLink own index y ∈ wW) (h4 : Cond.initialized y.cls ∈ wW) (h2 : Cond.instanceMethod y ∈ wW) (hy : y.name = "<init>") (hd : hdOf y n) (hR : rmOf R rm maxL) : CallB R s args own index y bytes maxL none (wM y bytes maxL none) rm rm.cells rm.slots n ∧ y.name = "<init>" ∧ (Cond.instanceMethod y).before args s = true :=
  ⟨cg_B hw hc h1 h4 hd hR, hy, hw _ h2⟩
theorem cg_N (hw : ∀ w ∈ wW, w.before args s = true) (hc : Cond.code y bytes maxL ret ∈ wW) (h1 : va_Nw (.methodLinkNest own index y host) s) (h4 : Cond.initialized y.cls ∈ wW) (hd : hdOf y n) (hR : rmOf R rm maxL) : va_CN R s args own index y host bytes maxL ret (wM y bytes maxL ret) rm rm.cells rm.slots n :=
  va_cnB n hw (gi_W (fun _ h => h) (gi_M hc)) rfl rfl rfl h1 (hw _ h4) hd hR
/-- invokevirtual -/
theorem gs_V (hM : Met l y (wM y bytes maxL ret) rm (gs_P D k z0 G (.ref a :: As)) (gs_Q D z0 post) rm.cells rm.slots (fun q : Nat => z0 ≤ q)) (E : gs_E p s m args c cc wW own) (hml : c.maxLocals = nL) (hls : ls.size = nL) (cw : CallW R s args own C index y bytes maxL ret (wM y bytes maxL ret) rm rm.cells rm.slots n) (hG : gs_W D classes z0 G H) (hK : gs_K D k s) (hX : gs_X z0 s s.heap) (hS : gs_S z0 s.heap H locs) {ci : Nat} {fs : List Value} {r : vw_C} (hb : G a = some (.inr (ci, fs))) (hc : classes[ci]? = some r) (hC : r.1 = C) (hn : As.length = n) (hst : st0 = As.reverse ++ .ref a :: rest) (hW : (rest.map fun v => v.category).sum ≤ 8) (hdg : decode cc pc = .ok (.invokevirtual index, 3)) (hf : cells + rm.cells ≤ R.cells ∧ slots + rm.slots ≤ R.slots)
    (kk : ∀ (v : Option Value) (G1 : Nat → Option va_E) (H1 : Heap) (locs1 : List Loc), post v G1 → gs_W D classes z0 G1 H1 → gs_S z0 s.heap H1 locs1 → W p l e R s m args below meth c H1 locs1 (cells + rm.cells) (slots + rm.slots) Q (F0 m (pc + 3) ls (v.toList ++ rest))) : W p l e R s m args below meth c H locs cells slots Q (F0 m pc ls st0) := by
  subst hC
  exact gs_call (va_runV (As := As) (rest := rest) ⟨E.1, E.2.1, hml, E.2.2.2, E.2.2.1⟩ hM cw (gs_preV hG hK hX hS hb hc) rfl hn hls hst (lv_room hW) hdg hf) hS kk
/-- invokestatic -/
theorem gs_St (hM : Met l y (wM y bytes maxL ret) rm (gs_P D k z0 G As) (gs_Q D z0 post) rm.cells rm.slots (fun q : Nat => z0 ≤ q)) (E : gs_E p s m args c cc wW own) (hml : c.maxLocals = nL) (hls : ls.size = nL) (cw : CallB R s args own index y bytes maxL ret (wM y bytes maxL ret) rm rm.cells rm.slots n ∧ (Cond.static y).before args s = true) (hG : gs_W D classes z0 G H) (hK : gs_K D k s) (hX : gs_X z0 s s.heap) (hS : gs_S z0 s.heap H locs) (hn : As.length = n) (hst : st0 = As.reverse ++ rest) (hW : (rest.map fun v => v.category).sum ≤ 8) (hdg : decode cc pc = .ok (.invokestatic index, 3)) (hf : cells + rm.cells ≤ R.cells ∧ slots + rm.slots ≤ R.slots)
    (kk : ∀ (v : Option Value) (G1 : Nat → Option va_E) (H1 : Heap) (locs1 : List Loc), post v G1 → gs_W D classes z0 G1 H1 → gs_S z0 s.heap H1 locs1 → W p l e R s m args below meth c H1 locs1 (cells + rm.cells) (slots + rm.slots) Q (F0 m (pc + 3) ls (v.toList ++ rest))) : W p l e R s m args below meth c H locs cells slots Q (F0 m pc ls st0) :=
  gs_call (va_runS (As := As) (rest := rest) ⟨E.1, E.2.1, hml, E.2.2.2, E.2.2.1⟩ hM cw (gs_preS hG hK hX hS) rfl hn hls hst (lv_room hW) hdg hf) hS kk
/-- invokestatic of a nest mate -/
theorem gs_SN (hM : Met l y (wM y bytes maxL ret) rm (gs_P D k z0 G As) (gs_Q D z0 post) rm.cells rm.slots (fun q : Nat => z0 ≤ q)) (E : gs_E p s m args c cc wW own) (hml : c.maxLocals = nL) (hls : ls.size = nL) (cw : va_CN R s args own index y host bytes maxL ret (wM y bytes maxL ret) rm rm.cells rm.slots n) (hs : Cond.static y ∈ wW) (hG : gs_W D classes z0 G H) (hK : gs_K D k s) (hX : gs_X z0 s s.heap) (hS : gs_S z0 s.heap H locs) (hn : As.length = n) (hst : st0 = As.reverse ++ rest) (hW : (rest.map fun v => v.category).sum ≤ 8) (hdg : decode cc pc = .ok (.invokestatic index, 3)) (hf : cells + rm.cells ≤ R.cells ∧ slots + rm.slots ≤ R.slots)
    (kk : ∀ (v : Option Value) (G1 : Nat → Option va_E) (H1 : Heap) (locs1 : List Loc), post v G1 → gs_W D classes z0 G1 H1 → gs_S z0 s.heap H1 locs1 → W p l e R s m args below meth c H1 locs1 (cells + rm.cells) (slots + rm.slots) Q (F0 m (pc + 3) ls (v.toList ++ rest))) : W p l e R s m args below meth c H locs cells slots Q (F0 m pc ls st0) :=
  gs_call (va_runSN (As := As) (rest := rest) ⟨E.1, E.2.1, hml, E.2.2.2, E.2.2.1⟩ hM ⟨cw, E.2.2.1 _ hs, trivial⟩ (gs_preS hG hK hX hS) rfl hn hls hst (lv_room hW) hdg hf) hS kk
/-- invokespecial of a constructor -/
theorem gs_I (hM : Met l y (wM y bytes maxL none) rm (gs_P D k z0 G (.ref a :: As)) (gs_Q D z0 post) rm.cells rm.slots (fun q : Nat => z0 ≤ q)) (E : gs_E p s m args c cc wW own) (hml : c.maxLocals = nL) (hls : ls.size = nL) (cw : CallB R s args own index y bytes maxL none (wM y bytes maxL none) rm rm.cells rm.slots n ∧ y.name = "<init>" ∧ (Cond.instanceMethod y).before args s = true) (hG : gs_W D classes z0 G H) (hK : gs_K D k s) (hX : gs_X z0 s s.heap) (hS : gs_S z0 s.heap H locs) (hn : As.length = n) (hst : st0 = As.reverse ++ .ref a :: rest) (hW : (rest.map fun v => v.category).sum ≤ 8) (hdg : decode cc pc = .ok (.invokespecial index, 3)) (hf : cells + rm.cells ≤ R.cells ∧ slots + rm.slots ≤ R.slots)
    (kk : ∀ (v : Option Value) (G1 : Nat → Option va_E) (H1 : Heap) (locs1 : List Loc), post v G1 → gs_W D classes z0 G1 H1 → gs_S z0 s.heap H1 locs1 → W p l e R s m args below meth c H1 locs1 (cells + rm.cells) (slots + rm.slots) Q (F0 m (pc + 3) ls (v.toList ++ rest))) : W p l e R s m args below meth c H locs cells slots Q (F0 m pc ls st0) :=
  gs_call (va_runI (As := As) (rest := rest) ⟨E.1, E.2.1, hml, E.2.2.2, E.2.2.1⟩ hM cw (gs_preS hG hK hX hS) rfl hn hls hst (lv_room hW) hdg hf) hS kk
/-- the same of a nest mate -/
theorem gs_IN (hM : Met l y (wM y bytes maxL none) rm (gs_P D k z0 G (.ref a :: As)) (gs_Q D z0 post) rm.cells rm.slots (fun q : Nat => z0 ≤ q)) (E : gs_E p s m args c cc wW own) (hml : c.maxLocals = nL) (hls : ls.size = nL) (cw : va_CN R s args own index y host bytes maxL none (wM y bytes maxL none) rm rm.cells rm.slots n) (hy : y.name = "<init>") (hi : Cond.instanceMethod y ∈ wW) (hG : gs_W D classes z0 G H) (hK : gs_K D k s) (hX : gs_X z0 s s.heap) (hS : gs_S z0 s.heap H locs) (hn : As.length = n) (hst : st0 = As.reverse ++ .ref a :: rest) (hW : (rest.map fun v => v.category).sum ≤ 8) (hdg : decode cc pc = .ok (.invokespecial index, 3)) (hf : cells + rm.cells ≤ R.cells ∧ slots + rm.slots ≤ R.slots)
    (kk : ∀ (v : Option Value) (G1 : Nat → Option va_E) (H1 : Heap) (locs1 : List Loc), post v G1 → gs_W D classes z0 G1 H1 → gs_S z0 s.heap H1 locs1 → W p l e R s m args below meth c H1 locs1 (cells + rm.cells) (slots + rm.slots) Q (F0 m (pc + 3) ls (v.toList ++ rest))) : W p l e R s m args below meth c H locs cells slots Q (F0 m pc ls st0) :=
  gs_call (va_runIN (As := As) (rest := rest) ⟨E.1, E.2.1, hml, E.2.2.2, E.2.2.1⟩ hM ⟨cw, hy, E.2.2.1 _ hi⟩ (gs_preS hG hK hX hS) rfl hn hls hst (lv_room hW) hdg hf) hS kk
/-- invokevirtual of a method that may throw -/
theorem gs_VX (hM : vx_Met l y (wM y bytes maxL ret) rm (gs_P D k z0 G (.ref a :: As)) (gs_Q D z0 post) (gs_T D z0 G px) rm.cells rm.slots (fun q : Nat => z0 ≤ q)) (E : gs_E p s m args c cc wW own) (hml : c.maxLocals = nL) (hls : ls.size = nL) (cw : CallW R s args own C index y bytes maxL ret (wM y bytes maxL ret) rm rm.cells rm.slots n) (hG : gs_W D classes z0 G H) (hK : gs_K D k s) (hX : gs_X z0 s s.heap) (hS : gs_S z0 s.heap H locs) {ci : Nat} {fs : List Value} {r : vw_C} (hb : G a = some (.inr (ci, fs))) (hc : classes[ci]? = some r) (hC : r.1 = C) (hn : As.length = n) (hst : st0 = As.reverse ++ .ref a :: rest) (hW : (rest.map fun v => v.category).sum ≤ 8) (hdg : decode cc pc = .ok (.invokevirtual index, 3)) (hf : cells + rm.cells ≤ R.cells ∧ slots + rm.slots ≤ R.slots)
    (kx : ∀ (E : String) (ce : Cell) (q9 : Addr) (H1 : Heap) (locs1 : List Loc), px E → gs_W D classes z0 G H1 → gs_S z0 s.heap H1 locs1 → H1[q9]? = some ce → ce.vm = .none → s.vm.findClass E = some ce.cls → vx_W p l e R s m args below meth c H1 locs1 (cells + rm.cells) (slots + rm.slots) Q (F0 m pc ls rest) q9)
    (kk : ∀ (v : Option Value) (G1 : Nat → Option va_E) (H1 : Heap) (locs1 : List Loc), post v G1 → gs_W D classes z0 G1 H1 → gs_S z0 s.heap H1 locs1 → W p l e R s m args below meth c H1 locs1 (cells + rm.cells) (slots + rm.slots) Q (F0 m (pc + 3) ls (v.toList ++ rest))) : W p l e R s m args below meth c H locs cells slots Q (F0 m pc ls st0) := by
  subst hC
  exact gs_callX (vx_runV (As := As) (rest := rest) ⟨E.1, E.2.1, hml, E.2.2.2, E.2.2.1⟩ hM cw (gs_preV hG hK hX hS hb hc) rfl hn hls hst (lv_room hW) hdg hf) hS kx kk
end GV
/-- a body of a method of the JVM's own library that nothing replaces -/
theorem gs_ofWF {l : Launch} {y : MethodName} {ws ws' : List Cond} {rm : Room} {Pc : Array Value → State → Prop} {Qc : Array Value → State → Outcome → State → Prop} {mc ms : Nat} {free : Addr → Prop} {cc : ByteArray} {maxL : Nat} {ret : Option FieldType}
    (hy : plainFor y = true) (hw : ws = Cond.code y cc maxL ret :: ws')
    (body : ∀ p e s m args below meth c s₁, BodyLoose p l y (headSpec ws rm) cc maxL ret e s m args below meth c s₁ → c.maxLocals = maxL → Pc args s →
      W p l e (headSpec ws rm).room s m args below meth c s.heap [] 0 0 (MQ below Qc args s mc ms free) (entryFrame m args maxL)) : Met l y ws rm Pc Qc mc ms free := by
  refine MetFree.of_bodySF (code := cc) (maxLocals := maxL) (ret := ret) hy ?_ ?_
  · intro args s m h hn
    obtain ⟨meth, c, h1, h2, h3, h4, h5, h6, -, -⟩ := Cond.code_spec hn (atoms_spec (ws := ws) h _ (by rw [hw]; exact List.mem_cons_self))
    exact ⟨meth, c, h1, h2, h3, h4, h5, h6⟩
  · intro p e s m args below meth c s₁ B hml hP _
    have hh0 : s₁.heap = s.heap := by rw [B.state]; rfl
    obtain ⟨t, a1, o, b1, b2, b3⟩ := body p e s m args below meth c s₁ B hml hP s₁ hh0 (Stand.of_body B)
    exact ⟨t, o, a1, b1, b2, ⟨b3.1, b3.2⟩⟩

abbrev e_nm : List String := ["java/lang/RuntimeException", "java/lang/Exception"]
theorem at_IA : ∀ w ∈ (vx_atS R_Ss 66 e_IA e_nm).filter goodWord, w ∈ wW := by decide +kernel
theorem at_IS : ∀ w ∈ (vx_atS R_Ss 73 e_IS e_nm).filter goodWord, w ∈ wW := by decide +kernel
theorem at_go_IA : ∀ w ∈ Cond.classLink R_Ss 62 e_IA :: Cond.initialized e_IA :: vx_atS R_Ss 66 e_IA e_nm, vx_ot w = true := by decide +kernel
theorem at_go_IS : ∀ w ∈ Cond.classLink R_Ss 69 e_IS :: Cond.initialized e_IS :: vx_atS R_Ss 73 e_IS e_nm, vx_ot w = true := by decide +kernel
theorem at_IA2 : ∀ w ∈ (vx_atS R_Ss 66 e_IA e_nm).filter (fun w => !goodWord w), w ∈ [Cond.castable e_IA e_IA, .declares ⟨"java/lang/RuntimeException", "<init>", "(Ljava/lang/String;)V"⟩, .declares ⟨"java/lang/Exception", "<init>", "(Ljava/lang/String;)V"⟩, .declares ⟨"java/lang/Throwable", "<init>", "(Ljava/lang/String;)V"⟩] := by decide +kernel
theorem at_IS2 : ∀ w ∈ (vx_atS R_Ss 73 e_IS e_nm).filter (fun w => !goodWord w), w ∈ [Cond.castable e_IS e_IS, .declares ⟨"java/lang/RuntimeException", "<init>", "(Ljava/lang/String;)V"⟩, .declares ⟨"java/lang/Exception", "<init>", "(Ljava/lang/String;)V"⟩, .declares ⟨"java/lang/Throwable", "<init>", "(Ljava/lang/String;)V"⟩] := by decide +kernel
section GT
variable {p : Program} {l : Launch} {e : Env} {R : Room} {s : State} {m : MethodId} {args : Array Value} {below : List Frame} {meth : Method} {c : Code} {H : Heap} {locs : List Loc} {cells slots : Nat}
variable {cc : ByteArray} {pc : Nat} {ls : Array Slot} {rest : List Value} {D : va_G} {k : Nat → ClassId} {z0 mc ms is : Nat} {text : String} {G : Nat → Option va_E} {px : String → Prop} {Qc : Array Value → State → Outcome → State → Prop}
theorem gs_throwIA (hl : l.stackTraces = false) (E : gs_E p s m args c cc wW R_Ss) (hG : gs_W D classes z0 G H) (hK : gs_K D k s) (hX : gs_X z0 s s.heap) (hS : gs_S z0 s.heap H locs) (ht : ∀ x ∈ c.exceptionTable.toList, False) (hsize : ls.size = c.maxLocals) (hk : Cond.classLink R_Ss 62 e_IA ∈ wW) (hini : Cond.initialized e_IA ∈ wW) (htx : (is, text) ∈ gs_texts) (hp : px e_IA)
    (d0 : decode cc pc = .ok (.new 62, 3)) (d3 : decode cc (pc + 3) = .ok (.dup, 1)) (d4 : decode cc (pc + 4) = .ok (.ldc is, 2)) (d6 : decode cc (pc + 6) = .ok (.invokespecial 66, 3)) (d9 : decode cc (pc + 9) = .ok (.athrow, 1))
    (hRframes : 5 < R.frames) (hRlocals : (rest.map fun v => v.category).sum + 82 ≤ R.locals) (hRcells : cells + 1 ≤ R.cells) (hRslots : slots + 6 ≤ R.slots) (hlocks : meth.locks = false) (hc : cells + 1 ≤ mc) (hs : slots + 6 ≤ ms) :
    W p l e R s m args below meth c H locs cells slots (vx_MQ below Qc (gs_T D z0 G px) args s mc ms (fun q : Nat => z0 ≤ q)) (F0 m pc ls rest) := by
  obtain ⟨hexec, hb, hw, hown⟩ := E
  obtain ⟨sa, hstr⟩ := hK.2.2.2.2.2 (is, text) htx
  refine vx_throwS (names := e_nm) (cls := e_IA) (text := text) (sa := sa) hexec hb hl hown (by decide +kernel) (by decide +kernel) (hw _ hk) (hw _ hini) hstr (vx_hat (fun w h => hw w (at_IA w h)) at_IA2 (vx_c (va_Nw.use rfl hK.2.2.2.1.1) (vx_c (va_Nw.use rfl hK.2.2.2.2.1.1) (vx_c (va_Nw.use rfl hK.2.2.2.2.1.2.1) (vx_c (va_Nw.use rfl hK.2.2.2.2.1.2.2) vx_n))))) at_go_IA hX.1 hX.2 hS hsize d0 d3 d4 d6 d9 (fun x hx => (ht x hx).elim) hRframes hRlocals hRcells hRslots hlocks ?_ hS.2.2 hc hs
  intro t hA hz hq
  exact ⟨hp, hG.grow hz hq, Nat.le_trans hS.1 hz, fun q h1 h2 => (hq q (Nat.lt_of_lt_of_le h1 hS.1)).trans (hS.2.1 q h1 h2)⟩
theorem gs_throwIS (hl : l.stackTraces = false) (E : gs_E p s m args c cc wW R_Ss) (hG : gs_W D classes z0 G H) (hK : gs_K D k s) (hX : gs_X z0 s s.heap) (hS : gs_S z0 s.heap H locs) (ht : ∀ x ∈ c.exceptionTable.toList, False) (hsize : ls.size = c.maxLocals) (hk : Cond.classLink R_Ss 69 e_IS ∈ wW) (hini : Cond.initialized e_IS ∈ wW) (htx : (is, text) ∈ gs_texts) (hp : px e_IS)
    (d0 : decode cc pc = .ok (.new 69, 3)) (d3 : decode cc (pc + 3) = .ok (.dup, 1)) (d4 : decode cc (pc + 4) = .ok (.ldc is, 2)) (d6 : decode cc (pc + 6) = .ok (.invokespecial 73, 3)) (d9 : decode cc (pc + 9) = .ok (.athrow, 1))
    (hRframes : 5 < R.frames) (hRlocals : (rest.map fun v => v.category).sum + 82 ≤ R.locals) (hRcells : cells + 1 ≤ R.cells) (hRslots : slots + 6 ≤ R.slots) (hlocks : meth.locks = false) (hc : cells + 1 ≤ mc) (hs : slots + 6 ≤ ms) :
    W p l e R s m args below meth c H locs cells slots (vx_MQ below Qc (gs_T D z0 G px) args s mc ms (fun q : Nat => z0 ≤ q)) (F0 m pc ls rest) := by
  obtain ⟨hexec, hb, hw, hown⟩ := E
  obtain ⟨sa, hstr⟩ := hK.2.2.2.2.2 (is, text) htx
  refine vx_throwS (names := e_nm) (cls := e_IS) (text := text) (sa := sa) hexec hb hl hown (by decide +kernel) (by decide +kernel) (hw _ hk) (hw _ hini) hstr (vx_hat (fun w h => hw w (at_IS w h)) at_IS2 (vx_c (va_Nw.use rfl hK.2.2.2.1.2.1) (vx_c (va_Nw.use rfl hK.2.2.2.2.1.1) (vx_c (va_Nw.use rfl hK.2.2.2.2.1.2.1) (vx_c (va_Nw.use rfl hK.2.2.2.2.1.2.2) vx_n))))) at_go_IS hX.1 hX.2 hS hsize d0 d3 d4 d6 d9 (fun x hx => (ht x hx).elim) hRframes hRlocals hRcells hRslots hlocks ?_ hS.2.2 hc hs
  intro t hA hz hq
  exact ⟨hp, hG.grow hz hq, Nat.le_trans hS.1 hz, fun q h1 h2 => (hq q (Nat.lt_of_lt_of_le h1 hS.1)).trans (hS.2.1 q h1 h2)⟩
/-- a throw out of a callee goes on -/
theorem gs_on {E : String} {ce : Cell} {q : Addr} (ht : ∀ x ∈ c.exceptionTable.toList, False) (hlocks : meth.locks = false) (hp : px E) (hG : gs_W D classes z0 G H) (hS : gs_S z0 s.heap H locs) (hcell : H[q]? = some ce) (hv : ce.vm = .none) (hcl : s.vm.findClass E = some ce.cls) (hc : cells ≤ mc) (hs : slots ≤ ms) :
    vx_W p l e R s m args below meth c H locs cells slots (vx_MQ below Qc (gs_T D z0 G px) args s mc ms (fun q : Nat => z0 ≤ q)) (F0 m pc ls rest) q :=
  vx_out (fun x hx => (ht x hx).elim) hlocks hcell hv hcl (fun t ht2 _ => ⟨hp, by rw [ht2]; exact hG, hS.F ht2⟩) hS.2.2 hc hs
end GT
