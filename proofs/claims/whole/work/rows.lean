section

def lw_okq (q : MethodName × Nat) : Prop := (q.1.cls ≠ "java/lang/invoke/MethodHandle" ∧ q.1.cls ≠ "java/lang/invoke/VarHandle") ∧ Cond.instantiable q.1.cls q.2 ∈ tables_1 ∧ Cond.privateMethod q.1 ∈ tables_1 ∧ Cond.instanceMethod q.1 ∈ tables_1
theorem lw_p0 : lw_okq (⟨"java/lang/Throwable", "fillInStackTrace", "(I)Ljava/lang/Throwable;"⟩, 6) := ⟨⟨by decide +kernel, by decide +kernel⟩, List.mem_of_getElem? (i := 141) (by decide +kernel), List.mem_of_getElem? (i := 139) (by decide +kernel), List.mem_of_getElem? (i := 140) (by decide +kernel)⟩
theorem lw_p1 : lw_okq (⟨"SunShadows", "knownBox", "(I)LSunShadows$Box;"⟩, 9) := ⟨⟨by decide +kernel, by decide +kernel⟩, List.mem_of_getElem? (i := 14) (by decide +kernel), List.mem_of_getElem? (i := 223) (by decide +kernel), List.mem_of_getElem? (i := 224) (by decide +kernel)⟩
theorem lw_p2 : lw_okq (⟨"SunShadows", "knownHour", "(I)LSunShadows$Hour;"⟩, 9) := ⟨⟨by decide +kernel, by decide +kernel⟩, List.mem_of_getElem? (i := 14) (by decide +kernel), List.mem_of_getElem? (i := 251) (by decide +kernel), List.mem_of_getElem? (i := 252) (by decide +kernel)⟩
theorem lw_p3 : lw_okq (⟨"SunShadows", "sunnyHour", "(I)LSunShadows$Hour;"⟩, 9) := ⟨⟨by decide +kernel, by decide +kernel⟩, List.mem_of_getElem? (i := 14) (by decide +kernel), List.mem_of_getElem? (i := 302) (by decide +kernel), List.mem_of_getElem? (i := 303) (by decide +kernel)⟩
theorem lw_p4 : lw_okq (⟨"SunShadows", "shadeOfRow", "(ILSunShadows$Hour;)J"⟩, 9) := ⟨⟨by decide +kernel, by decide +kernel⟩, List.mem_of_getElem? (i := 14) (by decide +kernel), List.mem_of_getElem? (i := 311) (by decide +kernel), List.mem_of_getElem? (i := 312) (by decide +kernel)⟩
theorem lw_p5 : lw_okq (⟨"SunShadows$Box", "spansLine", "(I)Z"⟩, 7) := ⟨⟨by decide +kernel, by decide +kernel⟩, List.mem_of_getElem? (i := 186) (by decide +kernel), List.mem_of_getElem? (i := 320) (by decide +kernel), List.mem_of_getElem? (i := 321) (by decide +kernel)⟩
theorem lw_p6 : lw_okq (⟨"SunShadows$Box", "nearest", "(ILSunShadows$Hour;I)I"⟩, 7) := ⟨⟨by decide +kernel, by decide +kernel⟩, List.mem_of_getElem? (i := 186) (by decide +kernel), List.mem_of_getElem? (i := 327) (by decide +kernel), List.mem_of_getElem? (i := 328) (by decide +kernel)⟩
theorem lw_p7 : lw_okq (⟨"SunShadows$Box", "farthest", "(ILSunShadows$Hour;I)I"⟩, 7) := ⟨⟨by decide +kernel, by decide +kernel⟩, List.mem_of_getElem? (i := 186) (by decide +kernel), List.mem_of_getElem? (i := 332) (by decide +kernel), List.mem_of_getElem? (i := 333) (by decide +kernel)⟩
theorem lw_p8 : lw_okq (⟨"SunShadows", "knownWindow", "(I)LSunShadows$Window;"⟩, 9) := ⟨⟨by decide +kernel, by decide +kernel⟩, List.mem_of_getElem? (i := 14) (by decide +kernel), List.mem_of_getElem? (i := 369) (by decide +kernel), List.mem_of_getElem? (i := 370) (by decide +kernel)⟩
theorem lw_p9 : lw_okq (⟨"SunShadows", "darkCells", "(LSunShadows$Window;LSunShadows$Hour;LSunShadows$Box;)I"⟩, 9) := ⟨⟨by decide +kernel, by decide +kernel⟩, List.mem_of_getElem? (i := 14) (by decide +kernel), List.mem_of_getElem? (i := 374) (by decide +kernel), List.mem_of_getElem? (i := 375) (by decide +kernel)⟩
theorem lw_p10 : lw_okq (⟨"SunShadows", "lightOfHour", "(LSunShadows$Window;LSunShadows$Hour;)I"⟩, 9) := ⟨⟨by decide +kernel, by decide +kernel⟩, List.mem_of_getElem? (i := 14) (by decide +kernel), List.mem_of_getElem? (i := 401) (by decide +kernel), List.mem_of_getElem? (i := 402) (by decide +kernel)⟩
theorem lw_p11 : lw_okq (⟨"SunShadows", "deepestTooLittle", "(LSunShadows$Window;LSunShadows$Hour;I)I"⟩, 9) := ⟨⟨by decide +kernel, by decide +kernel⟩, List.mem_of_getElem? (i := 14) (by decide +kernel), List.mem_of_getElem? (i := 438) (by decide +kernel), List.mem_of_getElem? (i := 439) (by decide +kernel)⟩
theorem lw_p12 : lw_okq (⟨"SunShadows", "addTaken", "(LSunShadows$Window;LSunShadows$Hour;)V"⟩, 9) := ⟨⟨by decide +kernel, by decide +kernel⟩, List.mem_of_getElem? (i := 14) (by decide +kernel), List.mem_of_getElem? (i := 449) (by decide +kernel), List.mem_of_getElem? (i := 450) (by decide +kernel)⟩
theorem lw_p13 : lw_okq (⟨"SunShadows", "shadeOfOneBoxOnly", "(ILSunShadows$Hour;)J"⟩, 9) := ⟨⟨by decide +kernel, by decide +kernel⟩, List.mem_of_getElem? (i := 14) (by decide +kernel), List.mem_of_getElem? (i := 453) (by decide +kernel), List.mem_of_getElem? (i := 454) (by decide +kernel)⟩
theorem lw_p14 : lw_okq (⟨"SunShadowsModel", "lay", "(IIIIIII)V"⟩, 14) := ⟨⟨by decide +kernel, by decide +kernel⟩, List.mem_of_getElem? (i := 458) (by decide +kernel), List.mem_of_getElem? (i := 522) (by decide +kernel), List.mem_of_getElem? (i := 523) (by decide +kernel)⟩
theorem lw_p15 : lw_okq (⟨"SunShadowsModel", "noBox", "(I)Z"⟩, 14) := ⟨⟨by decide +kernel, by decide +kernel⟩, List.mem_of_getElem? (i := 458) (by decide +kernel), List.mem_of_getElem? (i := 530) (by decide +kernel), List.mem_of_getElem? (i := 531) (by decide +kernel)⟩
def lw_privs_1 : List (MethodName × Nat) := [(⟨"java/lang/Throwable", "fillInStackTrace", "(I)Ljava/lang/Throwable;"⟩, 6), (⟨"SunShadows", "knownBox", "(I)LSunShadows$Box;"⟩, 9), (⟨"SunShadows", "knownHour", "(I)LSunShadows$Hour;"⟩, 9), (⟨"SunShadows", "sunnyHour", "(I)LSunShadows$Hour;"⟩, 9), (⟨"SunShadows", "shadeOfRow", "(ILSunShadows$Hour;)J"⟩, 9), (⟨"SunShadows$Box", "spansLine", "(I)Z"⟩, 7), (⟨"SunShadows$Box", "nearest", "(ILSunShadows$Hour;I)I"⟩, 7), (⟨"SunShadows$Box", "farthest", "(ILSunShadows$Hour;I)I"⟩, 7), (⟨"SunShadows", "knownWindow", "(I)LSunShadows$Window;"⟩, 9), (⟨"SunShadows", "darkCells", "(LSunShadows$Window;LSunShadows$Hour;LSunShadows$Box;)I"⟩, 9), (⟨"SunShadows", "lightOfHour", "(LSunShadows$Window;LSunShadows$Hour;)I"⟩, 9), (⟨"SunShadows", "deepestTooLittle", "(LSunShadows$Window;LSunShadows$Hour;I)I"⟩, 9), (⟨"SunShadows", "addTaken", "(LSunShadows$Window;LSunShadows$Hour;)V"⟩, 9), (⟨"SunShadows", "shadeOfOneBoxOnly", "(ILSunShadows$Hour;)J"⟩, 9), (⟨"SunShadowsModel", "lay", "(IIIIIII)V"⟩, 14), (⟨"SunShadowsModel", "noBox", "(I)Z"⟩, 14)]
theorem lw_r1 : ∀ q ∈ lw_privs_1, lw_okq q := List.forall_mem_cons.mpr ⟨lw_p0, List.forall_mem_cons.mpr ⟨lw_p1, List.forall_mem_cons.mpr ⟨lw_p2, List.forall_mem_cons.mpr ⟨lw_p3, List.forall_mem_cons.mpr ⟨lw_p4, List.forall_mem_cons.mpr ⟨lw_p5, List.forall_mem_cons.mpr ⟨lw_p6, List.forall_mem_cons.mpr ⟨lw_p7, List.forall_mem_cons.mpr ⟨lw_p8, List.forall_mem_cons.mpr ⟨lw_p9, List.forall_mem_cons.mpr ⟨lw_p10, List.forall_mem_cons.mpr ⟨lw_p11, List.forall_mem_cons.mpr ⟨lw_p12, List.forall_mem_cons.mpr ⟨lw_p13, List.forall_mem_cons.mpr ⟨lw_p14, List.forall_mem_cons.mpr ⟨lw_p15, fun _ h => absurd h List.not_mem_nil⟩⟩⟩⟩⟩⟩⟩⟩⟩⟩⟩⟩⟩⟩⟩⟩
theorem lw_p16 : lw_okq (⟨"SunShadowsModel", "check", "(ZI)I"⟩, 14) := ⟨⟨by decide +kernel, by decide +kernel⟩, List.mem_of_getElem? (i := 458) (by decide +kernel), List.mem_of_getElem? (i := 557) (by decide +kernel), List.mem_of_getElem? (i := 558) (by decide +kernel)⟩
theorem lw_p17 : lw_okq (⟨"SunShadowsModel", "isDark", "(IIIIZ)Z"⟩, 14) := ⟨⟨by decide +kernel, by decide +kernel⟩, List.mem_of_getElem? (i := 458) (by decide +kernel), List.mem_of_getElem? (i := 561) (by decide +kernel), List.mem_of_getElem? (i := 562) (by decide +kernel)⟩
theorem lw_p18 : lw_okq (⟨"SunShadowsModel", "throwsOn", "(IIII)Z"⟩, 14) := ⟨⟨by decide +kernel, by decide +kernel⟩, List.mem_of_getElem? (i := 458) (by decide +kernel), List.mem_of_getElem? (i := 565) (by decide +kernel), List.mem_of_getElem? (i := 566) (by decide +kernel)⟩
theorem lw_p19 : lw_okq (⟨"SunShadowsModel", "may", "(JJJJ)Z"⟩, 14) := ⟨⟨by decide +kernel, by decide +kernel⟩, List.mem_of_getElem? (i := 458) (by decide +kernel), List.mem_of_getElem? (i := 570) (by decide +kernel), List.mem_of_getElem? (i := 571) (by decide +kernel)⟩
theorem lw_p20 : lw_okq (⟨"SunShadowsModel", "atLeast", "(JJ)V"⟩, 14) := ⟨⟨by decide +kernel, by decide +kernel⟩, List.mem_of_getElem? (i := 458) (by decide +kernel), List.mem_of_getElem? (i := 574) (by decide +kernel), List.mem_of_getElem? (i := 575) (by decide +kernel)⟩
theorem lw_p21 : lw_okq (⟨"SunShadowsModel", "atMost", "(JJ)V"⟩, 14) := ⟨⟨by decide +kernel, by decide +kernel⟩, List.mem_of_getElem? (i := 458) (by decide +kernel), List.mem_of_getElem? (i := 578) (by decide +kernel), List.mem_of_getElem? (i := 579) (by decide +kernel)⟩
theorem lw_p22 : lw_okq (⟨"SunShadowsModel", "noWindow", "(I)Z"⟩, 14) := ⟨⟨by decide +kernel, by decide +kernel⟩, List.mem_of_getElem? (i := 458) (by decide +kernel), List.mem_of_getElem? (i := 590) (by decide +kernel), List.mem_of_getElem? (i := 591) (by decide +kernel)⟩
theorem lw_p23 : lw_okq (⟨"SunShadowsModel", "darkOf", "(IIIZ)I"⟩, 14) := ⟨⟨by decide +kernel, by decide +kernel⟩, List.mem_of_getElem? (i := 458) (by decide +kernel), List.mem_of_getElem? (i := 594) (by decide +kernel), List.mem_of_getElem? (i := 595) (by decide +kernel)⟩
theorem lw_p24 : lw_okq (⟨"SunShadowsModel", "day", "(II)I"⟩, 14) := ⟨⟨by decide +kernel, by decide +kernel⟩, List.mem_of_getElem? (i := 458) (by decide +kernel), List.mem_of_getElem? (i := 606) (by decide +kernel), List.mem_of_getElem? (i := 607) (by decide +kernel)⟩
theorem lw_p25 : lw_okq (⟨"SunShadowsModel", "litIn", "(III)I"⟩, 14) := ⟨⟨by decide +kernel, by decide +kernel⟩, List.mem_of_getElem? (i := 458) (by decide +kernel), List.mem_of_getElem? (i := 610) (by decide +kernel), List.mem_of_getElem? (i := 611) (by decide +kernel)⟩
theorem lw_p26 : lw_okq (⟨"SunShadowsModel", "ledged", "(III)I"⟩, 14) := ⟨⟨by decide +kernel, by decide +kernel⟩, List.mem_of_getElem? (i := 458) (by decide +kernel), List.mem_of_getElem? (i := 622) (by decide +kernel), List.mem_of_getElem? (i := 623) (by decide +kernel)⟩
def lw_privs_2 : List (MethodName × Nat) := [(⟨"SunShadowsModel", "check", "(ZI)I"⟩, 14), (⟨"SunShadowsModel", "isDark", "(IIIIZ)Z"⟩, 14), (⟨"SunShadowsModel", "throwsOn", "(IIII)Z"⟩, 14), (⟨"SunShadowsModel", "may", "(JJJJ)Z"⟩, 14), (⟨"SunShadowsModel", "atLeast", "(JJ)V"⟩, 14), (⟨"SunShadowsModel", "atMost", "(JJ)V"⟩, 14), (⟨"SunShadowsModel", "noWindow", "(I)Z"⟩, 14), (⟨"SunShadowsModel", "darkOf", "(IIIZ)I"⟩, 14), (⟨"SunShadowsModel", "day", "(II)I"⟩, 14), (⟨"SunShadowsModel", "litIn", "(III)I"⟩, 14), (⟨"SunShadowsModel", "ledged", "(III)I"⟩, 14)]
theorem lw_r2 : ∀ q ∈ lw_privs_2, lw_okq q := List.forall_mem_cons.mpr ⟨lw_p16, List.forall_mem_cons.mpr ⟨lw_p17, List.forall_mem_cons.mpr ⟨lw_p18, List.forall_mem_cons.mpr ⟨lw_p19, List.forall_mem_cons.mpr ⟨lw_p20, List.forall_mem_cons.mpr ⟨lw_p21, List.forall_mem_cons.mpr ⟨lw_p22, List.forall_mem_cons.mpr ⟨lw_p23, List.forall_mem_cons.mpr ⟨lw_p24, List.forall_mem_cons.mpr ⟨lw_p25, List.forall_mem_cons.mpr ⟨lw_p26, fun _ h => absurd h List.not_mem_nil⟩⟩⟩⟩⟩⟩⟩⟩⟩⟩⟩
def lw_privs : List (MethodName × Nat) := lw_privs_1 ++ (lw_privs_2)
def lw_tbl : List Cond := k2_sels lw_privs ++ tables_1
theorem lw_privs_ok : ∀ q ∈ lw_privs, lw_okq q := by
  show ∀ q ∈ lw_privs_1 ++ (lw_privs_2), lw_okq q
  exact List.forall_mem_append.mpr ⟨lw_r1, lw_r2⟩
end
section

theorem goodIn_r {big : List Cond} (ws : List Cond) (ps : List Nat) (hp : ws = ps.filterMap (fun i => big[i]?)) (h : ws.all goodWord = true) : GoodIn big ws := by
  intro w hw
  have h1 := List.all_eq_true.mp h w hw
  rw [hp] at hw
  obtain ⟨i, -, hi⟩ := List.mem_filterMap.mp hw
  have hm : w ∈ big := by first | exact List.mem_of_getElem? hi | exact List.getElem?_mem hi
  exact ⟨hm, good_of_word h1⟩
theorem goodIn_app {big a b : List Cond} (ha : GoodIn big a) (hb : GoodIn big b) : GoodIn big (a ++ b) := fun w h => (List.mem_append.mp h).elim (ha w) (hb w)
theorem goodIn_ca {big a b : List Cond} {c : Cond} (ha : GoodIn big (c :: a)) (hb : GoodIn big b) : GoodIn big (c :: (a ++ b)) := fun w h => (List.mem_cons.mp h).elim (fun e => ha w (List.mem_cons.mpr (Or.inl e))) (fun h => (List.mem_append.mp h).elim (fun h => ha w (List.mem_cons.mpr (Or.inr h))) (hb w))
theorem goodIn_sub {big ws : List Cond} (hm : ∀ w ∈ ws, w ∈ big) (h : ws.all goodWord = true) : GoodIn big ws := fun w hw => ⟨hm w hw, good_of_word (List.all_eq_true.mp h w hw)⟩
section VXA
def vx_T (XC : String → State → State → Prop) (st : State) (q : Addr) (t : State) (mc ms : Nat) (free : Addr → Prop) : Prop :=
  ∃ (E : String) (ce : Cell) (L : List Loc), XC E st t ∧ t.heap[q]? = some ce ∧ ce.vm = .none ∧ st.vm.findClass E = some ce.cls ∧ st.WarmedH t.vm ∧ st.sameButNew ({ t with vm := st.vm } : State) L mc ms ∧ ∀ z ∈ L, free z.base
def vx_Q (Qc : Array Value → State → Outcome → State → Prop) (XC : String → State → State → Prop) (mc ms : Nat) (free : Addr → Prop) : Array Value → State → Outcome → State → Prop := fun a st o t =>
  (Qc a st o t ∧ ∃ L, FrameEnd st o t L mc ms ∧ ∀ q ∈ L, free q.base) ∨ ∃ q, o = .threw q ∧ vx_T XC st q t mc ms free
def vx_Met (l : Launch) (y : MethodName) (ws : List Cond) (rm : Room) (Pc : Array Value → State → Prop) (Qc : Array Value → State → Outcome → State → Prop) (XC : String → State → State → Prop) (mc ms : Nat) (free : Addr → Prop) : Prop :=
  MetFree l y (headSpec ws rm) Pc (fun _ _ _ _ _ => True) (vx_Q Qc XC mc ms free)
def vx_Post (XC : String → State → State → Prop) (mc ms : Nat) (free : Addr → Prop) : Pt → Array Value → Addr → Pt → Prop := fun A a q B =>
  ∃ (g : JFrame) (mk : MethodId) (t : State) (L : List Loc) (E : String) (ce : Cell), B.U.heap = t.heap ∧ B.U.vm = t.vm ∧ XC E (A.U.calling g mk a) t ∧ t.heap[q]? = some ce ∧ ce.vm = .none ∧ A.U.vm.findClass E = some ce.cls ∧ B.locs = A.locs ++ L ∧ (∀ z ∈ L, free z.base) ∧ B.cells = A.cells + mc ∧ B.slots = A.slots + ms
def vx_Back (l : Launch) (R : Room) (p : Program) (e : Env) (below : List Frame) (s : State) (sargs : Array Value) (y : MethodName) (len W9 : Nat)
    (Pre : Pt → Array Value → Prop) (Post : Pt → Array Value → Option Value → Pt → Prop) (PostX : Pt → Array Value → Addr → Pt → Prop) : Prop :=
  ∀ (m : MethodId) (meth : Method) (c : Code) (A : Pt) (g : JFrame) (ig : Instr) (mk : MethodId) (a : Array Value),
    Stand p l e R s m sargs below meth c A.U A.locs A.cells A.slots → g.method = m → g.locals.size = c.maxLocals → decode c.code g.pc = .ok (ig, len) →
    2 * g.monitorRoom + (g.stack.map fun v => v.category).sum ≤ W9 → A.U.methodNamed? y = some mk → Pre A a →
    (∃ (v : Option Value) (B : Pt), Stand p l e R s m sargs below meth c B.U B.locs B.cells B.slots ∧ Post A a v B ∧
      Steps p.tables e below (doInvoke e (A.U.setTop g) [] mk a).1 (B.U.setTop { g with pc := g.pc + len, stack := v.toList ++ g.stack })) ∨
    (∃ (q : Addr) (B : Pt), Stand p l e R s m sargs below meth c B.U B.locs B.cells B.slots ∧ PostX A a q B ∧
      Steps p.tables e below (doInvoke e (A.U.setTop g) [] mk a).1 ((B.U.setTop g).pushFrame (.throwing q)))
section Payer
variable {l : Launch} {R : Room} {p : Program} {e : Env} {below : List Frame} {s : State} {sargs : Array Value} {y : MethodName} {len W9 : Nat}
theorem vx_back {ws : List Cond} {rm : Room} {Pc : Array Value → State → Prop} {Qc : Array Value → State → Outcome → State → Prop} {XC : String → State → State → Prop} {mc ms : Nat} {free : Addr → Prop} {bytes : ByteArray} {maxL : Nat} {ret : Option FieldType}
    (hM : vx_Met l y ws rm Pc Qc XC mc ms free) (hblind : FrameBlind Pc) (hrc : rm.cells = mc) (hrs : rm.slots = ms)
    (hframes : rm.frames + 1 ≤ R.frames) (hlocals : W9 + (maxL + 11) + rm.locals ≤ R.locals)
    (hws : ∀ w ∈ ws, ∀ a' U, s.WarmedH U.vm → w.before a' U = true) (hcode : Cond.code y bytes maxL ret ∈ ws) (hinit : ∀ a' U, s.WarmedH U.vm → (Cond.initialized y.cls).before a' U = true) :
    vx_Back l R p e below s sargs y len W9 (PreOf R mc ms Pc) (PostOf Qc mc ms free) (vx_Post XC mc ms free) := by
  intro m meth c A g ig mk a X hg hsize hdg hW hn hp
  have h1 : (headSpec ws rm).pre.before a A.U = true := atoms_intro fun w hw => hws w hw _ _ X.warmed
  have h2 : (Cond.code y bytes maxL ret).before a A.U = true := hws _ hcode _ _ X.warmed
  have h3 : (Cond.initialized y.cls).before a A.U = true := hinit _ _ X.warmed
  have h4 : A.cells + (headSpec ws rm).room.cells ≤ R.cells := by rw [show (headSpec ws rm).room.cells = mc from hrc]; exact hp.1
  have h5 : A.slots + (headSpec ws rm).room.slots ≤ R.slots := by rw [show (headSpec ws rm).room.slots = ms from hrs]; exact hp.2.1
  have hPc : Pc a (A.U.calling g mk a) := hblind _ _ _ _ hp.2.2
  obtain ⟨U, Ls, c0, s0⟩ := A
  dsimp only [Pt.U, Pt.locs, Pt.cells, Pt.slots] at h1 h2 h3 h4 h5 X hn hPc ⊢
  obtain ⟨methY, cY, hmY, hcY, -, hlY, -, -, -, -⟩ := Cond.code_spec hn h2
  obtain ⟨kY, hkY, -⟩ := className_of_methodNamed hn
  have hinitY : kY.init = .initialized := Cond.initialized_spec (findClass_of_methodNamed hn) hkY h3
  have h : At U g.method c below := by rw [hg]; exact X.here
  have hlocals9 : W9 + (maxL + 11) + (headSpec ws rm).room.locals ≤ R.locals := hlocals
  have happ : (headSpec ws rm).appliesLoose y e.platform (U.calling g mk a) = true :=
    Spec.appliesLoose_calling (g := g) h hdg hn hkY hinitY
      (X.room_calling (g := g) (R' := (headSpec ws rm).room) hsize hmY hcY hframes (by rw [hlY]; omega) h4 h5) h1
  obtain ⟨mid, hmid⟩ := h.above
  have hfr : (U.setTop g).frames = (.java g :: mid) ++ below := by rw [State.frames_setTop' g h.top, hmid]; rfl
  obtain ⟨o, s₂, hsteps, -, hend, hq⟩ := Steps.callFree hM p X.admits X.cas X.clock (acts := []) hfr happ hPc trivial
  have hq' : vx_Q Qc XC mc ms free a (U.calling g mk a) o s₂ := hq
  rw [State.frames_setTop' g h.top] at hend
  obtain ⟨g₀, hg0⟩ := Option.isSome_iff_exists.mp h.top
  obtain ⟨r, hr⟩ := State.topJava?_eq_some.mp hg0
  have hr' : (({ U with heap := s₂.heap, slotsUsed := s₂.slotsUsed } : State).setVm s₂.vm).frames = .java g₀ :: r := hr
  rcases hq' with ⟨hqc, L, hfe, hL⟩ | ⟨q, rfl, E, ce, L, hx, hce, hcv, hcl, hW₂, hsm, hL⟩
  · obtain ⟨⟨v, rfl⟩, hW₂, e2, q2, q3, q4, q5, q6⟩ := id hfe
    have e3 : s₂ = ({ (U.calling g mk a).setFrames s₂.frames with heap := s₂.heap, slotsUsed := s₂.slotsUsed } : State).setVm s₂.vm := by
      have : s₂ = ({ s₂ with vm := (U.calling g mk a).vm } : State).setVm s₂.vm := rfl
      rw [e2] at this
      exact this
    obtain ⟨c₂, i₂, len₂, hc₂, hd₂, hf₂⟩ := hend
    have hW' : U.WarmedH s₂.vm := hW₂
    have hcc : c₂ = c := by
      have h1 : s₂.code? g.method = U.code? g.method := by
        rw [State.code?_eq, State.code?_eq, hW'.alike.method?]
      exact Option.some.inj (hc₂.symm.trans (h1.trans h.code))
    subst hcc
    have hlen : len₂ = len := by rw [hdg] at hd₂; cases hd₂; rfl
    subst hlen
    have hs₂ : s₂ = (({ U with heap := s₂.heap, slotsUsed := s₂.slotsUsed } : State).setVm s₂.vm).setTop { g with pc := g.pc + len₂, stack := v.toList ++ g.stack } := by
      refine e3.trans ?_
      rw [hf₂, State.calling_eq h.top, State.setFrames_setFrames, State.setTop_of_frames _ hr', hr]
      rfl
    have hsame : U.sameButNew ({ U with heap := s₂.heap, slotsUsed := s₂.slotsUsed } : State) L mc ms := by
      refine ⟨?_, q2, q3, q4, q5, q6⟩
      obtain ⟨t, ht, -⟩ := State.frames_cons hr
      show ({ U with heap := s₂.heap, slotsUsed := s₂.slotsUsed } : State) = { U.setFrames U.frames with heap := s₂.heap, slotsUsed := s₂.slotsUsed }
      rw [State.setFrames_self ht]
    subst hg
    refine Or.inl ⟨v, ⟨(({ U with heap := s₂.heap, slotsUsed := s₂.slotsUsed } : State).setVm s₂.vm), Ls ++ L, c0 + mc, s0 + ms⟩,
      ⟨X.admits, X.cas, X.clock, X.frames, X.room, X.hears, X.method, X.code, (X.here.setHeapUsed s₂.heap s₂.slotsUsed).setVm hW'.alike, X.tail, State.WarmedH.trans X.warmed hW', X.limits, X.bytes, X.same.trans (hsame.setVm s.vm)⟩,
      ⟨g, mk, s₂, L, rfl, rfl, hqc, rfl, hL, rfl, rfl⟩, ?_⟩
    show Steps p.tables e below _ ((({ U with heap := s₂.heap, slotsUsed := s₂.slotsUsed } : State).setVm s₂.vm).setTop { g with pc := g.pc + len₂, stack := v.toList ++ g.stack })
    rw [← hs₂]
    exact hsteps
  · obtain ⟨e2, q2, q3, q4, q5, q6⟩ := id hsm
    have e3 : s₂ = ({ (U.calling g mk a).setFrames s₂.frames with heap := s₂.heap, slotsUsed := s₂.slotsUsed } : State).setVm s₂.vm := by
      have : s₂ = ({ s₂ with vm := (U.calling g mk a).vm } : State).setVm s₂.vm := rfl
      rw [e2] at this
      exact this
    have hf₂ : s₂.frames = .throwing q :: .java g :: U.frames.tail := hend
    have hW' : U.WarmedH s₂.vm := hW₂
    have hs₂ : s₂ = ((({ U with heap := s₂.heap, slotsUsed := s₂.slotsUsed } : State).setVm s₂.vm).setTop g).pushFrame (.throwing q) := by
      refine e3.trans ?_
      rw [hf₂, State.calling_eq h.top, State.setFrames_setFrames, State.pushFrame, State.frames_setTop _ hr', State.setTop_of_frames _ hr', State.setFrames_setFrames, hr]
      rfl
    have hsame : U.sameButNew ({ U with heap := s₂.heap, slotsUsed := s₂.slotsUsed } : State) L mc ms := by
      refine ⟨?_, q2, q3, q4, q5, q6⟩
      obtain ⟨t, ht, -⟩ := State.frames_cons hr
      show ({ U with heap := s₂.heap, slotsUsed := s₂.slotsUsed } : State) = { U.setFrames U.frames with heap := s₂.heap, slotsUsed := s₂.slotsUsed }
      rw [State.setFrames_self ht]
    subst hg
    refine Or.inr ⟨q, ⟨(({ U with heap := s₂.heap, slotsUsed := s₂.slotsUsed } : State).setVm s₂.vm), Ls ++ L, c0 + mc, s0 + ms⟩,
      ⟨X.admits, X.cas, X.clock, X.frames, X.room, X.hears, X.method, X.code, (X.here.setHeapUsed s₂.heap s₂.slotsUsed).setVm hW'.alike, X.tail, State.WarmedH.trans X.warmed hW', X.limits, X.bytes, X.same.trans (hsame.setVm s.vm)⟩,
      ⟨g, mk, s₂, L, E, ce, rfl, rfl, hx, hce, hcv, hcl, rfl, hL, rfl, rfl⟩, ?_⟩
    show Steps p.tables e below _ (((({ U with heap := s₂.heap, slotsUsed := s₂.slotsUsed } : State).setVm s₂.vm).setTop g).pushFrame (.throwing q))
    rw [← hs₂]
    exact hsteps
end Payer
section Calls
variable {p : Program} {l : Launch} {e : Env} {R : Room} {s : State} {m : MethodId} {args : Array Value} {below : List Frame} {meth : Method} {c : Code} {T : State} {locs : List Loc} {cells slots : Nat}
theorem vx_callV (X : Stand p l e R s m args below meth c T locs cells slots) (hexec : p.tables.exec = Jvm.exec) {own C : String} {index : Nat} {y : MethodName} {bytes : ByteArray} {maxL : Nat} {ret : Option FieldType}
    (hown : s.vm.findClass own = some m.cls) (hlink : (Cond.methodLink own index y).before args s = true) (hinst : (Cond.instanceMethod y).before args s = true) (hsel : (Cond.selects C y y).before args s = true)
    (hcode : (Cond.code y bytes maxL ret).before args s = true) (hy : y.cls ≠ "java/lang/invoke/MethodHandle" ∧ y.cls ≠ "java/lang/invoke/VarHandle")
    {W9 : Nat} {Pre : Pt → Array Value → Prop} {Post : Pt → Array Value → Option Value → Pt → Prop} {PostX : Pt → Array Value → Addr → Pt → Prop} (hK : vx_Back l R p e below s args y 3 W9 Pre Post PostX)
    {b : Addr} {cellB : Cell} (hcell : T.heap[b]? = some cellB) (hobj : cellB.vm.isStatics = false) (hcls : s.vm.findClass C = some cellB.cls)
    {g : JFrame} (hg : g.method = m) (hsize : g.locals.size = c.maxLocals) {argsL rest : List Value} (hlen : ∀ sig, parseMethodDescriptor y.desc = some sig → argsL.length = sig.parameters.length)
    (hstack : g.stack = argsL.reverse ++ .ref b :: rest) (hW : 2 * g.monitorRoom + (rest.map fun v => v.category).sum ≤ W9) (hdg : decode c.code g.pc = .ok (.invokevirtual index, 3))
    (hpre : ∀ vm₁, s.WarmedH vm₁ → Pre ⟨T.setVm vm₁, locs, cells, slots⟩ (Value.ref b :: argsL).toArray) :
    (∃ (v : Option Value) (vm₁ : Vm) (B : Pt), s.WarmedH vm₁ ∧ Stand p l e R s m args below meth c B.U B.locs B.cells B.slots ∧ Post ⟨T.setVm vm₁, locs, cells, slots⟩ (Value.ref b :: argsL).toArray v B ∧
      ∀ target, Steps p.tables e below (B.U.setTop { g with pc := g.pc + 3, stack := v.toList ++ rest }) target → Steps p.tables e below (T.setTop g) target) ∨
    (∃ (q : Addr) (vm₁ : Vm) (B : Pt), s.WarmedH vm₁ ∧ Stand p l e R s m args below meth c B.U B.locs B.cells B.slots ∧ PostX ⟨T.setVm vm₁, locs, cells, slots⟩ (Value.ref b :: argsL).toArray q B ∧
      Steps p.tables e below (T.setTop g) ((B.U.setTop { g with stack := rest }).pushFrame (.throwing q))) := by
  obtain ⟨mk, methM, hnamed, hmethM, hstM, habM⟩ := Cond.instanceMethod_spec hinst
  obtain ⟨methM', cM, hmethM', -, -, -, -, -, -, hsigM⟩ := Cond.code_spec hnamed hcode
  cases hmethM.symm.trans hmethM'
  obtain ⟨c2, r2, m2, q1, q2, q3, q4, kP, hkP, hkPi⟩ := Cond.selects_spec hsel
  cases hcls.symm.trans q1
  cases (State.methodFound?_of_named hnamed hy).symm.trans q2
  cases hnamed.symm.trans q3
  have hselP : selectMethod e.platform s.vm cellB.cls mk = .method mk := by rw [Launch.admits_selectMethod X.admits]; exact q4
  obtain ⟨vm₁, X₁, hstep₁⟩ := X.invokevirtual hexec hown hlink hnamed hmethM hstM hkP hkPi hy (a := b) (cell := cellB) hcell
    (fun z h => by rw [h] at hobj; cases hobj) hselP hmethM habM hkP hkPi (g := g) hg (argsL := argsL) (rest := rest) (hlen _ hsigM) hstack hdg
  rcases hK m meth c ⟨T.setVm vm₁, locs, cells, slots⟩ { g with stack := rest } (.invokevirtual index) mk (Value.ref b :: argsL).toArray X₁ hg hsize hdg hW (X₁.named hnamed) (hpre vm₁ X₁.warmed) with ⟨v, B, X', hpost, hsteps⟩ | ⟨q, B, X', hpost, hsteps⟩
  · exact Or.inl ⟨v, vm₁, B, X₁.warmed, X', hpost, fun target h => hstep₁ _ fun acts => by rw [doInvoke_state]; exact hsteps.trans h⟩
  · exact Or.inr ⟨q, vm₁, B, X₁.warmed, X', hpost, hstep₁ _ fun acts => by rw [doInvoke_state]; exact hsteps⟩
theorem vx_callS (X : Stand p l e R s m args below meth c T locs cells slots) (hexec : p.tables.exec = Jvm.exec) {own : String} {index : Nat} {y : MethodName} {bytes : ByteArray} {maxL : Nat} {ret : Option FieldType}
    (hown : s.vm.findClass own = some m.cls) (hlink : (Cond.methodLink own index y).before args s = true) (hstat : (Cond.static y).before args s = true) (hinit : (Cond.initialized y.cls).before args s = true)
    (hcode : (Cond.code y bytes maxL ret).before args s = true) (hy : y.cls ≠ "java/lang/invoke/MethodHandle" ∧ y.cls ≠ "java/lang/invoke/VarHandle")
    {W9 : Nat} {Pre : Pt → Array Value → Prop} {Post : Pt → Array Value → Option Value → Pt → Prop} {PostX : Pt → Array Value → Addr → Pt → Prop} (hK : vx_Back l R p e below s args y 3 W9 Pre Post PostX)
    {g : JFrame} (hg : g.method = m) (hsize : g.locals.size = c.maxLocals) {argsL rest : List Value} (hlen : ∀ sig, parseMethodDescriptor y.desc = some sig → argsL.length = sig.parameters.length)
    (hstack : g.stack = argsL.reverse ++ rest) (hW : 2 * g.monitorRoom + (rest.map fun v => v.category).sum ≤ W9) (hdg : decode c.code g.pc = .ok (.invokestatic index, 3))
    (hpre : ∀ vm₁, s.WarmedH vm₁ → Pre ⟨T.setVm vm₁, locs, cells, slots⟩ argsL.toArray) :
    (∃ (v : Option Value) (vm₁ : Vm) (B : Pt), s.WarmedH vm₁ ∧ Stand p l e R s m args below meth c B.U B.locs B.cells B.slots ∧ Post ⟨T.setVm vm₁, locs, cells, slots⟩ argsL.toArray v B ∧
      ∀ target, Steps p.tables e below (B.U.setTop { g with pc := g.pc + 3, stack := v.toList ++ rest }) target → Steps p.tables e below (T.setTop g) target) ∨
    (∃ (q : Addr) (vm₁ : Vm) (B : Pt), s.WarmedH vm₁ ∧ Stand p l e R s m args below meth c B.U B.locs B.cells B.slots ∧ PostX ⟨T.setVm vm₁, locs, cells, slots⟩ argsL.toArray q B ∧
      Steps p.tables e below (T.setTop g) ((B.U.setTop { g with stack := rest }).pushFrame (.throwing q))) := by
  obtain ⟨mk, hnamed⟩ := Cond.code_named hcode
  obtain ⟨methM, cM, hmethM, -, -, -, -, -, -, hsigM⟩ := Cond.code_spec hnamed hcode
  have hstatic : methM.isStatic = true := Cond.static_spec hnamed hmethM hstat
  obtain ⟨kP, hkP, -⟩ := className_of_methodNamed hnamed
  have hinitP : kP.init = .initialized := Cond.initialized_spec (findClass_of_methodNamed hnamed) hkP hinit
  obtain ⟨vm₁, X₁, hstep₁⟩ := X.invokestatic hexec hown hlink hnamed hmethM hstatic hkP hinitP hy (g := g) hg (argsL := argsL) (rest := rest) (hlen _ hsigM) hstack hdg
  rcases hK m meth c ⟨T.setVm vm₁, locs, cells, slots⟩ { g with stack := rest } (.invokestatic index) mk argsL.toArray X₁ hg hsize hdg hW (X₁.named hnamed) (hpre vm₁ X₁.warmed) with ⟨v, B, X', hpost, hsteps⟩ | ⟨q, B, X', hpost, hsteps⟩
  · exact Or.inl ⟨v, vm₁, B, X₁.warmed, X', hpost, fun target h => hstep₁ _ fun acts => by rw [doInvoke_state]; exact hsteps.trans h⟩
  · exact Or.inr ⟨q, vm₁, B, X₁.warmed, X', hpost, hstep₁ _ fun acts => by rw [doInvoke_state]; exact hsteps⟩
end Calls
theorem vx_cls {s : State} {T : State} {vm₁ : Vm} {E : String} {k : ClassId} (hW : s.WarmedH vm₁) (h : (T.setVm vm₁).vm.findClass E = some k) : s.vm.findClass E = some k := by
  have h1 : vm₁.findClass E = some k := h
  rw [hW.alike.findClass] at h1
  exact h1
def vx_W (p : Program) (l : Launch) (e : Env) (R : Room) (s : State) (m : MethodId) (args : Array Value) (below : List Frame) (meth : Method) (c : Code) (H : Heap) (locs : List Loc) (cells slots : Nat) (Q : State → Prop) (g : JFrame) (q : Addr) : Prop :=
  ∀ T : State, T.heap = H → Stand p l e R s m args below meth c T locs cells slots → ∃ t, Steps p.tables e below ((T.setTop g).pushFrame (.throwing q)) t ∧ Q t
def vx_Run (p : Program) (l : Launch) (e : Env) (R : Room) (s : State) (m : MethodId) (args : Array Value) (below : List Frame) (meth : Method) (c : Code) (H : Heap) (locs : List Loc) (cells slots mc ms : Nat) (g : JFrame) (rest : List Value) (Qa : State → Outcome → State → Prop) (XC : String → State → State → Prop) (free : Addr → Prop) : Prop :=
  ∀ T : State, T.heap = H → Stand p l e R s m args below meth c T locs cells slots →
    (∃ (v : Option Value) (st₀ t T' : State) (L : List Loc), st₀.heap = H ∧ Stand p l e R s m args below meth c T' (locs ++ L) (cells + mc) (slots + ms) ∧ (∀ q ∈ L, free q.base) ∧ T'.heap = t.heap ∧ T'.vm = t.vm ∧ Qa st₀ (.returned v) t ∧
      Goes p e below T g T' { g with pc := g.pc + 3, stack := v.toList ++ rest }) ∨
    (∃ (q : Addr) (st₀ t T' : State) (L : List Loc) (E : String) (ce : Cell), st₀.heap = H ∧ Stand p l e R s m args below meth c T' (locs ++ L) (cells + mc) (slots + ms) ∧ (∀ z ∈ L, free z.base) ∧ T'.heap = t.heap ∧ T'.vm = t.vm ∧ XC E st₀ t ∧ t.heap[q]? = some ce ∧ ce.vm = .none ∧ s.vm.findClass E = some ce.cls ∧
      Steps p.tables e below (T.setTop g) ((T'.setTop { g with stack := rest }).pushFrame (.throwing q)))
def vx_X {S : Type} (px : S → Prop) (B : String → S → State → Prop) (A : Nat → Prop) : String → State → State → Prop := fun E st t => ∃ u : S, px u ∧ B E u t ∧ va_F A st t
section Runs
variable {p : Program} {l : Launch} {e : Env} {R : Room} {s : State} {m : MethodId} {args : Array Value} {below : List Frame} {meth : Method} {c : Code} {H : Heap} {locs : List Loc} {cells slots : Nat}
variable {y : MethodName} {bytes cc : ByteArray} {maxL nL mc ms n index : Nat} {ret : Option FieldType} {ws : List Cond} {rm : Room} {Pc : Array Value → State → Prop} {Qc : Array Value → State → Outcome → State → Prop} {XC : String → State → State → Prop} {free : Addr → Prop} {Ts : List Cond} {own C : String} {b : Addr} {As rest : List Value} {g : JFrame}
theorem vx_callBack (cb : CallB R s args own index y bytes maxL ret ws rm mc ms n) (hM : vx_Met l y ws rm Pc Qc XC mc ms free) (hbl : FrameBlind Pc) : vx_Back l R p e below s args y 3 8 (PreOf R mc ms Pc) (PostOf Qc mc ms free) (vx_Post XC mc ms free) := by
  obtain ⟨hrc, hrs, hfr, hlo, hws, hcw, -, hini, -⟩ := cb
  exact vx_back (bytes := bytes) (maxL := maxL) (ret := ret) hM hbl hrc hrs hfr hlo hws hcw (fun a' U hW => word_at hW (Or.inl (by first | rfl | simp [Cond.onTables, Cond.keeps, Cond.steady])) hini)
theorem vx_runV (S : CallFix p m c cc nL s args Ts own) (hM : vx_Met l y ws rm Pc Qc XC mc ms free) (cw : CallW R s args own C index y bytes maxL ret ws rm mc ms n) (hp : PreV s H C b Pc As)
    (hg : g.method = m) (hn : As.length = n) (hsize : g.locals.size = nL) (hstack : g.stack = As.reverse ++ .ref b :: rest) (hW : 2 * g.monitorRoom + (rest.map fun v => v.category).sum ≤ 8) (hdg : decode cc g.pc = .ok (.invokevirtual index, 3)) (hf : cells + mc ≤ R.cells ∧ slots + ms ≤ R.slots) :
    vx_Run p l e R s m args below meth c H locs cells slots mc ms g rest (Qc (Value.ref b :: As).toArray) XC free := by
  have hK : vx_Back l R p e below s args y 3 8 (PreOf R mc ms Pc) (PostOf Qc mc ms free) (vx_Post XC mc ms free) := vx_callBack cw.1 hM hp.1
  obtain ⟨⟨-, -, -, -, -, -, hcode, -, hy, hlen, hl⟩, hin, hse⟩ := cw
  obtain ⟨hx, hb, hml, ho, -⟩ := S
  obtain ⟨-, ⟨cellB, hcB, hoB, hclB⟩, hPc⟩ := hp
  intro T hT X
  rcases vx_callV X hx (C := C) (bytes := bytes) (maxL := maxL) (ret := ret) ho hl hin hse hcode hy hK (by rw [hT]; exact hcB) hoB hclB hg (hsize.trans hml.symm) (argsL := As) (rest := rest) (fun sig h => hn.trans (hlen sig h)) hstack hW (by rw [hb]; exact hdg)
    (fun vm₁ hW₁ => ⟨hf.1, hf.2, hPc (T.setVm vm₁) hT hW₁⟩) with ⟨v, vm₁, ⟨U', l2, c2, s2⟩, hW₁, X', ⟨g', mk, t, L, e1, e2, hq, h1, hL, h2, h3⟩, st⟩ | ⟨q, vm₁, ⟨U', l2, c2, s2⟩, hW₁, X', ⟨g', mk, t, L, E, ce, e1, e2, hq, hce, hcv, hcl, h1, hL, h2, h3⟩, st⟩
  · dsimp only [Pt.U, Pt.locs, Pt.cells, Pt.slots] at X' e1 e2 h1 h2 h3 st
    subst h1; subst h2; subst h3
    exact Or.inl ⟨v, (T.setVm vm₁).calling g' mk (Value.ref b :: As).toArray, t, U', L, hT, X', hL, e1, e2, hq, st⟩
  · dsimp only [Pt.U, Pt.locs, Pt.cells, Pt.slots] at X' e1 e2 h1 h2 h3 st hcl
    subst h1; subst h2; subst h3
    exact Or.inr ⟨q, (T.setVm vm₁).calling g' mk (Value.ref b :: As).toArray, t, U', L, E, ce, hT, X', hL, e1, e2, hq, hce, hcv, vx_cls hW₁ hcl, st⟩
theorem vx_runS (S : CallFix p m c cc nL s args Ts own) (hM : vx_Met l y ws rm Pc Qc XC mc ms free) (cw : CallB R s args own index y bytes maxL ret ws rm mc ms n ∧ (Cond.static y).before args s = true) (hp : PreS s H Pc As)
    (hg : g.method = m) (hn : As.length = n) (hsize : g.locals.size = nL) (hstack : g.stack = As.reverse ++ rest) (hW : 2 * g.monitorRoom + (rest.map fun v => v.category).sum ≤ 8) (hdg : decode cc g.pc = .ok (.invokestatic index, 3)) (hf : cells + mc ≤ R.cells ∧ slots + ms ≤ R.slots) :
    vx_Run p l e R s m args below meth c H locs cells slots mc ms g rest (Qc As.toArray) XC free := by
  have hK : vx_Back l R p e below s args y 3 8 (PreOf R mc ms Pc) (PostOf Qc mc ms free) (vx_Post XC mc ms free) := vx_callBack cw.1 hM hp.1
  obtain ⟨⟨-, -, -, -, -, -, hcode, hini, hy, hlen, hl⟩, hstt⟩ := cw
  obtain ⟨hx, hb, hml, ho, -⟩ := S
  intro T hT X
  rcases vx_callS X hx (bytes := bytes) (maxL := maxL) (ret := ret) ho hl hstt hini hcode hy hK hg (hsize.trans hml.symm) (argsL := As) (rest := rest) (fun sig h => hn.trans (hlen sig h)) hstack hW (by rw [hb]; exact hdg)
    (fun vm₁ hW₁ => ⟨hf.1, hf.2, hp.2 (T.setVm vm₁) hT hW₁⟩) with ⟨v, vm₁, ⟨U', l2, c2, s2⟩, hW₁, X', ⟨g', mk, t, L, e1, e2, hq, h1, hL, h2, h3⟩, st⟩ | ⟨q, vm₁, ⟨U', l2, c2, s2⟩, hW₁, X', ⟨g', mk, t, L, E, ce, e1, e2, hq, hce, hcv, hcl, h1, hL, h2, h3⟩, st⟩
  · dsimp only [Pt.U, Pt.locs, Pt.cells, Pt.slots] at X' e1 e2 h1 h2 h3 st
    subst h1; subst h2; subst h3
    exact Or.inl ⟨v, (T.setVm vm₁).calling g' mk As.toArray, t, U', L, hT, X', hL, e1, e2, hq, st⟩
  · dsimp only [Pt.U, Pt.locs, Pt.cells, Pt.slots] at X' e1 e2 h1 h2 h3 st hcl
    subst h1; subst h2; subst h3
    exact Or.inr ⟨q, (T.setVm vm₁).calling g' mk As.toArray, t, U', L, E, ce, hT, X', hL, e1, e2, hq, hce, hcv, vx_cls hW₁ hcl, st⟩
end Runs
section Rows
variable {p : Program} {l : Launch} {e : Env} {R : Room} {s : State} {m : MethodId} {args : Array Value} {below : List Frame} {meth : Method} {c : Code} {H : Heap} {locs : List Loc} {cells slots : Nat} {Q : State → Prop}
variable {mc ms : Nat} {free : Addr → Prop} {A0 A1 : Nat → Prop} {H0 : Heap} {a : Array Value} {pc : Nat} {ls : Array Slot} {st0 rest : List Value}
theorem vx_keep {st₀ t T' : State} {L : List Loc} (h0 : st₀.heap = H) (e1 : T'.heap = t.heap) (hS : va_S A0 H0 H locs) (hA : ∀ q, q < H.size → A1 q → A0 q) (hf : ∀ q, free q → A0 q) (hL : ∀ q ∈ L, free q.base) (hF : va_F A1 st₀ t) :
    H.size ≤ T'.heap.size ∧ (∀ q : Nat, q < H.size → ¬ A1 q → T'.heap[q]? = H[q]?) ∧ va_S A0 H0 T'.heap (locs ++ L) := by
  obtain ⟨hz, hk⟩ := hF
  rw [h0] at hz hk
  exact ⟨by rw [e1]; exact hz, fun q h1 h2 => by rw [e1]; exact hk q h1 h2,
    ⟨Nat.le_trans hS.1 (by rw [e1]; exact hz), fun q h1 h2 => by rw [e1, hk q (Nat.lt_of_lt_of_le h1 hS.1) (fun z => h2 (hA q (Nat.lt_of_lt_of_le h1 hS.1) z))]; exact hS.2.1 q h1 h2, fun q hq => by
      rcases List.mem_append.mp hq with h | h
      · exact hS.2.2 q h
      · exact hf _ (hL q h)⟩⟩
theorem vx_calli {S SX : Type} {post : Int32 → S → Prop} {px : SX → Prop} {B : S → State → Prop} {BX : String → SX → State → Prop} {AX : Nat → Prop} (hr : vx_Run p l e R s m args below meth c H locs cells slots mc ms (F0 m pc ls st0) rest (va_Qi post B A1 a) (vx_X px BX AX) free) (hS : va_S A0 H0 H locs) (hA : ∀ q, q < H.size → A1 q → A0 q) (hf : ∀ q, free q → A0 q) (hAX : ∀ q, q < H.size → AX q → A0 q)
    (kx : ∀ (E : String) (ce : Cell) (q9 : Addr) (u : SX) (t : State) (H1 : Heap) (locs1 : List Loc), t.heap = H1 → s.vm.Alike t.vm → px u → BX E u t → H.size ≤ H1.size → (∀ q : Nat, q < H.size → ¬ AX q → H1[q]? = H[q]?) → va_S A0 H0 H1 locs1 → H1[q9]? = some ce → ce.vm = .none → s.vm.findClass E = some ce.cls → vx_W p l e R s m args below meth c H1 locs1 (cells + mc) (slots + ms) Q (F0 m pc ls rest) q9)
    (kk : ∀ (r : Int32) (u : S) (t : State) (H1 : Heap) (locs1 : List Loc), t.heap = H1 → s.vm.Alike t.vm → post r u → B u t → H.size ≤ H1.size → (∀ q : Nat, q < H.size → ¬ A1 q → H1[q]? = H[q]?) → va_S A0 H0 H1 locs1 → W p l e R s m args below meth c H1 locs1 (cells + mc) (slots + ms) Q (F0 m (pc + 3) ls (.int r :: rest))) : W p l e R s m args below meth c H locs cells slots Q (F0 m pc ls st0) := by
  intro T hT X
  rcases hr T hT X with ⟨v, st₀, t, T', L, h0, X', hL, e1, e2, ⟨⟨r, u, hv, hp, hb⟩, hF⟩, st⟩ | ⟨q, st₀, t, T', L, E, ce, h0, X', hL, e1, e2, ⟨u, hp, hb, hF⟩, hce, hcv, hcl, st⟩
  · cases hv
    obtain ⟨k1, k2, k3⟩ := vx_keep h0 e1 hS hA hf hL hF
    obtain ⟨t2, a1, b1⟩ := kk r u t T'.heap (locs ++ L) e1.symm (by rw [← e2]; exact X'.warmed.alike) hp hb k1 k2 k3 T' rfl X'
    exact ⟨t2, st t2 a1, b1⟩
  · obtain ⟨k1, k2, k3⟩ := vx_keep h0 e1 hS hAX hf hL hF
    obtain ⟨t2, a1, b1⟩ := kx E ce q u t T'.heap (locs ++ L) e1.symm (by rw [← e2]; exact X'.warmed.alike) hp hb k1 k2 k3 (by rw [e1]; exact hce) hcv hcl T' rfl X'
    exact ⟨t2, st.trans a1, b1⟩
theorem vx_calll {S SX : Type} {post : Int64 → S → Prop} {px : SX → Prop} {B : S → State → Prop} {BX : String → SX → State → Prop} {AX : Nat → Prop} (hr : vx_Run p l e R s m args below meth c H locs cells slots mc ms (F0 m pc ls st0) rest (va_Ql post B A1 a) (vx_X px BX AX) free) (hS : va_S A0 H0 H locs) (hA : ∀ q, q < H.size → A1 q → A0 q) (hf : ∀ q, free q → A0 q) (hAX : ∀ q, q < H.size → AX q → A0 q)
    (kx : ∀ (E : String) (ce : Cell) (q9 : Addr) (u : SX) (t : State) (H1 : Heap) (locs1 : List Loc), t.heap = H1 → s.vm.Alike t.vm → px u → BX E u t → H.size ≤ H1.size → (∀ q : Nat, q < H.size → ¬ AX q → H1[q]? = H[q]?) → va_S A0 H0 H1 locs1 → H1[q9]? = some ce → ce.vm = .none → s.vm.findClass E = some ce.cls → vx_W p l e R s m args below meth c H1 locs1 (cells + mc) (slots + ms) Q (F0 m pc ls rest) q9)
    (kk : ∀ (r : Int64) (u : S) (t : State) (H1 : Heap) (locs1 : List Loc), t.heap = H1 → s.vm.Alike t.vm → post r u → B u t → H.size ≤ H1.size → (∀ q : Nat, q < H.size → ¬ A1 q → H1[q]? = H[q]?) → va_S A0 H0 H1 locs1 → W p l e R s m args below meth c H1 locs1 (cells + mc) (slots + ms) Q (F0 m (pc + 3) ls (.long r :: rest))) : W p l e R s m args below meth c H locs cells slots Q (F0 m pc ls st0) := by
  intro T hT X
  rcases hr T hT X with ⟨v, st₀, t, T', L, h0, X', hL, e1, e2, ⟨⟨r, u, hv, hp, hb⟩, hF⟩, st⟩ | ⟨q, st₀, t, T', L, E, ce, h0, X', hL, e1, e2, ⟨u, hp, hb, hF⟩, hce, hcv, hcl, st⟩
  · cases hv
    obtain ⟨k1, k2, k3⟩ := vx_keep h0 e1 hS hA hf hL hF
    obtain ⟨t2, a1, b1⟩ := kk r u t T'.heap (locs ++ L) e1.symm (by rw [← e2]; exact X'.warmed.alike) hp hb k1 k2 k3 T' rfl X'
    exact ⟨t2, st t2 a1, b1⟩
  · obtain ⟨k1, k2, k3⟩ := vx_keep h0 e1 hS hAX hf hL hF
    obtain ⟨t2, a1, b1⟩ := kx E ce q u t T'.heap (locs ++ L) e1.symm (by rw [← e2]; exact X'.warmed.alike) hp hb k1 k2 k3 (by rw [e1]; exact hce) hcv hcl T' rfl X'
    exact ⟨t2, st.trans a1, b1⟩
theorem vx_callf {S SX : Type} {post : UInt32 → S → Prop} {px : SX → Prop} {B : S → State → Prop} {BX : String → SX → State → Prop} {AX : Nat → Prop} (hr : vx_Run p l e R s m args below meth c H locs cells slots mc ms (F0 m pc ls st0) rest (va_Qf post B A1 a) (vx_X px BX AX) free) (hS : va_S A0 H0 H locs) (hA : ∀ q, q < H.size → A1 q → A0 q) (hf : ∀ q, free q → A0 q) (hAX : ∀ q, q < H.size → AX q → A0 q)
    (kx : ∀ (E : String) (ce : Cell) (q9 : Addr) (u : SX) (t : State) (H1 : Heap) (locs1 : List Loc), t.heap = H1 → s.vm.Alike t.vm → px u → BX E u t → H.size ≤ H1.size → (∀ q : Nat, q < H.size → ¬ AX q → H1[q]? = H[q]?) → va_S A0 H0 H1 locs1 → H1[q9]? = some ce → ce.vm = .none → s.vm.findClass E = some ce.cls → vx_W p l e R s m args below meth c H1 locs1 (cells + mc) (slots + ms) Q (F0 m pc ls rest) q9)
    (kk : ∀ (r : UInt32) (u : S) (t : State) (H1 : Heap) (locs1 : List Loc), t.heap = H1 → s.vm.Alike t.vm → post r u → B u t → H.size ≤ H1.size → (∀ q : Nat, q < H.size → ¬ A1 q → H1[q]? = H[q]?) → va_S A0 H0 H1 locs1 → W p l e R s m args below meth c H1 locs1 (cells + mc) (slots + ms) Q (F0 m (pc + 3) ls (.float r :: rest))) : W p l e R s m args below meth c H locs cells slots Q (F0 m pc ls st0) := by
  intro T hT X
  rcases hr T hT X with ⟨v, st₀, t, T', L, h0, X', hL, e1, e2, ⟨⟨r, u, hv, hp, hb⟩, hF⟩, st⟩ | ⟨q, st₀, t, T', L, E, ce, h0, X', hL, e1, e2, ⟨u, hp, hb, hF⟩, hce, hcv, hcl, st⟩
  · cases hv
    obtain ⟨k1, k2, k3⟩ := vx_keep h0 e1 hS hA hf hL hF
    obtain ⟨t2, a1, b1⟩ := kk r u t T'.heap (locs ++ L) e1.symm (by rw [← e2]; exact X'.warmed.alike) hp hb k1 k2 k3 T' rfl X'
    exact ⟨t2, st t2 a1, b1⟩
  · obtain ⟨k1, k2, k3⟩ := vx_keep h0 e1 hS hAX hf hL hF
    obtain ⟨t2, a1, b1⟩ := kx E ce q u t T'.heap (locs ++ L) e1.symm (by rw [← e2]; exact X'.warmed.alike) hp hb k1 k2 k3 (by rw [e1]; exact hce) hcv hcl T' rfl X'
    exact ⟨t2, st.trans a1, b1⟩
theorem vx_calld {S SX : Type} {post : UInt64 → S → Prop} {px : SX → Prop} {B : S → State → Prop} {BX : String → SX → State → Prop} {AX : Nat → Prop} (hr : vx_Run p l e R s m args below meth c H locs cells slots mc ms (F0 m pc ls st0) rest (va_Qd post B A1 a) (vx_X px BX AX) free) (hS : va_S A0 H0 H locs) (hA : ∀ q, q < H.size → A1 q → A0 q) (hf : ∀ q, free q → A0 q) (hAX : ∀ q, q < H.size → AX q → A0 q)
    (kx : ∀ (E : String) (ce : Cell) (q9 : Addr) (u : SX) (t : State) (H1 : Heap) (locs1 : List Loc), t.heap = H1 → s.vm.Alike t.vm → px u → BX E u t → H.size ≤ H1.size → (∀ q : Nat, q < H.size → ¬ AX q → H1[q]? = H[q]?) → va_S A0 H0 H1 locs1 → H1[q9]? = some ce → ce.vm = .none → s.vm.findClass E = some ce.cls → vx_W p l e R s m args below meth c H1 locs1 (cells + mc) (slots + ms) Q (F0 m pc ls rest) q9)
    (kk : ∀ (r : UInt64) (u : S) (t : State) (H1 : Heap) (locs1 : List Loc), t.heap = H1 → s.vm.Alike t.vm → post r u → B u t → H.size ≤ H1.size → (∀ q : Nat, q < H.size → ¬ A1 q → H1[q]? = H[q]?) → va_S A0 H0 H1 locs1 → W p l e R s m args below meth c H1 locs1 (cells + mc) (slots + ms) Q (F0 m (pc + 3) ls (.double r :: rest))) : W p l e R s m args below meth c H locs cells slots Q (F0 m pc ls st0) := by
  intro T hT X
  rcases hr T hT X with ⟨v, st₀, t, T', L, h0, X', hL, e1, e2, ⟨⟨r, u, hv, hp, hb⟩, hF⟩, st⟩ | ⟨q, st₀, t, T', L, E, ce, h0, X', hL, e1, e2, ⟨u, hp, hb, hF⟩, hce, hcv, hcl, st⟩
  · cases hv
    obtain ⟨k1, k2, k3⟩ := vx_keep h0 e1 hS hA hf hL hF
    obtain ⟨t2, a1, b1⟩ := kk r u t T'.heap (locs ++ L) e1.symm (by rw [← e2]; exact X'.warmed.alike) hp hb k1 k2 k3 T' rfl X'
    exact ⟨t2, st t2 a1, b1⟩
  · obtain ⟨k1, k2, k3⟩ := vx_keep h0 e1 hS hAX hf hL hF
    obtain ⟨t2, a1, b1⟩ := kx E ce q u t T'.heap (locs ++ L) e1.symm (by rw [← e2]; exact X'.warmed.alike) hp hb k1 k2 k3 (by rw [e1]; exact hce) hcv hcl T' rfl X'
    exact ⟨t2, st.trans a1, b1⟩
theorem vx_callv {S SX : Type} {post : S → Prop} {px : SX → Prop} {B : S → State → Prop} {BX : String → SX → State → Prop} {AX : Nat → Prop} (hr : vx_Run p l e R s m args below meth c H locs cells slots mc ms (F0 m pc ls st0) rest (va_Qv post B A1 a) (vx_X px BX AX) free) (hS : va_S A0 H0 H locs) (hA : ∀ q, q < H.size → A1 q → A0 q) (hf : ∀ q, free q → A0 q) (hAX : ∀ q, q < H.size → AX q → A0 q)
    (kx : ∀ (E : String) (ce : Cell) (q9 : Addr) (u : SX) (t : State) (H1 : Heap) (locs1 : List Loc), t.heap = H1 → s.vm.Alike t.vm → px u → BX E u t → H.size ≤ H1.size → (∀ q : Nat, q < H.size → ¬ AX q → H1[q]? = H[q]?) → va_S A0 H0 H1 locs1 → H1[q9]? = some ce → ce.vm = .none → s.vm.findClass E = some ce.cls → vx_W p l e R s m args below meth c H1 locs1 (cells + mc) (slots + ms) Q (F0 m pc ls rest) q9)
    (kk : ∀ (u : S) (t : State) (H1 : Heap) (locs1 : List Loc), t.heap = H1 → s.vm.Alike t.vm → post u → B u t → H.size ≤ H1.size → (∀ q : Nat, q < H.size → ¬ A1 q → H1[q]? = H[q]?) → va_S A0 H0 H1 locs1 → W p l e R s m args below meth c H1 locs1 (cells + mc) (slots + ms) Q (F0 m (pc + 3) ls (rest))) : W p l e R s m args below meth c H locs cells slots Q (F0 m pc ls st0) := by
  intro T hT X
  rcases hr T hT X with ⟨v, st₀, t, T', L, h0, X', hL, e1, e2, ⟨⟨u, hv, hp, hb⟩, hF⟩, st⟩ | ⟨q, st₀, t, T', L, E, ce, h0, X', hL, e1, e2, ⟨u, hp, hb, hF⟩, hce, hcv, hcl, st⟩
  · cases hv
    obtain ⟨k1, k2, k3⟩ := vx_keep h0 e1 hS hA hf hL hF
    obtain ⟨t2, a1, b1⟩ := kk u t T'.heap (locs ++ L) e1.symm (by rw [← e2]; exact X'.warmed.alike) hp hb k1 k2 k3 T' rfl X'
    exact ⟨t2, st t2 a1, b1⟩
  · obtain ⟨k1, k2, k3⟩ := vx_keep h0 e1 hS hAX hf hL hF
    obtain ⟨t2, a1, b1⟩ := kx E ce q u t T'.heap (locs ++ L) e1.symm (by rw [← e2]; exact X'.warmed.alike) hp hb k1 k2 k3 (by rw [e1]; exact hce) hcv hcl T' rfl X'
    exact ⟨t2, st.trans a1, b1⟩
theorem vx_catch {own name : String} {E : String} {ce : Cell} {q : Addr} (hown : s.vm.findClass own = some m.cls) (pre : List ExceptionTableEntry) (x : ExceptionTableEntry) (suf : List ExceptionTableEntry) (hsplit : c.exceptionTable.toList = pre ++ x :: suf)
    (hpass : ∀ z ∈ pre, covers z pc = false ∨ (z.catchType ≠ 0 ∧ ∃ nm : String, (Cond.classLink own z.catchType nm).before args s = true ∧ va_Nc E nm s)) (hx : covers x pc = true) (h0 : x.catchType ≠ 0)
    (hlink : (Cond.classLink own x.catchType name).before args s = true) (hcast : (Cond.castable E name).before args s = true) (hcell : H[q]? = some ce) (hv : ce.vm = .none) (hcl : s.vm.findClass E = some ce.cls)
    (kk : W p l e R s m args below meth c H locs cells slots Q (F0 m x.handlerPc ls [.ref q])) : vx_W p l e R s m args below meth c H locs cells slots Q (F0 m pc ls rest) q := by
  intro T hT X
  have hpl : e.platform.magicAccessors = ({} : Platform).magicAccessors := by rw [X.admits.platform]
  obtain ⟨c3, c4, hc3, hc4, hasg⟩ := Cond.castable_spec hcast
  cases Option.some.inj (hc3.symm.trans hcl)
  obtain ⟨c5, hc5, hcl5⟩ := Cond.classLink_spec hown hlink e.platform hpl
  cases Option.some.inj (hc4.symm.trans hc5)
  obtain ⟨vm', X', st⟩ := X.thenCaughtThrough q (g := F0 m pc ls rest) rfl (Steps.refl _) (by rw [hT]; exact hcell) (by rw [hv]; rfl) (by obtain ⟨k9, h9, -⟩ := Vm.findClass_spec hcl; exact ⟨k9, h9⟩) pre x suf hsplit
    (fun z hz => by
      rcases hpass z hz with h | ⟨hz0, nm, hl1, hn1⟩
      · exact Or.inl h
      · obtain ⟨c6, hc6, hcl6⟩ := Cond.classLink_spec hown hl1 e.platform hpl
        obtain ⟨a8, b8, h1, h2, h3⟩ := hn1
        cases Option.some.inj (h1.symm.trans hcl)
        cases Option.some.inj (h2.symm.trans hc6)
        exact Or.inr ⟨hz0, _, hcl6, h3⟩) hx (Or.inr ⟨h0, c4, hcl5, hasg⟩)
  obtain ⟨t, a1, b1⟩ := kk (T.setVm vm') hT X'
  exact ⟨t, st.trans a1, b1⟩
end Rows
section Ends
variable {p : Program} {l : Launch} {e : Env} {R : Room} {s : State} {m : MethodId} {args : Array Value} {below : List Frame} {meth : Method} {c : Code} {H : Heap} {locs : List Loc} {cells slots : Nat} {Q : State → Prop}
variable {mc ms : Nat} {free : Addr → Prop} {A0 A1 : Nat → Prop} {H0 : Heap} {a : Array Value} {ls : Array Slot} {st0 rest : List Value}
variable {Qc : Array Value → State → Outcome → State → Prop} {XC : String → State → State → Prop}
def vx_MQ (below : List Frame) (Qc : Array Value → State → Outcome → State → Prop) (XC : String → State → State → Prop) (a : Array Value) (s : State) (mc ms : Nat) (free : Addr → Prop) : State → Prop := fun t =>
  ∃ o, t.status = .running ∧ Ended t below o ∧ vx_Q Qc XC mc ms free a s o t
theorem vx_ret {g : JFrame} {mc ms : Nat} (k : W p l e R s m args below meth c H locs cells slots (MQ below Qc args s mc ms free) g) : W p l e R s m args below meth c H locs cells slots (vx_MQ below Qc XC args s mc ms free) g := by
  intro T hT X
  obtain ⟨t, a1, o, b1, b2, b3, b4⟩ := k T hT X
  exact ⟨t, a1, o, b1, b2, Or.inl ⟨b3, b4⟩⟩
theorem vx_widen {g : JFrame} {q : Addr} {k n : Nat} (h1 : cells ≤ k) (h2 : slots ≤ n) (kk : vx_W p l e R s m args below meth c H locs k n Q g q) : vx_W p l e R s m args below meth c H locs cells slots Q g q := fun T hT X => kk T hT (stand_widen X h1 h2)
theorem vx_out {pc : Nat} {E : String} {ce : Cell} {q : Addr} {mc ms : Nat} (hout : ∀ x ∈ c.exceptionTable.toList, covers x pc = false) (hlocks : meth.locks = false) (hcell : H[q]? = some ce) (hv : ce.vm = .none) (hcl : s.vm.findClass E = some ce.cls)
    (hx : ∀ t : State, t.heap = H → s.vm.Alike t.vm → XC E s t) (hf : ∀ z ∈ locs, free z.base) (hc : cells ≤ mc) (hs : slots ≤ ms) :
    vx_W p l e R s m args below meth c H locs cells slots (vx_MQ below Qc XC args s mc ms free) (F0 m pc ls rest) q := by
  intro T hT X
  obtain ⟨st1, hrun, hend, hW, hsm⟩ := X.leaveThrown q (g := F0 m pc ls rest) rfl rfl rfl hout hlocks
  have hcell9 : (T.setFrames (.throwing q :: below)).heap[q]? = some ce := by
    show T.heap[q]? = some ce
    rw [hT]; exact hcell
  exact ⟨_, st1, .threw q, hrun, hend, Or.inr ⟨q, rfl, E, ce, locs, hx _ hT hW.alike, hcell9, hv, hcl, hW, hsm.mono hc hs, hf⟩⟩
theorem vx_frame {U : State} {k n : Nat} (h : s.sameButNew ({ U with vm := s.vm } : State) locs k n) : s.heap.size ≤ U.heap.size ∧ ∀ q : Nat, q < s.heap.size → (∀ z ∈ locs, z.base ≠ q) → U.heap[q]? = s.heap[q]? := by
  obtain ⟨-, h2, -, -, -, h6⟩ := h
  refine ⟨h2, fun q hq hz => ?_⟩
  obtain ⟨c9, e1, e2, e3, e4⟩ := h6 q _ (Array.getElem?_eq_getElem hq)
  have hs : c9.slots = (s.heap[q]).slots := Array.ext_getElem? fun i => e4 i fun hm => hz _ hm rfl
  have h9 : c9 = s.heap[q] := by
    rw [hs] at e2
    exact e2
  have e5 : U.heap[q]? = some c9 := e1
  rw [e5, h9, Array.getElem?_eq_getElem hq]
def vx_no (w : Cond) : Bool := decide (w ≠ .isRef (.static Bundle.tN "UNASSIGNED_STACK" Bundle.steD)) && decide (w ≠ .isRef (.static Bundle.tN "SUPPRESSED_SENTINEL" Bundle.listD)) && decide (w ≠ .laysStatic Bundle.tN "UNASSIGNED_STACK" Bundle.steD) && decide (w ≠ .laysStatic Bundle.tN "SUPPRESSED_SENTINEL" Bundle.listD)
def vx_at0 (own : String) (ic : Nat) (X : String) (names : List String) : List Cond := (Bundle.ownAtoms0 own ic X names).filter vx_no
def vx_atS (own : String) (ic : Nat) (X : String) (names : List String) : List Cond := (Bundle.ownAtoms own ic X names).filter vx_no
def vx_ot (w : Cond) : Bool := w.onTables || goodWord w
theorem vx_ot_at {args a' : Array Value} {s U : State} {w : Cond} (hW : s.WarmedH U.vm) (hvm : s.vm = U.vm) (hg : vx_ot w = true) (h : w.before args s = true) : w.before a' U = true := by
  simp only [vx_ot, Bool.or_eq_true] at hg
  rcases hg with hg | hg
  · exact va_tabs hg hvm h
  · exact word_at hW (good_of_word hg) h
theorem vx_hat {args : Array Value} {s : State} {L B : List Cond} (h1 : ∀ w ∈ L.filter goodWord, w.before args s = true) (h2 : ∀ w ∈ L.filter (fun w => !goodWord w), w ∈ B) (h3 : ∀ w ∈ B, w.before args s = true) : ∀ w ∈ L, w.before args s = true := by
  intro w hw
  by_cases g : goodWord w = true
  · exact h1 w (List.mem_filter.mpr ⟨hw, g⟩)
  · refine h3 w (h2 w (List.mem_filter.mpr ⟨hw, ?_⟩))
    show (!goodWord w) = true
    cases hgw : goodWord w
    · rfl
    · exact absurd hgw g
theorem vx_c {args : Array Value} {s : State} {w : Cond} {B : List Cond} (h : w.before args s = true) (t : ∀ w ∈ B, w.before args s = true) : ∀ w' ∈ w :: B, w'.before args s = true := fun w' h' => (List.mem_cons.mp h').elim (fun e => by rw [e]; exact h) (t w')
theorem vx_n {args : Array Value} {s : State} : ∀ w ∈ ([] : List Cond), w.before args s = true := fun _ h => nomatch h
theorem vx_own {args : Array Value} {s : State} {L : List Cond} (h1 : ∀ w ∈ L.filter vx_no, w.before args s = true)
    (hU : (Cond.isRef (.static Bundle.tN "UNASSIGNED_STACK" Bundle.steD)).before args s = true) (hN : (Cond.isRef (.static Bundle.tN "SUPPRESSED_SENTINEL" Bundle.listD)).before args s = true)
    (lU : (Cond.laysStatic Bundle.tN "UNASSIGNED_STACK" Bundle.steD).before args s = true) (lN : (Cond.laysStatic Bundle.tN "SUPPRESSED_SENTINEL" Bundle.listD).before args s = true) : ∀ w ∈ L, w.before args s = true := by
  intro w hw
  by_cases e1 : w = .isRef (.static Bundle.tN "UNASSIGNED_STACK" Bundle.steD)
  · rw [e1]; exact hU
  · by_cases e2 : w = .isRef (.static Bundle.tN "SUPPRESSED_SENTINEL" Bundle.listD)
    · rw [e2]; exact hN
    · by_cases e3 : w = .laysStatic Bundle.tN "UNASSIGNED_STACK" Bundle.steD
      · rw [e3]; exact lU
      · by_cases e4 : w = .laysStatic Bundle.tN "SUPPRESSED_SENTINEL" Bundle.listD
        · rw [e4]; exact lN
        · exact h1 w (List.mem_filter.mpr ⟨hw, by unfold vx_no; rw [decide_eq_true e1, decide_eq_true e2, decide_eq_true e3, decide_eq_true e4]; rfl⟩)
def vx_L (C n d : String) (A : Nat → Prop) (U : State) (H : Heap) : Prop := ∃ (c : ClassId) (k : Class) (i : Nat) (f : Field) (a : Nat) (cell : Cell), U.vm.findClass C = some c ∧ U.fieldFound? C n d = some (c, k, i, f) ∧ f.isStatic = true ∧ k.statics = some a ∧ H[a]? = some cell ∧ cell.vm.isStatics = true ∧ cell.cls = c ∧ f.slot < cell.slots.size ∧ k.staticTypes[f.slot]? = some f.type ∧ ¬ A a
theorem vx_L.moved {C n d : String} {A : Nat → Prop} {u U : State} {H : Heap} (hvm : u.vm.Alike U.vm) (h : vx_L C n d A u H) : vx_L C n d A U H := by
  obtain ⟨c, k, i, f, a, cell, h1, h2, h3, h4, h5, h6, h7, h8, h9, h10⟩ := h
  obtain ⟨k', hi', he⟩ := State.fieldFound?_setVm hvm h2
  exact ⟨c, k', i, f, a, cell, by rw [hvm.findClass]; exact h1, hi', h3, by rw [he]; exact h4, h5, h6, h7, h8, by rw [he]; exact h9, h10⟩
theorem vx_L.kept {C n d : String} {A : Nat → Prop} {U : State} {H H1 : Heap} (h : vx_L C n d A U H) (hq : ∀ a : Nat, a < H.size → ¬ A a → H1[a]? = H[a]?) : vx_L C n d A U H1 := by
  obtain ⟨c, k, i, f, a, cell, h1, h2, h3, h4, h5, h6, h7, h8, h9, h10⟩ := h
  exact ⟨c, k, i, f, a, cell, h1, h2, h3, h4, by rw [hq a (Array.getElem?_eq_some_iff.mp h5).1 h10]; exact h5, h6, h7, h8, h9, h10⟩
theorem vx_L.narrow {C n d : String} {A B : Nat → Prop} {U : State} {H : Heap} (h : vx_L C n d A U H) (hAB : ∀ q, B q → A q) : vx_L C n d B U H := by
  obtain ⟨c, k, i, f, a, cell, h1, h2, h3, h4, h5, h6, h7, h8, h9, h10⟩ := h
  exact ⟨c, k, i, f, a, cell, h1, h2, h3, h4, h5, h6, h7, h8, h9, fun z => h10 (hAB _ z)⟩
theorem vx_L.word {C n d : String} {A : Nat → Prop} {s : State} {args : Array Value} (h : vx_L C n d A s s.heap) : (Cond.laysStatic C n d).before args s = true := by
  obtain ⟨c, k, i, f, a, cell, h1, h2, h3, h4, h5, h6, h7, h8, h9, -⟩ := h
  show (Cond.laysStatic C n d).holds args s none s [] = true
  exact Cond.laysStatic_of h1 h2 h3 h4 h5 h6 h7 h8 h9
def vx_Zq (C n d : String) (A : Nat → Prop) (U : State) (H : Heap) : Prop := va_Zq C n d A U H ∧ vx_L C n d A U H
theorem vx_Zq.moved {C n d : String} {A : Nat → Prop} {u U : State} {H : Heap} (hvm : u.vm.Alike U.vm) (h : vx_Zq C n d A u H) : vx_Zq C n d A U H := ⟨va_Zq.moved hvm h.1, vx_L.moved hvm h.2⟩
theorem vx_Zq.kept {C n d : String} {A : Nat → Prop} {U : State} {H H1 : Heap} (h : vx_Zq C n d A U H) (hq : ∀ a : Nat, a < H.size → ¬ A a → H1[a]? = H[a]?) : vx_Zq C n d A U H1 := ⟨va_Zq.kept h.1 hq, vx_L.kept h.2 hq⟩
theorem vx_Zq.narrow {C n d : String} {A B : Nat → Prop} {U : State} {H : Heap} (h : vx_Zq C n d A U H) (hAB : ∀ q, B q → A q) : vx_Zq C n d B U H := ⟨va_Zq.narrow h.1 hAB, vx_L.narrow h.2 hAB⟩
theorem vx_Zqof {args : Array Value} {s : State} {C n d : String} {A : Nat → Prop} (hl : (Cond.laysStatic C n d).before args s = true) (hini : (Cond.initialized C).before args s = true) (h : (Cond.isRef (.static C n d)).before args s = true) (hA : ∀ a : Nat, a < s.heap.size → ¬ A a) : vx_Zq C n d A s s.heap := by
  refine ⟨va_Zqof hl hini h hA, ?_⟩
  obtain ⟨c, k, i, f, a, cell, h1, h2, h3, h4, h5, h6, h7, h8, h9⟩ := Cond.laysStatic_spec hl
  exact ⟨c, k, i, f, a, cell, h1, h2, h3, h4, h5, h6, h7, h8, h9, hA a (Array.getElem?_eq_some_iff.mp h5).1⟩
theorem vx_isRef {C n d : String} {v : Value} {A : Nat → Prop} {s : State} {args : Array Value} (h : va_Z C n d v A s s.heap) (hv : v.isRef = true) : (Cond.isRef (.static C n d)).before args s = true := by
  obtain ⟨cf, kf, fi, f, a, cell, h1, h2, h3, h4, h5, h6, h7, -⟩ := h
  have he : (Term.static C n d).eval args s none [] s = some v := by
    simp [Term.eval, State.fieldNamed?, h1, h2, h4, h5, h6, h7]
  simp only [Cond.before, Cond.holds, Cond.value, he]
  cases v <;> simp_all [Value.isRef]
theorem vx_isRefq {C n d : String} {A : Nat → Prop} {s : State} {args : Array Value} (h : va_Zq C n d A s s.heap) : (Cond.isRef (.static C n d)).before args s = true := by
  rcases h with h | ⟨t, h⟩
  · exact vx_isRef h rfl
  · exact vx_isRef h rfl
theorem vx_rebase {T : State} (X : Stand p l e R s m args below meth c T locs cells slots) {R' : Room} (hf : R'.frames ≤ R.frames) (hl : R'.locals ≤ R.locals) (hc : cells + R'.cells ≤ R.cells) (hs : slots + R'.slots ≤ R.slots) :
    Stand p l e R' ((T.setVm s.vm).setFrames (.invoking m args :: below)) m args below meth c T [] 0 0 := by
  have htop : (T.setVm s.vm).topJava?.isSome := X.here.top
  have hF : ((T.setVm s.vm).setFrames (.invoking m args :: below)).frames = .invoking m args :: below := State.frames_setFrames _ (State.cur_lt_of_top htop)
  obtain ⟨g₀, hg0⟩ := Option.isSome_iff_exists.mp htop
  obtain ⟨r, hr⟩ := State.topJava?_eq_some.mp hg0
  have hl9 : e.platform.stackLimits (T.setVm s.vm).me = e.platform.stackLimits s.me := X.limits
  have hb9 : (T.setVm s.vm).me.stackBytes = s.me.stackBytes := X.bytes
  refine ⟨X.admits, X.cas, X.clock, hF, ?_, X.hears, X.method, X.code, X.here, X.tail, X.warmed, ?_, ?_, ?_⟩
  · have h := X.room
    have hU : ((T.setVm s.vm).setFrames (.invoking m args :: below)).localsInUse = s.localsInUse := by
      rw [State.localsInUse_invoking hF (meth := meth) (c := c) X.method X.code, State.localsInUse_invoking X.frames X.method X.code]
    simp only [State.hasRoom, Bool.and_eq_true, decide_eq_true_eq] at h ⊢
    obtain ⟨⟨⟨⟨h1, h2, h3, h4, h5, h6⟩, h7⟩, h8⟩, h9⟩ := h
    rw [X.frames, List.length_cons] at h2 h3
    have q1 := X.heapSize
    have q2 := X.used
    simp only [hF, hU, List.length_cons, State.stackLimits_setFrames, State.stackBytes_setFrames, hl9, hb9]
    refine ⟨⟨⟨⟨by omega, by omega, by omega, by omega, by omega, h6⟩, ?_⟩, ?_⟩, X.book⟩
    · show T.heap.size + R'.cells ≤ e.platform.maxCells
      omega
    · show T.slotsUsed + R'.slots ≤ e.platform.maxSlots
      omega
  · rw [State.stackLimits_setFrames]; rfl
  · rw [State.stackBytes_setFrames]; rfl
  · refine ⟨?_, Nat.le_refl _, Nat.le_refl _, ?_, ?_, fun a c9 h9 => ⟨c9, h9, rfl, rfl, fun _ _ => rfl⟩⟩
    · obtain ⟨t, ht, -⟩ := State.frames_cons hr
      show T.setVm s.vm = { ((T.setVm s.vm).setFrames (.invoking m args :: below)).setFrames (T.setVm s.vm).frames with heap := T.heap, slotsUsed := T.slotsUsed }
      rw [State.setFrames_setFrames, State.setFrames_self ht]
      rfl
    · show T.slotsUsed = T.slotsUsed + ((T.heap.toList.drop T.heap.size).map (·.slots.size)).sum
      rw [List.drop_eq_nil_of_le (Nat.le_of_eq Array.length_toList)]
      rfl
    · show ((T.heap.toList.drop T.heap.size).map (·.slots.size)).sum ≤ 0
      rw [List.drop_eq_nil_of_le (Nat.le_of_eq Array.length_toList)]
      exact Nat.le_refl _
theorem vx_throw0 {cc : ByteArray} {pc : Nat} (hexec : p.tables.exec = Jvm.exec) (hb : c.code = cc) (hl : l.stackTraces = false) {own cls : String} {names : List String} {ik ic mc ms : Nat} {A : Nat → Prop}
    (hown : s.vm.findClass own = some m.cls) (hcls : Bundle.fit cls = true) (hnames : ∀ n ∈ names, Bundle.fit n = true)
    (hk : (Cond.classLink own ik cls).before args s = true) (hini : (Cond.initialized cls).before args s = true) (hat : ∀ w ∈ vx_at0 own ic cls names, w.before args s = true)
    (hgood : ∀ w ∈ Cond.classLink own ik cls :: Cond.initialized cls :: vx_at0 own ic cls names, vx_ot w = true)
    (hU : vx_Zq Bundle.tN "UNASSIGNED_STACK" Bundle.steD A s s.heap) (hN : vx_Zq Bundle.tN "SUPPRESSED_SENTINEL" Bundle.listD A s s.heap) (hS : va_S A s.heap H locs) (hsize : ls.size = c.maxLocals)
    (d0 : decode cc pc = .ok (.new ik, 3)) (d3 : decode cc (pc + 3) = .ok (.dup, 1)) (d4 : decode cc (pc + 4) = .ok (.invokespecial ic, 3)) (d7 : decode cc (pc + 7) = .ok (.athrow, 1))
    (hout : ∀ x ∈ c.exceptionTable.toList, covers x (pc + 7) = false)
    (hRframes : names.length + 3 < R.frames) (hRlocals : (rest.map fun v => v.category).sum + (13 * (names.length + 1) + 42) ≤ R.locals) (hRcells : cells + 1 ≤ R.cells) (hRslots : slots + 6 ≤ R.slots) (hlocks : meth.locks = false)
    (hx : ∀ t : State, s.vm.Alike t.vm → H.size ≤ t.heap.size → (∀ q : Nat, q < H.size → t.heap[q]? = H[q]?) → XC cls s t)
    (hf : ∀ z ∈ locs, free z.base) (hc : cells + 1 ≤ mc) (hs : slots + 6 ≤ ms) :
    W p l e R s m args below meth c H locs cells slots (vx_MQ below Qc XC args s mc ms free) (F0 m pc ls rest) := by
  intro T hT X
  have htr : e.platform.stackTraces = false := (show e.platform.stackTraces = l.stackTraces by rw [X.admits.platform]).trans hl
  have Y := vx_rebase X (R' := { frames := R.frames, locals := R.locals, cells := 1, slots := 6 }) (Nat.le_refl _) (Nat.le_refl _) hRcells hRslots
  obtain ⟨s', hA⟩ : ∃ z, z = (T.setVm s.vm).setFrames (.invoking m args :: below) := ⟨_, rfl⟩
  rw [← hA] at Y
  have hvm : s'.vm = s.vm := by rw [hA]; rfl
  have hhp : s'.heap = H := by rw [hA]; exact hT
  have hW0 : s.WarmedH s'.vm := by rw [hvm]; exact State.WarmedH.refl s
  have hat' : ∀ w ∈ vx_at0 own ic cls names, w.before args s' = true := fun w hw => vx_ot_at hW0 hvm.symm (hgood w (List.mem_cons_of_mem _ (List.mem_cons_of_mem _ hw))) (hat w hw)
  have hk' : (Cond.classLink own ik cls).before args s' = true := vx_ot_at hW0 hvm.symm (hgood _ List.mem_cons_self) hk
  have hini' : (Cond.initialized cls).before args s' = true := vx_ot_at hW0 hvm.symm (hgood _ (List.mem_cons_of_mem _ List.mem_cons_self)) hini
  have hU' : vx_Zq Bundle.tN "UNASSIGNED_STACK" Bundle.steD A s' s'.heap := by rw [hhp]; exact vx_Zq.moved hW0.alike (hU.kept hS.2.1)
  have hN' : vx_Zq Bundle.tN "SUPPRESSED_SENTINEL" Bundle.listD A s' s'.heap := by rw [hhp]; exact vx_Zq.moved hW0.alike (hN.kept hS.2.1)
  have h : ∀ w ∈ Bundle.ownAtoms0 own ic cls names, w.before args s' = true := vx_own hat' (vx_isRefq hU'.1) (vx_isRefq hN'.1) hU'.2.word hN'.2.word
  have hown' : s'.vm.findClass own = some m.cls := by rw [hvm]; exact hown
  have hins : (Cond.instantiable cls 6).before args s' = true := h _ (by simp [Bundle.ownAtoms0])
  obtain ⟨vm₁, cX, kX, hfX, hkX, -, -, X₁, st1⟩ := Y.newCold hexec (own := own) (C := cls) (index := ik) (n := 6) hown' hk' hins hini'
    (g := F0 m pc ls rest) rfl (by rw [hb]; exact d0) (Nat.le_refl _) (Nat.le_refl _)
  generalize hT1 : (T.setVm vm₁).pushCell { cls := cX, slots := kX.instanceTypes.map defaultValue, vm := .none } = T1 at X₁ st1
  have hcat : (Value.ref T.heap.size).category = 1 := rfl
  have hcellA : T1.heap[T.heap.size]? = some (freshCell cX kX) := by rw [← hT1]; exact State.heap_pushCell_size _ _
  have d3' : decode c.code (pc + 3) = .ok (.dup, 1) := by rw [hb]; exact d3
  obtain ⟨U, hsteps, hrun, hend, hW, hsame, ce, hce, hO⟩ := X₁.ctorThrow0 hexec htr (own := own) (cls := cls) (names := names) (ic := ic) hown' hcls hnames h (fun x hx => nomatch hx) hfX hkX hcellA (by rw [hhp, hT]; exact Nat.le_refl _)
    (g := { method := m, pc := pc + 4, locals := ls, stack := .ref T.heap.size :: .ref T.heap.size :: rest, locked := none }) rfl hsize rfl rfl (rest := rest) rfl
    (by rw [hb]; exact d4) (by rw [hb]; exact d7) hout hRframes (by simp only [List.map_cons, List.sum_cons, hcat]; omega) hlocks
  obtain ⟨f1, f2⟩ := vx_frame hsame
  rw [hhp] at f1 f2
  have hWs : s.WarmedH U.vm := State.WarmedH.trans hW0 hW
  have hcl : s.vm.findClass cls = some ce.cls := by
    have h9 := hO.cls
    rw [hvm] at h9
    exact h9
  have hall : s.sameButNew ({ U with vm := s.vm } : State) locs mc ms := by
    subst hA
    obtain ⟨e1, e2⟩ := hsame
    rw [State.setFrames_setFrames] at e1
    have h2 : (T.setVm s.vm).sameButNew ({ U with vm := s.vm } : State) [] (0 + 1) (0 + 6) := ⟨e1, e2⟩
    have h3 := X.same.trans h2
    rw [List.append_nil] at h3
    exact h3.mono hc hs
  refine ⟨U, ?_, .threw T.heap.size, hrun, hend, Or.inr ⟨T.heap.size, rfl, cls, ce, locs, hx U hWs.alike f1 (fun q hq => f2 q hq (fun z hz => nomatch hz)), hce, hO.vm, hcl, hWs, hall, hf⟩⟩
  refine st1 _ ?_
  show Steps p.tables e below (T1.setTop { method := m, pc := pc + 3, locals := ls, stack := .ref T.heap.size :: rest, locked := none }) _
  jvm_step X₁.here [X₁.here.top, hexec, d3', Value.category]
  exact hsteps
theorem vx_throwS {cc : ByteArray} {pc : Nat} (hexec : p.tables.exec = Jvm.exec) (hb : c.code = cc) (hl : l.stackTraces = false) {own cls text : String} {names : List String} {ik is ic mc ms sa : Nat} {A : Nat → Prop}
    (hown : s.vm.findClass own = some m.cls) (hcls : Bundle.fit cls = true) (hnames : ∀ n ∈ names, Bundle.fit n = true)
    (hk : (Cond.classLink own ik cls).before args s = true) (hini : (Cond.initialized cls).before args s = true) (hstr : vk_R own is text sa s) (hat : ∀ w ∈ vx_atS own ic cls names, w.before args s = true)
    (hgood : ∀ w ∈ Cond.classLink own ik cls :: Cond.initialized cls :: vx_atS own ic cls names, vx_ot w = true)
    (hU : vx_Zq Bundle.tN "UNASSIGNED_STACK" Bundle.steD A s s.heap) (hN : vx_Zq Bundle.tN "SUPPRESSED_SENTINEL" Bundle.listD A s s.heap) (hS : va_S A s.heap H locs) (hsize : ls.size = c.maxLocals)
    (d0 : decode cc pc = .ok (.new ik, 3)) (d3 : decode cc (pc + 3) = .ok (.dup, 1)) (d4 : decode cc (pc + 4) = .ok (.ldc is, 2)) (d6 : decode cc (pc + 6) = .ok (.invokespecial ic, 3)) (d9 : decode cc (pc + 9) = .ok (.athrow, 1))
    (hout : ∀ x ∈ c.exceptionTable.toList, covers x (pc + 9) = false)
    (hRframes : names.length + 3 < R.frames) (hRlocals : (rest.map fun v => v.category).sum + (13 * (names.length + 1) + 43) ≤ R.locals) (hRcells : cells + 1 ≤ R.cells) (hRslots : slots + 6 ≤ R.slots) (hlocks : meth.locks = false)
    (hx : ∀ t : State, s.vm.Alike t.vm → H.size ≤ t.heap.size → (∀ q : Nat, q < H.size → t.heap[q]? = H[q]?) → XC cls s t)
    (hf : ∀ z ∈ locs, free z.base) (hc : cells + 1 ≤ mc) (hs : slots + 6 ≤ ms) :
    W p l e R s m args below meth c H locs cells slots (vx_MQ below Qc XC args s mc ms free) (F0 m pc ls rest) := by
  intro T hT X
  have htr : e.platform.stackTraces = false := (show e.platform.stackTraces = l.stackTraces by rw [X.admits.platform]).trans hl
  have Y := vx_rebase X (R' := { frames := R.frames, locals := R.locals, cells := 1, slots := 6 }) (Nat.le_refl _) (Nat.le_refl _) hRcells hRslots
  obtain ⟨s', hA⟩ : ∃ z, z = (T.setVm s.vm).setFrames (.invoking m args :: below) := ⟨_, rfl⟩
  rw [← hA] at Y
  have hvm : s'.vm = s.vm := by rw [hA]; rfl
  have hhp : s'.heap = H := by rw [hA]; exact hT
  have hW0 : s.WarmedH s'.vm := by rw [hvm]; exact State.WarmedH.refl s
  have hat' : ∀ w ∈ vx_atS own ic cls names, w.before args s' = true := fun w hw => vx_ot_at hW0 hvm.symm (hgood w (List.mem_cons_of_mem _ (List.mem_cons_of_mem _ hw))) (hat w hw)
  have hk' : (Cond.classLink own ik cls).before args s' = true := vx_ot_at hW0 hvm.symm (hgood _ List.mem_cons_self) hk
  have hini' : (Cond.initialized cls).before args s' = true := vx_ot_at hW0 hvm.symm (hgood _ (List.mem_cons_of_mem _ List.mem_cons_self)) hini
  have hU' : vx_Zq Bundle.tN "UNASSIGNED_STACK" Bundle.steD A s' s'.heap := by rw [hhp]; exact vx_Zq.moved hW0.alike (hU.kept hS.2.1)
  have hN' : vx_Zq Bundle.tN "SUPPRESSED_SENTINEL" Bundle.listD A s' s'.heap := by rw [hhp]; exact vx_Zq.moved hW0.alike (hN.kept hS.2.1)
  have h : ∀ w ∈ Bundle.ownAtoms own ic cls names, w.before args s' = true := vx_own hat' (vx_isRefq hU'.1) (vx_isRefq hN'.1) hU'.2.word hN'.2.word
  have hown' : s'.vm.findClass own = some m.cls := by rw [hvm]; exact hown
  have hins : (Cond.instantiable cls 6).before args s' = true := h _ (by simp [Bundle.ownAtoms])
  obtain ⟨vm₁, cX, kX, hfX, hkX, -, -, X₁, st1⟩ := Y.newCold hexec (own := own) (C := cls) (index := ik) (n := 6) hown' hk' hins hini'
    (g := F0 m pc ls rest) rfl (by rw [hb]; exact d0) (Nat.le_refl _) (Nat.le_refl _)
  generalize hT1 : (T.setVm vm₁).pushCell { cls := cX, slots := kX.instanceTypes.map defaultValue, vm := .none } = T1 at X₁ st1
  have hcat : (Value.ref T.heap.size).category = 1 := rfl
  have hcellA : T1.heap[T.heap.size]? = some (freshCell cX kX) := by rw [← hT1]; exact State.heap_pushCell_size _ _
  have d3' : decode c.code (pc + 3) = .ok (.dup, 1) := by rw [hb]; exact d3
  have d4' : decode c.code (pc + 4) = .ok (.ldc is, 2) := by rw [hb]; exact d4
  have hstr' : vk_R own is text sa s' := vk_R.warm hW0 hstr
  obtain ⟨U, hsteps, hrun, hend, hW, hsame, ce, hce, hO⟩ := X₁.ctorThrowS hexec htr (own := own) (cls := cls) (names := names) (ic := ic) hown' hcls hnames h (fun x hx => nomatch hx) hfX hkX hcellA (by rw [hhp, hT]; exact Nat.le_refl _) (msg := .ref sa) rfl
    (g := { method := m, pc := pc + 6, locals := ls, stack := .ref sa :: .ref T.heap.size :: .ref T.heap.size :: rest, locked := none }) rfl hsize rfl rfl (rest := rest) rfl
    (by rw [hb]; exact d6) (by rw [hb]; exact d9) hout hRframes (by simp only [List.map_cons, List.sum_cons, hcat]; omega) hlocks
  obtain ⟨f1, f2⟩ := vx_frame hsame
  rw [hhp] at f1 f2
  have hWs : s.WarmedH U.vm := State.WarmedH.trans hW0 hW
  have hcl : s.vm.findClass cls = some ce.cls := by
    have h9 := hO.cls
    rw [hvm] at h9
    exact h9
  have hall : s.sameButNew ({ U with vm := s.vm } : State) locs mc ms := by
    subst hA
    obtain ⟨e1, e2⟩ := hsame
    rw [State.setFrames_setFrames] at e1
    have h2 : (T.setVm s.vm).sameButNew ({ U with vm := s.vm } : State) [] (0 + 1) (0 + 6) := ⟨e1, e2⟩
    have h3 := X.same.trans h2
    rw [List.append_nil] at h3
    exact h3.mono hc hs
  refine ⟨U, ?_, .threw T.heap.size, hrun, hend, Or.inr ⟨T.heap.size, rfl, cls, ce, locs, hx U hWs.alike f1 (fun q hq => f2 q hq (fun z hz => nomatch hz)), hce, hO.vm, hcl, hWs, hall, hf⟩⟩
  refine st1 _ ?_
  show Steps p.tables e below (T1.setTop { method := m, pc := pc + 3, locals := ls, stack := .ref T.heap.size :: rest, locked := none }) _
  jvm_step X₁.here [X₁.here.top, hexec, d3', Value.category]
  exact X₁.ldcString hexec (own := own) (text := text) (index := is) (a := sa) hown' hstr'.1 hstr'.2
    (g := { method := m, pc := pc + 4, locals := ls, stack := .ref T.heap.size :: .ref T.heap.size :: rest, locked := none }) rfl d4' _ hsteps
theorem vx_throwSW {cc : ByteArray} {pc : Nat} (hexec : p.tables.exec = Jvm.exec) (hb : c.code = cc) (hl : l.stackTraces = false) {own cls text : String} {names : List String} {ik is ic mc ms sa : Nat} {A : Nat → Prop}
    (hown : s.vm.findClass own = some m.cls) (hcls : Bundle.fit cls = true) (hnames : ∀ n ∈ names, Bundle.fit n = true)
    (hk : (Cond.classLink own ik cls).before args s = true) (hini : (Cond.initialized cls).before args s = true) (hstr : vk_R own is text sa s) (hat : ∀ w ∈ vx_atS own ic cls names, w.before args s = true)
    (hgood : ∀ w ∈ Cond.classLink own ik cls :: Cond.initialized cls :: vx_atS own ic cls names, vx_ot w = true)
    (hU : vx_Zq Bundle.tN "UNASSIGNED_STACK" Bundle.steD A s s.heap) (hN : vx_Zq Bundle.tN "SUPPRESSED_SENTINEL" Bundle.listD A s s.heap) (hS : va_S A s.heap H locs) (hsize : ls.size = c.maxLocals)
    (d0 : decode cc pc = .ok (.new ik, 3)) (d3 : decode cc (pc + 3) = .ok (.dup, 1)) (d4 : decode cc (pc + 4) = .ok (.ldc_w is, 3)) (d7 : decode cc (pc + 7) = .ok (.invokespecial ic, 3)) (d10 : decode cc (pc + 10) = .ok (.athrow, 1))
    (hout : ∀ x ∈ c.exceptionTable.toList, covers x (pc + 10) = false)
    (hRframes : names.length + 3 < R.frames) (hRlocals : (rest.map fun v => v.category).sum + (13 * (names.length + 1) + 43) ≤ R.locals) (hRcells : cells + 1 ≤ R.cells) (hRslots : slots + 6 ≤ R.slots) (hlocks : meth.locks = false)
    (hx : ∀ t : State, s.vm.Alike t.vm → H.size ≤ t.heap.size → (∀ q : Nat, q < H.size → t.heap[q]? = H[q]?) → XC cls s t)
    (hf : ∀ z ∈ locs, free z.base) (hc : cells + 1 ≤ mc) (hs : slots + 6 ≤ ms) :
    W p l e R s m args below meth c H locs cells slots (vx_MQ below Qc XC args s mc ms free) (F0 m pc ls rest) := by
  intro T hT X
  have htr : e.platform.stackTraces = false := (show e.platform.stackTraces = l.stackTraces by rw [X.admits.platform]).trans hl
  have Y := vx_rebase X (R' := { frames := R.frames, locals := R.locals, cells := 1, slots := 6 }) (Nat.le_refl _) (Nat.le_refl _) hRcells hRslots
  obtain ⟨s', hA⟩ : ∃ z, z = (T.setVm s.vm).setFrames (.invoking m args :: below) := ⟨_, rfl⟩
  rw [← hA] at Y
  have hvm : s'.vm = s.vm := by rw [hA]; rfl
  have hhp : s'.heap = H := by rw [hA]; exact hT
  have hW0 : s.WarmedH s'.vm := by rw [hvm]; exact State.WarmedH.refl s
  have hat' : ∀ w ∈ vx_atS own ic cls names, w.before args s' = true := fun w hw => vx_ot_at hW0 hvm.symm (hgood w (List.mem_cons_of_mem _ (List.mem_cons_of_mem _ hw))) (hat w hw)
  have hk' : (Cond.classLink own ik cls).before args s' = true := vx_ot_at hW0 hvm.symm (hgood _ List.mem_cons_self) hk
  have hini' : (Cond.initialized cls).before args s' = true := vx_ot_at hW0 hvm.symm (hgood _ (List.mem_cons_of_mem _ List.mem_cons_self)) hini
  have hU' : vx_Zq Bundle.tN "UNASSIGNED_STACK" Bundle.steD A s' s'.heap := by rw [hhp]; exact vx_Zq.moved hW0.alike (hU.kept hS.2.1)
  have hN' : vx_Zq Bundle.tN "SUPPRESSED_SENTINEL" Bundle.listD A s' s'.heap := by rw [hhp]; exact vx_Zq.moved hW0.alike (hN.kept hS.2.1)
  have h : ∀ w ∈ Bundle.ownAtoms own ic cls names, w.before args s' = true := vx_own hat' (vx_isRefq hU'.1) (vx_isRefq hN'.1) hU'.2.word hN'.2.word
  have hown' : s'.vm.findClass own = some m.cls := by rw [hvm]; exact hown
  have hins : (Cond.instantiable cls 6).before args s' = true := h _ (by simp [Bundle.ownAtoms])
  obtain ⟨vm₁, cX, kX, hfX, hkX, -, -, X₁, st1⟩ := Y.newCold hexec (own := own) (C := cls) (index := ik) (n := 6) hown' hk' hins hini'
    (g := F0 m pc ls rest) rfl (by rw [hb]; exact d0) (Nat.le_refl _) (Nat.le_refl _)
  generalize hT1 : (T.setVm vm₁).pushCell { cls := cX, slots := kX.instanceTypes.map defaultValue, vm := .none } = T1 at X₁ st1
  have hcat : (Value.ref T.heap.size).category = 1 := rfl
  have hcellA : T1.heap[T.heap.size]? = some (freshCell cX kX) := by rw [← hT1]; exact State.heap_pushCell_size _ _
  have d3' : decode c.code (pc + 3) = .ok (.dup, 1) := by rw [hb]; exact d3
  have d4' : decode c.code (pc + 4) = .ok (.ldc_w is, 3) := by rw [hb]; exact d4
  have hstr' : vk_R own is text sa s' := vk_R.warm hW0 hstr
  obtain ⟨U, hsteps, hrun, hend, hW, hsame, ce, hce, hO⟩ := X₁.ctorThrowS hexec htr (own := own) (cls := cls) (names := names) (ic := ic) hown' hcls hnames h (fun x hx => nomatch hx) hfX hkX hcellA (by rw [hhp, hT]; exact Nat.le_refl _) (msg := .ref sa) rfl
    (g := { method := m, pc := pc + 7, locals := ls, stack := .ref sa :: .ref T.heap.size :: .ref T.heap.size :: rest, locked := none }) rfl hsize rfl rfl (rest := rest) rfl
    (by rw [hb]; exact d7) (by rw [hb]; exact d10) hout hRframes (by simp only [List.map_cons, List.sum_cons, hcat]; omega) hlocks
  obtain ⟨f1, f2⟩ := vx_frame hsame
  rw [hhp] at f1 f2
  have hWs : s.WarmedH U.vm := State.WarmedH.trans hW0 hW
  have hcl : s.vm.findClass cls = some ce.cls := by
    have h9 := hO.cls
    rw [hvm] at h9
    exact h9
  have hall : s.sameButNew ({ U with vm := s.vm } : State) locs mc ms := by
    subst hA
    obtain ⟨e1, e2⟩ := hsame
    rw [State.setFrames_setFrames] at e1
    have h2 : (T.setVm s.vm).sameButNew ({ U with vm := s.vm } : State) [] (0 + 1) (0 + 6) := ⟨e1, e2⟩
    have h3 := X.same.trans h2
    rw [List.append_nil] at h3
    exact h3.mono hc hs
  refine ⟨U, ?_, .threw T.heap.size, hrun, hend, Or.inr ⟨T.heap.size, rfl, cls, ce, locs, hx U hWs.alike f1 (fun q hq => f2 q hq (fun z hz => nomatch hz)), hce, hO.vm, hcl, hWs, hall, hf⟩⟩
  refine st1 _ ?_
  show Steps p.tables e below (T1.setTop { method := m, pc := pc + 3, locals := ls, stack := .ref T.heap.size :: rest, locked := none }) _
  jvm_step X₁.here [X₁.here.top, hexec, d3', Value.category]
  exact X₁.ldcStringW hexec (own := own) (text := text) (index := is) (a := sa) hown' hstr'.1 hstr'.2
    (g := { method := m, pc := pc + 4, locals := ls, stack := .ref T.heap.size :: .ref T.heap.size :: rest, locked := none }) rfl d4' _ hsteps
end Ends
section Bodies
variable {l : Launch}
theorem vx_ofW {y : MethodName} {ws ws' : List Cond} {rm : Room} {Pc : Array Value → State → Prop} {Qc : Array Value → State → Outcome → State → Prop} {XC : String → State → State → Prop} {mc ms : Nat} {free : Addr → Prop} {cc : ByteArray} {maxL : Nat} {ret : Option FieldType}
    (hy : plainName y.cls = true) (hw : ws = Cond.code y cc maxL ret :: ws')
    (body : ∀ p e s m args below meth c s₁, BodyLoose p l y (headSpec ws rm) cc maxL ret e s m args below meth c s₁ → c.maxLocals = maxL → (∀ x ∈ c.exceptionTable.toList, False) → Pc args s →
      W p l e (headSpec ws rm).room s m args below meth c s.heap [] 0 0 (vx_MQ below Qc XC args s mc ms free) (entryFrame m args maxL)) : vx_Met l y ws rm Pc Qc XC mc ms free := by
  refine MetFree.of_bodyS (code := cc) (maxLocals := maxL) (ret := ret) hy ?_ ?_
  · intro args s m h hn
    obtain ⟨meth, c, h1, h2, h3, h4, h5, h6, -, -⟩ := Cond.code_spec hn (atoms_spec (ws := ws) h _ (by rw [hw]; exact List.mem_cons_self))
    exact ⟨meth, c, h1, h2, h3, h4, h5, h6⟩
  · intro p e s m args below meth c s₁ B hml hP _
    have hh0 : s₁.heap = s.heap := by rw [B.state]; rfl
    have ht : ∀ x ∈ c.exceptionTable.toList, False := by
      obtain ⟨meth9, c9, h1, h2, -, -, -, -, h7, -⟩ := Cond.code_spec B.named (atoms_spec (ws := ws) B.pre _ (by rw [hw]; exact List.mem_cons_self))
      cases Option.some.inj (h1.symm.trans B.method)
      cases Option.some.inj (h2.symm.trans (Stand.of_body B).code)
      intro x hx
      rw [Array.isEmpty_iff.mp h7] at hx
      cases hx
    obtain ⟨t, a1, o, b1, b2, b3⟩ := body p e s m args below meth c s₁ B hml ht hP s₁ hh0 (Stand.of_body B)
    exact ⟨t, o, a1, b1, b2, b3⟩
theorem vx_table {p : Program} {x y : MethodName} {S : Spec} {cc bytes : ByteArray} {maxL maxL' : Nat} {ret ret' : Option FieldType} {e : Env} {s s₁ : State} {m : MethodId} {args : Array Value} {below : List Frame} {meth : Method} {c : Code} {hh : List (Nat × Nat × Nat × Nat)}
    (B : BodyLoose p l y S cc maxL ret e s m args below meth c s₁) (h : (Cond.codeWith y bytes maxL' ret' hh).before args s = true) : c.exceptionTable.toList = tableOf hh := by
  obtain ⟨m9, meth9, c9, hn9, h1, h2, -, -, h6, -⟩ := Cond.codeWith_spec h
  cases Option.some.inj (hn9.symm.trans B.named)
  cases Option.some.inj (h1.symm.trans B.method)
  cases Option.some.inj (h2.symm.trans (Stand.of_body B).code)
  rw [← h6, table_eq]
end Bodies
end VXA
section VXS
variable {p : Program} {l : Launch} {e : Env} {R : Room} {s : State} {m : MethodId} {args : Array Value} {below : List Frame} {meth : Method} {c : Code} {T : State} {H : Heap} {locs : List Loc} {cells slots : Nat}
abbrev vx_CSW (R : Room) (s : State) (args : Array Value) (own : String) (index : Nat) (y : MethodName) (bytes : ByteArray) (maxL : Nat) (ret : Option FieldType) (hh : List (Nat × Nat × Nat × Nat)) (ws : List Cond) (rm : Room) (mc ms n : Nat) : Prop :=
  (rm.cells = mc ∧ rm.slots = ms ∧ rm.frames + 1 ≤ R.frames ∧ 8 + (maxL + 11) + rm.locals ≤ R.locals ∧ (∀ w ∈ ws, ∀ (a' : Array Value) (U : State), s.WarmedH U.vm → w.before a' U = true) ∧ Cond.codeWith y bytes maxL ret hh ∈ ws) ∧
  (Cond.codeWith y bytes maxL ret hh).before args s = true ∧ (Cond.initialized y.cls).before args s = true ∧ (y.cls ≠ "java/lang/invoke/MethodHandle" ∧ y.cls ≠ "java/lang/invoke/VarHandle") ∧
  (∀ sig, parseMethodDescriptor y.desc = some sig → n = sig.parameters.length) ∧ (Cond.methodLink own index y).before args s = true ∧ (Cond.static y).before args s = true
theorem vx_cwSW {own : String} {index maxL mc ms : Nat} {y : MethodName} {bytes : ByteArray} {ret : Option FieldType} {hh : List (Nat × Nat × Nat × Nat)} {Ts ws ws' : List Cond} {rm : Room} (n : Nat) (ht : ∀ w ∈ Ts, w.before args s = true) (hT : GoodIn Ts (va_wsS own index y ws)) (hw : ws = Cond.codeWith y bytes maxL ret hh :: ws') (hrc : rm.cells = mc) (hrs : rm.slots = ms)
    (hd : y.cls ≠ "java/lang/invoke/MethodHandle" ∧ y.cls ≠ "java/lang/invoke/VarHandle" ∧ (parseMethodDescriptor y.desc).map (fun d => d.parameters.length) = some n) (hR : rm.frames + 1 ≤ R.frames ∧ 8 + (maxL + 11) + rm.locals ≤ R.locals) :
    vx_CSW R s args own index y bytes maxL ret hh ws rm mc ms n := by
  have ok : ∀ w ∈ va_wsS own index y ws, w.before args s = true := fun w h => ht w (hT w h).1
  have hG : GoodIn Ts ws := fun w h => hT w (by unfold va_wsS; exact List.mem_append_right _ h)
  have hc : Cond.codeWith y bytes maxL ret hh ∈ ws := by rw [hw]; exact List.mem_cons_self
  refine ⟨⟨hrc, hrs, hR.1, hR.2, pay_in ht hG, hc⟩, ht _ (hG _ hc).1, ok _ (by simp [va_wsS]), ⟨hd.1, hd.2.1⟩, fun sig h => ?_, ok _ (by simp [va_wsS]), ok _ (by simp [va_wsS])⟩
  have h2 := hd.2.2
  rw [h] at h2
  exact (Option.some.inj h2).symm
theorem vx_callSW (X : Stand p l e R s m args below meth c T locs cells slots) (hexec : p.tables.exec = Jvm.exec) {own : String} {index : Nat} {y : MethodName} {bytes : ByteArray} {maxL : Nat} {ret : Option FieldType} {hh : List (Nat × Nat × Nat × Nat)}
    (hown : s.vm.findClass own = some m.cls) (hlink : (Cond.methodLink own index y).before args s = true) (hstat : (Cond.static y).before args s = true) (hinit : (Cond.initialized y.cls).before args s = true)
    (hcode : (Cond.codeWith y bytes maxL ret hh).before args s = true) (hy : y.cls ≠ "java/lang/invoke/MethodHandle" ∧ y.cls ≠ "java/lang/invoke/VarHandle")
    {W9 : Nat} {Pre : Pt → Array Value → Prop} {Post : Pt → Array Value → Option Value → Pt → Prop} (hK : Back l R p e below s args y 3 W9 Pre Post)
    {g : JFrame} (hg : g.method = m) (hsize : g.locals.size = c.maxLocals) {argsL rest : List Value} (hlen : ∀ sig, parseMethodDescriptor y.desc = some sig → argsL.length = sig.parameters.length)
    (hstack : g.stack = argsL.reverse ++ rest) (hW : 2 * g.monitorRoom + (rest.map fun v => v.category).sum ≤ W9) (hdg : decode c.code g.pc = .ok (.invokestatic index, 3))
    (hpre : ∀ vm₁, s.WarmedH vm₁ → Pre ⟨T.setVm vm₁, locs, cells, slots⟩ argsL.toArray) :
    ∃ (v : Option Value) (vm₁ : Vm) (B : Pt), s.WarmedH vm₁ ∧ Stand p l e R s m args below meth c B.U B.locs B.cells B.slots ∧ Post ⟨T.setVm vm₁, locs, cells, slots⟩ argsL.toArray v B ∧
      ∀ target, Steps p.tables e below (B.U.setTop { g with pc := g.pc + 3, stack := v.toList ++ rest }) target → Steps p.tables e below (T.setTop g) target := by
  obtain ⟨mk, methM, cM, hnamed, hmethM, -, -, -, -, -, -, hsigM⟩ := Cond.codeWith_spec hcode
  have hstatic : methM.isStatic = true := Cond.static_spec hnamed hmethM hstat
  obtain ⟨kP, hkP, -⟩ := className_of_methodNamed hnamed
  have hinitP : kP.init = .initialized := Cond.initialized_spec (findClass_of_methodNamed hnamed) hkP hinit
  obtain ⟨vm₁, X₁, hstep₁⟩ := X.invokestatic hexec hown hlink hnamed hmethM hstatic hkP hinitP hy (g := g) hg (argsL := argsL) (rest := rest) (hlen _ hsigM) hstack hdg
  obtain ⟨v, B, X', hpost, hsteps⟩ := hK m meth c ⟨T.setVm vm₁, locs, cells, slots⟩ { g with stack := rest } (.invokestatic index) mk argsL.toArray X₁ hg hsize hdg hW (X₁.named hnamed) (hpre vm₁ X₁.warmed)
  exact ⟨v, vm₁, B, X₁.warmed, X', hpost, fun target h => hstep₁ _ fun acts => by rw [doInvoke_state]; exact hsteps.trans h⟩
theorem vx_runSW {y : MethodName} {bytes cc : ByteArray} {maxL nL mc ms n index : Nat} {ret : Option FieldType} {hh : List (Nat × Nat × Nat × Nat)} {ws : List Cond} {rm : Room} {Pc : Array Value → State → Prop} {Qc : Array Value → State → Outcome → State → Prop} {free : Addr → Prop} {Ts : List Cond} {own : String} {As rest : List Value} {g : JFrame}
    (S : CallFix p m c cc nL s args Ts own) (hM : Met l y ws rm Pc Qc mc ms free) (cw : vx_CSW R s args own index y bytes maxL ret hh ws rm mc ms n) (hp : PreS s H Pc As)
    (hg : g.method = m) (hn : As.length = n) (hsize : g.locals.size = nL) (hstack : g.stack = As.reverse ++ rest) (hW : 2 * g.monitorRoom + (rest.map fun v => v.category).sum ≤ 8) (hdg : decode cc g.pc = .ok (.invokestatic index, 3)) (hf : cells + mc ≤ R.cells ∧ slots + ms ≤ R.slots) :
    va_Run p l e R s m args below meth c H locs cells slots mc ms g rest (Qc As.toArray) (free) := by
  obtain ⟨⟨hrc, hrs, hfr, hlo, hws, hcw⟩, hcode, hini, hy, hlen, hl, hstt⟩ := cw
  have hK : Back l R p e below s args y 3 8 (PreOf R mc ms Pc) (PostOf Qc mc ms free) := va_backW (hh := hh) (bytes := bytes) (maxL := maxL) (ret := ret) hM hp.1 hrc hrs hfr hlo hws hcw (fun a' U hW => word_at hW (Or.inl (by first | rfl | simp [Cond.onTables, Cond.keeps, Cond.steady])) hini)
  obtain ⟨hx, hb, hml, ho, -⟩ := S
  intro T hT X
  obtain ⟨v, vm₁, ⟨U', l2, c2, s2⟩, hW₁, X', ⟨g', mk, t, L, e1, e2, hq, h1, hL, h2, h3⟩, st⟩ := vx_callSW X hx (hh := hh) (bytes := bytes) (maxL := maxL) (ret := ret) ho hl hstt hini hcode hy hK hg (hsize.trans hml.symm) (argsL := As) (rest := rest) (fun sig h => hn.trans (hlen sig h)) hstack hW (by rw [hb]; exact hdg)
    (fun vm₁ hW₁ => ⟨hf.1, hf.2, hp.2 (T.setVm vm₁) hT hW₁⟩)
  dsimp only [Pt.U, Pt.locs, Pt.cells, Pt.slots] at X' e1 e2 h1 h2 h3 st
  subst h1; subst h2; subst h3
  exact ⟨v, (T.setVm vm₁).calling g' mk As.toArray, t, U', L, hT, X', hL, e1, e2, hq, st⟩
theorem vx_outP {p : Program} {l : Launch} {e : Env} {R : Room} {s : State} {m : MethodId} {args : Array Value} {below : List Frame} {meth : Method} {c : Code} {H : Heap} {locs : List Loc} {cells slots : Nat} {free : Addr → Prop} {ls : Array Slot} {rest : List Value} {Qc : Array Value → State → Outcome → State → Prop} {XC : String → State → State → Prop}
    {pc : Nat} {own E : String} {ce : Cell} {q : Addr} {mc ms : Nat} (hown : s.vm.findClass own = some m.cls) (hlocks : meth.locks = false)
    (hpass : ∀ z ∈ c.exceptionTable.toList, covers z pc = false ∨ (z.catchType ≠ 0 ∧ ∃ nm : String, (Cond.classLink own z.catchType nm).before args s = true ∧ va_Nc E nm s)) (hcell : H[q]? = some ce) (hv : ce.vm = .none) (hcl : s.vm.findClass E = some ce.cls)
    (hx : ∀ t : State, t.heap = H → s.vm.Alike t.vm → XC E s t) (hf : ∀ z ∈ locs, free z.base) (hc : cells ≤ mc) (hs : slots ≤ ms) :
    vx_W p l e R s m args below meth c H locs cells slots (vx_MQ below Qc XC args s mc ms free) (F0 m pc ls rest) q := by
  intro T hT X
  have hpl : e.platform.magicAccessors = ({} : Platform).magicAccessors := by rw [X.admits.platform]
  obtain ⟨vm', hW', X', st⟩ := X.outThrough hlocks q (g := F0 m pc ls rest) rfl rfl rfl (cell := ce) (by rw [hT]; exact hcell) (by rw [hv]; rfl)
    (by obtain ⟨k9, h9, -⟩ := Vm.findClass_spec hcl; exact ⟨k9, h9⟩) (fun z hz => by
      rcases hpass z hz with h | ⟨hz0, nm, hl1, hn1⟩
      · exact Or.inl h
      · obtain ⟨c6, hc6, hcl6⟩ := Cond.classLink_spec hown hl1 e.platform hpl
        obtain ⟨a8, b8, h1, h2, h3⟩ := hn1
        cases Option.some.inj (h1.symm.trans hcl)
        cases Option.some.inj (h2.symm.trans hc6)
        exact Or.inr ⟨hz0, _, hcl6, h3⟩)
  obtain ⟨g₀, hfr⟩ := X'.frames_eq
  have hcell9 : ((T.setVm vm').setFrames (.throwing q :: below)).heap[q]? = some ce := by
    show T.heap[q]? = some ce
    rw [hT]; exact hcell
  have hend : Ended ((T.setVm vm').setFrames (.throwing q :: below)) below (.threw q) := State.frames_setFrames _ (State.cur_lt_of_frames hfr)
  refine ⟨(T.setVm vm').setFrames (.throwing q :: below), ?_, .threw q, X'.here.running, hend, Or.inr ⟨q, rfl, E, ce, locs, hx _ hT (X'.ends _).1.alike, hcell9, hv, hcl, (X'.ends _).1, (X'.ends _).2.mono hc hs, hf⟩⟩
  rw [X.pushThrowing_eq]
  exact st
theorem vx_lt {D : va_G} {cl : List vw_C} {ws : va_W} {H1 : Heap} (h : va_P D cl ws H1) {k : Nat} {q : Nat × va_E} (hk : ws[k]? = some q) : q.1 < H1.size := (h k q hk).lt
end VXS
section VXH
section
variable {l : Launch} {R : Room} {p : Program} {e : Env} {below : List Frame} {s : State} {sargs : Array Value} {y : MethodName} {len W9 : Nat}
theorem vx_backW {ws : List Cond} {rm : Room} {Pc : Array Value → State → Prop} {Qc : Array Value → State → Outcome → State → Prop} {XC : String → State → State → Prop} {mc ms : Nat} {free : Addr → Prop} {bytes : ByteArray} {maxL : Nat} {ret : Option FieldType} {hh : List (Nat × Nat × Nat × Nat)}
    (hM : vx_Met l y ws rm Pc Qc XC mc ms free) (hblind : FrameBlind Pc) (hrc : rm.cells = mc) (hrs : rm.slots = ms)
    (hframes : rm.frames + 1 ≤ R.frames) (hlocals : W9 + (maxL + 11) + rm.locals ≤ R.locals)
    (hws : ∀ w ∈ ws, ∀ a' U, s.WarmedH U.vm → w.before a' U = true) (hcode : Cond.codeWith y bytes maxL ret hh ∈ ws) (hinit : ∀ a' U, s.WarmedH U.vm → (Cond.initialized y.cls).before a' U = true) :
    vx_Back l R p e below s sargs y len W9 (PreOf R mc ms Pc) (PostOf Qc mc ms free) (vx_Post XC mc ms free) := by
  intro m meth c A g ig mk a X hg hsize hdg hW hn hp
  have h1 : (headSpec ws rm).pre.before a A.U = true := atoms_intro fun w hw => hws w hw _ _ X.warmed
  have h2 : (Cond.codeWith y bytes maxL ret hh).before a A.U = true := hws _ hcode _ _ X.warmed
  have h3 : (Cond.initialized y.cls).before a A.U = true := hinit _ _ X.warmed
  have h4 : A.cells + (headSpec ws rm).room.cells ≤ R.cells := by rw [show (headSpec ws rm).room.cells = mc from hrc]; exact hp.1
  have h5 : A.slots + (headSpec ws rm).room.slots ≤ R.slots := by rw [show (headSpec ws rm).room.slots = ms from hrs]; exact hp.2.1
  have hPc : Pc a (A.U.calling g mk a) := hblind _ _ _ _ hp.2.2
  obtain ⟨U, Ls, c0, s0⟩ := A
  dsimp only [Pt.U, Pt.locs, Pt.cells, Pt.slots] at h1 h2 h3 h4 h5 X hn hPc ⊢
  obtain ⟨m9, methY, cY, hn9, hmY, hcY, -, hlY, -⟩ := Cond.codeWith_spec h2
  cases Option.some.inj (hn9.symm.trans hn)
  obtain ⟨kY, hkY, -⟩ := className_of_methodNamed hn
  have hinitY : kY.init = .initialized := Cond.initialized_spec (findClass_of_methodNamed hn) hkY h3
  have h : At U g.method c below := by rw [hg]; exact X.here
  have hlocals9 : W9 + (maxL + 11) + (headSpec ws rm).room.locals ≤ R.locals := hlocals
  have happ : (headSpec ws rm).appliesLoose y e.platform (U.calling g mk a) = true :=
    Spec.appliesLoose_calling (g := g) h hdg hn hkY hinitY
      (X.room_calling (g := g) (R' := (headSpec ws rm).room) hsize hmY hcY hframes (by rw [hlY]; omega) h4 h5) h1
  obtain ⟨mid, hmid⟩ := h.above
  have hfr : (U.setTop g).frames = (.java g :: mid) ++ below := by rw [State.frames_setTop' g h.top, hmid]; rfl
  obtain ⟨o, s₂, hsteps, -, hend, hq⟩ := Steps.callFree hM p X.admits X.cas X.clock (acts := []) hfr happ hPc trivial
  have hq' : vx_Q Qc XC mc ms free a (U.calling g mk a) o s₂ := hq
  rw [State.frames_setTop' g h.top] at hend
  obtain ⟨g₀, hg0⟩ := Option.isSome_iff_exists.mp h.top
  obtain ⟨r, hr⟩ := State.topJava?_eq_some.mp hg0
  have hr' : (({ U with heap := s₂.heap, slotsUsed := s₂.slotsUsed } : State).setVm s₂.vm).frames = .java g₀ :: r := hr
  rcases hq' with ⟨hqc, L, hfe, hL⟩ | ⟨q, rfl, E, ce, L, hx, hce, hcv, hcl, hW₂, hsm, hL⟩
  · obtain ⟨⟨v, rfl⟩, hW₂, e2, q2, q3, q4, q5, q6⟩ := id hfe
    have e3 : s₂ = ({ (U.calling g mk a).setFrames s₂.frames with heap := s₂.heap, slotsUsed := s₂.slotsUsed } : State).setVm s₂.vm := by
      have : s₂ = ({ s₂ with vm := (U.calling g mk a).vm } : State).setVm s₂.vm := rfl
      rw [e2] at this
      exact this
    obtain ⟨c₂, i₂, len₂, hc₂, hd₂, hf₂⟩ := hend
    have hW' : U.WarmedH s₂.vm := hW₂
    have hcc : c₂ = c := by
      have h1 : s₂.code? g.method = U.code? g.method := by
        rw [State.code?_eq, State.code?_eq, hW'.alike.method?]
      exact Option.some.inj (hc₂.symm.trans (h1.trans h.code))
    subst hcc
    have hlen : len₂ = len := by rw [hdg] at hd₂; cases hd₂; rfl
    subst hlen
    have hs₂ : s₂ = (({ U with heap := s₂.heap, slotsUsed := s₂.slotsUsed } : State).setVm s₂.vm).setTop { g with pc := g.pc + len₂, stack := v.toList ++ g.stack } := by
      refine e3.trans ?_
      rw [hf₂, State.calling_eq h.top, State.setFrames_setFrames, State.setTop_of_frames _ hr', hr]
      rfl
    have hsame : U.sameButNew ({ U with heap := s₂.heap, slotsUsed := s₂.slotsUsed } : State) L mc ms := by
      refine ⟨?_, q2, q3, q4, q5, q6⟩
      obtain ⟨t, ht, -⟩ := State.frames_cons hr
      show ({ U with heap := s₂.heap, slotsUsed := s₂.slotsUsed } : State) = { U.setFrames U.frames with heap := s₂.heap, slotsUsed := s₂.slotsUsed }
      rw [State.setFrames_self ht]
    subst hg
    refine Or.inl ⟨v, ⟨(({ U with heap := s₂.heap, slotsUsed := s₂.slotsUsed } : State).setVm s₂.vm), Ls ++ L, c0 + mc, s0 + ms⟩,
      ⟨X.admits, X.cas, X.clock, X.frames, X.room, X.hears, X.method, X.code, (X.here.setHeapUsed s₂.heap s₂.slotsUsed).setVm hW'.alike, X.tail, State.WarmedH.trans X.warmed hW', X.limits, X.bytes, X.same.trans (hsame.setVm s.vm)⟩,
      ⟨g, mk, s₂, L, rfl, rfl, hqc, rfl, hL, rfl, rfl⟩, ?_⟩
    show Steps p.tables e below _ ((({ U with heap := s₂.heap, slotsUsed := s₂.slotsUsed } : State).setVm s₂.vm).setTop { g with pc := g.pc + len₂, stack := v.toList ++ g.stack })
    rw [← hs₂]
    exact hsteps
  · obtain ⟨e2, q2, q3, q4, q5, q6⟩ := id hsm
    have e3 : s₂ = ({ (U.calling g mk a).setFrames s₂.frames with heap := s₂.heap, slotsUsed := s₂.slotsUsed } : State).setVm s₂.vm := by
      have : s₂ = ({ s₂ with vm := (U.calling g mk a).vm } : State).setVm s₂.vm := rfl
      rw [e2] at this
      exact this
    have hf₂ : s₂.frames = .throwing q :: .java g :: U.frames.tail := hend
    have hW' : U.WarmedH s₂.vm := hW₂
    have hs₂ : s₂ = ((({ U with heap := s₂.heap, slotsUsed := s₂.slotsUsed } : State).setVm s₂.vm).setTop g).pushFrame (.throwing q) := by
      refine e3.trans ?_
      rw [hf₂, State.calling_eq h.top, State.setFrames_setFrames, State.pushFrame, State.frames_setTop _ hr', State.setTop_of_frames _ hr', State.setFrames_setFrames, hr]
      rfl
    have hsame : U.sameButNew ({ U with heap := s₂.heap, slotsUsed := s₂.slotsUsed } : State) L mc ms := by
      refine ⟨?_, q2, q3, q4, q5, q6⟩
      obtain ⟨t, ht, -⟩ := State.frames_cons hr
      show ({ U with heap := s₂.heap, slotsUsed := s₂.slotsUsed } : State) = { U.setFrames U.frames with heap := s₂.heap, slotsUsed := s₂.slotsUsed }
      rw [State.setFrames_self ht]
    subst hg
    refine Or.inr ⟨q, ⟨(({ U with heap := s₂.heap, slotsUsed := s₂.slotsUsed } : State).setVm s₂.vm), Ls ++ L, c0 + mc, s0 + ms⟩,
      ⟨X.admits, X.cas, X.clock, X.frames, X.room, X.hears, X.method, X.code, (X.here.setHeapUsed s₂.heap s₂.slotsUsed).setVm hW'.alike, X.tail, State.WarmedH.trans X.warmed hW', X.limits, X.bytes, X.same.trans (hsame.setVm s.vm)⟩,
      ⟨g, mk, s₂, L, E, ce, rfl, rfl, hx, hce, hcv, hcl, rfl, hL, rfl, rfl⟩, ?_⟩
    show Steps p.tables e below _ (((({ U with heap := s₂.heap, slotsUsed := s₂.slotsUsed } : State).setVm s₂.vm).setTop g).pushFrame (.throwing q))
    rw [← hs₂]
    exact hsteps
end
variable {p : Program} {l : Launch} {e : Env} {R : Room} {s : State} {m : MethodId} {args : Array Value} {below : List Frame} {meth : Method} {c : Code} {T : State} {H : Heap} {locs : List Loc} {cells slots : Nat}
theorem vx_callVX (X : Stand p l e R s m args below meth c T locs cells slots) (hexec : p.tables.exec = Jvm.exec) {own C : String} {index : Nat} {y : MethodName} {bytes : ByteArray} {maxL : Nat} {ret : Option FieldType} {hh : List (Nat × Nat × Nat × Nat)}
    (hown : s.vm.findClass own = some m.cls) (hlink : (Cond.methodLink own index y).before args s = true) (hinst : (Cond.instanceMethod y).before args s = true) (hsel : (Cond.selects C y y).before args s = true)
    (hcode : (Cond.codeWith y bytes maxL ret hh).before args s = true) (hy : y.cls ≠ "java/lang/invoke/MethodHandle" ∧ y.cls ≠ "java/lang/invoke/VarHandle")
    {W9 : Nat} {Pre : Pt → Array Value → Prop} {Post : Pt → Array Value → Option Value → Pt → Prop} {PostX : Pt → Array Value → Addr → Pt → Prop} (hK : vx_Back l R p e below s args y 3 W9 Pre Post PostX)
    {b : Addr} {cellB : Cell} (hcell : T.heap[b]? = some cellB) (hobj : cellB.vm.isStatics = false) (hcls : s.vm.findClass C = some cellB.cls)
    {g : JFrame} (hg : g.method = m) (hsize : g.locals.size = c.maxLocals) {argsL rest : List Value} (hlen : ∀ sig, parseMethodDescriptor y.desc = some sig → argsL.length = sig.parameters.length)
    (hstack : g.stack = argsL.reverse ++ .ref b :: rest) (hW : 2 * g.monitorRoom + (rest.map fun v => v.category).sum ≤ W9) (hdg : decode c.code g.pc = .ok (.invokevirtual index, 3))
    (hpre : ∀ vm₁, s.WarmedH vm₁ → Pre ⟨T.setVm vm₁, locs, cells, slots⟩ (Value.ref b :: argsL).toArray) :
    (∃ (v : Option Value) (vm₁ : Vm) (B : Pt), s.WarmedH vm₁ ∧ Stand p l e R s m args below meth c B.U B.locs B.cells B.slots ∧ Post ⟨T.setVm vm₁, locs, cells, slots⟩ (Value.ref b :: argsL).toArray v B ∧
      ∀ target, Steps p.tables e below (B.U.setTop { g with pc := g.pc + 3, stack := v.toList ++ rest }) target → Steps p.tables e below (T.setTop g) target) ∨
    (∃ (q : Addr) (vm₁ : Vm) (B : Pt), s.WarmedH vm₁ ∧ Stand p l e R s m args below meth c B.U B.locs B.cells B.slots ∧ PostX ⟨T.setVm vm₁, locs, cells, slots⟩ (Value.ref b :: argsL).toArray q B ∧
      Steps p.tables e below (T.setTop g) ((B.U.setTop { g with stack := rest }).pushFrame (.throwing q))) := by
  obtain ⟨mk, methM, hnamed, hmethM, hstM, habM⟩ := Cond.instanceMethod_spec hinst
  obtain ⟨m8, methM', cM, hn8, hmethM', -, -, -, -, -, -, hsigM⟩ := Cond.codeWith_spec hcode
  cases Option.some.inj (hn8.symm.trans hnamed)
  cases hmethM.symm.trans hmethM'
  obtain ⟨c2, r2, m2, q1, q2, q3, q4, kP, hkP, hkPi⟩ := Cond.selects_spec hsel
  cases hcls.symm.trans q1
  cases (State.methodFound?_of_named hnamed hy).symm.trans q2
  cases hnamed.symm.trans q3
  have hselP : selectMethod e.platform s.vm cellB.cls mk = .method mk := by rw [Launch.admits_selectMethod X.admits]; exact q4
  obtain ⟨vm₁, X₁, hstep₁⟩ := X.invokevirtual hexec hown hlink hnamed hmethM hstM hkP hkPi hy (a := b) (cell := cellB) hcell
    (fun z h => by rw [h] at hobj; cases hobj) hselP hmethM habM hkP hkPi (g := g) hg (argsL := argsL) (rest := rest) (hlen _ hsigM) hstack hdg
  rcases hK m meth c ⟨T.setVm vm₁, locs, cells, slots⟩ { g with stack := rest } (.invokevirtual index) mk (Value.ref b :: argsL).toArray X₁ hg hsize hdg hW (X₁.named hnamed) (hpre vm₁ X₁.warmed) with ⟨v, B, X', hpost, hsteps⟩ | ⟨q, B, X', hpost, hsteps⟩
  · exact Or.inl ⟨v, vm₁, B, X₁.warmed, X', hpost, fun target h => hstep₁ _ fun acts => by rw [doInvoke_state]; exact hsteps.trans h⟩
  · exact Or.inr ⟨q, vm₁, B, X₁.warmed, X', hpost, hstep₁ _ fun acts => by rw [doInvoke_state]; exact hsteps⟩
theorem vx_callSX (X : Stand p l e R s m args below meth c T locs cells slots) (hexec : p.tables.exec = Jvm.exec) {own : String} {index : Nat} {y : MethodName} {bytes : ByteArray} {maxL : Nat} {ret : Option FieldType} {hh : List (Nat × Nat × Nat × Nat)}
    (hown : s.vm.findClass own = some m.cls) (hlink : (Cond.methodLink own index y).before args s = true) (hstat : (Cond.static y).before args s = true) (hinit : (Cond.initialized y.cls).before args s = true)
    (hcode : (Cond.codeWith y bytes maxL ret hh).before args s = true) (hy : y.cls ≠ "java/lang/invoke/MethodHandle" ∧ y.cls ≠ "java/lang/invoke/VarHandle")
    {W9 : Nat} {Pre : Pt → Array Value → Prop} {Post : Pt → Array Value → Option Value → Pt → Prop} {PostX : Pt → Array Value → Addr → Pt → Prop} (hK : vx_Back l R p e below s args y 3 W9 Pre Post PostX)
    {g : JFrame} (hg : g.method = m) (hsize : g.locals.size = c.maxLocals) {argsL rest : List Value} (hlen : ∀ sig, parseMethodDescriptor y.desc = some sig → argsL.length = sig.parameters.length)
    (hstack : g.stack = argsL.reverse ++ rest) (hW : 2 * g.monitorRoom + (rest.map fun v => v.category).sum ≤ W9) (hdg : decode c.code g.pc = .ok (.invokestatic index, 3))
    (hpre : ∀ vm₁, s.WarmedH vm₁ → Pre ⟨T.setVm vm₁, locs, cells, slots⟩ argsL.toArray) :
    (∃ (v : Option Value) (vm₁ : Vm) (B : Pt), s.WarmedH vm₁ ∧ Stand p l e R s m args below meth c B.U B.locs B.cells B.slots ∧ Post ⟨T.setVm vm₁, locs, cells, slots⟩ argsL.toArray v B ∧
      ∀ target, Steps p.tables e below (B.U.setTop { g with pc := g.pc + 3, stack := v.toList ++ rest }) target → Steps p.tables e below (T.setTop g) target) ∨
    (∃ (q : Addr) (vm₁ : Vm) (B : Pt), s.WarmedH vm₁ ∧ Stand p l e R s m args below meth c B.U B.locs B.cells B.slots ∧ PostX ⟨T.setVm vm₁, locs, cells, slots⟩ argsL.toArray q B ∧
      Steps p.tables e below (T.setTop g) ((B.U.setTop { g with stack := rest }).pushFrame (.throwing q))) := by
  obtain ⟨mk, methM, cM, hnamed, hmethM, -, -, -, -, -, -, hsigM⟩ := Cond.codeWith_spec hcode
  have hstatic : methM.isStatic = true := Cond.static_spec hnamed hmethM hstat
  obtain ⟨kP, hkP, -⟩ := className_of_methodNamed hnamed
  have hinitP : kP.init = .initialized := Cond.initialized_spec (findClass_of_methodNamed hnamed) hkP hinit
  obtain ⟨vm₁, X₁, hstep₁⟩ := X.invokestatic hexec hown hlink hnamed hmethM hstatic hkP hinitP hy (g := g) hg (argsL := argsL) (rest := rest) (hlen _ hsigM) hstack hdg
  rcases hK m meth c ⟨T.setVm vm₁, locs, cells, slots⟩ { g with stack := rest } (.invokestatic index) mk argsL.toArray X₁ hg hsize hdg hW (X₁.named hnamed) (hpre vm₁ X₁.warmed) with ⟨v, B, X', hpost, hsteps⟩ | ⟨q, B, X', hpost, hsteps⟩
  · exact Or.inl ⟨v, vm₁, B, X₁.warmed, X', hpost, fun target h => hstep₁ _ fun acts => by rw [doInvoke_state]; exact hsteps.trans h⟩
  · exact Or.inr ⟨q, vm₁, B, X₁.warmed, X', hpost, hstep₁ _ fun acts => by rw [doInvoke_state]; exact hsteps⟩
theorem vx_callVW (X : Stand p l e R s m args below meth c T locs cells slots) (hexec : p.tables.exec = Jvm.exec) {own C : String} {index : Nat} {y : MethodName} {bytes : ByteArray} {maxL : Nat} {ret : Option FieldType} {hh : List (Nat × Nat × Nat × Nat)}
    (hown : s.vm.findClass own = some m.cls) (hlink : (Cond.methodLink own index y).before args s = true) (hinst : (Cond.instanceMethod y).before args s = true) (hsel : (Cond.selects C y y).before args s = true)
    (hcode : (Cond.codeWith y bytes maxL ret hh).before args s = true) (hy : y.cls ≠ "java/lang/invoke/MethodHandle" ∧ y.cls ≠ "java/lang/invoke/VarHandle")
    {W9 : Nat} {Pre : Pt → Array Value → Prop} {Post : Pt → Array Value → Option Value → Pt → Prop} (hK : Back l R p e below s args y 3 W9 Pre Post)
    {b : Addr} {cellB : Cell} (hcell : T.heap[b]? = some cellB) (hobj : cellB.vm.isStatics = false) (hcls : s.vm.findClass C = some cellB.cls)
    {g : JFrame} (hg : g.method = m) (hsize : g.locals.size = c.maxLocals) {argsL rest : List Value} (hlen : ∀ sig, parseMethodDescriptor y.desc = some sig → argsL.length = sig.parameters.length)
    (hstack : g.stack = argsL.reverse ++ .ref b :: rest) (hW : 2 * g.monitorRoom + (rest.map fun v => v.category).sum ≤ W9) (hdg : decode c.code g.pc = .ok (.invokevirtual index, 3))
    (hpre : ∀ vm₁, s.WarmedH vm₁ → Pre ⟨T.setVm vm₁, locs, cells, slots⟩ (Value.ref b :: argsL).toArray) :
    ∃ (v : Option Value) (vm₁ : Vm) (B : Pt), s.WarmedH vm₁ ∧ Stand p l e R s m args below meth c B.U B.locs B.cells B.slots ∧ Post ⟨T.setVm vm₁, locs, cells, slots⟩ (Value.ref b :: argsL).toArray v B ∧
      ∀ target, Steps p.tables e below (B.U.setTop { g with pc := g.pc + 3, stack := v.toList ++ rest }) target → Steps p.tables e below (T.setTop g) target := by
  obtain ⟨mk, methM, hnamed, hmethM, hstM, habM⟩ := Cond.instanceMethod_spec hinst
  obtain ⟨m8, methM', cM, hn8, hmethM', -, -, -, -, -, -, hsigM⟩ := Cond.codeWith_spec hcode
  cases Option.some.inj (hn8.symm.trans hnamed)
  cases hmethM.symm.trans hmethM'
  obtain ⟨c2, r2, m2, q1, q2, q3, q4, kP, hkP, hkPi⟩ := Cond.selects_spec hsel
  cases hcls.symm.trans q1
  cases (State.methodFound?_of_named hnamed hy).symm.trans q2
  cases hnamed.symm.trans q3
  have hselP : selectMethod e.platform s.vm cellB.cls mk = .method mk := by rw [Launch.admits_selectMethod X.admits]; exact q4
  obtain ⟨vm₁, X₁, hstep₁⟩ := X.invokevirtual hexec hown hlink hnamed hmethM hstM hkP hkPi hy (a := b) (cell := cellB) hcell
    (fun z h => by rw [h] at hobj; cases hobj) hselP hmethM habM hkP hkPi (g := g) hg (argsL := argsL) (rest := rest) (hlen _ hsigM) hstack hdg
  obtain ⟨v, B, X', hpost, hsteps⟩ := hK m meth c ⟨T.setVm vm₁, locs, cells, slots⟩ { g with stack := rest } (.invokevirtual index) mk (Value.ref b :: argsL).toArray X₁ hg hsize hdg hW (X₁.named hnamed) (hpre vm₁ X₁.warmed)
  exact ⟨v, vm₁, B, X₁.warmed, X', hpost, fun target h => hstep₁ _ fun acts => by rw [doInvoke_state]; exact hsteps.trans h⟩
abbrev vx_CVW (R : Room) (s : State) (args : Array Value) (own C : String) (index : Nat) (y : MethodName) (bytes : ByteArray) (maxL : Nat) (ret : Option FieldType) (hh : List (Nat × Nat × Nat × Nat)) (ws : List Cond) (rm : Room) (mc ms n : Nat) : Prop :=
  (rm.cells = mc ∧ rm.slots = ms ∧ rm.frames + 1 ≤ R.frames ∧ 8 + (maxL + 11) + rm.locals ≤ R.locals ∧ (∀ w ∈ ws, ∀ (a' : Array Value) (U : State), s.WarmedH U.vm → w.before a' U = true) ∧ Cond.codeWith y bytes maxL ret hh ∈ ws) ∧
  (Cond.codeWith y bytes maxL ret hh).before args s = true ∧ (Cond.initialized y.cls).before args s = true ∧ (y.cls ≠ "java/lang/invoke/MethodHandle" ∧ y.cls ≠ "java/lang/invoke/VarHandle") ∧
  (∀ sig, parseMethodDescriptor y.desc = some sig → n = sig.parameters.length) ∧ (Cond.methodLink own index y).before args s = true ∧ (Cond.instanceMethod y).before args s = true ∧ (Cond.selects C y y).before args s = true
theorem vx_cwVW {own C : String} {index maxL mc ms : Nat} {y : MethodName} {bytes : ByteArray} {ret : Option FieldType} {hh : List (Nat × Nat × Nat × Nat)} {Ts ws ws' : List Cond} {rm : Room} (n : Nat) (ht : ∀ w ∈ Ts, w.before args s = true) (hT : GoodIn Ts (wsV own index C y ws)) (hw : ws = Cond.codeWith y bytes maxL ret hh :: ws') (hrc : rm.cells = mc) (hrs : rm.slots = ms)
    (hd : y.cls = C ∧ y.cls ≠ "java/lang/invoke/MethodHandle" ∧ y.cls ≠ "java/lang/invoke/VarHandle" ∧ (parseMethodDescriptor y.desc).map (fun d => d.parameters.length) = some n) (hR : rm.frames + 1 ≤ R.frames ∧ 8 + (maxL + 11) + rm.locals ≤ R.locals) :
    vx_CVW R s args own C index y bytes maxL ret hh ws rm mc ms n := by
  obtain ⟨hC, hd⟩ := hd
  subst hC
  have ok : ∀ w ∈ wsV own index y.cls y ws, w.before args s = true := fun w h => ht w (hT w h).1
  have hG : GoodIn Ts ws := fun w h => hT w (by unfold wsV; exact List.mem_append_right _ h)
  have hc : Cond.codeWith y bytes maxL ret hh ∈ ws := by rw [hw]; exact List.mem_cons_self
  refine ⟨⟨hrc, hrs, hR.1, hR.2, pay_in ht hG, hc⟩, ht _ (hG _ hc).1, ok _ (by simp [wsV]), ⟨hd.1, hd.2.1⟩, fun sig h => ?_, ok _ (by simp [wsV]), ok _ (by simp [wsV]), ok _ (by simp [wsV])⟩
  have h2 := hd.2.2
  rw [h] at h2
  exact (Option.some.inj h2).symm
theorem vx_runVW {y : MethodName} {bytes cc : ByteArray} {maxL nL mc ms n index : Nat} {ret : Option FieldType} {hh : List (Nat × Nat × Nat × Nat)} {ws : List Cond} {rm : Room} {Pc : Array Value → State → Prop} {Qc : Array Value → State → Outcome → State → Prop} {free : Addr → Prop} {Ts : List Cond} {own C : String} {b : Addr} {As rest : List Value} {g : JFrame}
    (S : CallFix p m c cc nL s args Ts own) (hM : Met l y ws rm Pc Qc mc ms free) (cw : vx_CVW R s args own C index y bytes maxL ret hh ws rm mc ms n) (hp : PreV s H C b Pc As)
    (hg : g.method = m) (hn : As.length = n) (hsize : g.locals.size = nL) (hstack : g.stack = As.reverse ++ .ref b :: rest) (hW : 2 * g.monitorRoom + (rest.map fun v => v.category).sum ≤ 8) (hdg : decode cc g.pc = .ok (.invokevirtual index, 3)) (hf : cells + mc ≤ R.cells ∧ slots + ms ≤ R.slots) :
    va_Run p l e R s m args below meth c H locs cells slots mc ms g rest (Qc (Value.ref b :: As).toArray) free := by
  obtain ⟨⟨hrc, hrs, hfr, hlo, hws, hcw⟩, hcode, hini, hy, hlen, hl, hin, hse⟩ := cw
  have hK : Back l R p e below s args y 3 8 (PreOf R mc ms Pc) (PostOf Qc mc ms free) := va_backW (hh := hh) (bytes := bytes) (maxL := maxL) (ret := ret) hM hp.1 hrc hrs hfr hlo hws hcw (fun a' U hW => word_at hW (Or.inl (by first | rfl | simp [Cond.onTables, Cond.keeps, Cond.steady])) hini)
  obtain ⟨hx, hb, hml, ho, -⟩ := S
  obtain ⟨-, ⟨cellB, hcB, hoB, hclB⟩, hPc⟩ := hp
  intro T hT X
  obtain ⟨v, vm₁, ⟨U', l2, c2, s2⟩, hW₁, X', ⟨g', mk, t, L, e1, e2, hq, h1, hL, h2, h3⟩, st⟩ := vx_callVW X hx (C := C) (hh := hh) (bytes := bytes) (maxL := maxL) (ret := ret) ho hl hin hse hcode hy hK (by rw [hT]; exact hcB) hoB hclB hg (hsize.trans hml.symm) (argsL := As) (rest := rest) (fun sig h => hn.trans (hlen sig h)) hstack hW (by rw [hb]; exact hdg)
    (fun vm₁ hW₁ => ⟨hf.1, hf.2, hPc (T.setVm vm₁) hT hW₁⟩)
  dsimp only [Pt.U, Pt.locs, Pt.cells, Pt.slots] at X' e1 e2 h1 h2 h3 st
  subst h1; subst h2; subst h3
  exact ⟨v, (T.setVm vm₁).calling g' mk (Value.ref b :: As).toArray, t, U', L, hT, X', hL, e1, e2, hq, st⟩
section
variable {y : MethodName} {bytes cc : ByteArray} {maxL nL mc ms n index : Nat} {ret : Option FieldType} {ws : List Cond} {rm : Room} {Pc : Array Value → State → Prop} {Qc : Array Value → State → Outcome → State → Prop} {XC : String → State → State → Prop} {free : Addr → Prop} {Ts : List Cond} {own C : String} {b : Addr} {As rest : List Value} {g : JFrame}
theorem vx_runVX {hh : List (Nat × Nat × Nat × Nat)} (S : CallFix p m c cc nL s args Ts own) (hM : vx_Met l y ws rm Pc Qc XC mc ms free) (cw : vx_CVW R s args own C index y bytes maxL ret hh ws rm mc ms n) (hp : PreV s H C b Pc As)
    (hg : g.method = m) (hn : As.length = n) (hsize : g.locals.size = nL) (hstack : g.stack = As.reverse ++ .ref b :: rest) (hW : 2 * g.monitorRoom + (rest.map fun v => v.category).sum ≤ 8) (hdg : decode cc g.pc = .ok (.invokevirtual index, 3)) (hf : cells + mc ≤ R.cells ∧ slots + ms ≤ R.slots) :
    vx_Run p l e R s m args below meth c H locs cells slots mc ms g rest (Qc (Value.ref b :: As).toArray) XC free := by
  obtain ⟨⟨hrc, hrs, hfr, hlo, hws, hcw⟩, hcode, hini, hy, hlen, hl, hin, hse⟩ := cw
  have hK : vx_Back l R p e below s args y 3 8 (PreOf R mc ms Pc) (PostOf Qc mc ms free) (vx_Post XC mc ms free) := vx_backW (hh := hh) (bytes := bytes) (maxL := maxL) (ret := ret) hM hp.1 hrc hrs hfr hlo hws hcw (fun a' U hW => word_at hW (Or.inl (by first | rfl | simp [Cond.onTables, Cond.keeps, Cond.steady])) hini)
  obtain ⟨hx, hb, hml, ho, -⟩ := S
  obtain ⟨-, ⟨cellB, hcB, hoB, hclB⟩, hPc⟩ := hp
  intro T hT X
  rcases vx_callVX X hx (C := C) (hh := hh) (bytes := bytes) (maxL := maxL) (ret := ret) ho hl hin hse hcode hy hK (by rw [hT]; exact hcB) hoB hclB hg (hsize.trans hml.symm) (argsL := As) (rest := rest) (fun sig h => hn.trans (hlen sig h)) hstack hW (by rw [hb]; exact hdg)
    (fun vm₁ hW₁ => ⟨hf.1, hf.2, hPc (T.setVm vm₁) hT hW₁⟩) with ⟨v, vm₁, ⟨U', l2, c2, s2⟩, hW₁, X', ⟨g', mk, t, L, e1, e2, hq, h1, hL, h2, h3⟩, st⟩ | ⟨q, vm₁, ⟨U', l2, c2, s2⟩, hW₁, X', ⟨g', mk, t, L, E, ce, e1, e2, hq, hce, hcv, hcl, h1, hL, h2, h3⟩, st⟩
  · dsimp only [Pt.U, Pt.locs, Pt.cells, Pt.slots] at X' e1 e2 h1 h2 h3 st
    subst h1; subst h2; subst h3
    exact Or.inl ⟨v, (T.setVm vm₁).calling g' mk (Value.ref b :: As).toArray, t, U', L, hT, X', hL, e1, e2, hq, st⟩
  · dsimp only [Pt.U, Pt.locs, Pt.cells, Pt.slots] at X' e1 e2 h1 h2 h3 st hcl
    subst h1; subst h2; subst h3
    exact Or.inr ⟨q, (T.setVm vm₁).calling g' mk (Value.ref b :: As).toArray, t, U', L, E, ce, hT, X', hL, e1, e2, hq, hce, hcv, vx_cls hW₁ hcl, st⟩
theorem vx_runSX {hh : List (Nat × Nat × Nat × Nat)} (S : CallFix p m c cc nL s args Ts own) (hM : vx_Met l y ws rm Pc Qc XC mc ms free) (cw : vx_CSW R s args own index y bytes maxL ret hh ws rm mc ms n) (hp : PreS s H Pc As)
    (hg : g.method = m) (hn : As.length = n) (hsize : g.locals.size = nL) (hstack : g.stack = As.reverse ++ rest) (hW : 2 * g.monitorRoom + (rest.map fun v => v.category).sum ≤ 8) (hdg : decode cc g.pc = .ok (.invokestatic index, 3)) (hf : cells + mc ≤ R.cells ∧ slots + ms ≤ R.slots) :
    vx_Run p l e R s m args below meth c H locs cells slots mc ms g rest (Qc As.toArray) XC free := by
  obtain ⟨⟨hrc, hrs, hfr, hlo, hws, hcw⟩, hcode, hini, hy, hlen, hl, hstt⟩ := cw
  have hK : vx_Back l R p e below s args y 3 8 (PreOf R mc ms Pc) (PostOf Qc mc ms free) (vx_Post XC mc ms free) := vx_backW (hh := hh) (bytes := bytes) (maxL := maxL) (ret := ret) hM hp.1 hrc hrs hfr hlo hws hcw (fun a' U hW => word_at hW (Or.inl (by first | rfl | simp [Cond.onTables, Cond.keeps, Cond.steady])) hini)
  obtain ⟨hx, hb, hml, ho, -⟩ := S
  intro T hT X
  rcases vx_callSX X hx (hh := hh) (bytes := bytes) (maxL := maxL) (ret := ret) ho hl hstt hini hcode hy hK hg (hsize.trans hml.symm) (argsL := As) (rest := rest) (fun sig h => hn.trans (hlen sig h)) hstack hW (by rw [hb]; exact hdg)
    (fun vm₁ hW₁ => ⟨hf.1, hf.2, hp.2 (T.setVm vm₁) hT hW₁⟩) with ⟨v, vm₁, ⟨U', l2, c2, s2⟩, hW₁, X', ⟨g', mk, t, L, e1, e2, hq, h1, hL, h2, h3⟩, st⟩ | ⟨q, vm₁, ⟨U', l2, c2, s2⟩, hW₁, X', ⟨g', mk, t, L, E, ce, e1, e2, hq, hce, hcv, hcl, h1, hL, h2, h3⟩, st⟩
  · dsimp only [Pt.U, Pt.locs, Pt.cells, Pt.slots] at X' e1 e2 h1 h2 h3 st
    subst h1; subst h2; subst h3
    exact Or.inl ⟨v, (T.setVm vm₁).calling g' mk As.toArray, t, U', L, hT, X', hL, e1, e2, hq, st⟩
  · dsimp only [Pt.U, Pt.locs, Pt.cells, Pt.slots] at X' e1 e2 h1 h2 h3 st hcl
    subst h1; subst h2; subst h3
    exact Or.inr ⟨q, (T.setVm vm₁).calling g' mk As.toArray, t, U', L, E, ce, hT, X', hL, e1, e2, hq, hce, hcv, vx_cls hW₁ hcl, st⟩
end
end VXH
theorem vx_ofWH {l : Launch} {y : MethodName} {ws ws' : List Cond} {rm : Room} {Pc : Array Value → State → Prop} {Qc : Array Value → State → Outcome → State → Prop} {XC : String → State → State → Prop} {mc ms : Nat} {free : Addr → Prop} {cc : ByteArray} {maxL : Nat} {ret : Option FieldType} {hh : List (Nat × Nat × Nat × Nat)}
    (hy : plainName y.cls = true) (hw : ws = Cond.codeWith y cc maxL ret hh :: ws')
    (body : ∀ p e s m args below meth c s₁, BodyLoose p l y (headSpec ws rm) cc maxL ret e s m args below meth c s₁ → c.maxLocals = maxL → Pc args s →
      W p l e (headSpec ws rm).room s m args below meth c s.heap [] 0 0 (vx_MQ below Qc XC args s mc ms free) (entryFrame m args maxL)) : vx_Met l y ws rm Pc Qc XC mc ms free := by
  refine MetFree.of_bodyS (code := cc) (maxLocals := maxL) (ret := ret) hy ?_ ?_
  · intro args s m h hn
    obtain ⟨m9, meth, c, hn9, h1, h2, h3, h4, -, h5, h6, -⟩ := Cond.codeWith_spec (atoms_spec (ws := ws) h _ (by rw [hw]; exact List.mem_cons_self))
    cases hn.symm.trans hn9
    exact ⟨meth, c, h1, h2, h3, h4, h5, h6⟩
  · intro p e s m args below meth c s₁ B hml hP _
    have hh0 : s₁.heap = s.heap := by rw [B.state]; rfl
    obtain ⟨t, a1, o, b1, b2, b3⟩ := body p e s m args below meth c s₁ B hml hP s₁ hh0 (Stand.of_body B)
    exact ⟨t, o, a1, b1, b2, b3⟩
end
section
/-! NAMES, by program: the words that all methods stand on (wW: those of the tables that a caller can hand on), classes, methods. -/
def wW : List Cond := lw_tbl.filter goodWord
theorem wW_i {w : Cond} (h : w ∈ tables_1) (g : goodWord w = true) : w ∈ wW := List.mem_filter.mpr ⟨List.mem_append_right _ h, g⟩
theorem wW_s {w : Cond} (h : w ∈ k2_sels lw_privs) (g : goodWord w = true) : w ∈ wW := List.mem_filter.mpr ⟨List.mem_append_left _ h, g⟩
theorem wW_g {w : Cond} (h : w ∈ wW) : goodWord w = true := (List.mem_filter.mp h).2
theorem wW_t {w : Cond} (h : w ∈ wW) : w ∈ lw_tbl := (List.mem_filter.mp h).1
theorem tI1 {w : Cond} {i : Nat} (h : tables_1_1[i]? = some w) : w ∈ tables_1 := List.mem_append_left _ (List.mem_of_getElem? h)
theorem tI2 {w : Cond} {i : Nat} (h : tables_1_2[i]? = some w) : w ∈ tables_1 := List.mem_append_right _ (List.mem_append_left _ (List.mem_of_getElem? h))
theorem tI3 {w : Cond} {i : Nat} (h : tables_1_3[i]? = some w) : w ∈ tables_1 := List.mem_append_right _ (List.mem_append_right _ (List.mem_of_getElem? h))
abbrev R_Bx : String := "SunShadows$Box"
def F_Bx : u_T := fun k => match k with
  | 0 => ("SunShadows$Box", "x0", "I", false)
  | 1 => ("SunShadows$Box", "y0", "I", false)
  | 2 => ("SunShadows$Box", "z0", "I", false)
  | 3 => ("SunShadows$Box", "x1", "I", false)
  | 4 => ("SunShadows$Box", "y1", "I", false)
  | 5 => ("SunShadows$Box", "z1", "I", false)
  | _ => ("SunShadows$Box", "present", "Z", false)
def t_Bx : Nat → FieldType := fun k => match k with
  | 0 => .int
  | 1 => .int
  | 2 => .int
  | 3 => .int
  | 4 => .int
  | 5 => .int
  | _ => .boolean
theorem n_Bx : ∀ a, a < 7 → ∀ b, b < 7 → a ≠ b → (F_Bx a).2.1 ≠ (F_Bx b).2.1 := by decide +kernel
theorem t_Bx_ok : ∀ k, k < 7 → parseFieldDescriptor (F_Bx k).2.2.1 = some (t_Bx k) := by decide +kernel
abbrev R_Hr : String := "SunShadows$Hour"
def F_Hr : u_T := fun k => match k with
  | 0 => ("SunShadows$Hour", "sunX", "I", false)
  | 1 => ("SunShadows$Hour", "sunY", "I", false)
  | 2 => ("SunShadows$Hour", "sunZ", "I", false)
  | _ => ("SunShadows$Hour", "amount", "I", false)
def t_Hr : Nat → FieldType := fun k => match k with
  | 0 => .int
  | 1 => .int
  | 2 => .int
  | _ => .int
theorem n_Hr : ∀ a, a < 4 → ∀ b, b < 4 → a ≠ b → (F_Hr a).2.1 ≠ (F_Hr b).2.1 := by decide +kernel
theorem t_Hr_ok : ∀ k, k < 4 → parseFieldDescriptor (F_Hr k).2.2.1 = some (t_Hr k) := by decide +kernel
abbrev R_Wn : String := "SunShadows$Window"
def F_Wn : u_T := fun k => match k with
  | 0 => ("SunShadows$Window", "x0", "I", true)
  | 1 => ("SunShadows$Window", "y0", "I", true)
  | 2 => ("SunShadows$Window", "x1", "I", true)
  | _ => ("SunShadows$Window", "y1", "I", true)
def t_Wn : Nat → FieldType := fun k => match k with
  | 0 => .int
  | 1 => .int
  | 2 => .int
  | _ => .int
theorem n_Wn : ∀ a, a < 4 → ∀ b, b < 4 → a ≠ b → (F_Wn a).2.1 ≠ (F_Wn b).2.1 := by decide +kernel
theorem t_Wn_ok : ∀ k, k < 4 → parseFieldDescriptor (F_Wn k).2.2.1 = some (t_Wn k) := by decide +kernel
abbrev R_Ss : String := "SunShadows"
def F_Ss : u_T := fun k => match k with
  | 0 => ("SunShadows", "width", "I", true)
  | 1 => ("SunShadows", "height", "I", true)
  | 2 => ("SunShadows", "boxes", "[LSunShadows$Box;", true)
  | 3 => ("SunShadows", "windows", "[LSunShadows$Window;", true)
  | 4 => ("SunShadows", "hours", "[LSunShadows$Hour;", true)
  | 5 => ("SunShadows", "shadeByBox", "[J", true)
  | 6 => ("SunShadows", "takenByBox", "[I", true)
  | 7 => ("SunShadows", "boxCount", "I", false)
  | _ => ("SunShadows", "windowCount", "I", false)
def t_Ss : Nat → FieldType := fun k => match k with
  | 0 => .int
  | 1 => .int
  | 2 => .array (.object "SunShadows$Box")
  | 3 => .array (.object "SunShadows$Window")
  | 4 => .array (.object "SunShadows$Hour")
  | 5 => .array .long
  | 6 => .array .int
  | 7 => .int
  | _ => .int
theorem n_Ss : ∀ a, a < 9 → ∀ b, b < 9 → a ≠ b → (F_Ss a).2.1 ≠ (F_Ss b).2.1 := by decide +kernel
theorem t_Ss_ok : ∀ k, k < 9 → parseFieldDescriptor (F_Ss k).2.2.1 = some (t_Ss k) := by decide +kernel
abbrev R_Md : String := "SunShadowsModel"
def F_Md : u_T := fun k => match k with
  | 0 => ("SunShadowsModel", "thrown", "I", false)
  | 1 => ("SunShadowsModel", "wide", "I", false)
  | 2 => ("SunShadowsModel", "high", "I", false)
  | 3 => ("SunShadowsModel", "boxes", "I", false)
  | 4 => ("SunShadowsModel", "box", "[I", true)
  | 5 => ("SunShadowsModel", "there", "[Z", true)
  | 6 => ("SunShadowsModel", "suns", "[I", true)
  | 7 => ("SunShadowsModel", "lights", "[I", true)
  | 8 => ("SunShadowsModel", "windows", "I", false)
  | 9 => ("SunShadowsModel", "window", "[I", true)
  | 10 => ("SunShadowsModel", "lowAbove", "J", false)
  | 11 => ("SunShadowsModel", "lowBelow", "J", false)
  | 12 => ("SunShadowsModel", "highAbove", "J", false)
  | _ => ("SunShadowsModel", "highBelow", "J", false)
def t_Md : Nat → FieldType := fun k => match k with
  | 0 => .int
  | 1 => .int
  | 2 => .int
  | 3 => .int
  | 4 => .array .int
  | 5 => .array .boolean
  | 6 => .array .int
  | 7 => .array .int
  | 8 => .int
  | 9 => .array .int
  | 10 => .long
  | 11 => .long
  | 12 => .long
  | _ => .long
theorem n_Md : ∀ a, a < 14 → ∀ b, b < 14 → a ≠ b → (F_Md a).2.1 ≠ (F_Md b).2.1 := by decide +kernel
theorem t_Md_ok : ∀ k, k < 14 → parseFieldDescriptor (F_Md k).2.2.1 = some (t_Md k) := by decide +kernel
abbrev R_Lw : String := "SunShadowsLaw"
abbrev R_Mt : String := "java/lang/Math"
abbrev R_Lo : String := "java/lang/Long"
abbrev classes : List vw_C := [(R_Bx, F_Bx, 7), (R_Hr, F_Hr, 4), (R_Wn, F_Wn, 4), (R_Ss, F_Ss, 9), (R_Md, F_Md, 14)]
abbrev c_Ss_init : ByteArray := prog_1_method_1_code
def y_Ss_init : MethodName := ⟨R_Ss, "<init>", "(II)V"⟩
abbrev c_Mt_min : ByteArray := prog_11_method_69_code
def y_Mt_min : MethodName := ⟨R_Mt, "min", "(II)I"⟩
abbrev c_Mt_max : ByteArray := prog_11_method_65_code
def y_Mt_max : MethodName := ⟨R_Mt, "max", "(II)I"⟩
abbrev c_Hr_init : ByteArray := prog_3_method_1_code
def y_Hr_init : MethodName := ⟨R_Hr, "<init>", "()V"⟩
abbrev c_Lw_cell_s : ByteArray := method_2_code
def y_Lw_cell_s : MethodName := ⟨R_Lw, "cell", "([II)I"⟩
abbrev c_Lw_box : ByteArray := method_3_code
def y_Lw_box : MethodName := ⟨R_Lw, "box", "(LSunShadows;IIIIII[J)I"⟩
abbrev c_Ss_box : ByteArray := prog_1_method_2_code
def y_Ss_box : MethodName := ⟨R_Ss, "box", "(IIIIII)I"⟩
abbrev c_Bx_isAllowed : ByteArray := prog_2_method_2_code
def y_Bx_isAllowed : MethodName := ⟨R_Bx, "isAllowed", "(IIIIII)Z"⟩
abbrev c_Bx_init : ByteArray := prog_2_method_1_code
def y_Bx_init : MethodName := ⟨R_Bx, "<init>", "(IIIIII)V"⟩
abbrev c_Lw_move : ByteArray := method_4_code
def y_Lw_move : MethodName := ⟨R_Lw, "move", "(LSunShadows;IIII[J)I"⟩
abbrev c_Ss_move : ByteArray := prog_1_method_3_code
def y_Ss_move : MethodName := ⟨R_Ss, "move", "(IIII)Z"⟩
abbrev c_Ss_knownBox : ByteArray := prog_1_method_17_code
def y_Ss_knownBox : MethodName := ⟨R_Ss, "knownBox", "(I)LSunShadows$Box;"⟩
abbrev c_Ss_isWithin : ByteArray := prog_1_method_27_code
def y_Ss_isWithin : MethodName := ⟨R_Ss, "isWithin", "(III)Z"⟩
abbrev c_Bx_shiftIfAllowed : ByteArray := prog_2_method_3_code
def y_Bx_shiftIfAllowed : MethodName := ⟨R_Bx, "shiftIfAllowed", "(III)Z"⟩
abbrev c_Lw_there : ByteArray := method_5_code
def y_Lw_there : MethodName := ⟨R_Lw, "there", "(LSunShadows;IZ[J)I"⟩
abbrev c_Ss_there : ByteArray := prog_1_method_4_code
def y_Ss_there : MethodName := ⟨R_Ss, "there", "(IZ)Z"⟩
abbrev c_Lw_sun : ByteArray := method_6_code
def y_Lw_sun : MethodName := ⟨R_Lw, "sun", "(LSunShadows;IIII)I"⟩
abbrev c_Ss_sun : ByteArray := prog_1_method_5_code
def y_Ss_sun : MethodName := ⟨R_Ss, "sun", "(IIII)V"⟩
abbrev c_Ss_knownHour : ByteArray := prog_1_method_19_code
def y_Ss_knownHour : MethodName := ⟨R_Ss, "knownHour", "(I)LSunShadows$Hour;"⟩
abbrev c_Lw_light : ByteArray := method_7_code
def y_Lw_light : MethodName := ⟨R_Lw, "light", "(LSunShadows;II[J)I"⟩
abbrev c_Ss_light : ByteArray := prog_1_method_6_code
def y_Ss_light : MethodName := ⟨R_Ss, "light", "(II)I"⟩
abbrev c_Lw_window : ByteArray := method_8_code
def y_Lw_window : MethodName := ⟨R_Lw, "window", "(LSunShadows;IIII[J)I"⟩
abbrev c_Ss_window : ByteArray := prog_1_method_7_code
def y_Ss_window : MethodName := ⟨R_Ss, "window", "(IIII)I"⟩
abbrev c_Wn_init : ByteArray := prog_4_method_1_code
def y_Wn_init : MethodName := ⟨R_Wn, "<init>", "(IIII)V"⟩
abbrev c_Lw_shadow : ByteArray := method_9_code
def y_Lw_shadow : MethodName := ⟨R_Lw, "shadow", "(LSunShadows;III[J)I"⟩
abbrev c_Ss_shadow : ByteArray := prog_1_method_8_code
def y_Ss_shadow : MethodName := ⟨R_Ss, "shadow", "(III)Z"⟩
abbrev c_Ss_sunnyHour : ByteArray := prog_1_method_20_code
def y_Ss_sunnyHour : MethodName := ⟨R_Ss, "sunnyHour", "(I)LSunShadows$Hour;"⟩
abbrev c_Hr_hasSun : ByteArray := prog_3_method_2_code
def y_Hr_hasSun : MethodName := ⟨R_Hr, "hasSun", "()Z"⟩
abbrev c_Ss_shadeOfRow : ByteArray := prog_1_method_21_code
def y_Ss_shadeOfRow : MethodName := ⟨R_Ss, "shadeOfRow", "(ILSunShadows$Hour;)J"⟩
abbrev c_Bx_shadeThrownOnRow : ByteArray := prog_2_method_4_code
def y_Bx_shadeThrownOnRow : MethodName := ⟨R_Bx, "shadeThrownOnRow", "(ILSunShadows$Hour;I)J"⟩
abbrev c_Bx_spansLine : ByteArray := prog_2_method_5_code
def y_Bx_spansLine : MethodName := ⟨R_Bx, "spansLine", "(I)Z"⟩
abbrev c_Mt_abs : ByteArray := prog_11_method_59_code
def y_Mt_abs : MethodName := ⟨R_Mt, "abs", "(I)I"⟩
abbrev c_Bx_nearest : ByteArray := prog_2_method_6_code
def y_Bx_nearest : MethodName := ⟨R_Bx, "nearest", "(ILSunShadows$Hour;I)I"⟩
abbrev c_Bx_farthest : ByteArray := prog_2_method_7_code
def y_Bx_farthest : MethodName := ⟨R_Bx, "farthest", "(ILSunShadows$Hour;I)I"⟩
abbrev c_Bx_floorOver : ByteArray := prog_2_method_8_code
def y_Bx_floorOver : MethodName := ⟨R_Bx, "floorOver", "(II)I"⟩
abbrev c_Mt_floorDiv : ByteArray := prog_11_method_47_code
def y_Mt_floorDiv : MethodName := ⟨R_Mt, "floorDiv", "(II)I"⟩
abbrev c_Ss_cellsBetween : ByteArray := prog_1_method_29_code
def y_Ss_cellsBetween : MethodName := ⟨R_Ss, "cellsBetween", "(II)J"⟩
abbrev c_Ss_hasCell : ByteArray := prog_1_method_28_code
def y_Ss_hasCell : MethodName := ⟨R_Ss, "hasCell", "(JI)Z"⟩
abbrev c_Lw_shadows : ByteArray := method_10_code
def y_Lw_shadows : MethodName := ⟨R_Lw, "shadows", "(LSunShadows;II[J)I"⟩
abbrev c_Ss_shadows : ByteArray := prog_1_method_9_code
def y_Ss_shadows : MethodName := ⟨R_Ss, "shadows", "(II)I"⟩
abbrev c_Lo_bitCount : ByteArray := prog_10_method_50_code
def y_Lo_bitCount : MethodName := ⟨R_Lo, "bitCount", "(J)I"⟩
abbrev c_Lw_dark : ByteArray := method_11_code
def y_Lw_dark : MethodName := ⟨R_Lw, "dark", "(LSunShadows;II[J)I"⟩
abbrev c_Ss_dark : ByteArray := prog_1_method_10_code
def y_Ss_dark : MethodName := ⟨R_Ss, "dark", "(II)I"⟩
abbrev c_Ss_knownWindow : ByteArray := prog_1_method_18_code
def y_Ss_knownWindow : MethodName := ⟨R_Ss, "knownWindow", "(I)LSunShadows$Window;"⟩
abbrev c_Ss_darkCells : ByteArray := prog_1_method_22_code
def y_Ss_darkCells : MethodName := ⟨R_Ss, "darkCells", "(LSunShadows$Window;LSunShadows$Hour;LSunShadows$Box;)I"⟩
abbrev c_Wn_columns : ByteArray := prog_4_method_3_code
def y_Wn_columns : MethodName := ⟨R_Wn, "columns", "()J"⟩
abbrev c_Lw_cell_c : ByteArray := method_12_code
def y_Lw_cell_c : MethodName := ⟨R_Lw, "cell", "(LSunShadows;II[J)I"⟩
abbrev c_Ss_cell : ByteArray := prog_1_method_11_code
def y_Ss_cell : MethodName := ⟨R_Ss, "cell", "(II)I"⟩
abbrev c_Ss_cellWithBefore : ByteArray := prog_1_method_30_code
def y_Ss_cellWithBefore : MethodName := ⟨R_Ss, "cellWithBefore", "(JI)I"⟩
abbrev c_Lw_lit : ByteArray := method_13_code
def y_Lw_lit : MethodName := ⟨R_Lw, "lit", "(LSunShadows;II[J)I"⟩
abbrev c_Ss_lit : ByteArray := prog_1_method_12_code
def y_Ss_lit : MethodName := ⟨R_Ss, "lit", "(II)I"⟩
abbrev c_Ss_lightOfHour : ByteArray := prog_1_method_23_code
def y_Ss_lightOfHour : MethodName := ⟨R_Ss, "lightOfHour", "(LSunShadows$Window;LSunShadows$Hour;)I"⟩
abbrev c_Wn_cellCount : ByteArray := prog_4_method_2_code
def y_Wn_cellCount : MethodName := ⟨R_Wn, "cellCount", "()I"⟩
abbrev c_Lw_brightest : ByteArray := method_14_code
def y_Lw_brightest : MethodName := ⟨R_Lw, "brightest", "(LSunShadows;I[J)I"⟩
abbrev c_Ss_brightest : ByteArray := prog_1_method_13_code
def y_Ss_brightest : MethodName := ⟨R_Ss, "brightest", "(I)I"⟩
abbrev c_Lw_ledge : ByteArray := method_15_code
def y_Lw_ledge : MethodName := ⟨R_Lw, "ledge", "(LSunShadows;III[J)I"⟩
abbrev c_Ss_ledge : ByteArray := prog_1_method_14_code
def y_Ss_ledge : MethodName := ⟨R_Ss, "ledge", "(III)I"⟩
abbrev c_Wn_ledgeOf : ByteArray := prog_4_method_4_code
def y_Wn_ledgeOf : MethodName := ⟨R_Wn, "ledgeOf", "(I)LSunShadows$Box;"⟩
abbrev c_Lw_deep : ByteArray := method_16_code
def y_Lw_deep : MethodName := ⟨R_Lw, "deep", "(LSunShadows;III[J)I"⟩
abbrev c_Ss_deep : ByteArray := prog_1_method_15_code
def y_Ss_deep : MethodName := ⟨R_Ss, "deep", "(III)I"⟩
abbrev c_Ss_deepestTooLittle : ByteArray := prog_1_method_24_code
def y_Ss_deepestTooLittle : MethodName := ⟨R_Ss, "deepestTooLittle", "(LSunShadows$Window;LSunShadows$Hour;I)I"⟩
abbrev c_Lw_worst : ByteArray := method_17_code
def y_Lw_worst : MethodName := ⟨R_Lw, "worst", "(LSunShadows;I[J)I"⟩
abbrev c_Ss_worst : ByteArray := prog_1_method_16_code
def y_Ss_worst : MethodName := ⟨R_Ss, "worst", "(I)I"⟩
abbrev c_Ss_addTaken : ByteArray := prog_1_method_25_code
def y_Ss_addTaken : MethodName := ⟨R_Ss, "addTaken", "(LSunShadows$Window;LSunShadows$Hour;)V"⟩
abbrev c_Ss_shadeOfOneBoxOnly : ByteArray := prog_1_method_26_code
def y_Ss_shadeOfOneBoxOnly : MethodName := ⟨R_Ss, "shadeOfOneBoxOnly", "(ILSunShadows$Hour;)J"⟩
abbrev c_Md_init : ByteArray := prog_6_method_1_code
def y_Md_init : MethodName := ⟨R_Md, "<init>", "(II)V"⟩
abbrev c_Md_thrown : ByteArray := prog_6_method_2_code
def y_Md_thrown : MethodName := ⟨R_Md, "thrown", "()I"⟩
abbrev c_Md_box : ByteArray := prog_6_method_6_code
def y_Md_box : MethodName := ⟨R_Md, "box", "(IIIIII)I"⟩
abbrev c_Md_isBox : ByteArray := prog_6_method_4_code
def y_Md_isBox : MethodName := ⟨R_Md, "isBox", "(IIIIII)Z"⟩
abbrev c_Md_isIn : ByteArray := prog_6_method_3_code
def y_Md_isIn : MethodName := ⟨R_Md, "isIn", "(III)Z"⟩
abbrev c_Md_lay : ByteArray := prog_6_method_5_code
def y_Md_lay : MethodName := ⟨R_Md, "lay", "(IIIIIII)V"⟩
abbrev c_Md_move : ByteArray := prog_6_method_8_code
def y_Md_move : MethodName := ⟨R_Md, "move", "(IIII)Z"⟩
abbrev c_Md_noBox : ByteArray := prog_6_method_7_code
def y_Md_noBox : MethodName := ⟨R_Md, "noBox", "(I)Z"⟩
abbrev c_Md_there : ByteArray := prog_6_method_9_code
def y_Md_there : MethodName := ⟨R_Md, "there", "(IZ)Z"⟩
abbrev c_Md_sun : ByteArray := prog_6_method_11_code
def y_Md_sun : MethodName := ⟨R_Md, "sun", "(IIII)V"⟩
abbrev c_Md_noHour : ByteArray := prog_6_method_10_code
def y_Md_noHour : MethodName := ⟨R_Md, "noHour", "(I)Z"⟩
abbrev c_Md_light : ByteArray := prog_6_method_12_code
def y_Md_light : MethodName := ⟨R_Md, "light", "(II)I"⟩
abbrev c_Md_window : ByteArray := prog_6_method_13_code
def y_Md_window : MethodName := ⟨R_Md, "window", "(IIII)I"⟩
abbrev c_Md_shadow : ByteArray := prog_6_method_21_code
def y_Md_shadow : MethodName := ⟨R_Md, "shadow", "(III)Z"⟩
abbrev c_Md_check : ByteArray := prog_6_method_20_code
def y_Md_check : MethodName := ⟨R_Md, "check", "(ZI)I"⟩
abbrev c_Md_isDark : ByteArray := prog_6_method_19_code
def y_Md_isDark : MethodName := ⟨R_Md, "isDark", "(IIIIZ)Z"⟩
abbrev c_Md_throwsOn : ByteArray := prog_6_method_18_code
def y_Md_throwsOn : MethodName := ⟨R_Md, "throwsOn", "(IIII)Z"⟩
abbrev c_Md_may : ByteArray := prog_6_method_17_code
def y_Md_may : MethodName := ⟨R_Md, "may", "(JJJJ)Z"⟩
abbrev c_Md_atLeast : ByteArray := prog_6_method_15_code
def y_Md_atLeast : MethodName := ⟨R_Md, "atLeast", "(JJ)V"⟩
abbrev c_Md_atMost : ByteArray := prog_6_method_16_code
def y_Md_atMost : MethodName := ⟨R_Md, "atMost", "(JJ)V"⟩
abbrev c_Md_shadows : ByteArray := prog_6_method_22_code
def y_Md_shadows : MethodName := ⟨R_Md, "shadows", "(II)I"⟩
abbrev c_Md_dark : ByteArray := prog_6_method_24_code
def y_Md_dark : MethodName := ⟨R_Md, "dark", "(II)I"⟩
abbrev c_Md_noWindow : ByteArray := prog_6_method_14_code
def y_Md_noWindow : MethodName := ⟨R_Md, "noWindow", "(I)Z"⟩
abbrev c_Md_darkOf : ByteArray := prog_6_method_23_code
def y_Md_darkOf : MethodName := ⟨R_Md, "darkOf", "(IIIZ)I"⟩
abbrev c_Md_cell : ByteArray := prog_6_method_25_code
def y_Md_cell : MethodName := ⟨R_Md, "cell", "(II)I"⟩
abbrev c_Md_lit : ByteArray := prog_6_method_28_code
def y_Md_lit : MethodName := ⟨R_Md, "lit", "(II)I"⟩
abbrev c_Md_day : ByteArray := prog_6_method_27_code
def y_Md_day : MethodName := ⟨R_Md, "day", "(II)I"⟩
abbrev c_Md_litIn : ByteArray := prog_6_method_26_code
def y_Md_litIn : MethodName := ⟨R_Md, "litIn", "(III)I"⟩
abbrev c_Md_brightest : ByteArray := prog_6_method_29_code
def y_Md_brightest : MethodName := ⟨R_Md, "brightest", "(I)I"⟩
abbrev c_Md_ledge : ByteArray := prog_6_method_31_code
def y_Md_ledge : MethodName := ⟨R_Md, "ledge", "(III)I"⟩
abbrev c_Md_ledged : ByteArray := prog_6_method_30_code
def y_Md_ledged : MethodName := ⟨R_Md, "ledged", "(III)I"⟩
abbrev c_Md_deep : ByteArray := prog_6_method_32_code
def y_Md_deep : MethodName := ⟨R_Md, "deep", "(III)I"⟩
abbrev c_Md_worst : ByteArray := prog_6_method_33_code
def y_Md_worst : MethodName := ⟨R_Md, "worst", "(I)I"⟩
abbrev c_Lw_law : ByteArray := code
def y_Lw_law : MethodName := ⟨R_Lw, "law", "([I)Z"⟩
end
section
theorem w_0 : Cond.initialized "SunShadowsLaw" ∈ wW := wW_i (tI1 (i := 0) (by decide +kernel)) (by decide +kernel)
theorem w_1 : Cond.initialized "SunShadows" ∈ wW := wW_i (tI1 (i := 1) (by decide +kernel)) (by decide +kernel)
theorem w_2 : Cond.initialized "java/lang/Math" ∈ wW := wW_i (tI1 (i := 2) (by decide +kernel)) (by decide +kernel)
theorem w_3 : Cond.initialized "SunShadows$Hour" ∈ wW := wW_i (tI1 (i := 3) (by decide +kernel)) (by decide +kernel)
theorem w_4 : Cond.initialized "SunShadowsModel" ∈ wW := wW_i (tI1 (i := 4) (by decide +kernel)) (by decide +kernel)
theorem w_5 : Cond.initialized "SunShadows$Box" ∈ wW := wW_i (tI1 (i := 5) (by decide +kernel)) (by decide +kernel)
theorem w_6 : Cond.initialized "java/lang/Throwable" ∈ wW := wW_i (tI1 (i := 6) (by decide +kernel)) (by decide +kernel)
theorem w_7 : Cond.initialized "java/lang/Exception" ∈ wW := wW_i (tI1 (i := 7) (by decide +kernel)) (by decide +kernel)
theorem w_8 : Cond.initialized "java/lang/RuntimeException" ∈ wW := wW_i (tI1 (i := 8) (by decide +kernel)) (by decide +kernel)
theorem w_9 : Cond.initialized "java/lang/IllegalArgumentException" ∈ wW := wW_i (tI1 (i := 9) (by decide +kernel)) (by decide +kernel)
theorem w_10 : Cond.initialized "java/lang/IllegalStateException" ∈ wW := wW_i (tI1 (i := 10) (by decide +kernel)) (by decide +kernel)
theorem w_11 : Cond.initialized "SunShadows$Window" ∈ wW := wW_i (tI1 (i := 11) (by decide +kernel)) (by decide +kernel)
theorem w_12 : Cond.initialized "java/lang/Long" ∈ wW := wW_i (tI1 (i := 12) (by decide +kernel)) (by decide +kernel)
theorem w_13 : Cond.classLink "SunShadowsLaw" 8 "SunShadows" ∈ wW := wW_i (tI1 (i := 13) (by decide +kernel)) (by decide +kernel)
theorem w_14 : Cond.instantiable "SunShadows" 9 ∈ wW := wW_i (tI1 (i := 14) (by decide +kernel)) (by decide +kernel)
theorem w_15 : Cond.methodLink "SunShadowsLaw" 72 y_Ss_init ∈ wW := wW_i (tI1 (i := 15) (by decide +kernel)) (by decide +kernel)
theorem w_16 : Cond.instanceMethod y_Ss_init ∈ wW := wW_i (tI1 (i := 16) (by decide +kernel)) (by decide +kernel)
theorem w_17 : Cond.code y_Ss_init prog_1_method_1_code 4 none ∈ wW := wW_i (tI1 (i := 17) rfl) (by decide +kernel)
theorem w_18 : Cond.methodLink "SunShadows" 1 ⟨"java/lang/Object", "<init>", "()V"⟩ ∈ wW := wW_i (tI1 (i := 18) (by decide +kernel)) (by decide +kernel)
theorem w_19 : Cond.instanceMethod ⟨"java/lang/Object", "<init>", "()V"⟩ ∈ wW := wW_i (tI1 (i := 19) (by decide +kernel)) (by decide +kernel)
theorem w_20 : Cond.code ⟨"java/lang/Object", "<init>", "()V"⟩ object_method_1_code 1 none ∈ wW := wW_i (tI1 (i := 20) rfl) (by decide +kernel)
theorem w_21 : Cond.classLink "SunShadows" 9 "SunShadows$Box" ∈ wW := wW_i (tI1 (i := 21) (by decide +kernel)) (by decide +kernel)
theorem w_23 : Cond.classLink "SunShadows" 15 "SunShadows$Window" ∈ wW := wW_i (tI1 (i := 23) (by decide +kernel)) (by decide +kernel)
theorem w_25 : Cond.classLink "SunShadows" 21 "SunShadows$Hour" ∈ wW := wW_i (tI1 (i := 25) (by decide +kernel)) (by decide +kernel)
theorem w_27 : Cond.methodLink "SunShadows" 42 y_Mt_min ∈ wW := wW_i (tI1 (i := 27) (by decide +kernel)) (by decide +kernel)
theorem w_28 : Cond.static y_Mt_min ∈ wW := wW_i (tI1 (i := 28) (by decide +kernel)) (by decide +kernel)
theorem w_29 : Cond.code y_Mt_min prog_11_method_69_code 2 (some .int) ∈ wW := wW_i (tI1 (i := 29) rfl) (by decide +kernel)
theorem w_30 : Cond.methodLink "SunShadows" 48 y_Mt_max ∈ wW := wW_i (tI1 (i := 30) (by decide +kernel)) (by decide +kernel)
theorem w_31 : Cond.static y_Mt_max ∈ wW := wW_i (tI1 (i := 31) (by decide +kernel)) (by decide +kernel)
theorem w_32 : Cond.code y_Mt_max prog_11_method_65_code 2 (some .int) ∈ wW := wW_i (tI1 (i := 32) rfl) (by decide +kernel)
theorem w_33 : Cond.instantiable "SunShadows$Hour" 4 ∈ wW := wW_i (tI1 (i := 33) (by decide +kernel)) (by decide +kernel)
theorem w_35 : Cond.instanceMethod y_Hr_init ∈ wW := wW_i (tI1 (i := 35) (by decide +kernel)) (by decide +kernel)
theorem w_36 : Cond.code y_Hr_init prog_3_method_1_code 1 none ∈ wW := wW_i (tI1 (i := 36) rfl) (by decide +kernel)
theorem w_37 : Cond.methodLink "SunShadows$Hour" 1 ⟨"java/lang/Object", "<init>", "()V"⟩ ∈ wW := wW_i (tI1 (i := 37) (by decide +kernel)) (by decide +kernel)
theorem w_38 : Cond.fieldLink "SunShadows$Hour" 7 "SunShadows$Hour" "sunX" "I" ∈ wW := wW_i (tI1 (i := 38) (by decide +kernel)) (by decide +kernel)
theorem w_39 : Cond.fieldLink "SunShadows$Box" 67 "SunShadows$Hour" "sunX" "I" ∈ wW := wW_i (tI1 (i := 39) (by decide +kernel)) (by decide +kernel)
theorem w_40 : Cond.fieldLink "SunShadows" 100 "SunShadows$Hour" "sunX" "I" ∈ wW := wW_i (tI1 (i := 40) (by decide +kernel)) (by decide +kernel)
theorem w_41 : Cond.fieldLink "SunShadows$Hour" 13 "SunShadows$Hour" "sunY" "I" ∈ wW := wW_i (tI1 (i := 41) (by decide +kernel)) (by decide +kernel)
theorem w_42 : Cond.fieldLink "SunShadows$Box" 44 "SunShadows$Hour" "sunY" "I" ∈ wW := wW_i (tI1 (i := 42) (by decide +kernel)) (by decide +kernel)
theorem w_43 : Cond.fieldLink "SunShadows" 103 "SunShadows$Hour" "sunY" "I" ∈ wW := wW_i (tI1 (i := 43) (by decide +kernel)) (by decide +kernel)
theorem w_44 : Cond.fieldLink "SunShadows$Hour" 16 "SunShadows$Hour" "sunZ" "I" ∈ wW := wW_i (tI1 (i := 44) (by decide +kernel)) (by decide +kernel)
theorem w_45 : Cond.fieldLink "SunShadows$Box" 64 "SunShadows$Hour" "sunZ" "I" ∈ wW := wW_i (tI1 (i := 45) (by decide +kernel)) (by decide +kernel)
theorem w_46 : Cond.fieldLink "SunShadows" 106 "SunShadows$Hour" "sunZ" "I" ∈ wW := wW_i (tI1 (i := 46) (by decide +kernel)) (by decide +kernel)
theorem w_47 : Cond.fieldLink "SunShadows$Hour" 19 "SunShadows$Hour" "amount" "I" ∈ wW := wW_i (tI1 (i := 47) (by decide +kernel)) (by decide +kernel)
theorem w_48 : Cond.fieldLink "SunShadows" 111 "SunShadows$Hour" "amount" "I" ∈ wW := wW_i (tI1 (i := 48) (by decide +kernel)) (by decide +kernel)
theorem w_49 : Cond.lays "SunShadows$Hour" "SunShadows$Hour" "sunX" "I" ∈ wW := wW_i (tI1 (i := 49) (by decide +kernel)) (by decide +kernel)
theorem w_51 : Cond.lays "SunShadows$Hour" "SunShadows$Hour" "sunY" "I" ∈ wW := wW_i (tI1 (i := 51) (by decide +kernel)) (by decide +kernel)
theorem w_53 : Cond.lays "SunShadows$Hour" "SunShadows$Hour" "sunZ" "I" ∈ wW := wW_i (tI1 (i := 53) (by decide +kernel)) (by decide +kernel)
theorem w_55 : Cond.lays "SunShadows$Hour" "SunShadows$Hour" "amount" "I" ∈ wW := wW_i (tI1 (i := 55) (by decide +kernel)) (by decide +kernel)
theorem w_58 : Cond.arrayClass .long ∈ wW := wW_i (tI1 (i := 58) (by decide +kernel)) (by decide +kernel)
theorem w_59 : Cond.arrayClass .int ∈ wW := wW_i (tI1 (i := 59) (by decide +kernel)) (by decide +kernel)
theorem w_60 : Cond.fieldLink "SunShadows" 51 "SunShadows" "width" "I" ∈ wW := wW_i (tI1 (i := 60) (by decide +kernel)) (by decide +kernel)
theorem w_61 : Cond.fieldLink "SunShadows" 54 "SunShadows" "height" "I" ∈ wW := wW_i (tI1 (i := 61) (by decide +kernel)) (by decide +kernel)
theorem w_62 : Cond.fieldLink "SunShadows" 11 "SunShadows" "boxes" "[LSunShadows$Box;" ∈ wW := wW_i (tI1 (i := 62) (by decide +kernel)) (by decide +kernel)
theorem w_63 : Cond.fieldLink "SunShadows" 17 "SunShadows" "windows" "[LSunShadows$Window;" ∈ wW := wW_i (tI1 (i := 63) (by decide +kernel)) (by decide +kernel)
theorem w_64 : Cond.fieldLink "SunShadows" 23 "SunShadows" "hours" "[LSunShadows$Hour;" ∈ wW := wW_i (tI1 (i := 64) (by decide +kernel)) (by decide +kernel)
theorem w_65 : Cond.fieldLink "SunShadows" 27 "SunShadows" "shadeByBox" "[J" ∈ wW := wW_i (tI1 (i := 65) (by decide +kernel)) (by decide +kernel)
theorem w_66 : Cond.fieldLink "SunShadows" 31 "SunShadows" "takenByBox" "[I" ∈ wW := wW_i (tI1 (i := 66) (by decide +kernel)) (by decide +kernel)
theorem w_67 : Cond.fieldLink "SunShadows" 35 "SunShadows" "boxCount" "I" ∈ wW := wW_i (tI1 (i := 67) (by decide +kernel)) (by decide +kernel)
theorem w_68 : Cond.fieldLink "SunShadows" 39 "SunShadows" "windowCount" "I" ∈ wW := wW_i (tI1 (i := 68) (by decide +kernel)) (by decide +kernel)
theorem w_69 : Cond.laysFinal "SunShadows" "SunShadows" "width" "I" ∈ wW := wW_i (tI1 (i := 69) (by decide +kernel)) (by decide +kernel)
theorem w_71 : Cond.laysFinal "SunShadows" "SunShadows" "height" "I" ∈ wW := wW_i (tI1 (i := 71) (by decide +kernel)) (by decide +kernel)
theorem w_73 : Cond.laysFinal "SunShadows" "SunShadows" "boxes" "[LSunShadows$Box;" ∈ wW := wW_i (tI1 (i := 73) (by decide +kernel)) (by decide +kernel)
theorem w_75 : Cond.laysFinal "SunShadows" "SunShadows" "windows" "[LSunShadows$Window;" ∈ wW := wW_i (tI1 (i := 75) (by decide +kernel)) (by decide +kernel)
theorem w_77 : Cond.laysFinal "SunShadows" "SunShadows" "hours" "[LSunShadows$Hour;" ∈ wW := wW_i (tI1 (i := 77) (by decide +kernel)) (by decide +kernel)
theorem w_79 : Cond.laysFinal "SunShadows" "SunShadows" "shadeByBox" "[J" ∈ wW := wW_i (tI1 (i := 79) (by decide +kernel)) (by decide +kernel)
theorem w_81 : Cond.laysFinal "SunShadows" "SunShadows" "takenByBox" "[I" ∈ wW := wW_i (tI1 (i := 81) (by decide +kernel)) (by decide +kernel)
theorem w_83 : Cond.lays "SunShadows" "SunShadows" "boxCount" "I" ∈ wW := wW_i (tI1 (i := 83) (by decide +kernel)) (by decide +kernel)
theorem w_85 : Cond.lays "SunShadows" "SunShadows" "windowCount" "I" ∈ wW := wW_i (tI1 (i := 85) (by decide +kernel)) (by decide +kernel)
theorem w_88 : Cond.methodLink "SunShadowsLaw" 67 y_Lw_cell_s ∈ wW := wW_i (tI1 (i := 88) (by decide +kernel)) (by decide +kernel)
theorem w_89 : Cond.static y_Lw_cell_s ∈ wW := wW_i (tI1 (i := 89) (by decide +kernel)) (by decide +kernel)
theorem w_90 : Cond.code y_Lw_cell_s method_2_code 2 (some .int) ∈ wW := wW_i (tI1 (i := 90) rfl) (by decide +kernel)
theorem w_91 : Cond.methodLink "SunShadowsLaw" 78 y_Lw_box ∈ wW := wW_i (tI1 (i := 91) (by decide +kernel)) (by decide +kernel)
theorem w_92 : Cond.static y_Lw_box ∈ wW := wW_i (tI1 (i := 92) (by decide +kernel)) (by decide +kernel)
theorem w_93 : Cond.codeWith y_Lw_box method_3_code 9 (some .int) [(0, 18, 21, 13), (0, 18, 25, 15)] ∈ wW := wW_i (tI1 (i := 93) rfl) (by decide +kernel)
theorem w_94 : Cond.classLink "SunShadowsLaw" 13 "java/lang/IllegalArgumentException" ∈ wW := wW_i (tI1 (i := 94) (by decide +kernel)) (by decide +kernel)
theorem w_95 : Cond.classLink "SunShadowsLaw" 15 "java/lang/IllegalStateException" ∈ wW := wW_i (tI1 (i := 95) (by decide +kernel)) (by decide +kernel)
theorem w_96 : Cond.methodLink "SunShadowsLaw" 7 y_Ss_box ∈ wW := wW_i (tI1 (i := 96) (by decide +kernel)) (by decide +kernel)
theorem w_97 : Cond.instanceMethod y_Ss_box ∈ wW := wW_i (tI1 (i := 97) (by decide +kernel)) (by decide +kernel)
theorem w_98 : Cond.selects "SunShadows" y_Ss_box y_Ss_box ∈ wW := wW_i (tI1 (i := 98) (by decide +kernel)) (by decide +kernel)
theorem w_99 : Cond.code y_Ss_box prog_1_method_2_code 8 (some .int) ∈ wW := wW_i (tI1 (i := 99) rfl) (by decide +kernel)
theorem w_100 : Cond.methodLink "SunShadows" 58 y_Bx_isAllowed ∈ wW := wW_i (tI1 (i := 100) (by decide +kernel)) (by decide +kernel)
theorem w_101 : Cond.static y_Bx_isAllowed ∈ wW := wW_i (tI1 (i := 101) (by decide +kernel)) (by decide +kernel)
theorem w_102 : Cond.code y_Bx_isAllowed prog_2_method_2_code 6 (some .boolean) ∈ wW := wW_i (tI1 (i := 102) rfl) (by decide +kernel)
theorem w_103 : Cond.classLink "SunShadows" 62 "java/lang/IllegalArgumentException" ∈ wW := wW_i (tI1 (i := 103) (by decide +kernel)) (by decide +kernel)
theorem w_104 : Cond.instantiable "java/lang/IllegalArgumentException" 6 ∈ wW := wW_i (tI1 (i := 104) (by decide +kernel)) (by decide +kernel)
theorem w_112 : Cond.selects "java/lang/IllegalArgumentException" ⟨"java/lang/Throwable", "fillInStackTrace", "(I)Ljava/lang/Throwable;"⟩ ⟨"java/lang/Throwable", "fillInStackTrace", "(I)Ljava/lang/Throwable;"⟩ ∈ wW := wW_i (tI1 (i := 112) (by decide +kernel)) (by decide +kernel)
theorem w_113 : Cond.selects "java/lang/IllegalArgumentException" ⟨"java/lang/Throwable", "fillInStackTrace", "()Ljava/lang/Throwable;"⟩ ⟨"java/lang/Throwable", "fillInStackTrace", "()Ljava/lang/Throwable;"⟩ ∈ wW := wW_i (tI1 (i := 113) (by decide +kernel)) (by decide +kernel)
theorem w_114 : Cond.lays "java/lang/IllegalArgumentException" "java/lang/Throwable" "cause" "Ljava/lang/Throwable;" ∈ wW := wW_i (tI1 (i := 114) (by decide +kernel)) (by decide +kernel)
theorem w_115 : Cond.lays "java/lang/Throwable" "java/lang/Throwable" "cause" "Ljava/lang/Throwable;" ∈ wW := wW_i (tI1 (i := 115) (by decide +kernel)) (by decide +kernel)
theorem w_116 : Cond.lays "java/lang/IllegalArgumentException" "java/lang/Throwable" "stackTrace" "[Ljava/lang/StackTraceElement;" ∈ wW := wW_i (tI1 (i := 116) (by decide +kernel)) (by decide +kernel)
theorem w_117 : Cond.lays "java/lang/Throwable" "java/lang/Throwable" "stackTrace" "[Ljava/lang/StackTraceElement;" ∈ wW := wW_i (tI1 (i := 117) (by decide +kernel)) (by decide +kernel)
theorem w_118 : Cond.lays "java/lang/IllegalArgumentException" "java/lang/Throwable" "suppressedExceptions" "Ljava/util/List;" ∈ wW := wW_i (tI1 (i := 118) (by decide +kernel)) (by decide +kernel)
theorem w_119 : Cond.lays "java/lang/Throwable" "java/lang/Throwable" "suppressedExceptions" "Ljava/util/List;" ∈ wW := wW_i (tI1 (i := 119) (by decide +kernel)) (by decide +kernel)
theorem w_120 : Cond.lays "java/lang/IllegalArgumentException" "java/lang/Throwable" "detailMessage" "Ljava/lang/String;" ∈ wW := wW_i (tI1 (i := 120) (by decide +kernel)) (by decide +kernel)
theorem w_121 : Cond.lays "java/lang/Throwable" "java/lang/Throwable" "detailMessage" "Ljava/lang/String;" ∈ wW := wW_i (tI1 (i := 121) (by decide +kernel)) (by decide +kernel)
theorem w_122 : Cond.lays "java/lang/IllegalArgumentException" "java/lang/Throwable" "backtrace" "Ljava/lang/Object;" ∈ wW := wW_i (tI1 (i := 122) (by decide +kernel)) (by decide +kernel)
theorem w_123 : Cond.lays "java/lang/Throwable" "java/lang/Throwable" "backtrace" "Ljava/lang/Object;" ∈ wW := wW_i (tI1 (i := 123) (by decide +kernel)) (by decide +kernel)
theorem w_124 : Cond.fieldLink "java/lang/Throwable" 198 "java/lang/Throwable" "backtrace" "Ljava/lang/Object;" ∈ wW := wW_i (tI1 (i := 124) (by decide +kernel)) (by decide +kernel)
theorem w_126 : Cond.instanceMethod ⟨"java/lang/Throwable", "<init>", "()V"⟩ ∈ wW := wW_i (tI1 (i := 126) (by decide +kernel)) (by decide +kernel)
theorem w_127 : Cond.code ⟨"java/lang/Throwable", "<init>", "()V"⟩ prog_14_method_1_code 1 none ∈ wW := wW_i (tI1 (i := 127) rfl) (by decide +kernel)
theorem w_128 : Cond.methodLink "java/lang/Throwable" 1 ⟨"java/lang/Object", "<init>", "()V"⟩ ∈ wW := wW_i (tI1 (i := 128) (by decide +kernel)) (by decide +kernel)
theorem w_129 : Cond.fieldLink "java/lang/Throwable" 13 "java/lang/Throwable" "UNASSIGNED_STACK" "[Ljava/lang/StackTraceElement;" ∈ wW := wW_i (tI1 (i := 129) (by decide +kernel)) (by decide +kernel)
theorem w_131 : Cond.fieldLink "java/lang/Throwable" 20 "java/lang/Throwable" "SUPPRESSED_SENTINEL" "Ljava/util/List;" ∈ wW := wW_i (tI1 (i := 131) (by decide +kernel)) (by decide +kernel)
theorem w_133 : Cond.methodLink "java/lang/Throwable" 27 ⟨"java/lang/Throwable", "fillInStackTrace", "()Ljava/lang/Throwable;"⟩ ∈ wW := wW_i (tI1 (i := 133) (by decide +kernel)) (by decide +kernel)
theorem w_134 : Cond.instanceMethod ⟨"java/lang/Throwable", "fillInStackTrace", "()Ljava/lang/Throwable;"⟩ ∈ wW := wW_i (tI1 (i := 134) (by decide +kernel)) (by decide +kernel)
theorem w_136 : Cond.selects "java/lang/IllegalStateException" ⟨"java/lang/Throwable", "fillInStackTrace", "()Ljava/lang/Throwable;"⟩ ⟨"java/lang/Throwable", "fillInStackTrace", "()Ljava/lang/Throwable;"⟩ ∈ wW := wW_i (tI1 (i := 136) (by decide +kernel)) (by decide +kernel)
theorem w_138 : Cond.methodLink "java/lang/Throwable" 202 ⟨"java/lang/Throwable", "fillInStackTrace", "(I)Ljava/lang/Throwable;"⟩ ∈ wW := wW_i (tI1 (i := 138) (by decide +kernel)) (by decide +kernel)
theorem w_140 : Cond.instanceMethod ⟨"java/lang/Throwable", "fillInStackTrace", "(I)Ljava/lang/Throwable;"⟩ ∈ wW := wW_i (tI1 (i := 140) (by decide +kernel)) (by decide +kernel)
theorem w_141 : Cond.instantiable "java/lang/Throwable" 6 ∈ wW := wW_i (tI1 (i := 141) (by decide +kernel)) (by decide +kernel)
theorem w_144 : Cond.methodLink "SunShadows" 66 ⟨"java/lang/IllegalArgumentException", "<init>", "(Ljava/lang/String;)V"⟩ ∈ wW := wW_i (tI1 (i := 144) (by decide +kernel)) (by decide +kernel)
theorem w_145 : Cond.instanceMethod ⟨"java/lang/IllegalArgumentException", "<init>", "(Ljava/lang/String;)V"⟩ ∈ wW := wW_i (tI1 (i := 145) (by decide +kernel)) (by decide +kernel)
theorem w_146 : Cond.code ⟨"java/lang/IllegalArgumentException", "<init>", "(Ljava/lang/String;)V"⟩ prog_8_method_2_code 2 none ∈ wW := wW_i (tI1 (i := 146) rfl) (by decide +kernel)
theorem w_147 : Cond.methodLink "java/lang/IllegalArgumentException" 7 ⟨"java/lang/RuntimeException", "<init>", "(Ljava/lang/String;)V"⟩ ∈ wW := wW_i (tI1 (i := 147) (by decide +kernel)) (by decide +kernel)
theorem w_148 : Cond.instanceMethod ⟨"java/lang/RuntimeException", "<init>", "(Ljava/lang/String;)V"⟩ ∈ wW := wW_i (tI1 (i := 148) (by decide +kernel)) (by decide +kernel)
theorem w_149 : Cond.code ⟨"java/lang/RuntimeException", "<init>", "(Ljava/lang/String;)V"⟩ prog_12_method_2_code 2 none ∈ wW := wW_i (tI1 (i := 149) rfl) (by decide +kernel)
theorem w_150 : Cond.methodLink "java/lang/RuntimeException" 7 ⟨"java/lang/Exception", "<init>", "(Ljava/lang/String;)V"⟩ ∈ wW := wW_i (tI1 (i := 150) (by decide +kernel)) (by decide +kernel)
theorem w_151 : Cond.instanceMethod ⟨"java/lang/Exception", "<init>", "(Ljava/lang/String;)V"⟩ ∈ wW := wW_i (tI1 (i := 151) (by decide +kernel)) (by decide +kernel)
theorem w_152 : Cond.code ⟨"java/lang/Exception", "<init>", "(Ljava/lang/String;)V"⟩ prog_7_method_2_code 2 none ∈ wW := wW_i (tI1 (i := 152) rfl) (by decide +kernel)
theorem w_153 : Cond.methodLink "java/lang/Exception" 7 ⟨"java/lang/Throwable", "<init>", "(Ljava/lang/String;)V"⟩ ∈ wW := wW_i (tI1 (i := 153) (by decide +kernel)) (by decide +kernel)
theorem w_154 : Cond.instanceMethod ⟨"java/lang/Throwable", "<init>", "(Ljava/lang/String;)V"⟩ ∈ wW := wW_i (tI1 (i := 154) (by decide +kernel)) (by decide +kernel)
theorem w_155 : Cond.code ⟨"java/lang/Throwable", "<init>", "(Ljava/lang/String;)V"⟩ prog_14_method_2_code 2 none ∈ wW := wW_i (tI1 (i := 155) rfl) (by decide +kernel)
theorem w_156 : Cond.fieldLink "java/lang/Throwable" 198 "java/lang/Throwable" "backtrace" "Ljava/lang/Object;" ∈ wW := wW_i (tI1 (i := 156) (by decide +kernel)) (by decide +kernel)
theorem w_157 : Cond.fieldLink "java/lang/Throwable" 31 "java/lang/Throwable" "detailMessage" "Ljava/lang/String;" ∈ wW := wW_i (tI1 (i := 157) (by decide +kernel)) (by decide +kernel)
theorem w_158 : Cond.fieldLink "java/lang/Throwable" 7 "java/lang/Throwable" "cause" "Ljava/lang/Throwable;" ∈ wW := wW_i (tI1 (i := 158) (by decide +kernel)) (by decide +kernel)
theorem w_159 : Cond.fieldLink "java/lang/Throwable" 17 "java/lang/Throwable" "stackTrace" "[Ljava/lang/StackTraceElement;" ∈ wW := wW_i (tI1 (i := 159) (by decide +kernel)) (by decide +kernel)
theorem w_160 : Cond.fieldLink "java/lang/Throwable" 24 "java/lang/Throwable" "suppressedExceptions" "Ljava/util/List;" ∈ wW := wW_i (tI1 (i := 160) (by decide +kernel)) (by decide +kernel)
theorem w_165 : Cond.lays "java/lang/IllegalArgumentException" "java/lang/Throwable" "depth" "I" ∈ wW := wW_i (tI1 (i := 165) (by decide +kernel)) (by decide +kernel)
theorem w_169 : Cond.arrayClass .byte ∈ wW := wW_i (tI1 (i := 169) (by decide +kernel)) (by decide +kernel)
theorem w_170 : Cond.classLink "SunShadows" 69 "java/lang/IllegalStateException" ∈ wW := wW_i (tI1 (i := 170) (by decide +kernel)) (by decide +kernel)
theorem w_171 : Cond.instantiable "java/lang/IllegalStateException" 6 ∈ wW := wW_i (tI1 (i := 171) (by decide +kernel)) (by decide +kernel)
theorem w_173 : Cond.selects "java/lang/IllegalStateException" ⟨"java/lang/Throwable", "fillInStackTrace", "(I)Ljava/lang/Throwable;"⟩ ⟨"java/lang/Throwable", "fillInStackTrace", "(I)Ljava/lang/Throwable;"⟩ ∈ wW := wW_i (tI1 (i := 173) (by decide +kernel)) (by decide +kernel)
theorem w_174 : Cond.lays "java/lang/IllegalStateException" "java/lang/Throwable" "cause" "Ljava/lang/Throwable;" ∈ wW := wW_i (tI1 (i := 174) (by decide +kernel)) (by decide +kernel)
theorem w_175 : Cond.lays "java/lang/IllegalStateException" "java/lang/Throwable" "stackTrace" "[Ljava/lang/StackTraceElement;" ∈ wW := wW_i (tI1 (i := 175) (by decide +kernel)) (by decide +kernel)
theorem w_176 : Cond.lays "java/lang/IllegalStateException" "java/lang/Throwable" "suppressedExceptions" "Ljava/util/List;" ∈ wW := wW_i (tI1 (i := 176) (by decide +kernel)) (by decide +kernel)
theorem w_177 : Cond.lays "java/lang/IllegalStateException" "java/lang/Throwable" "detailMessage" "Ljava/lang/String;" ∈ wW := wW_i (tI1 (i := 177) (by decide +kernel)) (by decide +kernel)
theorem w_178 : Cond.lays "java/lang/IllegalStateException" "java/lang/Throwable" "backtrace" "Ljava/lang/Object;" ∈ wW := wW_i (tI1 (i := 178) (by decide +kernel)) (by decide +kernel)
theorem w_180 : Cond.methodLink "SunShadows" 73 ⟨"java/lang/IllegalStateException", "<init>", "(Ljava/lang/String;)V"⟩ ∈ wW := wW_i (tI1 (i := 180) (by decide +kernel)) (by decide +kernel)
theorem w_181 : Cond.instanceMethod ⟨"java/lang/IllegalStateException", "<init>", "(Ljava/lang/String;)V"⟩ ∈ wW := wW_i (tI1 (i := 181) (by decide +kernel)) (by decide +kernel)
theorem w_182 : Cond.code ⟨"java/lang/IllegalStateException", "<init>", "(Ljava/lang/String;)V"⟩ prog_9_method_2_code 2 none ∈ wW := wW_i (tI1 (i := 182) rfl) (by decide +kernel)
theorem w_183 : Cond.methodLink "java/lang/IllegalStateException" 7 ⟨"java/lang/RuntimeException", "<init>", "(Ljava/lang/String;)V"⟩ ∈ wW := wW_i (tI1 (i := 183) (by decide +kernel)) (by decide +kernel)
theorem w_184 : Cond.lays "java/lang/IllegalStateException" "java/lang/Throwable" "depth" "I" ∈ wW := wW_i (tI1 (i := 184) (by decide +kernel)) (by decide +kernel)
theorem w_186 : Cond.instantiable "SunShadows$Box" 7 ∈ wW := wW_i (tI1 (i := 186) (by decide +kernel)) (by decide +kernel)
theorem w_187 : Cond.methodLink "SunShadows" 74 y_Bx_init ∈ wW := wW_i (tI1 (i := 187) (by decide +kernel)) (by decide +kernel)
theorem w_188 : Cond.instanceMethod y_Bx_init ∈ wW := wW_i (tI1 (i := 188) (by decide +kernel)) (by decide +kernel)
theorem w_189 : Cond.code y_Bx_init prog_2_method_1_code 7 none ∈ wW := wW_i (tI1 (i := 189) rfl) (by decide +kernel)
theorem w_190 : Cond.methodLink "SunShadows$Box" 3 ⟨"java/lang/Object", "<init>", "()V"⟩ ∈ wW := wW_i (tI1 (i := 190) (by decide +kernel)) (by decide +kernel)
theorem w_191 : Cond.fieldLink "SunShadows$Box" 15 "SunShadows$Box" "x0" "I" ∈ wW := wW_i (tI1 (i := 191) (by decide +kernel)) (by decide +kernel)
theorem w_192 : Cond.fieldLink "SunShadows$Box" 19 "SunShadows$Box" "y0" "I" ∈ wW := wW_i (tI1 (i := 192) (by decide +kernel)) (by decide +kernel)
theorem w_193 : Cond.fieldLink "SunShadows$Box" 22 "SunShadows$Box" "z0" "I" ∈ wW := wW_i (tI1 (i := 193) (by decide +kernel)) (by decide +kernel)
theorem w_194 : Cond.fieldLink "SunShadows$Box" 25 "SunShadows$Box" "x1" "I" ∈ wW := wW_i (tI1 (i := 194) (by decide +kernel)) (by decide +kernel)
theorem w_195 : Cond.fieldLink "SunShadows$Box" 28 "SunShadows$Box" "y1" "I" ∈ wW := wW_i (tI1 (i := 195) (by decide +kernel)) (by decide +kernel)
theorem w_196 : Cond.fieldLink "SunShadows$Box" 31 "SunShadows$Box" "z1" "I" ∈ wW := wW_i (tI1 (i := 196) (by decide +kernel)) (by decide +kernel)
theorem w_197 : Cond.fieldLink "SunShadows" 203 "SunShadows$Box" "z1" "I" ∈ wW := wW_i (tI1 (i := 197) (by decide +kernel)) (by decide +kernel)
theorem w_198 : Cond.fieldLink "SunShadows$Box" 9 "SunShadows$Box" "present" "Z" ∈ wW := wW_i (tI1 (i := 198) (by decide +kernel)) (by decide +kernel)
theorem w_199 : Cond.fieldLink "SunShadows" 90 "SunShadows$Box" "present" "Z" ∈ wW := wW_i (tI1 (i := 199) (by decide +kernel)) (by decide +kernel)
theorem w_200 : Cond.lays "SunShadows$Box" "SunShadows$Box" "x0" "I" ∈ wW := wW_i (tI1 (i := 200) (by decide +kernel)) (by decide +kernel)
theorem w_202 : Cond.lays "SunShadows$Box" "SunShadows$Box" "y0" "I" ∈ wW := wW_i (tI1 (i := 202) (by decide +kernel)) (by decide +kernel)
theorem w_204 : Cond.lays "SunShadows$Box" "SunShadows$Box" "z0" "I" ∈ wW := wW_i (tI1 (i := 204) (by decide +kernel)) (by decide +kernel)
theorem w_206 : Cond.lays "SunShadows$Box" "SunShadows$Box" "x1" "I" ∈ wW := wW_i (tI1 (i := 206) (by decide +kernel)) (by decide +kernel)
theorem w_208 : Cond.lays "SunShadows$Box" "SunShadows$Box" "y1" "I" ∈ wW := wW_i (tI1 (i := 208) (by decide +kernel)) (by decide +kernel)
theorem w_210 : Cond.lays "SunShadows$Box" "SunShadows$Box" "z1" "I" ∈ wW := wW_i (tI1 (i := 210) (by decide +kernel)) (by decide +kernel)
theorem w_212 : Cond.lays "SunShadows$Box" "SunShadows$Box" "present" "Z" ∈ wW := wW_i (tI1 (i := 212) (by decide +kernel)) (by decide +kernel)
theorem w_215 : Cond.methodLink "SunShadowsLaw" 86 y_Lw_move ∈ wW := wW_i (tI1 (i := 215) (by decide +kernel)) (by decide +kernel)
theorem w_216 : Cond.static y_Lw_move ∈ wW := wW_i (tI1 (i := 216) (by decide +kernel)) (by decide +kernel)
theorem w_217 : Cond.codeWith y_Lw_move method_4_code 7 (some .int) [(0, 21, 24, 13)] ∈ wW := wW_i (tI1 (i := 217) rfl) (by decide +kernel)
theorem w_218 : Cond.methodLink "SunShadowsLaw" 17 y_Ss_move ∈ wW := wW_i (tI1 (i := 218) (by decide +kernel)) (by decide +kernel)
theorem w_219 : Cond.instanceMethod y_Ss_move ∈ wW := wW_i (tI1 (i := 219) (by decide +kernel)) (by decide +kernel)
theorem w_220 : Cond.selects "SunShadows" y_Ss_move y_Ss_move ∈ wW := wW_i (tI1 (i := 220) (by decide +kernel)) (by decide +kernel)
theorem w_221 : Cond.code y_Ss_move prog_1_method_3_code 6 (some .boolean) ∈ wW := wW_i (tI1 (i := 221) rfl) (by decide +kernel)
theorem w_222 : Cond.methodLink "SunShadows" 77 y_Ss_knownBox ∈ wW := wW_i (tI1 (i := 222) (by decide +kernel)) (by decide +kernel)
theorem w_224 : Cond.instanceMethod y_Ss_knownBox ∈ wW := wW_i (tI1 (i := 224) (by decide +kernel)) (by decide +kernel)
theorem w_225 : Cond.code y_Ss_knownBox prog_1_method_17_code 3 (some (.object "SunShadows$Box")) ∈ wW := wW_i (tI1 (i := 225) rfl) (by decide +kernel)
theorem w_227 : Cond.methodLink "SunShadows" 81 y_Ss_isWithin ∈ wW := wW_i (tI1 (i := 227) (by decide +kernel)) (by decide +kernel)
theorem w_228 : Cond.static y_Ss_isWithin ∈ wW := wW_i (tI1 (i := 228) (by decide +kernel)) (by decide +kernel)
theorem w_229 : Cond.code y_Ss_isWithin prog_1_method_27_code 3 (some .boolean) ∈ wW := wW_i (tI1 (i := 229) rfl) (by decide +kernel)
theorem w_231 : Cond.methodLink "SunShadows" 87 y_Bx_shiftIfAllowed ∈ wW := wW_i (tI1 (i := 231) (by decide +kernel)) (by decide +kernel)
theorem w_232 : Cond.instanceMethod y_Bx_shiftIfAllowed ∈ wW := wW_i (tI1 (i := 232) (by decide +kernel)) (by decide +kernel)
theorem w_233 : Cond.selects "SunShadows$Box" y_Bx_shiftIfAllowed y_Bx_shiftIfAllowed ∈ wW := wW_i (tI1 (i := 233) (by decide +kernel)) (by decide +kernel)
theorem w_234 : Cond.code y_Bx_shiftIfAllowed prog_2_method_3_code 4 (some .boolean) ∈ wW := wW_i (tI1 (i := 234) rfl) (by decide +kernel)
theorem w_235 : Cond.methodLink "SunShadows$Box" 34 y_Bx_isAllowed ∈ wW := wW_i (tI1 (i := 235) (by decide +kernel)) (by decide +kernel)
theorem w_236 : Cond.methodLink "SunShadowsLaw" 90 y_Lw_there ∈ wW := wW_i (tI1 (i := 236) (by decide +kernel)) (by decide +kernel)
theorem w_237 : Cond.static y_Lw_there ∈ wW := wW_i (tI1 (i := 237) (by decide +kernel)) (by decide +kernel)
theorem w_238 : Cond.codeWith y_Lw_there method_5_code 5 (some .int) [(0, 17, 20, 13)] ∈ wW := wW_i (tI1 (i := 238) rfl) (by decide +kernel)
theorem w_239 : Cond.methodLink "SunShadowsLaw" 21 y_Ss_there ∈ wW := wW_i (tI1 (i := 239) (by decide +kernel)) (by decide +kernel)
theorem w_240 : Cond.instanceMethod y_Ss_there ∈ wW := wW_i (tI2 (i := 0) (by decide +kernel)) (by decide +kernel)
theorem w_241 : Cond.selects "SunShadows" y_Ss_there y_Ss_there ∈ wW := wW_i (tI2 (i := 1) (by decide +kernel)) (by decide +kernel)
theorem w_242 : Cond.code y_Ss_there prog_1_method_4_code 5 (some .boolean) ∈ wW := wW_i (tI2 (i := 2) rfl) (by decide +kernel)
theorem w_243 : Cond.methodLink "SunShadowsLaw" 94 y_Lw_sun ∈ wW := wW_i (tI2 (i := 3) (by decide +kernel)) (by decide +kernel)
theorem w_244 : Cond.static y_Lw_sun ∈ wW := wW_i (tI2 (i := 4) (by decide +kernel)) (by decide +kernel)
theorem w_245 : Cond.codeWith y_Lw_sun method_6_code 6 (some .int) [(0, 9, 12, 13)] ∈ wW := wW_i (tI2 (i := 5) rfl) (by decide +kernel)
theorem w_246 : Cond.methodLink "SunShadowsLaw" 25 y_Ss_sun ∈ wW := wW_i (tI2 (i := 6) (by decide +kernel)) (by decide +kernel)
theorem w_247 : Cond.instanceMethod y_Ss_sun ∈ wW := wW_i (tI2 (i := 7) (by decide +kernel)) (by decide +kernel)
theorem w_248 : Cond.selects "SunShadows" y_Ss_sun y_Ss_sun ∈ wW := wW_i (tI2 (i := 8) (by decide +kernel)) (by decide +kernel)
theorem w_249 : Cond.code y_Ss_sun prog_1_method_5_code 6 none ∈ wW := wW_i (tI2 (i := 9) rfl) (by decide +kernel)
theorem w_250 : Cond.methodLink "SunShadows" 94 y_Ss_knownHour ∈ wW := wW_i (tI2 (i := 10) (by decide +kernel)) (by decide +kernel)
theorem w_252 : Cond.instanceMethod y_Ss_knownHour ∈ wW := wW_i (tI2 (i := 12) (by decide +kernel)) (by decide +kernel)
theorem w_253 : Cond.code y_Ss_knownHour prog_1_method_19_code 3 (some (.object "SunShadows$Hour")) ∈ wW := wW_i (tI2 (i := 13) rfl) (by decide +kernel)
theorem w_256 : Cond.methodLink "SunShadowsLaw" 98 y_Lw_light ∈ wW := wW_i (tI2 (i := 16) (by decide +kernel)) (by decide +kernel)
theorem w_257 : Cond.static y_Lw_light ∈ wW := wW_i (tI2 (i := 17) (by decide +kernel)) (by decide +kernel)
theorem w_258 : Cond.codeWith y_Lw_light method_7_code 5 (some .int) [(0, 10, 13, 13)] ∈ wW := wW_i (tI2 (i := 18) rfl) (by decide +kernel)
theorem w_259 : Cond.methodLink "SunShadowsLaw" 29 y_Ss_light ∈ wW := wW_i (tI2 (i := 19) (by decide +kernel)) (by decide +kernel)
theorem w_260 : Cond.instanceMethod y_Ss_light ∈ wW := wW_i (tI2 (i := 20) (by decide +kernel)) (by decide +kernel)
theorem w_261 : Cond.selects "SunShadows" y_Ss_light y_Ss_light ∈ wW := wW_i (tI2 (i := 21) (by decide +kernel)) (by decide +kernel)
theorem w_262 : Cond.code y_Ss_light prog_1_method_6_code 5 (some .int) ∈ wW := wW_i (tI2 (i := 22) rfl) (by decide +kernel)
theorem w_264 : Cond.methodLink "SunShadowsLaw" 102 y_Lw_window ∈ wW := wW_i (tI2 (i := 24) (by decide +kernel)) (by decide +kernel)
theorem w_265 : Cond.static y_Lw_window ∈ wW := wW_i (tI2 (i := 25) (by decide +kernel)) (by decide +kernel)
theorem w_266 : Cond.codeWith y_Lw_window method_8_code 7 (some .int) [(0, 14, 17, 13), (0, 14, 21, 15)] ∈ wW := wW_i (tI2 (i := 26) rfl) (by decide +kernel)
theorem w_267 : Cond.methodLink "SunShadowsLaw" 33 y_Ss_window ∈ wW := wW_i (tI2 (i := 27) (by decide +kernel)) (by decide +kernel)
theorem w_268 : Cond.instanceMethod y_Ss_window ∈ wW := wW_i (tI2 (i := 28) (by decide +kernel)) (by decide +kernel)
theorem w_269 : Cond.selects "SunShadows" y_Ss_window y_Ss_window ∈ wW := wW_i (tI2 (i := 29) (by decide +kernel)) (by decide +kernel)
theorem w_270 : Cond.code y_Ss_window prog_1_method_7_code 6 (some .int) ∈ wW := wW_i (tI2 (i := 30) rfl) (by decide +kernel)
theorem w_273 : Cond.instantiable "SunShadows$Window" 4 ∈ wW := wW_i (tI2 (i := 33) (by decide +kernel)) (by decide +kernel)
theorem w_274 : Cond.methodLink "SunShadows" 118 y_Wn_init ∈ wW := wW_i (tI2 (i := 34) (by decide +kernel)) (by decide +kernel)
theorem w_275 : Cond.instanceMethod y_Wn_init ∈ wW := wW_i (tI2 (i := 35) (by decide +kernel)) (by decide +kernel)
theorem w_276 : Cond.code y_Wn_init prog_4_method_1_code 5 none ∈ wW := wW_i (tI2 (i := 36) rfl) (by decide +kernel)
theorem w_277 : Cond.methodLink "SunShadows$Window" 1 ⟨"java/lang/Object", "<init>", "()V"⟩ ∈ wW := wW_i (tI2 (i := 37) (by decide +kernel)) (by decide +kernel)
theorem w_278 : Cond.fieldLink "SunShadows$Window" 7 "SunShadows$Window" "x0" "I" ∈ wW := wW_i (tI2 (i := 38) (by decide +kernel)) (by decide +kernel)
theorem w_279 : Cond.fieldLink "SunShadows$Window" 13 "SunShadows$Window" "y0" "I" ∈ wW := wW_i (tI2 (i := 39) (by decide +kernel)) (by decide +kernel)
theorem w_280 : Cond.fieldLink "SunShadows" 193 "SunShadows$Window" "y0" "I" ∈ wW := wW_i (tI2 (i := 40) (by decide +kernel)) (by decide +kernel)
theorem w_281 : Cond.fieldLink "SunShadows$Window" 16 "SunShadows$Window" "x1" "I" ∈ wW := wW_i (tI2 (i := 41) (by decide +kernel)) (by decide +kernel)
theorem w_282 : Cond.fieldLink "SunShadows$Window" 19 "SunShadows$Window" "y1" "I" ∈ wW := wW_i (tI2 (i := 42) (by decide +kernel)) (by decide +kernel)
theorem w_283 : Cond.fieldLink "SunShadows" 196 "SunShadows$Window" "y1" "I" ∈ wW := wW_i (tI2 (i := 43) (by decide +kernel)) (by decide +kernel)
theorem w_284 : Cond.laysFinal "SunShadows$Window" "SunShadows$Window" "x0" "I" ∈ wW := wW_i (tI2 (i := 44) (by decide +kernel)) (by decide +kernel)
theorem w_286 : Cond.laysFinal "SunShadows$Window" "SunShadows$Window" "y0" "I" ∈ wW := wW_i (tI2 (i := 46) (by decide +kernel)) (by decide +kernel)
theorem w_288 : Cond.laysFinal "SunShadows$Window" "SunShadows$Window" "x1" "I" ∈ wW := wW_i (tI2 (i := 48) (by decide +kernel)) (by decide +kernel)
theorem w_290 : Cond.laysFinal "SunShadows$Window" "SunShadows$Window" "y1" "I" ∈ wW := wW_i (tI2 (i := 50) (by decide +kernel)) (by decide +kernel)
theorem w_293 : Cond.methodLink "SunShadowsLaw" 105 y_Lw_shadow ∈ wW := wW_i (tI2 (i := 53) (by decide +kernel)) (by decide +kernel)
theorem w_294 : Cond.static y_Lw_shadow ∈ wW := wW_i (tI2 (i := 54) (by decide +kernel)) (by decide +kernel)
theorem w_295 : Cond.codeWith y_Lw_shadow method_9_code 6 (some .int) [(0, 19, 22, 13), (0, 19, 26, 15)] ∈ wW := wW_i (tI2 (i := 55) rfl) (by decide +kernel)
theorem w_296 : Cond.methodLink "SunShadowsLaw" 37 y_Ss_shadow ∈ wW := wW_i (tI2 (i := 56) (by decide +kernel)) (by decide +kernel)
theorem w_297 : Cond.instanceMethod y_Ss_shadow ∈ wW := wW_i (tI2 (i := 57) (by decide +kernel)) (by decide +kernel)
theorem w_298 : Cond.selects "SunShadows" y_Ss_shadow y_Ss_shadow ∈ wW := wW_i (tI2 (i := 58) (by decide +kernel)) (by decide +kernel)
theorem w_299 : Cond.code y_Ss_shadow prog_1_method_8_code 4 (some .boolean) ∈ wW := wW_i (tI2 (i := 59) rfl) (by decide +kernel)
theorem w_301 : Cond.methodLink "SunShadows" 123 y_Ss_sunnyHour ∈ wW := wW_i (tI2 (i := 61) (by decide +kernel)) (by decide +kernel)
theorem w_303 : Cond.instanceMethod y_Ss_sunnyHour ∈ wW := wW_i (tI2 (i := 63) (by decide +kernel)) (by decide +kernel)
theorem w_304 : Cond.code y_Ss_sunnyHour prog_1_method_20_code 3 (some (.object "SunShadows$Hour")) ∈ wW := wW_i (tI2 (i := 64) rfl) (by decide +kernel)
theorem w_305 : Cond.methodLink "SunShadows" 173 y_Hr_hasSun ∈ wW := wW_i (tI2 (i := 65) (by decide +kernel)) (by decide +kernel)
theorem w_306 : Cond.instanceMethod y_Hr_hasSun ∈ wW := wW_i (tI2 (i := 66) (by decide +kernel)) (by decide +kernel)
theorem w_307 : Cond.selects "SunShadows$Hour" y_Hr_hasSun y_Hr_hasSun ∈ wW := wW_i (tI2 (i := 67) (by decide +kernel)) (by decide +kernel)
theorem w_308 : Cond.code y_Hr_hasSun prog_3_method_2_code 1 (some .boolean) ∈ wW := wW_i (tI2 (i := 68) rfl) (by decide +kernel)
theorem w_310 : Cond.methodLink "SunShadows" 126 y_Ss_shadeOfRow ∈ wW := wW_i (tI2 (i := 70) (by decide +kernel)) (by decide +kernel)
theorem w_312 : Cond.instanceMethod y_Ss_shadeOfRow ∈ wW := wW_i (tI2 (i := 72) (by decide +kernel)) (by decide +kernel)
theorem w_313 : Cond.code y_Ss_shadeOfRow prog_1_method_21_code 9 (some .long) ∈ wW := wW_i (tI2 (i := 73) rfl) (by decide +kernel)
theorem w_314 : Cond.methodLink "SunShadows" 134 y_Bx_shadeThrownOnRow ∈ wW := wW_i (tI2 (i := 74) (by decide +kernel)) (by decide +kernel)
theorem w_315 : Cond.instanceMethod y_Bx_shadeThrownOnRow ∈ wW := wW_i (tI2 (i := 75) (by decide +kernel)) (by decide +kernel)
theorem w_316 : Cond.selects "SunShadows$Box" y_Bx_shadeThrownOnRow y_Bx_shadeThrownOnRow ∈ wW := wW_i (tI2 (i := 76) (by decide +kernel)) (by decide +kernel)
theorem w_317 : Cond.code y_Bx_shadeThrownOnRow prog_2_method_4_code 13 (some .long) ∈ wW := wW_i (tI2 (i := 77) rfl) (by decide +kernel)
theorem w_318 : Cond.methodLink "SunShadows$Box" 38 y_Hr_hasSun ∈ wW := wW_i (tI2 (i := 78) (by decide +kernel)) (by decide +kernel)
theorem w_319 : Cond.methodLink "SunShadows$Box" 47 y_Bx_spansLine ∈ wW := wW_i (tI2 (i := 79) (by decide +kernel)) (by decide +kernel)
theorem w_321 : Cond.instanceMethod y_Bx_spansLine ∈ wW := wW_i (tI2 (i := 81) (by decide +kernel)) (by decide +kernel)
theorem w_322 : Cond.code y_Bx_spansLine prog_2_method_5_code 2 (some .boolean) ∈ wW := wW_i (tI2 (i := 82) rfl) (by decide +kernel)
theorem w_323 : Cond.methodLink "SunShadows$Box" 51 y_Mt_abs ∈ wW := wW_i (tI2 (i := 83) (by decide +kernel)) (by decide +kernel)
theorem w_324 : Cond.static y_Mt_abs ∈ wW := wW_i (tI2 (i := 84) (by decide +kernel)) (by decide +kernel)
theorem w_325 : Cond.code y_Mt_abs prog_11_method_59_code 1 (some .int) ∈ wW := wW_i (tI2 (i := 85) rfl) (by decide +kernel)
theorem w_326 : Cond.methodLink "SunShadows$Box" 57 y_Bx_nearest ∈ wW := wW_i (tI2 (i := 86) (by decide +kernel)) (by decide +kernel)
theorem w_328 : Cond.instanceMethod y_Bx_nearest ∈ wW := wW_i (tI2 (i := 88) (by decide +kernel)) (by decide +kernel)
theorem w_329 : Cond.code y_Bx_nearest prog_2_method_6_code 5 (some .int) ∈ wW := wW_i (tI2 (i := 89) rfl) (by decide +kernel)
theorem w_330 : Cond.methodLink "SunShadows$Box" 74 y_Mt_max ∈ wW := wW_i (tI2 (i := 90) (by decide +kernel)) (by decide +kernel)
theorem w_331 : Cond.methodLink "SunShadows$Box" 61 y_Bx_farthest ∈ wW := wW_i (tI2 (i := 91) (by decide +kernel)) (by decide +kernel)
theorem w_333 : Cond.instanceMethod y_Bx_farthest ∈ wW := wW_i (tI2 (i := 93) (by decide +kernel)) (by decide +kernel)
theorem w_334 : Cond.code y_Bx_farthest prog_2_method_7_code 5 (some .int) ∈ wW := wW_i (tI2 (i := 94) rfl) (by decide +kernel)
theorem w_335 : Cond.methodLink "SunShadows$Box" 70 y_Mt_min ∈ wW := wW_i (tI2 (i := 95) (by decide +kernel)) (by decide +kernel)
theorem w_336 : Cond.methodLink "SunShadows$Box" 77 y_Bx_floorOver ∈ wW := wW_i (tI2 (i := 96) (by decide +kernel)) (by decide +kernel)
theorem w_337 : Cond.static y_Bx_floorOver ∈ wW := wW_i (tI2 (i := 97) (by decide +kernel)) (by decide +kernel)
theorem w_338 : Cond.code y_Bx_floorOver prog_2_method_8_code 2 (some .int) ∈ wW := wW_i (tI2 (i := 98) rfl) (by decide +kernel)
theorem w_339 : Cond.methodLink "SunShadows$Box" 84 y_Mt_floorDiv ∈ wW := wW_i (tI2 (i := 99) (by decide +kernel)) (by decide +kernel)
theorem w_340 : Cond.static y_Mt_floorDiv ∈ wW := wW_i (tI2 (i := 100) (by decide +kernel)) (by decide +kernel)
theorem w_341 : Cond.code y_Mt_floorDiv prog_11_method_47_code 3 (some .int) ∈ wW := wW_i (tI2 (i := 101) rfl) (by decide +kernel)
theorem w_343 : Cond.static y_Ss_cellsBetween ∈ wW := wW_i (tI2 (i := 103) (by decide +kernel)) (by decide +kernel)
theorem w_344 : Cond.code y_Ss_cellsBetween prog_1_method_29_code 2 (some .long) ∈ wW := wW_i (tI2 (i := 104) rfl) (by decide +kernel)
theorem w_345 : Cond.methodLink "SunShadows" 130 y_Ss_hasCell ∈ wW := wW_i (tI2 (i := 105) (by decide +kernel)) (by decide +kernel)
theorem w_346 : Cond.static y_Ss_hasCell ∈ wW := wW_i (tI2 (i := 106) (by decide +kernel)) (by decide +kernel)
theorem w_347 : Cond.code y_Ss_hasCell prog_1_method_28_code 3 (some .boolean) ∈ wW := wW_i (tI2 (i := 107) rfl) (by decide +kernel)
theorem w_348 : Cond.methodLink "SunShadowsLaw" 109 y_Lw_shadows ∈ wW := wW_i (tI2 (i := 108) (by decide +kernel)) (by decide +kernel)
theorem w_349 : Cond.static y_Lw_shadows ∈ wW := wW_i (tI2 (i := 109) (by decide +kernel)) (by decide +kernel)
theorem w_350 : Cond.codeWith y_Lw_shadows method_10_code 5 (some .int) [(0, 10, 13, 13), (0, 10, 17, 15)] ∈ wW := wW_i (tI2 (i := 110) rfl) (by decide +kernel)
theorem w_351 : Cond.methodLink "SunShadowsLaw" 41 y_Ss_shadows ∈ wW := wW_i (tI2 (i := 111) (by decide +kernel)) (by decide +kernel)
theorem w_352 : Cond.instanceMethod y_Ss_shadows ∈ wW := wW_i (tI2 (i := 112) (by decide +kernel)) (by decide +kernel)
theorem w_353 : Cond.selects "SunShadows" y_Ss_shadows y_Ss_shadows ∈ wW := wW_i (tI2 (i := 113) (by decide +kernel)) (by decide +kernel)
theorem w_354 : Cond.code y_Ss_shadows prog_1_method_9_code 9 (some .int) ∈ wW := wW_i (tI2 (i := 114) rfl) (by decide +kernel)
theorem w_355 : Cond.methodLink "SunShadows" 138 y_Lo_bitCount ∈ wW := wW_i (tI2 (i := 115) (by decide +kernel)) (by decide +kernel)
theorem w_356 : Cond.static y_Lo_bitCount ∈ wW := wW_i (tI2 (i := 116) (by decide +kernel)) (by decide +kernel)
theorem w_357 : Cond.code y_Lo_bitCount prog_10_method_50_code 2 (some .int) ∈ wW := wW_i (tI2 (i := 117) rfl) (by decide +kernel)
theorem w_358 : Cond.constantLong "java/lang/Long" 314 (6148914691236517205 : Int64) ∈ wW := wW_i (tI2 (i := 118) (by decide +kernel)) (by decide +kernel)
theorem w_359 : Cond.constantLong "java/lang/Long" 316 (3689348814741910323 : Int64) ∈ wW := wW_i (tI2 (i := 119) (by decide +kernel)) (by decide +kernel)
theorem w_360 : Cond.constantLong "java/lang/Long" 318 (1085102592571150095 : Int64) ∈ wW := wW_i (tI2 (i := 120) (by decide +kernel)) (by decide +kernel)
theorem w_361 : Cond.methodLink "SunShadowsLaw" 112 y_Lw_dark ∈ wW := wW_i (tI2 (i := 121) (by decide +kernel)) (by decide +kernel)
theorem w_362 : Cond.static y_Lw_dark ∈ wW := wW_i (tI2 (i := 122) (by decide +kernel)) (by decide +kernel)
theorem w_363 : Cond.codeWith y_Lw_dark method_11_code 5 (some .int) [(0, 10, 13, 13), (0, 10, 17, 15)] ∈ wW := wW_i (tI2 (i := 123) rfl) (by decide +kernel)
theorem w_364 : Cond.methodLink "SunShadowsLaw" 44 y_Ss_dark ∈ wW := wW_i (tI2 (i := 124) (by decide +kernel)) (by decide +kernel)
theorem w_365 : Cond.instanceMethod y_Ss_dark ∈ wW := wW_i (tI2 (i := 125) (by decide +kernel)) (by decide +kernel)
theorem w_366 : Cond.selects "SunShadows" y_Ss_dark y_Ss_dark ∈ wW := wW_i (tI2 (i := 126) (by decide +kernel)) (by decide +kernel)
theorem w_367 : Cond.code y_Ss_dark prog_1_method_10_code 4 (some .int) ∈ wW := wW_i (tI2 (i := 127) rfl) (by decide +kernel)
theorem w_368 : Cond.methodLink "SunShadows" 144 y_Ss_knownWindow ∈ wW := wW_i (tI2 (i := 128) (by decide +kernel)) (by decide +kernel)
theorem w_370 : Cond.instanceMethod y_Ss_knownWindow ∈ wW := wW_i (tI2 (i := 130) (by decide +kernel)) (by decide +kernel)
theorem w_371 : Cond.code y_Ss_knownWindow prog_1_method_18_code 3 (some (.object "SunShadows$Window")) ∈ wW := wW_i (tI2 (i := 131) rfl) (by decide +kernel)
theorem w_373 : Cond.methodLink "SunShadows" 148 y_Ss_darkCells ∈ wW := wW_i (tI2 (i := 133) (by decide +kernel)) (by decide +kernel)
theorem w_375 : Cond.instanceMethod y_Ss_darkCells ∈ wW := wW_i (tI2 (i := 135) (by decide +kernel)) (by decide +kernel)
theorem w_376 : Cond.code y_Ss_darkCells prog_1_method_22_code 10 (some .int) ∈ wW := wW_i (tI2 (i := 136) rfl) (by decide +kernel)
theorem w_377 : Cond.methodLink "SunShadows" 189 y_Wn_columns ∈ wW := wW_i (tI2 (i := 137) (by decide +kernel)) (by decide +kernel)
theorem w_378 : Cond.instanceMethod y_Wn_columns ∈ wW := wW_i (tI2 (i := 138) (by decide +kernel)) (by decide +kernel)
theorem w_379 : Cond.selects "SunShadows$Window" y_Wn_columns y_Wn_columns ∈ wW := wW_i (tI2 (i := 139) (by decide +kernel)) (by decide +kernel)
theorem w_380 : Cond.code y_Wn_columns prog_4_method_3_code 1 (some .long) ∈ wW := wW_i (tI2 (i := 140) rfl) (by decide +kernel)
theorem w_382 : Cond.methodLink "SunShadowsLaw" 115 y_Lw_cell_c ∈ wW := wW_i (tI2 (i := 142) (by decide +kernel)) (by decide +kernel)
theorem w_383 : Cond.static y_Lw_cell_c ∈ wW := wW_i (tI2 (i := 143) (by decide +kernel)) (by decide +kernel)
theorem w_384 : Cond.codeWith y_Lw_cell_c method_12_code 5 (some .int) [(0, 10, 13, 13), (0, 10, 17, 15)] ∈ wW := wW_i (tI2 (i := 144) rfl) (by decide +kernel)
theorem w_385 : Cond.methodLink "SunShadowsLaw" 47 y_Ss_cell ∈ wW := wW_i (tI2 (i := 145) (by decide +kernel)) (by decide +kernel)
theorem w_386 : Cond.instanceMethod y_Ss_cell ∈ wW := wW_i (tI2 (i := 146) (by decide +kernel)) (by decide +kernel)
theorem w_387 : Cond.selects "SunShadows" y_Ss_cell y_Ss_cell ∈ wW := wW_i (tI2 (i := 147) (by decide +kernel)) (by decide +kernel)
theorem w_388 : Cond.code y_Ss_cell prog_1_method_11_code 9 (some .int) ∈ wW := wW_i (tI2 (i := 148) rfl) (by decide +kernel)
theorem w_390 : Cond.methodLink "SunShadows" 154 y_Ss_cellWithBefore ∈ wW := wW_i (tI2 (i := 150) (by decide +kernel)) (by decide +kernel)
theorem w_391 : Cond.static y_Ss_cellWithBefore ∈ wW := wW_i (tI2 (i := 151) (by decide +kernel)) (by decide +kernel)
theorem w_392 : Cond.code y_Ss_cellWithBefore prog_1_method_30_code 5 (some .int) ∈ wW := wW_i (tI2 (i := 152) rfl) (by decide +kernel)
theorem w_393 : Cond.methodLink "SunShadowsLaw" 118 y_Lw_lit ∈ wW := wW_i (tI2 (i := 153) (by decide +kernel)) (by decide +kernel)
theorem w_394 : Cond.static y_Lw_lit ∈ wW := wW_i (tI2 (i := 154) (by decide +kernel)) (by decide +kernel)
theorem w_395 : Cond.codeWith y_Lw_lit method_13_code 5 (some .int) [(0, 10, 13, 13)] ∈ wW := wW_i (tI2 (i := 155) rfl) (by decide +kernel)
theorem w_396 : Cond.methodLink "SunShadowsLaw" 50 y_Ss_lit ∈ wW := wW_i (tI2 (i := 156) (by decide +kernel)) (by decide +kernel)
theorem w_397 : Cond.instanceMethod y_Ss_lit ∈ wW := wW_i (tI2 (i := 157) (by decide +kernel)) (by decide +kernel)
theorem w_398 : Cond.selects "SunShadows" y_Ss_lit y_Ss_lit ∈ wW := wW_i (tI2 (i := 158) (by decide +kernel)) (by decide +kernel)
theorem w_399 : Cond.code y_Ss_lit prog_1_method_12_code 9 (some .int) ∈ wW := wW_i (tI2 (i := 159) rfl) (by decide +kernel)
theorem w_400 : Cond.methodLink "SunShadows" 158 y_Ss_lightOfHour ∈ wW := wW_i (tI2 (i := 160) (by decide +kernel)) (by decide +kernel)
theorem w_402 : Cond.instanceMethod y_Ss_lightOfHour ∈ wW := wW_i (tI2 (i := 162) (by decide +kernel)) (by decide +kernel)
theorem w_403 : Cond.code y_Ss_lightOfHour prog_1_method_23_code 3 (some .int) ∈ wW := wW_i (tI2 (i := 163) rfl) (by decide +kernel)
theorem w_404 : Cond.methodLink "SunShadows" 199 y_Wn_cellCount ∈ wW := wW_i (tI2 (i := 164) (by decide +kernel)) (by decide +kernel)
theorem w_405 : Cond.instanceMethod y_Wn_cellCount ∈ wW := wW_i (tI2 (i := 165) (by decide +kernel)) (by decide +kernel)
theorem w_406 : Cond.selects "SunShadows$Window" y_Wn_cellCount y_Wn_cellCount ∈ wW := wW_i (tI2 (i := 166) (by decide +kernel)) (by decide +kernel)
theorem w_407 : Cond.code y_Wn_cellCount prog_4_method_2_code 1 (some .int) ∈ wW := wW_i (tI2 (i := 167) rfl) (by decide +kernel)
theorem w_408 : Cond.methodLink "SunShadowsLaw" 121 y_Lw_brightest ∈ wW := wW_i (tI2 (i := 168) (by decide +kernel)) (by decide +kernel)
theorem w_409 : Cond.static y_Lw_brightest ∈ wW := wW_i (tI2 (i := 169) (by decide +kernel)) (by decide +kernel)
theorem w_410 : Cond.codeWith y_Lw_brightest method_14_code 4 (some .int) [(0, 9, 12, 13)] ∈ wW := wW_i (tI2 (i := 170) rfl) (by decide +kernel)
theorem w_411 : Cond.methodLink "SunShadowsLaw" 53 y_Ss_brightest ∈ wW := wW_i (tI2 (i := 171) (by decide +kernel)) (by decide +kernel)
theorem w_412 : Cond.instanceMethod y_Ss_brightest ∈ wW := wW_i (tI2 (i := 172) (by decide +kernel)) (by decide +kernel)
theorem w_413 : Cond.selects "SunShadows" y_Ss_brightest y_Ss_brightest ∈ wW := wW_i (tI2 (i := 173) (by decide +kernel)) (by decide +kernel)
theorem w_414 : Cond.code y_Ss_brightest prog_1_method_13_code 7 (some .int) ∈ wW := wW_i (tI2 (i := 174) rfl) (by decide +kernel)
theorem w_415 : Cond.methodLink "SunShadowsLaw" 125 y_Lw_ledge ∈ wW := wW_i (tI2 (i := 175) (by decide +kernel)) (by decide +kernel)
theorem w_416 : Cond.static y_Lw_ledge ∈ wW := wW_i (tI2 (i := 176) (by decide +kernel)) (by decide +kernel)
theorem w_417 : Cond.codeWith y_Lw_ledge method_15_code 6 (some .int) [(0, 12, 15, 13), (0, 12, 19, 15)] ∈ wW := wW_i (tI2 (i := 177) rfl) (by decide +kernel)
theorem w_418 : Cond.methodLink "SunShadowsLaw" 57 y_Ss_ledge ∈ wW := wW_i (tI2 (i := 178) (by decide +kernel)) (by decide +kernel)
theorem w_419 : Cond.instanceMethod y_Ss_ledge ∈ wW := wW_i (tI2 (i := 179) (by decide +kernel)) (by decide +kernel)
theorem w_420 : Cond.selects "SunShadows" y_Ss_ledge y_Ss_ledge ∈ wW := wW_i (tI2 (i := 180) (by decide +kernel)) (by decide +kernel)
theorem w_421 : Cond.code y_Ss_ledge prog_1_method_14_code 5 (some .int) ∈ wW := wW_i (tI2 (i := 181) rfl) (by decide +kernel)
theorem w_423 : Cond.methodLink "SunShadows" 164 y_Wn_ledgeOf ∈ wW := wW_i (tI2 (i := 183) (by decide +kernel)) (by decide +kernel)
theorem w_424 : Cond.instanceMethod y_Wn_ledgeOf ∈ wW := wW_i (tI2 (i := 184) (by decide +kernel)) (by decide +kernel)
theorem w_425 : Cond.selects "SunShadows$Window" y_Wn_ledgeOf y_Wn_ledgeOf ∈ wW := wW_i (tI2 (i := 185) (by decide +kernel)) (by decide +kernel)
theorem w_426 : Cond.code y_Wn_ledgeOf prog_4_method_4_code 2 (some (.object "SunShadows$Box")) ∈ wW := wW_i (tI2 (i := 186) rfl) (by decide +kernel)
theorem w_427 : Cond.classLink "SunShadows$Window" 28 "SunShadows$Box" ∈ wW := wW_i (tI2 (i := 187) (by decide +kernel)) (by decide +kernel)
theorem w_428 : Cond.methodLink "SunShadows$Window" 30 y_Bx_init ∈ wW := wW_i (tI2 (i := 188) (by decide +kernel)) (by decide +kernel)
theorem w_429 : Cond.methodLink "SunShadowsLaw" 128 y_Lw_deep ∈ wW := wW_i (tI2 (i := 189) (by decide +kernel)) (by decide +kernel)
theorem w_430 : Cond.static y_Lw_deep ∈ wW := wW_i (tI2 (i := 190) (by decide +kernel)) (by decide +kernel)
theorem w_431 : Cond.codeWith y_Lw_deep method_16_code 6 (some .int) [(0, 12, 15, 13), (0, 12, 19, 15)] ∈ wW := wW_i (tI2 (i := 191) rfl) (by decide +kernel)
theorem w_432 : Cond.methodLink "SunShadowsLaw" 61 y_Ss_deep ∈ wW := wW_i (tI2 (i := 192) (by decide +kernel)) (by decide +kernel)
theorem w_433 : Cond.instanceMethod y_Ss_deep ∈ wW := wW_i (tI2 (i := 193) (by decide +kernel)) (by decide +kernel)
theorem w_434 : Cond.selects "SunShadows" y_Ss_deep y_Ss_deep ∈ wW := wW_i (tI2 (i := 194) (by decide +kernel)) (by decide +kernel)
theorem w_435 : Cond.code y_Ss_deep prog_1_method_15_code 7 (some .int) ∈ wW := wW_i (tI2 (i := 195) rfl) (by decide +kernel)
theorem w_437 : Cond.methodLink "SunShadows" 169 y_Ss_deepestTooLittle ∈ wW := wW_i (tI2 (i := 197) (by decide +kernel)) (by decide +kernel)
theorem w_439 : Cond.instanceMethod y_Ss_deepestTooLittle ∈ wW := wW_i (tI2 (i := 199) (by decide +kernel)) (by decide +kernel)
theorem w_440 : Cond.code y_Ss_deepestTooLittle prog_1_method_24_code 8 (some .int) ∈ wW := wW_i (tI2 (i := 200) rfl) (by decide +kernel)
theorem w_441 : Cond.methodLink "SunShadowsLaw" 131 y_Lw_worst ∈ wW := wW_i (tI2 (i := 201) (by decide +kernel)) (by decide +kernel)
theorem w_442 : Cond.static y_Lw_worst ∈ wW := wW_i (tI2 (i := 202) (by decide +kernel)) (by decide +kernel)
theorem w_443 : Cond.codeWith y_Lw_worst method_17_code 4 (some .int) [(0, 9, 12, 13)] ∈ wW := wW_i (tI2 (i := 203) rfl) (by decide +kernel)
theorem w_444 : Cond.methodLink "SunShadowsLaw" 64 y_Ss_worst ∈ wW := wW_i (tI2 (i := 204) (by decide +kernel)) (by decide +kernel)
theorem w_445 : Cond.instanceMethod y_Ss_worst ∈ wW := wW_i (tI2 (i := 205) (by decide +kernel)) (by decide +kernel)
theorem w_446 : Cond.selects "SunShadows" y_Ss_worst y_Ss_worst ∈ wW := wW_i (tI2 (i := 206) (by decide +kernel)) (by decide +kernel)
theorem w_447 : Cond.code y_Ss_worst prog_1_method_16_code 7 (some .int) ∈ wW := wW_i (tI2 (i := 207) rfl) (by decide +kernel)
theorem w_448 : Cond.methodLink "SunShadows" 177 y_Ss_addTaken ∈ wW := wW_i (tI2 (i := 208) (by decide +kernel)) (by decide +kernel)
theorem w_450 : Cond.instanceMethod y_Ss_addTaken ∈ wW := wW_i (tI2 (i := 210) (by decide +kernel)) (by decide +kernel)
theorem w_451 : Cond.code y_Ss_addTaken prog_1_method_25_code 9 none ∈ wW := wW_i (tI2 (i := 211) rfl) (by decide +kernel)
theorem w_452 : Cond.methodLink "SunShadows" 206 y_Ss_shadeOfOneBoxOnly ∈ wW := wW_i (tI2 (i := 212) (by decide +kernel)) (by decide +kernel)
theorem w_454 : Cond.instanceMethod y_Ss_shadeOfOneBoxOnly ∈ wW := wW_i (tI2 (i := 214) (by decide +kernel)) (by decide +kernel)
theorem w_455 : Cond.code y_Ss_shadeOfOneBoxOnly prog_1_method_26_code 11 (some .long) ∈ wW := wW_i (tI2 (i := 215) rfl) (by decide +kernel)
theorem w_456 : Cond.constantLong "SunShadows" 209 (-1 : Int64) ∈ wW := wW_i (tI2 (i := 216) (by decide +kernel)) (by decide +kernel)
theorem w_457 : Cond.classLink "SunShadowsLaw" 75 "SunShadowsModel" ∈ wW := wW_i (tI2 (i := 217) (by decide +kernel)) (by decide +kernel)
theorem w_458 : Cond.instantiable "SunShadowsModel" 14 ∈ wW := wW_i (tI2 (i := 218) (by decide +kernel)) (by decide +kernel)
theorem w_459 : Cond.methodLink "SunShadowsLaw" 77 y_Md_init ∈ wW := wW_i (tI2 (i := 219) (by decide +kernel)) (by decide +kernel)
theorem w_460 : Cond.instanceMethod y_Md_init ∈ wW := wW_i (tI2 (i := 220) (by decide +kernel)) (by decide +kernel)
theorem w_461 : Cond.code y_Md_init prog_6_method_1_code 3 none ∈ wW := wW_i (tI2 (i := 221) rfl) (by decide +kernel)
theorem w_462 : Cond.methodLink "SunShadowsModel" 1 ⟨"java/lang/Object", "<init>", "()V"⟩ ∈ wW := wW_i (tI2 (i := 222) (by decide +kernel)) (by decide +kernel)
theorem w_463 : Cond.fieldLink "SunShadowsModel" 33 "SunShadowsModel" "thrown" "I" ∈ wW := wW_i (tI2 (i := 223) (by decide +kernel)) (by decide +kernel)
theorem w_464 : Cond.fieldLink "SunShadowsModel" 26 "SunShadowsModel" "wide" "I" ∈ wW := wW_i (tI2 (i := 224) (by decide +kernel)) (by decide +kernel)
theorem w_465 : Cond.fieldLink "SunShadowsModel" 30 "SunShadowsModel" "high" "I" ∈ wW := wW_i (tI2 (i := 225) (by decide +kernel)) (by decide +kernel)
theorem w_466 : Cond.fieldLink "SunShadowsModel" 44 "SunShadowsModel" "boxes" "I" ∈ wW := wW_i (tI2 (i := 226) (by decide +kernel)) (by decide +kernel)
theorem w_467 : Cond.fieldLink "SunShadowsModel" 7 "SunShadowsModel" "box" "[I" ∈ wW := wW_i (tI2 (i := 227) (by decide +kernel)) (by decide +kernel)
theorem w_468 : Cond.fieldLink "SunShadowsModel" 13 "SunShadowsModel" "there" "[Z" ∈ wW := wW_i (tI2 (i := 228) (by decide +kernel)) (by decide +kernel)
theorem w_469 : Cond.fieldLink "SunShadowsModel" 17 "SunShadowsModel" "suns" "[I" ∈ wW := wW_i (tI2 (i := 229) (by decide +kernel)) (by decide +kernel)
theorem w_470 : Cond.fieldLink "SunShadowsModel" 20 "SunShadowsModel" "lights" "[I" ∈ wW := wW_i (tI2 (i := 230) (by decide +kernel)) (by decide +kernel)
theorem w_471 : Cond.fieldLink "SunShadowsModel" 58 "SunShadowsModel" "windows" "I" ∈ wW := wW_i (tI2 (i := 231) (by decide +kernel)) (by decide +kernel)
theorem w_472 : Cond.fieldLink "SunShadowsModel" 23 "SunShadowsModel" "window" "[I" ∈ wW := wW_i (tI2 (i := 232) (by decide +kernel)) (by decide +kernel)
theorem w_473 : Cond.fieldLink "SunShadowsModel" 65 "SunShadowsModel" "lowAbove" "J" ∈ wW := wW_i (tI2 (i := 233) (by decide +kernel)) (by decide +kernel)
theorem w_474 : Cond.fieldLink "SunShadowsModel" 61 "SunShadowsModel" "lowBelow" "J" ∈ wW := wW_i (tI2 (i := 234) (by decide +kernel)) (by decide +kernel)
theorem w_475 : Cond.fieldLink "SunShadowsModel" 71 "SunShadowsModel" "highAbove" "J" ∈ wW := wW_i (tI2 (i := 235) (by decide +kernel)) (by decide +kernel)
theorem w_476 : Cond.fieldLink "SunShadowsModel" 68 "SunShadowsModel" "highBelow" "J" ∈ wW := wW_i (tI2 (i := 236) (by decide +kernel)) (by decide +kernel)
theorem w_477 : Cond.lays "SunShadowsModel" "SunShadowsModel" "thrown" "I" ∈ wW := wW_i (tI2 (i := 237) (by decide +kernel)) (by decide +kernel)
theorem w_479 : Cond.lays "SunShadowsModel" "SunShadowsModel" "wide" "I" ∈ wW := wW_i (tI2 (i := 239) (by decide +kernel)) (by decide +kernel)
theorem w_481 : Cond.lays "SunShadowsModel" "SunShadowsModel" "high" "I" ∈ wW := wW_i (tI3 (i := 1) (by decide +kernel)) (by decide +kernel)
theorem w_483 : Cond.lays "SunShadowsModel" "SunShadowsModel" "boxes" "I" ∈ wW := wW_i (tI3 (i := 3) (by decide +kernel)) (by decide +kernel)
theorem w_485 : Cond.laysFinal "SunShadowsModel" "SunShadowsModel" "box" "[I" ∈ wW := wW_i (tI3 (i := 5) (by decide +kernel)) (by decide +kernel)
theorem w_487 : Cond.laysFinal "SunShadowsModel" "SunShadowsModel" "there" "[Z" ∈ wW := wW_i (tI3 (i := 7) (by decide +kernel)) (by decide +kernel)
theorem w_489 : Cond.laysFinal "SunShadowsModel" "SunShadowsModel" "suns" "[I" ∈ wW := wW_i (tI3 (i := 9) (by decide +kernel)) (by decide +kernel)
theorem w_491 : Cond.laysFinal "SunShadowsModel" "SunShadowsModel" "lights" "[I" ∈ wW := wW_i (tI3 (i := 11) (by decide +kernel)) (by decide +kernel)
theorem w_493 : Cond.lays "SunShadowsModel" "SunShadowsModel" "windows" "I" ∈ wW := wW_i (tI3 (i := 13) (by decide +kernel)) (by decide +kernel)
theorem w_495 : Cond.laysFinal "SunShadowsModel" "SunShadowsModel" "window" "[I" ∈ wW := wW_i (tI3 (i := 15) (by decide +kernel)) (by decide +kernel)
theorem w_497 : Cond.lays "SunShadowsModel" "SunShadowsModel" "lowAbove" "J" ∈ wW := wW_i (tI3 (i := 17) (by decide +kernel)) (by decide +kernel)
theorem w_499 : Cond.lays "SunShadowsModel" "SunShadowsModel" "lowBelow" "J" ∈ wW := wW_i (tI3 (i := 19) (by decide +kernel)) (by decide +kernel)
theorem w_501 : Cond.lays "SunShadowsModel" "SunShadowsModel" "highAbove" "J" ∈ wW := wW_i (tI3 (i := 21) (by decide +kernel)) (by decide +kernel)
theorem w_503 : Cond.lays "SunShadowsModel" "SunShadowsModel" "highBelow" "J" ∈ wW := wW_i (tI3 (i := 23) (by decide +kernel)) (by decide +kernel)
theorem w_506 : Cond.arrayClass .boolean ∈ wW := wW_i (tI3 (i := 26) (by decide +kernel)) (by decide +kernel)
theorem w_507 : Cond.methodLink "SunShadowsLaw" 82 y_Md_thrown ∈ wW := wW_i (tI3 (i := 27) (by decide +kernel)) (by decide +kernel)
theorem w_508 : Cond.instanceMethod y_Md_thrown ∈ wW := wW_i (tI3 (i := 28) (by decide +kernel)) (by decide +kernel)
theorem w_509 : Cond.selects "SunShadowsModel" y_Md_thrown y_Md_thrown ∈ wW := wW_i (tI3 (i := 29) (by decide +kernel)) (by decide +kernel)
theorem w_510 : Cond.code y_Md_thrown prog_6_method_2_code 1 (some .int) ∈ wW := wW_i (tI3 (i := 30) rfl) (by decide +kernel)
theorem w_511 : Cond.methodLink "SunShadowsLaw" 81 y_Md_box ∈ wW := wW_i (tI3 (i := 31) (by decide +kernel)) (by decide +kernel)
theorem w_512 : Cond.instanceMethod y_Md_box ∈ wW := wW_i (tI3 (i := 32) (by decide +kernel)) (by decide +kernel)
theorem w_513 : Cond.selects "SunShadowsModel" y_Md_box y_Md_box ∈ wW := wW_i (tI3 (i := 33) (by decide +kernel)) (by decide +kernel)
theorem w_514 : Cond.code y_Md_box prog_6_method_6_code 7 (some .int) ∈ wW := wW_i (tI3 (i := 34) rfl) (by decide +kernel)
theorem w_515 : Cond.methodLink "SunShadowsModel" 40 y_Md_isBox ∈ wW := wW_i (tI3 (i := 35) (by decide +kernel)) (by decide +kernel)
theorem w_516 : Cond.static y_Md_isBox ∈ wW := wW_i (tI3 (i := 36) (by decide +kernel)) (by decide +kernel)
theorem w_517 : Cond.code y_Md_isBox prog_6_method_4_code 6 (some .boolean) ∈ wW := wW_i (tI3 (i := 37) rfl) (by decide +kernel)
theorem w_518 : Cond.methodLink "SunShadowsModel" 36 y_Md_isIn ∈ wW := wW_i (tI3 (i := 38) (by decide +kernel)) (by decide +kernel)
theorem w_519 : Cond.static y_Md_isIn ∈ wW := wW_i (tI3 (i := 39) (by decide +kernel)) (by decide +kernel)
theorem w_520 : Cond.code y_Md_isIn prog_6_method_3_code 3 (some .boolean) ∈ wW := wW_i (tI3 (i := 40) rfl) (by decide +kernel)
theorem w_521 : Cond.methodLink "SunShadowsModel" 47 y_Md_lay ∈ wW := wW_i (tI3 (i := 41) (by decide +kernel)) (by decide +kernel)
theorem w_523 : Cond.instanceMethod y_Md_lay ∈ wW := wW_i (tI3 (i := 43) (by decide +kernel)) (by decide +kernel)
theorem w_524 : Cond.code y_Md_lay prog_6_method_5_code 8 none ∈ wW := wW_i (tI3 (i := 44) rfl) (by decide +kernel)
theorem w_525 : Cond.methodLink "SunShadowsLaw" 89 y_Md_move ∈ wW := wW_i (tI3 (i := 45) (by decide +kernel)) (by decide +kernel)
theorem w_526 : Cond.instanceMethod y_Md_move ∈ wW := wW_i (tI3 (i := 46) (by decide +kernel)) (by decide +kernel)
theorem w_527 : Cond.selects "SunShadowsModel" y_Md_move y_Md_move ∈ wW := wW_i (tI3 (i := 47) (by decide +kernel)) (by decide +kernel)
theorem w_528 : Cond.code y_Md_move prog_6_method_8_code 7 (some .boolean) ∈ wW := wW_i (tI3 (i := 48) rfl) (by decide +kernel)
theorem w_529 : Cond.methodLink "SunShadowsModel" 51 y_Md_noBox ∈ wW := wW_i (tI3 (i := 49) (by decide +kernel)) (by decide +kernel)
theorem w_531 : Cond.instanceMethod y_Md_noBox ∈ wW := wW_i (tI3 (i := 51) (by decide +kernel)) (by decide +kernel)
theorem w_532 : Cond.code y_Md_noBox prog_6_method_7_code 2 (some .boolean) ∈ wW := wW_i (tI3 (i := 52) rfl) (by decide +kernel)
theorem w_533 : Cond.methodLink "SunShadowsLaw" 93 y_Md_there ∈ wW := wW_i (tI3 (i := 53) (by decide +kernel)) (by decide +kernel)
theorem w_534 : Cond.instanceMethod y_Md_there ∈ wW := wW_i (tI3 (i := 54) (by decide +kernel)) (by decide +kernel)
theorem w_535 : Cond.selects "SunShadowsModel" y_Md_there y_Md_there ∈ wW := wW_i (tI3 (i := 55) (by decide +kernel)) (by decide +kernel)
theorem w_536 : Cond.code y_Md_there prog_6_method_9_code 4 (some .boolean) ∈ wW := wW_i (tI3 (i := 56) rfl) (by decide +kernel)
theorem w_537 : Cond.methodLink "SunShadowsLaw" 97 y_Md_sun ∈ wW := wW_i (tI3 (i := 57) (by decide +kernel)) (by decide +kernel)
theorem w_538 : Cond.instanceMethod y_Md_sun ∈ wW := wW_i (tI3 (i := 58) (by decide +kernel)) (by decide +kernel)
theorem w_539 : Cond.selects "SunShadowsModel" y_Md_sun y_Md_sun ∈ wW := wW_i (tI3 (i := 59) (by decide +kernel)) (by decide +kernel)
theorem w_540 : Cond.code y_Md_sun prog_6_method_11_code 5 none ∈ wW := wW_i (tI3 (i := 60) rfl) (by decide +kernel)
theorem w_541 : Cond.methodLink "SunShadowsModel" 55 y_Md_noHour ∈ wW := wW_i (tI3 (i := 61) (by decide +kernel)) (by decide +kernel)
theorem w_542 : Cond.static y_Md_noHour ∈ wW := wW_i (tI3 (i := 62) (by decide +kernel)) (by decide +kernel)
theorem w_543 : Cond.code y_Md_noHour prog_6_method_10_code 1 (some .boolean) ∈ wW := wW_i (tI3 (i := 63) rfl) (by decide +kernel)
theorem w_544 : Cond.methodLink "SunShadowsLaw" 101 y_Md_light ∈ wW := wW_i (tI3 (i := 64) (by decide +kernel)) (by decide +kernel)
theorem w_545 : Cond.instanceMethod y_Md_light ∈ wW := wW_i (tI3 (i := 65) (by decide +kernel)) (by decide +kernel)
theorem w_546 : Cond.selects "SunShadowsModel" y_Md_light y_Md_light ∈ wW := wW_i (tI3 (i := 66) (by decide +kernel)) (by decide +kernel)
theorem w_547 : Cond.code y_Md_light prog_6_method_12_code 4 (some .int) ∈ wW := wW_i (tI3 (i := 67) rfl) (by decide +kernel)
theorem w_548 : Cond.methodLink "SunShadowsLaw" 104 y_Md_window ∈ wW := wW_i (tI3 (i := 68) (by decide +kernel)) (by decide +kernel)
theorem w_549 : Cond.instanceMethod y_Md_window ∈ wW := wW_i (tI3 (i := 69) (by decide +kernel)) (by decide +kernel)
theorem w_550 : Cond.selects "SunShadowsModel" y_Md_window y_Md_window ∈ wW := wW_i (tI3 (i := 70) (by decide +kernel)) (by decide +kernel)
theorem w_551 : Cond.code y_Md_window prog_6_method_13_code 6 (some .int) ∈ wW := wW_i (tI3 (i := 71) rfl) (by decide +kernel)
theorem w_552 : Cond.methodLink "SunShadowsLaw" 108 y_Md_shadow ∈ wW := wW_i (tI3 (i := 72) (by decide +kernel)) (by decide +kernel)
theorem w_553 : Cond.instanceMethod y_Md_shadow ∈ wW := wW_i (tI3 (i := 73) (by decide +kernel)) (by decide +kernel)
theorem w_554 : Cond.selects "SunShadowsModel" y_Md_shadow y_Md_shadow ∈ wW := wW_i (tI3 (i := 74) (by decide +kernel)) (by decide +kernel)
theorem w_555 : Cond.code y_Md_shadow prog_6_method_21_code 4 (some .boolean) ∈ wW := wW_i (tI3 (i := 75) rfl) (by decide +kernel)
theorem w_556 : Cond.methodLink "SunShadowsModel" 91 y_Md_check ∈ wW := wW_i (tI3 (i := 76) (by decide +kernel)) (by decide +kernel)
theorem w_558 : Cond.instanceMethod y_Md_check ∈ wW := wW_i (tI3 (i := 78) (by decide +kernel)) (by decide +kernel)
theorem w_559 : Cond.code y_Md_check prog_6_method_20_code 3 (some .int) ∈ wW := wW_i (tI3 (i := 79) rfl) (by decide +kernel)
theorem w_560 : Cond.methodLink "SunShadowsModel" 95 y_Md_isDark ∈ wW := wW_i (tI3 (i := 80) (by decide +kernel)) (by decide +kernel)
theorem w_562 : Cond.instanceMethod y_Md_isDark ∈ wW := wW_i (tI3 (i := 82) (by decide +kernel)) (by decide +kernel)
theorem w_563 : Cond.code y_Md_isDark prog_6_method_19_code 8 (some .boolean) ∈ wW := wW_i (tI3 (i := 83) rfl) (by decide +kernel)
theorem w_564 : Cond.methodLink "SunShadowsModel" 87 y_Md_throwsOn ∈ wW := wW_i (tI3 (i := 84) (by decide +kernel)) (by decide +kernel)
theorem w_566 : Cond.instanceMethod y_Md_throwsOn ∈ wW := wW_i (tI3 (i := 86) (by decide +kernel)) (by decide +kernel)
theorem w_567 : Cond.code y_Md_throwsOn prog_6_method_18_code 12 (some .boolean) ∈ wW := wW_i (tI3 (i := 87) rfl) (by decide +kernel)
theorem w_568 : Cond.constantLong "SunShadowsModel" 81 (2 : Int64) ∈ wW := wW_i (tI3 (i := 88) (by decide +kernel)) (by decide +kernel)
theorem w_569 : Cond.methodLink "SunShadowsModel" 83 y_Md_may ∈ wW := wW_i (tI3 (i := 89) (by decide +kernel)) (by decide +kernel)
theorem w_571 : Cond.instanceMethod y_Md_may ∈ wW := wW_i (tI3 (i := 91) (by decide +kernel)) (by decide +kernel)
theorem w_572 : Cond.code y_Md_may prog_6_method_17_code 9 (some .boolean) ∈ wW := wW_i (tI3 (i := 92) rfl) (by decide +kernel)
theorem w_573 : Cond.methodLink "SunShadowsModel" 74 y_Md_atLeast ∈ wW := wW_i (tI3 (i := 93) (by decide +kernel)) (by decide +kernel)
theorem w_575 : Cond.instanceMethod y_Md_atLeast ∈ wW := wW_i (tI3 (i := 95) (by decide +kernel)) (by decide +kernel)
theorem w_576 : Cond.code y_Md_atLeast prog_6_method_15_code 5 none ∈ wW := wW_i (tI3 (i := 96) rfl) (by decide +kernel)
theorem w_577 : Cond.methodLink "SunShadowsModel" 78 y_Md_atMost ∈ wW := wW_i (tI3 (i := 97) (by decide +kernel)) (by decide +kernel)
theorem w_579 : Cond.instanceMethod y_Md_atMost ∈ wW := wW_i (tI3 (i := 99) (by decide +kernel)) (by decide +kernel)
theorem w_580 : Cond.code y_Md_atMost prog_6_method_16_code 5 none ∈ wW := wW_i (tI3 (i := 100) rfl) (by decide +kernel)
theorem w_581 : Cond.methodLink "SunShadowsLaw" 111 y_Md_shadows ∈ wW := wW_i (tI3 (i := 101) (by decide +kernel)) (by decide +kernel)
theorem w_582 : Cond.instanceMethod y_Md_shadows ∈ wW := wW_i (tI3 (i := 102) (by decide +kernel)) (by decide +kernel)
theorem w_583 : Cond.selects "SunShadowsModel" y_Md_shadows y_Md_shadows ∈ wW := wW_i (tI3 (i := 103) (by decide +kernel)) (by decide +kernel)
theorem w_584 : Cond.code y_Md_shadows prog_6_method_22_code 8 (some .int) ∈ wW := wW_i (tI3 (i := 104) rfl) (by decide +kernel)
theorem w_585 : Cond.methodLink "SunShadowsLaw" 114 y_Md_dark ∈ wW := wW_i (tI3 (i := 105) (by decide +kernel)) (by decide +kernel)
theorem w_586 : Cond.instanceMethod y_Md_dark ∈ wW := wW_i (tI3 (i := 106) (by decide +kernel)) (by decide +kernel)
theorem w_587 : Cond.selects "SunShadowsModel" y_Md_dark y_Md_dark ∈ wW := wW_i (tI3 (i := 107) (by decide +kernel)) (by decide +kernel)
theorem w_588 : Cond.code y_Md_dark prog_6_method_24_code 3 (some .int) ∈ wW := wW_i (tI3 (i := 108) rfl) (by decide +kernel)
theorem w_589 : Cond.methodLink "SunShadowsModel" 99 y_Md_noWindow ∈ wW := wW_i (tI3 (i := 109) (by decide +kernel)) (by decide +kernel)
theorem w_591 : Cond.instanceMethod y_Md_noWindow ∈ wW := wW_i (tI3 (i := 111) (by decide +kernel)) (by decide +kernel)
theorem w_592 : Cond.code y_Md_noWindow prog_6_method_14_code 2 (some .boolean) ∈ wW := wW_i (tI3 (i := 112) rfl) (by decide +kernel)
theorem w_593 : Cond.methodLink "SunShadowsModel" 102 y_Md_darkOf ∈ wW := wW_i (tI3 (i := 113) (by decide +kernel)) (by decide +kernel)
theorem w_595 : Cond.instanceMethod y_Md_darkOf ∈ wW := wW_i (tI3 (i := 115) (by decide +kernel)) (by decide +kernel)
theorem w_596 : Cond.code y_Md_darkOf prog_6_method_23_code 8 (some .int) ∈ wW := wW_i (tI3 (i := 116) rfl) (by decide +kernel)
theorem w_597 : Cond.methodLink "SunShadowsLaw" 117 y_Md_cell ∈ wW := wW_i (tI3 (i := 117) (by decide +kernel)) (by decide +kernel)
theorem w_598 : Cond.instanceMethod y_Md_cell ∈ wW := wW_i (tI3 (i := 118) (by decide +kernel)) (by decide +kernel)
theorem w_599 : Cond.selects "SunShadowsModel" y_Md_cell y_Md_cell ∈ wW := wW_i (tI3 (i := 119) (by decide +kernel)) (by decide +kernel)
theorem w_600 : Cond.code y_Md_cell prog_6_method_25_code 5 (some .int) ∈ wW := wW_i (tI3 (i := 120) rfl) (by decide +kernel)
theorem w_601 : Cond.methodLink "SunShadowsLaw" 120 y_Md_lit ∈ wW := wW_i (tI3 (i := 121) (by decide +kernel)) (by decide +kernel)
theorem w_602 : Cond.instanceMethod y_Md_lit ∈ wW := wW_i (tI3 (i := 122) (by decide +kernel)) (by decide +kernel)
theorem w_603 : Cond.selects "SunShadowsModel" y_Md_lit y_Md_lit ∈ wW := wW_i (tI3 (i := 123) (by decide +kernel)) (by decide +kernel)
theorem w_604 : Cond.code y_Md_lit prog_6_method_28_code 3 (some .int) ∈ wW := wW_i (tI3 (i := 124) rfl) (by decide +kernel)
theorem w_605 : Cond.methodLink "SunShadowsModel" 110 y_Md_day ∈ wW := wW_i (tI3 (i := 125) (by decide +kernel)) (by decide +kernel)
theorem w_607 : Cond.instanceMethod y_Md_day ∈ wW := wW_i (tI3 (i := 127) (by decide +kernel)) (by decide +kernel)
theorem w_608 : Cond.code y_Md_day prog_6_method_27_code 5 (some .int) ∈ wW := wW_i (tI3 (i := 128) rfl) (by decide +kernel)
theorem w_609 : Cond.methodLink "SunShadowsModel" 106 y_Md_litIn ∈ wW := wW_i (tI3 (i := 129) (by decide +kernel)) (by decide +kernel)
theorem w_611 : Cond.instanceMethod y_Md_litIn ∈ wW := wW_i (tI3 (i := 131) (by decide +kernel)) (by decide +kernel)
theorem w_612 : Cond.code y_Md_litIn prog_6_method_26_code 5 (some .int) ∈ wW := wW_i (tI3 (i := 132) rfl) (by decide +kernel)
theorem w_613 : Cond.methodLink "SunShadowsLaw" 124 y_Md_brightest ∈ wW := wW_i (tI3 (i := 133) (by decide +kernel)) (by decide +kernel)
theorem w_614 : Cond.instanceMethod y_Md_brightest ∈ wW := wW_i (tI3 (i := 134) (by decide +kernel)) (by decide +kernel)
theorem w_615 : Cond.selects "SunShadowsModel" y_Md_brightest y_Md_brightest ∈ wW := wW_i (tI3 (i := 135) (by decide +kernel)) (by decide +kernel)
theorem w_616 : Cond.code y_Md_brightest prog_6_method_29_code 6 (some .int) ∈ wW := wW_i (tI3 (i := 136) rfl) (by decide +kernel)
theorem w_617 : Cond.methodLink "SunShadowsLaw" 127 y_Md_ledge ∈ wW := wW_i (tI3 (i := 137) (by decide +kernel)) (by decide +kernel)
theorem w_618 : Cond.instanceMethod y_Md_ledge ∈ wW := wW_i (tI3 (i := 138) (by decide +kernel)) (by decide +kernel)
theorem w_619 : Cond.selects "SunShadowsModel" y_Md_ledge y_Md_ledge ∈ wW := wW_i (tI3 (i := 139) (by decide +kernel)) (by decide +kernel)
theorem w_620 : Cond.code y_Md_ledge prog_6_method_31_code 4 (some .int) ∈ wW := wW_i (tI3 (i := 140) rfl) (by decide +kernel)
theorem w_621 : Cond.methodLink "SunShadowsModel" 114 y_Md_ledged ∈ wW := wW_i (tI3 (i := 141) (by decide +kernel)) (by decide +kernel)
theorem w_623 : Cond.instanceMethod y_Md_ledged ∈ wW := wW_i (tI3 (i := 143) (by decide +kernel)) (by decide +kernel)
theorem w_624 : Cond.code y_Md_ledged prog_6_method_30_code 4 (some .int) ∈ wW := wW_i (tI3 (i := 144) rfl) (by decide +kernel)
theorem w_625 : Cond.methodLink "SunShadowsLaw" 130 y_Md_deep ∈ wW := wW_i (tI3 (i := 145) (by decide +kernel)) (by decide +kernel)
theorem w_626 : Cond.instanceMethod y_Md_deep ∈ wW := wW_i (tI3 (i := 146) (by decide +kernel)) (by decide +kernel)
theorem w_627 : Cond.selects "SunShadowsModel" y_Md_deep y_Md_deep ∈ wW := wW_i (tI3 (i := 147) (by decide +kernel)) (by decide +kernel)
theorem w_628 : Cond.code y_Md_deep prog_6_method_32_code 5 (some .int) ∈ wW := wW_i (tI3 (i := 148) rfl) (by decide +kernel)
theorem w_629 : Cond.methodLink "SunShadowsLaw" 133 y_Md_worst ∈ wW := wW_i (tI3 (i := 149) (by decide +kernel)) (by decide +kernel)
theorem w_630 : Cond.instanceMethod y_Md_worst ∈ wW := wW_i (tI3 (i := 150) (by decide +kernel)) (by decide +kernel)
theorem w_631 : Cond.selects "SunShadowsModel" y_Md_worst y_Md_worst ∈ wW := wW_i (tI3 (i := 151) (by decide +kernel)) (by decide +kernel)
theorem w_632 : Cond.code y_Md_worst prog_6_method_33_code 6 (some .int) ∈ wW := wW_i (tI3 (i := 152) rfl) (by decide +kernel)
end
section
theorem d_Mt_min_0 : decode c_Mt_min 0 = .ok (.iload_n 0, 1) := by decide +kernel
theorem d_Mt_min_1 : decode c_Mt_min 1 = .ok (.iload_n 1, 1) := by decide +kernel
theorem d_Mt_min_2 : decode c_Mt_min 2 = .ok (.if_icmp .gt 7, 3) := by decide +kernel
theorem d_Mt_min_5 : decode c_Mt_min 5 = .ok (.iload_n 0, 1) := by decide +kernel
theorem d_Mt_min_6 : decode c_Mt_min 6 = .ok (.goto 4, 3) := by decide +kernel
theorem d_Mt_min_9 : decode c_Mt_min 9 = .ok (.iload_n 1, 1) := by decide +kernel
theorem d_Mt_min_10 : decode c_Mt_min 10 = .ok (.ireturn, 1) := by decide +kernel
theorem d_Mt_max_0 : decode c_Mt_max 0 = .ok (.iload_n 0, 1) := by decide +kernel
theorem d_Mt_max_1 : decode c_Mt_max 1 = .ok (.iload_n 1, 1) := by decide +kernel
theorem d_Mt_max_2 : decode c_Mt_max 2 = .ok (.if_icmp .lt 7, 3) := by decide +kernel
theorem d_Mt_max_5 : decode c_Mt_max 5 = .ok (.iload_n 0, 1) := by decide +kernel
theorem d_Mt_max_6 : decode c_Mt_max 6 = .ok (.goto 4, 3) := by decide +kernel
theorem d_Mt_max_9 : decode c_Mt_max 9 = .ok (.iload_n 1, 1) := by decide +kernel
theorem d_Mt_max_10 : decode c_Mt_max 10 = .ok (.ireturn, 1) := by decide +kernel
theorem d_Hr_init_0 : decode c_Hr_init 0 = .ok (.aload_n 0, 1) := by decide +kernel
theorem d_Hr_init_1 : decode c_Hr_init 1 = .ok (.invokespecial 1, 3) := by decide +kernel
theorem d_Hr_init_4 : decode c_Hr_init 4 = .ok (.aload_n 0, 1) := by decide +kernel
theorem d_Hr_init_5 : decode c_Hr_init 5 = .ok (.iconst 0, 1) := by decide +kernel
theorem d_Hr_init_6 : decode c_Hr_init 6 = .ok (.putfield 7, 3) := by decide +kernel
theorem d_Hr_init_9 : decode c_Hr_init 9 = .ok (.aload_n 0, 1) := by decide +kernel
theorem d_Hr_init_10 : decode c_Hr_init 10 = .ok (.iconst 0, 1) := by decide +kernel
theorem d_Hr_init_11 : decode c_Hr_init 11 = .ok (.putfield 13, 3) := by decide +kernel
theorem d_Hr_init_14 : decode c_Hr_init 14 = .ok (.aload_n 0, 1) := by decide +kernel
theorem d_Hr_init_15 : decode c_Hr_init 15 = .ok (.iconst 0, 1) := by decide +kernel
theorem d_Hr_init_16 : decode c_Hr_init 16 = .ok (.putfield 16, 3) := by decide +kernel
theorem d_Hr_init_19 : decode c_Hr_init 19 = .ok (.aload_n 0, 1) := by decide +kernel
theorem d_Hr_init_20 : decode c_Hr_init 20 = .ok (.iconst 0, 1) := by decide +kernel
theorem d_Hr_init_21 : decode c_Hr_init 21 = .ok (.putfield 19, 3) := by decide +kernel
theorem d_Hr_init_24 : decode c_Hr_init 24 = .ok (.return_, 1) := by decide +kernel
theorem d_Bx_isAllowed_0 : decode c_Bx_isAllowed 0 = .ok (.bipush (-100), 2) := by decide +kernel
theorem d_Bx_isAllowed_2 : decode c_Bx_isAllowed 2 = .ok (.iload_n 0, 1) := by decide +kernel
theorem d_Bx_isAllowed_3 : decode c_Bx_isAllowed 3 = .ok (.if_icmp .gt 57, 3) := by decide +kernel
theorem d_Bx_isAllowed_6 : decode c_Bx_isAllowed 6 = .ok (.iload_n 0, 1) := by decide +kernel
theorem d_Bx_isAllowed_7 : decode c_Bx_isAllowed 7 = .ok (.iload_n 3, 1) := by decide +kernel
theorem d_Bx_isAllowed_8 : decode c_Bx_isAllowed 8 = .ok (.if_icmp .ge 52, 3) := by decide +kernel
theorem d_Bx_isAllowed_11 : decode c_Bx_isAllowed 11 = .ok (.iload_n 3, 1) := by decide +kernel
theorem d_Bx_isAllowed_12 : decode c_Bx_isAllowed 12 = .ok (.sipush 200, 3) := by decide +kernel
theorem d_Bx_isAllowed_15 : decode c_Bx_isAllowed 15 = .ok (.if_icmp .gt 45, 3) := by decide +kernel
theorem d_Bx_isAllowed_18 : decode c_Bx_isAllowed 18 = .ok (.bipush (-100), 2) := by decide +kernel
theorem d_Bx_isAllowed_20 : decode c_Bx_isAllowed 20 = .ok (.iload_n 1, 1) := by decide +kernel
theorem d_Bx_isAllowed_21 : decode c_Bx_isAllowed 21 = .ok (.if_icmp .gt 39, 3) := by decide +kernel
theorem d_Bx_isAllowed_24 : decode c_Bx_isAllowed 24 = .ok (.iload_n 1, 1) := by decide +kernel
theorem d_Bx_isAllowed_25 : decode c_Bx_isAllowed 25 = .ok (.iload 4, 2) := by decide +kernel
theorem d_Bx_isAllowed_27 : decode c_Bx_isAllowed 27 = .ok (.if_icmp .ge 33, 3) := by decide +kernel
theorem d_Bx_isAllowed_30 : decode c_Bx_isAllowed 30 = .ok (.iload 4, 2) := by decide +kernel
theorem d_Bx_isAllowed_32 : decode c_Bx_isAllowed 32 = .ok (.sipush 200, 3) := by decide +kernel
theorem d_Bx_isAllowed_35 : decode c_Bx_isAllowed 35 = .ok (.if_icmp .gt 25, 3) := by decide +kernel
theorem d_Bx_isAllowed_38 : decode c_Bx_isAllowed 38 = .ok (.iconst 0, 1) := by decide +kernel
theorem d_Bx_isAllowed_39 : decode c_Bx_isAllowed 39 = .ok (.iload_n 2, 1) := by decide +kernel
theorem d_Bx_isAllowed_40 : decode c_Bx_isAllowed 40 = .ok (.if_icmp .gt 20, 3) := by decide +kernel
theorem d_Bx_isAllowed_43 : decode c_Bx_isAllowed 43 = .ok (.iload_n 2, 1) := by decide +kernel
theorem d_Bx_isAllowed_44 : decode c_Bx_isAllowed 44 = .ok (.iload 5, 2) := by decide +kernel
theorem d_Bx_isAllowed_46 : decode c_Bx_isAllowed 46 = .ok (.if_icmp .gt 14, 3) := by decide +kernel
theorem d_Bx_isAllowed_49 : decode c_Bx_isAllowed 49 = .ok (.iload 5, 2) := by decide +kernel
theorem d_Bx_isAllowed_51 : decode c_Bx_isAllowed 51 = .ok (.bipush 100, 2) := by decide +kernel
theorem d_Bx_isAllowed_53 : decode c_Bx_isAllowed 53 = .ok (.if_icmp .gt 7, 3) := by decide +kernel
theorem d_Bx_isAllowed_56 : decode c_Bx_isAllowed 56 = .ok (.iconst 1, 1) := by decide +kernel
theorem d_Bx_isAllowed_57 : decode c_Bx_isAllowed 57 = .ok (.goto 4, 3) := by decide +kernel
theorem d_Bx_isAllowed_60 : decode c_Bx_isAllowed 60 = .ok (.iconst 0, 1) := by decide +kernel
theorem d_Bx_isAllowed_61 : decode c_Bx_isAllowed 61 = .ok (.ireturn, 1) := by decide +kernel
theorem d_Bx_init_0 : decode c_Bx_init 0 = .ok (.aload_n 0, 1) := by decide +kernel
theorem d_Bx_init_1 : decode c_Bx_init 1 = .ok (.invokespecial 3, 3) := by decide +kernel
theorem d_Bx_init_4 : decode c_Bx_init 4 = .ok (.aload_n 0, 1) := by decide +kernel
theorem d_Bx_init_5 : decode c_Bx_init 5 = .ok (.iconst 1, 1) := by decide +kernel
theorem d_Bx_init_6 : decode c_Bx_init 6 = .ok (.putfield 9, 3) := by decide +kernel
theorem d_Bx_init_9 : decode c_Bx_init 9 = .ok (.aload_n 0, 1) := by decide +kernel
theorem d_Bx_init_10 : decode c_Bx_init 10 = .ok (.iload_n 1, 1) := by decide +kernel
theorem d_Bx_init_11 : decode c_Bx_init 11 = .ok (.putfield 15, 3) := by decide +kernel
theorem d_Bx_init_14 : decode c_Bx_init 14 = .ok (.aload_n 0, 1) := by decide +kernel
theorem d_Bx_init_15 : decode c_Bx_init 15 = .ok (.iload_n 2, 1) := by decide +kernel
theorem d_Bx_init_16 : decode c_Bx_init 16 = .ok (.putfield 19, 3) := by decide +kernel
theorem d_Bx_init_19 : decode c_Bx_init 19 = .ok (.aload_n 0, 1) := by decide +kernel
theorem d_Bx_init_20 : decode c_Bx_init 20 = .ok (.iload_n 3, 1) := by decide +kernel
theorem d_Bx_init_21 : decode c_Bx_init 21 = .ok (.putfield 22, 3) := by decide +kernel
theorem d_Bx_init_24 : decode c_Bx_init 24 = .ok (.aload_n 0, 1) := by decide +kernel
theorem d_Bx_init_25 : decode c_Bx_init 25 = .ok (.iload 4, 2) := by decide +kernel
theorem d_Bx_init_27 : decode c_Bx_init 27 = .ok (.putfield 25, 3) := by decide +kernel
theorem d_Bx_init_30 : decode c_Bx_init 30 = .ok (.aload_n 0, 1) := by decide +kernel
theorem d_Bx_init_31 : decode c_Bx_init 31 = .ok (.iload 5, 2) := by decide +kernel
theorem d_Bx_init_33 : decode c_Bx_init 33 = .ok (.putfield 28, 3) := by decide +kernel
theorem d_Bx_init_36 : decode c_Bx_init 36 = .ok (.aload_n 0, 1) := by decide +kernel
theorem d_Bx_init_37 : decode c_Bx_init 37 = .ok (.iload 6, 2) := by decide +kernel
theorem d_Bx_init_39 : decode c_Bx_init 39 = .ok (.putfield 31, 3) := by decide +kernel
theorem d_Bx_init_42 : decode c_Bx_init 42 = .ok (.return_, 1) := by decide +kernel
theorem d_Bx_shiftIfAllowed_0 : decode c_Bx_shiftIfAllowed 0 = .ok (.aload_n 0, 1) := by decide +kernel
theorem d_Bx_shiftIfAllowed_1 : decode c_Bx_shiftIfAllowed 1 = .ok (.getfield 15, 3) := by decide +kernel
theorem d_Bx_shiftIfAllowed_4 : decode c_Bx_shiftIfAllowed 4 = .ok (.iload_n 1, 1) := by decide +kernel
theorem d_Bx_shiftIfAllowed_5 : decode c_Bx_shiftIfAllowed 5 = .ok (.iadd, 1) := by decide +kernel
theorem d_Bx_shiftIfAllowed_6 : decode c_Bx_shiftIfAllowed 6 = .ok (.aload_n 0, 1) := by decide +kernel
theorem d_Bx_shiftIfAllowed_7 : decode c_Bx_shiftIfAllowed 7 = .ok (.getfield 19, 3) := by decide +kernel
theorem d_Bx_shiftIfAllowed_10 : decode c_Bx_shiftIfAllowed 10 = .ok (.iload_n 2, 1) := by decide +kernel
theorem d_Bx_shiftIfAllowed_11 : decode c_Bx_shiftIfAllowed 11 = .ok (.iadd, 1) := by decide +kernel
theorem d_Bx_shiftIfAllowed_12 : decode c_Bx_shiftIfAllowed 12 = .ok (.aload_n 0, 1) := by decide +kernel
theorem d_Bx_shiftIfAllowed_13 : decode c_Bx_shiftIfAllowed 13 = .ok (.getfield 22, 3) := by decide +kernel
theorem d_Bx_shiftIfAllowed_16 : decode c_Bx_shiftIfAllowed 16 = .ok (.iload_n 3, 1) := by decide +kernel
theorem d_Bx_shiftIfAllowed_17 : decode c_Bx_shiftIfAllowed 17 = .ok (.iadd, 1) := by decide +kernel
theorem d_Bx_shiftIfAllowed_18 : decode c_Bx_shiftIfAllowed 18 = .ok (.aload_n 0, 1) := by decide +kernel
theorem d_Bx_shiftIfAllowed_19 : decode c_Bx_shiftIfAllowed 19 = .ok (.getfield 25, 3) := by decide +kernel
theorem d_Bx_shiftIfAllowed_22 : decode c_Bx_shiftIfAllowed 22 = .ok (.iload_n 1, 1) := by decide +kernel
theorem d_Bx_shiftIfAllowed_23 : decode c_Bx_shiftIfAllowed 23 = .ok (.iadd, 1) := by decide +kernel
theorem d_Bx_shiftIfAllowed_24 : decode c_Bx_shiftIfAllowed 24 = .ok (.aload_n 0, 1) := by decide +kernel
theorem d_Bx_shiftIfAllowed_25 : decode c_Bx_shiftIfAllowed 25 = .ok (.getfield 28, 3) := by decide +kernel
theorem d_Bx_shiftIfAllowed_28 : decode c_Bx_shiftIfAllowed 28 = .ok (.iload_n 2, 1) := by decide +kernel
theorem d_Bx_shiftIfAllowed_29 : decode c_Bx_shiftIfAllowed 29 = .ok (.iadd, 1) := by decide +kernel
theorem d_Bx_shiftIfAllowed_30 : decode c_Bx_shiftIfAllowed 30 = .ok (.aload_n 0, 1) := by decide +kernel
theorem d_Bx_shiftIfAllowed_31 : decode c_Bx_shiftIfAllowed 31 = .ok (.getfield 31, 3) := by decide +kernel
theorem d_Bx_shiftIfAllowed_34 : decode c_Bx_shiftIfAllowed 34 = .ok (.iload_n 3, 1) := by decide +kernel
theorem d_Bx_shiftIfAllowed_35 : decode c_Bx_shiftIfAllowed 35 = .ok (.iadd, 1) := by decide +kernel
theorem d_Bx_shiftIfAllowed_36 : decode c_Bx_shiftIfAllowed 36 = .ok (.invokestatic 34, 3) := by decide +kernel
theorem d_Bx_shiftIfAllowed_39 : decode c_Bx_shiftIfAllowed 39 = .ok (.ifCond .ne 5, 3) := by decide +kernel
theorem d_Bx_shiftIfAllowed_42 : decode c_Bx_shiftIfAllowed 42 = .ok (.iconst 0, 1) := by decide +kernel
theorem d_Bx_shiftIfAllowed_43 : decode c_Bx_shiftIfAllowed 43 = .ok (.ireturn, 1) := by decide +kernel
theorem d_Bx_shiftIfAllowed_44 : decode c_Bx_shiftIfAllowed 44 = .ok (.aload_n 0, 1) := by decide +kernel
theorem d_Bx_shiftIfAllowed_45 : decode c_Bx_shiftIfAllowed 45 = .ok (.dup, 1) := by decide +kernel
theorem d_Bx_shiftIfAllowed_46 : decode c_Bx_shiftIfAllowed 46 = .ok (.getfield 15, 3) := by decide +kernel
theorem d_Bx_shiftIfAllowed_49 : decode c_Bx_shiftIfAllowed 49 = .ok (.iload_n 1, 1) := by decide +kernel
theorem d_Bx_shiftIfAllowed_50 : decode c_Bx_shiftIfAllowed 50 = .ok (.iadd, 1) := by decide +kernel
theorem d_Bx_shiftIfAllowed_51 : decode c_Bx_shiftIfAllowed 51 = .ok (.putfield 15, 3) := by decide +kernel
theorem d_Bx_shiftIfAllowed_54 : decode c_Bx_shiftIfAllowed 54 = .ok (.aload_n 0, 1) := by decide +kernel
theorem d_Bx_shiftIfAllowed_55 : decode c_Bx_shiftIfAllowed 55 = .ok (.dup, 1) := by decide +kernel
theorem d_Bx_shiftIfAllowed_56 : decode c_Bx_shiftIfAllowed 56 = .ok (.getfield 19, 3) := by decide +kernel
theorem d_Bx_shiftIfAllowed_59 : decode c_Bx_shiftIfAllowed 59 = .ok (.iload_n 2, 1) := by decide +kernel
theorem d_Bx_shiftIfAllowed_60 : decode c_Bx_shiftIfAllowed 60 = .ok (.iadd, 1) := by decide +kernel
theorem d_Bx_shiftIfAllowed_61 : decode c_Bx_shiftIfAllowed 61 = .ok (.putfield 19, 3) := by decide +kernel
theorem d_Bx_shiftIfAllowed_64 : decode c_Bx_shiftIfAllowed 64 = .ok (.aload_n 0, 1) := by decide +kernel
theorem d_Bx_shiftIfAllowed_65 : decode c_Bx_shiftIfAllowed 65 = .ok (.dup, 1) := by decide +kernel
theorem d_Bx_shiftIfAllowed_66 : decode c_Bx_shiftIfAllowed 66 = .ok (.getfield 22, 3) := by decide +kernel
theorem d_Bx_shiftIfAllowed_69 : decode c_Bx_shiftIfAllowed 69 = .ok (.iload_n 3, 1) := by decide +kernel
theorem d_Bx_shiftIfAllowed_70 : decode c_Bx_shiftIfAllowed 70 = .ok (.iadd, 1) := by decide +kernel
theorem d_Bx_shiftIfAllowed_71 : decode c_Bx_shiftIfAllowed 71 = .ok (.putfield 22, 3) := by decide +kernel
theorem d_Bx_shiftIfAllowed_74 : decode c_Bx_shiftIfAllowed 74 = .ok (.aload_n 0, 1) := by decide +kernel
theorem d_Bx_shiftIfAllowed_75 : decode c_Bx_shiftIfAllowed 75 = .ok (.dup, 1) := by decide +kernel
theorem d_Bx_shiftIfAllowed_76 : decode c_Bx_shiftIfAllowed 76 = .ok (.getfield 25, 3) := by decide +kernel
theorem d_Bx_shiftIfAllowed_79 : decode c_Bx_shiftIfAllowed 79 = .ok (.iload_n 1, 1) := by decide +kernel
theorem d_Bx_shiftIfAllowed_80 : decode c_Bx_shiftIfAllowed 80 = .ok (.iadd, 1) := by decide +kernel
theorem d_Bx_shiftIfAllowed_81 : decode c_Bx_shiftIfAllowed 81 = .ok (.putfield 25, 3) := by decide +kernel
theorem d_Bx_shiftIfAllowed_84 : decode c_Bx_shiftIfAllowed 84 = .ok (.aload_n 0, 1) := by decide +kernel
theorem d_Bx_shiftIfAllowed_85 : decode c_Bx_shiftIfAllowed 85 = .ok (.dup, 1) := by decide +kernel
theorem d_Bx_shiftIfAllowed_86 : decode c_Bx_shiftIfAllowed 86 = .ok (.getfield 28, 3) := by decide +kernel
theorem d_Bx_shiftIfAllowed_89 : decode c_Bx_shiftIfAllowed 89 = .ok (.iload_n 2, 1) := by decide +kernel
theorem d_Bx_shiftIfAllowed_90 : decode c_Bx_shiftIfAllowed 90 = .ok (.iadd, 1) := by decide +kernel
theorem d_Bx_shiftIfAllowed_91 : decode c_Bx_shiftIfAllowed 91 = .ok (.putfield 28, 3) := by decide +kernel
theorem d_Bx_shiftIfAllowed_94 : decode c_Bx_shiftIfAllowed 94 = .ok (.aload_n 0, 1) := by decide +kernel
theorem d_Bx_shiftIfAllowed_95 : decode c_Bx_shiftIfAllowed 95 = .ok (.dup, 1) := by decide +kernel
theorem d_Bx_shiftIfAllowed_96 : decode c_Bx_shiftIfAllowed 96 = .ok (.getfield 31, 3) := by decide +kernel
theorem d_Bx_shiftIfAllowed_99 : decode c_Bx_shiftIfAllowed 99 = .ok (.iload_n 3, 1) := by decide +kernel
theorem d_Bx_shiftIfAllowed_100 : decode c_Bx_shiftIfAllowed 100 = .ok (.iadd, 1) := by decide +kernel
theorem d_Bx_shiftIfAllowed_101 : decode c_Bx_shiftIfAllowed 101 = .ok (.putfield 31, 3) := by decide +kernel
theorem d_Bx_shiftIfAllowed_104 : decode c_Bx_shiftIfAllowed 104 = .ok (.iconst 1, 1) := by decide +kernel
theorem d_Bx_shiftIfAllowed_105 : decode c_Bx_shiftIfAllowed 105 = .ok (.ireturn, 1) := by decide +kernel
theorem d_Wn_init_0 : decode c_Wn_init 0 = .ok (.aload_n 0, 1) := by decide +kernel
theorem d_Wn_init_1 : decode c_Wn_init 1 = .ok (.invokespecial 1, 3) := by decide +kernel
theorem d_Wn_init_4 : decode c_Wn_init 4 = .ok (.aload_n 0, 1) := by decide +kernel
theorem d_Wn_init_5 : decode c_Wn_init 5 = .ok (.iload_n 1, 1) := by decide +kernel
theorem d_Wn_init_6 : decode c_Wn_init 6 = .ok (.putfield 7, 3) := by decide +kernel
theorem d_Wn_init_9 : decode c_Wn_init 9 = .ok (.aload_n 0, 1) := by decide +kernel
theorem d_Wn_init_10 : decode c_Wn_init 10 = .ok (.iload_n 2, 1) := by decide +kernel
theorem d_Wn_init_11 : decode c_Wn_init 11 = .ok (.putfield 13, 3) := by decide +kernel
theorem d_Wn_init_14 : decode c_Wn_init 14 = .ok (.aload_n 0, 1) := by decide +kernel
theorem d_Wn_init_15 : decode c_Wn_init 15 = .ok (.iload_n 3, 1) := by decide +kernel
theorem d_Wn_init_16 : decode c_Wn_init 16 = .ok (.putfield 16, 3) := by decide +kernel
theorem d_Wn_init_19 : decode c_Wn_init 19 = .ok (.aload_n 0, 1) := by decide +kernel
theorem d_Wn_init_20 : decode c_Wn_init 20 = .ok (.iload 4, 2) := by decide +kernel
theorem d_Wn_init_22 : decode c_Wn_init 22 = .ok (.putfield 19, 3) := by decide +kernel
theorem d_Wn_init_25 : decode c_Wn_init 25 = .ok (.return_, 1) := by decide +kernel
theorem d_Hr_hasSun_0 : decode c_Hr_hasSun 0 = .ok (.aload_n 0, 1) := by decide +kernel
theorem d_Hr_hasSun_1 : decode c_Hr_hasSun 1 = .ok (.getfield 16, 3) := by decide +kernel
theorem d_Hr_hasSun_4 : decode c_Hr_hasSun 4 = .ok (.ifCond .le 7, 3) := by decide +kernel
theorem d_Hr_hasSun_7 : decode c_Hr_hasSun 7 = .ok (.iconst 1, 1) := by decide +kernel
theorem d_Hr_hasSun_8 : decode c_Hr_hasSun 8 = .ok (.goto 4, 3) := by decide +kernel
theorem d_Hr_hasSun_11 : decode c_Hr_hasSun 11 = .ok (.iconst 0, 1) := by decide +kernel
theorem d_Hr_hasSun_12 : decode c_Hr_hasSun 12 = .ok (.ireturn, 1) := by decide +kernel
theorem d_Bx_shadeThrownOnRow_0 : decode c_Bx_shadeThrownOnRow 0 = .ok (.iconst 2, 1) := by decide +kernel
theorem d_Bx_shadeThrownOnRow_1 : decode c_Bx_shadeThrownOnRow 1 = .ok (.iload_n 1, 1) := by decide +kernel
theorem d_Bx_shadeThrownOnRow_2 : decode c_Bx_shadeThrownOnRow 2 = .ok (.imul, 1) := by decide +kernel
theorem d_Bx_shadeThrownOnRow_3 : decode c_Bx_shadeThrownOnRow 3 = .ok (.iconst 1, 1) := by decide +kernel
theorem d_Bx_shadeThrownOnRow_4 : decode c_Bx_shadeThrownOnRow 4 = .ok (.iadd, 1) := by decide +kernel
theorem d_Bx_shadeThrownOnRow_5 : decode c_Bx_shadeThrownOnRow 5 = .ok (.istore 4, 2) := by decide +kernel
theorem d_Bx_shadeThrownOnRow_7 : decode c_Bx_shadeThrownOnRow 7 = .ok (.aload_n 0, 1) := by decide +kernel
theorem d_Bx_shadeThrownOnRow_8 : decode c_Bx_shadeThrownOnRow 8 = .ok (.getfield 9, 3) := by decide +kernel
theorem d_Bx_shadeThrownOnRow_11 : decode c_Bx_shadeThrownOnRow 11 = .ok (.ifCond .eq 26, 3) := by decide +kernel
theorem d_Bx_shadeThrownOnRow_14 : decode c_Bx_shadeThrownOnRow 14 = .ok (.aload_n 2, 1) := by decide +kernel
theorem d_Bx_shadeThrownOnRow_15 : decode c_Bx_shadeThrownOnRow 15 = .ok (.invokevirtual 38, 3) := by decide +kernel
theorem d_Bx_shadeThrownOnRow_18 : decode c_Bx_shadeThrownOnRow 18 = .ok (.ifCond .eq 19, 3) := by decide +kernel
theorem d_Bx_shadeThrownOnRow_21 : decode c_Bx_shadeThrownOnRow 21 = .ok (.aload_n 2, 1) := by decide +kernel
theorem d_Bx_shadeThrownOnRow_22 : decode c_Bx_shadeThrownOnRow 22 = .ok (.getfield 44, 3) := by decide +kernel
theorem d_Bx_shadeThrownOnRow_25 : decode c_Bx_shadeThrownOnRow 25 = .ok (.ifCond .ne 14, 3) := by decide +kernel
theorem d_Bx_shadeThrownOnRow_28 : decode c_Bx_shadeThrownOnRow 28 = .ok (.aload_n 0, 1) := by decide +kernel
theorem d_Bx_shadeThrownOnRow_29 : decode c_Bx_shadeThrownOnRow 29 = .ok (.iload 4, 2) := by decide +kernel
theorem d_Bx_shadeThrownOnRow_31 : decode c_Bx_shadeThrownOnRow 31 = .ok (.invokevirtual 47, 3) := by decide +kernel
theorem d_Bx_shadeThrownOnRow_34 : decode c_Bx_shadeThrownOnRow 34 = .ok (.ifCond .ne 5, 3) := by decide +kernel
theorem d_Bx_shadeThrownOnRow_37 : decode c_Bx_shadeThrownOnRow 37 = .ok (.lconst 0, 1) := by decide +kernel
theorem d_Bx_shadeThrownOnRow_38 : decode c_Bx_shadeThrownOnRow 38 = .ok (.lreturn, 1) := by decide +kernel
theorem d_Bx_shadeThrownOnRow_39 : decode c_Bx_shadeThrownOnRow 39 = .ok (.aload_n 2, 1) := by decide +kernel
theorem d_Bx_shadeThrownOnRow_40 : decode c_Bx_shadeThrownOnRow 40 = .ok (.getfield 44, 3) := by decide +kernel
theorem d_Bx_shadeThrownOnRow_43 : decode c_Bx_shadeThrownOnRow 43 = .ok (.ifCond .ne 7, 3) := by decide +kernel
theorem d_Bx_shadeThrownOnRow_46 : decode c_Bx_shadeThrownOnRow 46 = .ok (.iconst 1, 1) := by decide +kernel
theorem d_Bx_shadeThrownOnRow_47 : decode c_Bx_shadeThrownOnRow 47 = .ok (.goto 12, 3) := by decide +kernel
theorem d_Bx_shadeThrownOnRow_50 : decode c_Bx_shadeThrownOnRow 50 = .ok (.iconst 2, 1) := by decide +kernel
theorem d_Bx_shadeThrownOnRow_51 : decode c_Bx_shadeThrownOnRow 51 = .ok (.aload_n 2, 1) := by decide +kernel
theorem d_Bx_shadeThrownOnRow_52 : decode c_Bx_shadeThrownOnRow 52 = .ok (.getfield 44, 3) := by decide +kernel
theorem d_Bx_shadeThrownOnRow_55 : decode c_Bx_shadeThrownOnRow 55 = .ok (.invokestatic 51, 3) := by decide +kernel
theorem d_Bx_shadeThrownOnRow_58 : decode c_Bx_shadeThrownOnRow 58 = .ok (.imul, 1) := by decide +kernel
theorem d_Bx_shadeThrownOnRow_59 : decode c_Bx_shadeThrownOnRow 59 = .ok (.istore 5, 2) := by decide +kernel
theorem d_Bx_shadeThrownOnRow_61 : decode c_Bx_shadeThrownOnRow 61 = .ok (.aload_n 0, 1) := by decide +kernel
theorem d_Bx_shadeThrownOnRow_62 : decode c_Bx_shadeThrownOnRow 62 = .ok (.iload 4, 2) := by decide +kernel
theorem d_Bx_shadeThrownOnRow_64 : decode c_Bx_shadeThrownOnRow 64 = .ok (.aload_n 2, 1) := by decide +kernel
theorem d_Bx_shadeThrownOnRow_65 : decode c_Bx_shadeThrownOnRow 65 = .ok (.iload 5, 2) := by decide +kernel
theorem d_Bx_shadeThrownOnRow_67 : decode c_Bx_shadeThrownOnRow 67 = .ok (.invokevirtual 57, 3) := by decide +kernel
theorem d_Bx_shadeThrownOnRow_70 : decode c_Bx_shadeThrownOnRow 70 = .ok (.istore 6, 2) := by decide +kernel
theorem d_Bx_shadeThrownOnRow_72 : decode c_Bx_shadeThrownOnRow 72 = .ok (.aload_n 0, 1) := by decide +kernel
theorem d_Bx_shadeThrownOnRow_73 : decode c_Bx_shadeThrownOnRow 73 = .ok (.iload 4, 2) := by decide +kernel
theorem d_Bx_shadeThrownOnRow_75 : decode c_Bx_shadeThrownOnRow 75 = .ok (.aload_n 2, 1) := by decide +kernel
theorem d_Bx_shadeThrownOnRow_76 : decode c_Bx_shadeThrownOnRow 76 = .ok (.iload 5, 2) := by decide +kernel
theorem d_Bx_shadeThrownOnRow_78 : decode c_Bx_shadeThrownOnRow 78 = .ok (.invokevirtual 61, 3) := by decide +kernel
theorem d_Bx_shadeThrownOnRow_81 : decode c_Bx_shadeThrownOnRow 81 = .ok (.istore 7, 2) := by decide +kernel
theorem d_Bx_shadeThrownOnRow_83 : decode c_Bx_shadeThrownOnRow 83 = .ok (.iload 6, 2) := by decide +kernel
theorem d_Bx_shadeThrownOnRow_85 : decode c_Bx_shadeThrownOnRow 85 = .ok (.iload 7, 2) := by decide +kernel
theorem d_Bx_shadeThrownOnRow_87 : decode c_Bx_shadeThrownOnRow 87 = .ok (.if_icmp .le 5, 3) := by decide +kernel
theorem d_Bx_shadeThrownOnRow_90 : decode c_Bx_shadeThrownOnRow 90 = .ok (.lconst 0, 1) := by decide +kernel
theorem d_Bx_shadeThrownOnRow_91 : decode c_Bx_shadeThrownOnRow 91 = .ok (.lreturn, 1) := by decide +kernel
theorem d_Bx_shadeThrownOnRow_92 : decode c_Bx_shadeThrownOnRow 92 = .ok (.iload 5, 2) := by decide +kernel
theorem d_Bx_shadeThrownOnRow_94 : decode c_Bx_shadeThrownOnRow 94 = .ok (.aload_n 2, 1) := by decide +kernel
theorem d_Bx_shadeThrownOnRow_95 : decode c_Bx_shadeThrownOnRow 95 = .ok (.getfield 64, 3) := by decide +kernel
theorem d_Bx_shadeThrownOnRow_98 : decode c_Bx_shadeThrownOnRow 98 = .ok (.imul, 1) := by decide +kernel
theorem d_Bx_shadeThrownOnRow_99 : decode c_Bx_shadeThrownOnRow 99 = .ok (.istore 8, 2) := by decide +kernel
theorem d_Bx_shadeThrownOnRow_101 : decode c_Bx_shadeThrownOnRow 101 = .ok (.iload 6, 2) := by decide +kernel
theorem d_Bx_shadeThrownOnRow_103 : decode c_Bx_shadeThrownOnRow 103 = .ok (.aload_n 2, 1) := by decide +kernel
theorem d_Bx_shadeThrownOnRow_104 : decode c_Bx_shadeThrownOnRow 104 = .ok (.getfield 67, 3) := by decide +kernel
theorem d_Bx_shadeThrownOnRow_107 : decode c_Bx_shadeThrownOnRow 107 = .ok (.imul, 1) := by decide +kernel
theorem d_Bx_shadeThrownOnRow_108 : decode c_Bx_shadeThrownOnRow 108 = .ok (.iload 7, 2) := by decide +kernel
theorem d_Bx_shadeThrownOnRow_110 : decode c_Bx_shadeThrownOnRow 110 = .ok (.aload_n 2, 1) := by decide +kernel
theorem d_Bx_shadeThrownOnRow_111 : decode c_Bx_shadeThrownOnRow 111 = .ok (.getfield 67, 3) := by decide +kernel
theorem d_Bx_shadeThrownOnRow_114 : decode c_Bx_shadeThrownOnRow 114 = .ok (.imul, 1) := by decide +kernel
theorem d_Bx_shadeThrownOnRow_115 : decode c_Bx_shadeThrownOnRow 115 = .ok (.invokestatic 70, 3) := by decide +kernel
theorem d_Bx_shadeThrownOnRow_118 : decode c_Bx_shadeThrownOnRow 118 = .ok (.istore 9, 2) := by decide +kernel
theorem d_Bx_shadeThrownOnRow_120 : decode c_Bx_shadeThrownOnRow 120 = .ok (.iload 6, 2) := by decide +kernel
theorem d_Bx_shadeThrownOnRow_122 : decode c_Bx_shadeThrownOnRow 122 = .ok (.aload_n 2, 1) := by decide +kernel
theorem d_Bx_shadeThrownOnRow_123 : decode c_Bx_shadeThrownOnRow 123 = .ok (.getfield 67, 3) := by decide +kernel
theorem d_Bx_shadeThrownOnRow_126 : decode c_Bx_shadeThrownOnRow 126 = .ok (.imul, 1) := by decide +kernel
theorem d_Bx_shadeThrownOnRow_127 : decode c_Bx_shadeThrownOnRow 127 = .ok (.iload 7, 2) := by decide +kernel
theorem d_Bx_shadeThrownOnRow_129 : decode c_Bx_shadeThrownOnRow 129 = .ok (.aload_n 2, 1) := by decide +kernel
theorem d_Bx_shadeThrownOnRow_130 : decode c_Bx_shadeThrownOnRow 130 = .ok (.getfield 67, 3) := by decide +kernel
theorem d_Bx_shadeThrownOnRow_133 : decode c_Bx_shadeThrownOnRow 133 = .ok (.imul, 1) := by decide +kernel
theorem d_Bx_shadeThrownOnRow_134 : decode c_Bx_shadeThrownOnRow 134 = .ok (.invokestatic 74, 3) := by decide +kernel
theorem d_Bx_shadeThrownOnRow_137 : decode c_Bx_shadeThrownOnRow 137 = .ok (.istore 10, 2) := by decide +kernel
theorem d_Bx_shadeThrownOnRow_139 : decode c_Bx_shadeThrownOnRow 139 = .ok (.iload 8, 2) := by decide +kernel
theorem d_Bx_shadeThrownOnRow_141 : decode c_Bx_shadeThrownOnRow 141 = .ok (.iconst 2, 1) := by decide +kernel
theorem d_Bx_shadeThrownOnRow_142 : decode c_Bx_shadeThrownOnRow 142 = .ok (.aload_n 0, 1) := by decide +kernel
theorem d_Bx_shadeThrownOnRow_143 : decode c_Bx_shadeThrownOnRow 143 = .ok (.getfield 15, 3) := by decide +kernel
theorem d_Bx_shadeThrownOnRow_146 : decode c_Bx_shadeThrownOnRow 146 = .ok (.iload 8, 2) := by decide +kernel
theorem d_Bx_shadeThrownOnRow_148 : decode c_Bx_shadeThrownOnRow 148 = .ok (.imul, 1) := by decide +kernel
theorem d_Bx_shadeThrownOnRow_149 : decode c_Bx_shadeThrownOnRow 149 = .ok (.iload 9, 2) := by decide +kernel
theorem d_Bx_shadeThrownOnRow_151 : decode c_Bx_shadeThrownOnRow 151 = .ok (.iadd, 1) := by decide +kernel
theorem d_Bx_shadeThrownOnRow_152 : decode c_Bx_shadeThrownOnRow 152 = .ok (.imul, 1) := by decide +kernel
theorem d_Bx_shadeThrownOnRow_153 : decode c_Bx_shadeThrownOnRow 153 = .ok (.isub, 1) := by decide +kernel
theorem d_Bx_shadeThrownOnRow_154 : decode c_Bx_shadeThrownOnRow 154 = .ok (.iconst 2, 1) := by decide +kernel
theorem d_Bx_shadeThrownOnRow_155 : decode c_Bx_shadeThrownOnRow 155 = .ok (.iload 8, 2) := by decide +kernel
theorem d_Bx_shadeThrownOnRow_157 : decode c_Bx_shadeThrownOnRow 157 = .ok (.imul, 1) := by decide +kernel
theorem d_Bx_shadeThrownOnRow_158 : decode c_Bx_shadeThrownOnRow 158 = .ok (.invokestatic 77, 3) := by decide +kernel
theorem d_Bx_shadeThrownOnRow_161 : decode c_Bx_shadeThrownOnRow 161 = .ok (.ineg, 1) := by decide +kernel
theorem d_Bx_shadeThrownOnRow_162 : decode c_Bx_shadeThrownOnRow 162 = .ok (.istore 11, 2) := by decide +kernel
theorem d_Bx_shadeThrownOnRow_164 : decode c_Bx_shadeThrownOnRow 164 = .ok (.iconst 2, 1) := by decide +kernel
theorem d_Bx_shadeThrownOnRow_165 : decode c_Bx_shadeThrownOnRow 165 = .ok (.aload_n 0, 1) := by decide +kernel
theorem d_Bx_shadeThrownOnRow_166 : decode c_Bx_shadeThrownOnRow 166 = .ok (.getfield 25, 3) := by decide +kernel
theorem d_Bx_shadeThrownOnRow_169 : decode c_Bx_shadeThrownOnRow 169 = .ok (.iload 8, 2) := by decide +kernel
theorem d_Bx_shadeThrownOnRow_171 : decode c_Bx_shadeThrownOnRow 171 = .ok (.imul, 1) := by decide +kernel
theorem d_Bx_shadeThrownOnRow_172 : decode c_Bx_shadeThrownOnRow 172 = .ok (.iload 10, 2) := by decide +kernel
theorem d_Bx_shadeThrownOnRow_174 : decode c_Bx_shadeThrownOnRow 174 = .ok (.iadd, 1) := by decide +kernel
theorem d_Bx_shadeThrownOnRow_175 : decode c_Bx_shadeThrownOnRow 175 = .ok (.imul, 1) := by decide +kernel
theorem d_Bx_shadeThrownOnRow_176 : decode c_Bx_shadeThrownOnRow 176 = .ok (.iload 8, 2) := by decide +kernel
theorem d_Bx_shadeThrownOnRow_178 : decode c_Bx_shadeThrownOnRow 178 = .ok (.isub, 1) := by decide +kernel
theorem d_Bx_shadeThrownOnRow_179 : decode c_Bx_shadeThrownOnRow 179 = .ok (.iconst 2, 1) := by decide +kernel
theorem d_Bx_shadeThrownOnRow_180 : decode c_Bx_shadeThrownOnRow 180 = .ok (.iload 8, 2) := by decide +kernel
theorem d_Bx_shadeThrownOnRow_182 : decode c_Bx_shadeThrownOnRow 182 = .ok (.imul, 1) := by decide +kernel
theorem d_Bx_shadeThrownOnRow_183 : decode c_Bx_shadeThrownOnRow 183 = .ok (.invokestatic 77, 3) := by decide +kernel
theorem d_Bx_shadeThrownOnRow_186 : decode c_Bx_shadeThrownOnRow 186 = .ok (.istore 12, 2) := by decide +kernel
theorem d_Bx_shadeThrownOnRow_188 : decode c_Bx_shadeThrownOnRow 188 = .ok (.iload 11, 2) := by decide +kernel
theorem d_Bx_shadeThrownOnRow_190 : decode c_Bx_shadeThrownOnRow 190 = .ok (.iconst 0, 1) := by decide +kernel
theorem d_Bx_shadeThrownOnRow_191 : decode c_Bx_shadeThrownOnRow 191 = .ok (.invokestatic 74, 3) := by decide +kernel
theorem d_Bx_shadeThrownOnRow_194 : decode c_Bx_shadeThrownOnRow 194 = .ok (.iload 12, 2) := by decide +kernel
theorem d_Bx_shadeThrownOnRow_196 : decode c_Bx_shadeThrownOnRow 196 = .ok (.iload_n 3, 1) := by decide +kernel
theorem d_Bx_shadeThrownOnRow_197 : decode c_Bx_shadeThrownOnRow 197 = .ok (.iconst 1, 1) := by decide +kernel
theorem d_Bx_shadeThrownOnRow_198 : decode c_Bx_shadeThrownOnRow 198 = .ok (.isub, 1) := by decide +kernel
theorem d_Bx_shadeThrownOnRow_199 : decode c_Bx_shadeThrownOnRow 199 = .ok (.invokestatic 70, 3) := by decide +kernel
theorem d_Bx_shadeThrownOnRow_202 : decode c_Bx_shadeThrownOnRow 202 = .ok (.invokestatic 80, 3) := by decide +kernel
theorem d_Bx_shadeThrownOnRow_205 : decode c_Bx_shadeThrownOnRow 205 = .ok (.lreturn, 1) := by decide +kernel
theorem d_Bx_spansLine_0 : decode c_Bx_spansLine 0 = .ok (.iconst 2, 1) := by decide +kernel
theorem d_Bx_spansLine_1 : decode c_Bx_spansLine 1 = .ok (.aload_n 0, 1) := by decide +kernel
theorem d_Bx_spansLine_2 : decode c_Bx_spansLine 2 = .ok (.getfield 19, 3) := by decide +kernel
theorem d_Bx_spansLine_5 : decode c_Bx_spansLine 5 = .ok (.imul, 1) := by decide +kernel
theorem d_Bx_spansLine_6 : decode c_Bx_spansLine 6 = .ok (.iload_n 1, 1) := by decide +kernel
theorem d_Bx_spansLine_7 : decode c_Bx_spansLine 7 = .ok (.if_icmp .gt 17, 3) := by decide +kernel
theorem d_Bx_spansLine_10 : decode c_Bx_spansLine 10 = .ok (.iload_n 1, 1) := by decide +kernel
theorem d_Bx_spansLine_11 : decode c_Bx_spansLine 11 = .ok (.iconst 2, 1) := by decide +kernel
theorem d_Bx_spansLine_12 : decode c_Bx_spansLine 12 = .ok (.aload_n 0, 1) := by decide +kernel
theorem d_Bx_spansLine_13 : decode c_Bx_spansLine 13 = .ok (.getfield 28, 3) := by decide +kernel
theorem d_Bx_spansLine_16 : decode c_Bx_spansLine 16 = .ok (.imul, 1) := by decide +kernel
theorem d_Bx_spansLine_17 : decode c_Bx_spansLine 17 = .ok (.if_icmp .gt 7, 3) := by decide +kernel
theorem d_Bx_spansLine_20 : decode c_Bx_spansLine 20 = .ok (.iconst 1, 1) := by decide +kernel
theorem d_Bx_spansLine_21 : decode c_Bx_spansLine 21 = .ok (.goto 4, 3) := by decide +kernel
theorem d_Bx_spansLine_24 : decode c_Bx_spansLine 24 = .ok (.iconst 0, 1) := by decide +kernel
theorem d_Bx_spansLine_25 : decode c_Bx_spansLine 25 = .ok (.ireturn, 1) := by decide +kernel
theorem d_Mt_abs_0 : decode c_Mt_abs 0 = .ok (.iload_n 0, 1) := by decide +kernel
theorem d_Mt_abs_1 : decode c_Mt_abs 1 = .ok (.ifCond .ge 8, 3) := by decide +kernel
theorem d_Mt_abs_4 : decode c_Mt_abs 4 = .ok (.iload_n 0, 1) := by decide +kernel
theorem d_Mt_abs_5 : decode c_Mt_abs 5 = .ok (.ineg, 1) := by decide +kernel
theorem d_Mt_abs_6 : decode c_Mt_abs 6 = .ok (.goto 4, 3) := by decide +kernel
theorem d_Mt_abs_9 : decode c_Mt_abs 9 = .ok (.iload_n 0, 1) := by decide +kernel
theorem d_Mt_abs_10 : decode c_Mt_abs 10 = .ok (.ireturn, 1) := by decide +kernel
theorem d_Bx_nearest_0 : decode c_Bx_nearest 0 = .ok (.aload_n 0, 1) := by decide +kernel
theorem d_Bx_nearest_1 : decode c_Bx_nearest 1 = .ok (.getfield 22, 3) := by decide +kernel
theorem d_Bx_nearest_4 : decode c_Bx_nearest 4 = .ok (.iload_n 3, 1) := by decide +kernel
theorem d_Bx_nearest_5 : decode c_Bx_nearest 5 = .ok (.imul, 1) := by decide +kernel
theorem d_Bx_nearest_6 : decode c_Bx_nearest 6 = .ok (.istore 4, 2) := by decide +kernel
theorem d_Bx_nearest_8 : decode c_Bx_nearest 8 = .ok (.aload_n 2, 1) := by decide +kernel
theorem d_Bx_nearest_9 : decode c_Bx_nearest 9 = .ok (.getfield 44, 3) := by decide +kernel
theorem d_Bx_nearest_12 : decode c_Bx_nearest 12 = .ok (.ifCond .le 26, 3) := by decide +kernel
theorem d_Bx_nearest_15 : decode c_Bx_nearest 15 = .ok (.iload 4, 2) := by decide +kernel
theorem d_Bx_nearest_17 : decode c_Bx_nearest 17 = .ok (.iload_n 1, 1) := by decide +kernel
theorem d_Bx_nearest_18 : decode c_Bx_nearest 18 = .ok (.iconst 2, 1) := by decide +kernel
theorem d_Bx_nearest_19 : decode c_Bx_nearest 19 = .ok (.aload_n 0, 1) := by decide +kernel
theorem d_Bx_nearest_20 : decode c_Bx_nearest 20 = .ok (.getfield 28, 3) := by decide +kernel
theorem d_Bx_nearest_23 : decode c_Bx_nearest 23 = .ok (.imul, 1) := by decide +kernel
theorem d_Bx_nearest_24 : decode c_Bx_nearest 24 = .ok (.isub, 1) := by decide +kernel
theorem d_Bx_nearest_25 : decode c_Bx_nearest 25 = .ok (.aload_n 2, 1) := by decide +kernel
theorem d_Bx_nearest_26 : decode c_Bx_nearest 26 = .ok (.getfield 64, 3) := by decide +kernel
theorem d_Bx_nearest_29 : decode c_Bx_nearest 29 = .ok (.imul, 1) := by decide +kernel
theorem d_Bx_nearest_30 : decode c_Bx_nearest 30 = .ok (.invokestatic 74, 3) := by decide +kernel
theorem d_Bx_nearest_33 : decode c_Bx_nearest 33 = .ok (.istore 4, 2) := by decide +kernel
theorem d_Bx_nearest_35 : decode c_Bx_nearest 35 = .ok (.goto 30, 3) := by decide +kernel
theorem d_Bx_nearest_38 : decode c_Bx_nearest 38 = .ok (.aload_n 2, 1) := by decide +kernel
theorem d_Bx_nearest_39 : decode c_Bx_nearest 39 = .ok (.getfield 44, 3) := by decide +kernel
theorem d_Bx_nearest_42 : decode c_Bx_nearest 42 = .ok (.ifCond .ge 23, 3) := by decide +kernel
theorem d_Bx_nearest_45 : decode c_Bx_nearest 45 = .ok (.iload 4, 2) := by decide +kernel
theorem d_Bx_nearest_47 : decode c_Bx_nearest 47 = .ok (.iconst 2, 1) := by decide +kernel
theorem d_Bx_nearest_48 : decode c_Bx_nearest 48 = .ok (.aload_n 0, 1) := by decide +kernel
theorem d_Bx_nearest_49 : decode c_Bx_nearest 49 = .ok (.getfield 19, 3) := by decide +kernel
theorem d_Bx_nearest_52 : decode c_Bx_nearest 52 = .ok (.imul, 1) := by decide +kernel
theorem d_Bx_nearest_53 : decode c_Bx_nearest 53 = .ok (.iload_n 1, 1) := by decide +kernel
theorem d_Bx_nearest_54 : decode c_Bx_nearest 54 = .ok (.isub, 1) := by decide +kernel
theorem d_Bx_nearest_55 : decode c_Bx_nearest 55 = .ok (.aload_n 2, 1) := by decide +kernel
theorem d_Bx_nearest_56 : decode c_Bx_nearest 56 = .ok (.getfield 64, 3) := by decide +kernel
theorem d_Bx_nearest_59 : decode c_Bx_nearest 59 = .ok (.imul, 1) := by decide +kernel
theorem d_Bx_nearest_60 : decode c_Bx_nearest 60 = .ok (.invokestatic 74, 3) := by decide +kernel
theorem d_Bx_nearest_63 : decode c_Bx_nearest 63 = .ok (.istore 4, 2) := by decide +kernel
theorem d_Bx_nearest_65 : decode c_Bx_nearest 65 = .ok (.iload 4, 2) := by decide +kernel
theorem d_Bx_nearest_67 : decode c_Bx_nearest 67 = .ok (.ireturn, 1) := by decide +kernel
theorem d_Bx_farthest_0 : decode c_Bx_farthest 0 = .ok (.aload_n 0, 1) := by decide +kernel
theorem d_Bx_farthest_1 : decode c_Bx_farthest 1 = .ok (.getfield 31, 3) := by decide +kernel
theorem d_Bx_farthest_4 : decode c_Bx_farthest 4 = .ok (.iload_n 3, 1) := by decide +kernel
theorem d_Bx_farthest_5 : decode c_Bx_farthest 5 = .ok (.imul, 1) := by decide +kernel
theorem d_Bx_farthest_6 : decode c_Bx_farthest 6 = .ok (.istore 4, 2) := by decide +kernel
theorem d_Bx_farthest_8 : decode c_Bx_farthest 8 = .ok (.aload_n 2, 1) := by decide +kernel
theorem d_Bx_farthest_9 : decode c_Bx_farthest 9 = .ok (.getfield 44, 3) := by decide +kernel
theorem d_Bx_farthest_12 : decode c_Bx_farthest 12 = .ok (.ifCond .le 26, 3) := by decide +kernel
theorem d_Bx_farthest_15 : decode c_Bx_farthest 15 = .ok (.iload 4, 2) := by decide +kernel
theorem d_Bx_farthest_17 : decode c_Bx_farthest 17 = .ok (.iload_n 1, 1) := by decide +kernel
theorem d_Bx_farthest_18 : decode c_Bx_farthest 18 = .ok (.iconst 2, 1) := by decide +kernel
theorem d_Bx_farthest_19 : decode c_Bx_farthest 19 = .ok (.aload_n 0, 1) := by decide +kernel
theorem d_Bx_farthest_20 : decode c_Bx_farthest 20 = .ok (.getfield 19, 3) := by decide +kernel
theorem d_Bx_farthest_23 : decode c_Bx_farthest 23 = .ok (.imul, 1) := by decide +kernel
theorem d_Bx_farthest_24 : decode c_Bx_farthest 24 = .ok (.isub, 1) := by decide +kernel
theorem d_Bx_farthest_25 : decode c_Bx_farthest 25 = .ok (.aload_n 2, 1) := by decide +kernel
theorem d_Bx_farthest_26 : decode c_Bx_farthest 26 = .ok (.getfield 64, 3) := by decide +kernel
theorem d_Bx_farthest_29 : decode c_Bx_farthest 29 = .ok (.imul, 1) := by decide +kernel
theorem d_Bx_farthest_30 : decode c_Bx_farthest 30 = .ok (.invokestatic 70, 3) := by decide +kernel
theorem d_Bx_farthest_33 : decode c_Bx_farthest 33 = .ok (.istore 4, 2) := by decide +kernel
theorem d_Bx_farthest_35 : decode c_Bx_farthest 35 = .ok (.goto 30, 3) := by decide +kernel
theorem d_Bx_farthest_38 : decode c_Bx_farthest 38 = .ok (.aload_n 2, 1) := by decide +kernel
theorem d_Bx_farthest_39 : decode c_Bx_farthest 39 = .ok (.getfield 44, 3) := by decide +kernel
theorem d_Bx_farthest_42 : decode c_Bx_farthest 42 = .ok (.ifCond .ge 23, 3) := by decide +kernel
theorem d_Bx_farthest_45 : decode c_Bx_farthest 45 = .ok (.iload 4, 2) := by decide +kernel
theorem d_Bx_farthest_47 : decode c_Bx_farthest 47 = .ok (.iconst 2, 1) := by decide +kernel
theorem d_Bx_farthest_48 : decode c_Bx_farthest 48 = .ok (.aload_n 0, 1) := by decide +kernel
theorem d_Bx_farthest_49 : decode c_Bx_farthest 49 = .ok (.getfield 28, 3) := by decide +kernel
theorem d_Bx_farthest_52 : decode c_Bx_farthest 52 = .ok (.imul, 1) := by decide +kernel
theorem d_Bx_farthest_53 : decode c_Bx_farthest 53 = .ok (.iload_n 1, 1) := by decide +kernel
theorem d_Bx_farthest_54 : decode c_Bx_farthest 54 = .ok (.isub, 1) := by decide +kernel
theorem d_Bx_farthest_55 : decode c_Bx_farthest 55 = .ok (.aload_n 2, 1) := by decide +kernel
theorem d_Bx_farthest_56 : decode c_Bx_farthest 56 = .ok (.getfield 64, 3) := by decide +kernel
theorem d_Bx_farthest_59 : decode c_Bx_farthest 59 = .ok (.imul, 1) := by decide +kernel
theorem d_Bx_farthest_60 : decode c_Bx_farthest 60 = .ok (.invokestatic 70, 3) := by decide +kernel
theorem d_Bx_farthest_63 : decode c_Bx_farthest 63 = .ok (.istore 4, 2) := by decide +kernel
theorem d_Bx_farthest_65 : decode c_Bx_farthest 65 = .ok (.iload 4, 2) := by decide +kernel
theorem d_Bx_farthest_67 : decode c_Bx_farthest 67 = .ok (.ireturn, 1) := by decide +kernel
theorem d_Bx_floorOver_0 : decode c_Bx_floorOver 0 = .ok (.iload_n 1, 1) := by decide +kernel
theorem d_Bx_floorOver_1 : decode c_Bx_floorOver 1 = .ok (.ifCond .le 11, 3) := by decide +kernel
theorem d_Bx_floorOver_4 : decode c_Bx_floorOver 4 = .ok (.iload_n 0, 1) := by decide +kernel
theorem d_Bx_floorOver_5 : decode c_Bx_floorOver 5 = .ok (.iload_n 1, 1) := by decide +kernel
theorem d_Bx_floorOver_6 : decode c_Bx_floorOver 6 = .ok (.invokestatic 84, 3) := by decide +kernel
theorem d_Bx_floorOver_9 : decode c_Bx_floorOver 9 = .ok (.goto 4, 3) := by decide +kernel
theorem d_Bx_floorOver_12 : decode c_Bx_floorOver 12 = .ok (.iconst 0, 1) := by decide +kernel
theorem d_Bx_floorOver_13 : decode c_Bx_floorOver 13 = .ok (.ireturn, 1) := by decide +kernel
theorem d_Mt_floorDiv_0 : decode c_Mt_floorDiv 0 = .ok (.iload_n 0, 1) := by decide +kernel
theorem d_Mt_floorDiv_1 : decode c_Mt_floorDiv 1 = .ok (.iload_n 1, 1) := by decide +kernel
theorem d_Mt_floorDiv_2 : decode c_Mt_floorDiv 2 = .ok (.idiv, 1) := by decide +kernel
theorem d_Mt_floorDiv_3 : decode c_Mt_floorDiv 3 = .ok (.istore_n 2, 1) := by decide +kernel
theorem d_Mt_floorDiv_4 : decode c_Mt_floorDiv 4 = .ok (.iload_n 0, 1) := by decide +kernel
theorem d_Mt_floorDiv_5 : decode c_Mt_floorDiv 5 = .ok (.iload_n 1, 1) := by decide +kernel
theorem d_Mt_floorDiv_6 : decode c_Mt_floorDiv 6 = .ok (.ixor, 1) := by decide +kernel
theorem d_Mt_floorDiv_7 : decode c_Mt_floorDiv 7 = .ok (.ifCond .ge 14, 3) := by decide +kernel
theorem d_Mt_floorDiv_10 : decode c_Mt_floorDiv 10 = .ok (.iload_n 2, 1) := by decide +kernel
theorem d_Mt_floorDiv_11 : decode c_Mt_floorDiv 11 = .ok (.iload_n 1, 1) := by decide +kernel
theorem d_Mt_floorDiv_12 : decode c_Mt_floorDiv 12 = .ok (.imul, 1) := by decide +kernel
theorem d_Mt_floorDiv_13 : decode c_Mt_floorDiv 13 = .ok (.iload_n 0, 1) := by decide +kernel
theorem d_Mt_floorDiv_14 : decode c_Mt_floorDiv 14 = .ok (.if_icmp .eq 7, 3) := by decide +kernel
theorem d_Mt_floorDiv_17 : decode c_Mt_floorDiv 17 = .ok (.iload_n 2, 1) := by decide +kernel
theorem d_Mt_floorDiv_18 : decode c_Mt_floorDiv 18 = .ok (.iconst 1, 1) := by decide +kernel
theorem d_Mt_floorDiv_19 : decode c_Mt_floorDiv 19 = .ok (.isub, 1) := by decide +kernel
theorem d_Mt_floorDiv_20 : decode c_Mt_floorDiv 20 = .ok (.ireturn, 1) := by decide +kernel
theorem d_Mt_floorDiv_21 : decode c_Mt_floorDiv 21 = .ok (.iload_n 2, 1) := by decide +kernel
theorem d_Mt_floorDiv_22 : decode c_Mt_floorDiv 22 = .ok (.ireturn, 1) := by decide +kernel
theorem d_Lo_bitCount_0 : decode c_Lo_bitCount 0 = .ok (.lload_n 0, 1) := by decide +kernel
theorem d_Lo_bitCount_1 : decode c_Lo_bitCount 1 = .ok (.lload_n 0, 1) := by decide +kernel
theorem d_Lo_bitCount_2 : decode c_Lo_bitCount 2 = .ok (.iconst 1, 1) := by decide +kernel
theorem d_Lo_bitCount_3 : decode c_Lo_bitCount 3 = .ok (.lushr, 1) := by decide +kernel
theorem d_Lo_bitCount_4 : decode c_Lo_bitCount 4 = .ok (.ldc2_w 314, 3) := by decide +kernel
theorem d_Lo_bitCount_7 : decode c_Lo_bitCount 7 = .ok (.land, 1) := by decide +kernel
theorem d_Lo_bitCount_8 : decode c_Lo_bitCount 8 = .ok (.lsub, 1) := by decide +kernel
theorem d_Lo_bitCount_9 : decode c_Lo_bitCount 9 = .ok (.lstore_n 0, 1) := by decide +kernel
theorem d_Lo_bitCount_10 : decode c_Lo_bitCount 10 = .ok (.lload_n 0, 1) := by decide +kernel
theorem d_Lo_bitCount_11 : decode c_Lo_bitCount 11 = .ok (.ldc2_w 316, 3) := by decide +kernel
theorem d_Lo_bitCount_14 : decode c_Lo_bitCount 14 = .ok (.land, 1) := by decide +kernel
theorem d_Lo_bitCount_15 : decode c_Lo_bitCount 15 = .ok (.lload_n 0, 1) := by decide +kernel
theorem d_Lo_bitCount_16 : decode c_Lo_bitCount 16 = .ok (.iconst 2, 1) := by decide +kernel
theorem d_Lo_bitCount_17 : decode c_Lo_bitCount 17 = .ok (.lushr, 1) := by decide +kernel
theorem d_Lo_bitCount_18 : decode c_Lo_bitCount 18 = .ok (.ldc2_w 316, 3) := by decide +kernel
theorem d_Lo_bitCount_21 : decode c_Lo_bitCount 21 = .ok (.land, 1) := by decide +kernel
theorem d_Lo_bitCount_22 : decode c_Lo_bitCount 22 = .ok (.ladd, 1) := by decide +kernel
theorem d_Lo_bitCount_23 : decode c_Lo_bitCount 23 = .ok (.lstore_n 0, 1) := by decide +kernel
theorem d_Lo_bitCount_24 : decode c_Lo_bitCount 24 = .ok (.lload_n 0, 1) := by decide +kernel
theorem d_Lo_bitCount_25 : decode c_Lo_bitCount 25 = .ok (.lload_n 0, 1) := by decide +kernel
theorem d_Lo_bitCount_26 : decode c_Lo_bitCount 26 = .ok (.iconst 4, 1) := by decide +kernel
theorem d_Lo_bitCount_27 : decode c_Lo_bitCount 27 = .ok (.lushr, 1) := by decide +kernel
theorem d_Lo_bitCount_28 : decode c_Lo_bitCount 28 = .ok (.ladd, 1) := by decide +kernel
theorem d_Lo_bitCount_29 : decode c_Lo_bitCount 29 = .ok (.ldc2_w 318, 3) := by decide +kernel
theorem d_Lo_bitCount_32 : decode c_Lo_bitCount 32 = .ok (.land, 1) := by decide +kernel
theorem d_Lo_bitCount_33 : decode c_Lo_bitCount 33 = .ok (.lstore_n 0, 1) := by decide +kernel
theorem d_Lo_bitCount_34 : decode c_Lo_bitCount 34 = .ok (.lload_n 0, 1) := by decide +kernel
theorem d_Lo_bitCount_35 : decode c_Lo_bitCount 35 = .ok (.lload_n 0, 1) := by decide +kernel
theorem d_Lo_bitCount_36 : decode c_Lo_bitCount 36 = .ok (.bipush 8, 2) := by decide +kernel
theorem d_Lo_bitCount_38 : decode c_Lo_bitCount 38 = .ok (.lushr, 1) := by decide +kernel
theorem d_Lo_bitCount_39 : decode c_Lo_bitCount 39 = .ok (.ladd, 1) := by decide +kernel
theorem d_Lo_bitCount_40 : decode c_Lo_bitCount 40 = .ok (.lstore_n 0, 1) := by decide +kernel
theorem d_Lo_bitCount_41 : decode c_Lo_bitCount 41 = .ok (.lload_n 0, 1) := by decide +kernel
theorem d_Lo_bitCount_42 : decode c_Lo_bitCount 42 = .ok (.lload_n 0, 1) := by decide +kernel
theorem d_Lo_bitCount_43 : decode c_Lo_bitCount 43 = .ok (.bipush 16, 2) := by decide +kernel
theorem d_Lo_bitCount_45 : decode c_Lo_bitCount 45 = .ok (.lushr, 1) := by decide +kernel
theorem d_Lo_bitCount_46 : decode c_Lo_bitCount 46 = .ok (.ladd, 1) := by decide +kernel
theorem d_Lo_bitCount_47 : decode c_Lo_bitCount 47 = .ok (.lstore_n 0, 1) := by decide +kernel
theorem d_Lo_bitCount_48 : decode c_Lo_bitCount 48 = .ok (.lload_n 0, 1) := by decide +kernel
theorem d_Lo_bitCount_49 : decode c_Lo_bitCount 49 = .ok (.lload_n 0, 1) := by decide +kernel
theorem d_Lo_bitCount_50 : decode c_Lo_bitCount 50 = .ok (.bipush 32, 2) := by decide +kernel
theorem d_Lo_bitCount_52 : decode c_Lo_bitCount 52 = .ok (.lushr, 1) := by decide +kernel
theorem d_Lo_bitCount_53 : decode c_Lo_bitCount 53 = .ok (.ladd, 1) := by decide +kernel
theorem d_Lo_bitCount_54 : decode c_Lo_bitCount 54 = .ok (.lstore_n 0, 1) := by decide +kernel
theorem d_Lo_bitCount_55 : decode c_Lo_bitCount 55 = .ok (.lload_n 0, 1) := by decide +kernel
theorem d_Lo_bitCount_56 : decode c_Lo_bitCount 56 = .ok (.l2i, 1) := by decide +kernel
theorem d_Lo_bitCount_57 : decode c_Lo_bitCount 57 = .ok (.bipush 127, 2) := by decide +kernel
theorem d_Lo_bitCount_59 : decode c_Lo_bitCount 59 = .ok (.iand, 1) := by decide +kernel
theorem d_Lo_bitCount_60 : decode c_Lo_bitCount 60 = .ok (.ireturn, 1) := by decide +kernel
theorem d_Wn_columns_0 : decode c_Wn_columns 0 = .ok (.aload_n 0, 1) := by decide +kernel
theorem d_Wn_columns_1 : decode c_Wn_columns 1 = .ok (.getfield 7, 3) := by decide +kernel
theorem d_Wn_columns_4 : decode c_Wn_columns 4 = .ok (.aload_n 0, 1) := by decide +kernel
theorem d_Wn_columns_5 : decode c_Wn_columns 5 = .ok (.getfield 16, 3) := by decide +kernel
theorem d_Wn_columns_8 : decode c_Wn_columns 8 = .ok (.iconst 1, 1) := by decide +kernel
theorem d_Wn_columns_9 : decode c_Wn_columns 9 = .ok (.isub, 1) := by decide +kernel
theorem d_Wn_columns_10 : decode c_Wn_columns 10 = .ok (.invokestatic 22, 3) := by decide +kernel
theorem d_Wn_columns_13 : decode c_Wn_columns 13 = .ok (.lreturn, 1) := by decide +kernel
theorem d_Wn_cellCount_0 : decode c_Wn_cellCount 0 = .ok (.aload_n 0, 1) := by decide +kernel
theorem d_Wn_cellCount_1 : decode c_Wn_cellCount 1 = .ok (.getfield 16, 3) := by decide +kernel
theorem d_Wn_cellCount_4 : decode c_Wn_cellCount 4 = .ok (.aload_n 0, 1) := by decide +kernel
theorem d_Wn_cellCount_5 : decode c_Wn_cellCount 5 = .ok (.getfield 7, 3) := by decide +kernel
theorem d_Wn_cellCount_8 : decode c_Wn_cellCount 8 = .ok (.isub, 1) := by decide +kernel
theorem d_Wn_cellCount_9 : decode c_Wn_cellCount 9 = .ok (.aload_n 0, 1) := by decide +kernel
theorem d_Wn_cellCount_10 : decode c_Wn_cellCount 10 = .ok (.getfield 19, 3) := by decide +kernel
theorem d_Wn_cellCount_13 : decode c_Wn_cellCount 13 = .ok (.aload_n 0, 1) := by decide +kernel
theorem d_Wn_cellCount_14 : decode c_Wn_cellCount 14 = .ok (.getfield 13, 3) := by decide +kernel
theorem d_Wn_cellCount_17 : decode c_Wn_cellCount 17 = .ok (.isub, 1) := by decide +kernel
theorem d_Wn_cellCount_18 : decode c_Wn_cellCount 18 = .ok (.imul, 1) := by decide +kernel
theorem d_Wn_cellCount_19 : decode c_Wn_cellCount 19 = .ok (.ireturn, 1) := by decide +kernel
theorem d_Wn_ledgeOf_0 : decode c_Wn_ledgeOf 0 = .ok (.new 28, 3) := by decide +kernel
theorem d_Wn_ledgeOf_3 : decode c_Wn_ledgeOf 3 = .ok (.dup, 1) := by decide +kernel
theorem d_Wn_ledgeOf_4 : decode c_Wn_ledgeOf 4 = .ok (.aload_n 0, 1) := by decide +kernel
theorem d_Wn_ledgeOf_5 : decode c_Wn_ledgeOf 5 = .ok (.getfield 7, 3) := by decide +kernel
theorem d_Wn_ledgeOf_8 : decode c_Wn_ledgeOf 8 = .ok (.aload_n 0, 1) := by decide +kernel
theorem d_Wn_ledgeOf_9 : decode c_Wn_ledgeOf 9 = .ok (.getfield 19, 3) := by decide +kernel
theorem d_Wn_ledgeOf_12 : decode c_Wn_ledgeOf 12 = .ok (.iconst 0, 1) := by decide +kernel
theorem d_Wn_ledgeOf_13 : decode c_Wn_ledgeOf 13 = .ok (.aload_n 0, 1) := by decide +kernel
theorem d_Wn_ledgeOf_14 : decode c_Wn_ledgeOf 14 = .ok (.getfield 16, 3) := by decide +kernel
theorem d_Wn_ledgeOf_17 : decode c_Wn_ledgeOf 17 = .ok (.aload_n 0, 1) := by decide +kernel
theorem d_Wn_ledgeOf_18 : decode c_Wn_ledgeOf 18 = .ok (.getfield 19, 3) := by decide +kernel
theorem d_Wn_ledgeOf_21 : decode c_Wn_ledgeOf 21 = .ok (.iconst 1, 1) := by decide +kernel
theorem d_Wn_ledgeOf_22 : decode c_Wn_ledgeOf 22 = .ok (.iadd, 1) := by decide +kernel
theorem d_Wn_ledgeOf_23 : decode c_Wn_ledgeOf 23 = .ok (.iload_n 1, 1) := by decide +kernel
theorem d_Wn_ledgeOf_24 : decode c_Wn_ledgeOf 24 = .ok (.invokespecial 30, 3) := by decide +kernel
theorem d_Wn_ledgeOf_27 : decode c_Wn_ledgeOf 27 = .ok (.areturn, 1) := by decide +kernel
end
section
theorem d_Ss_init_0 : decode c_Ss_init 0 = .ok (.aload_n 0, 1) := by decide +kernel
theorem d_Ss_init_1 : decode c_Ss_init 1 = .ok (.invokespecial 1, 3) := by decide +kernel
theorem d_Ss_init_4 : decode c_Ss_init 4 = .ok (.aload_n 0, 1) := by decide +kernel
theorem d_Ss_init_5 : decode c_Ss_init 5 = .ok (.bipush 10, 2) := by decide +kernel
theorem d_Ss_init_7 : decode c_Ss_init 7 = .ok (.anewarray 9, 3) := by decide +kernel
theorem d_Ss_init_10 : decode c_Ss_init 10 = .ok (.putfield 11, 3) := by decide +kernel
theorem d_Ss_init_13 : decode c_Ss_init 13 = .ok (.aload_n 0, 1) := by decide +kernel
theorem d_Ss_init_14 : decode c_Ss_init 14 = .ok (.bipush 10, 2) := by decide +kernel
theorem d_Ss_init_16 : decode c_Ss_init 16 = .ok (.anewarray 15, 3) := by decide +kernel
theorem d_Ss_init_19 : decode c_Ss_init 19 = .ok (.putfield 17, 3) := by decide +kernel
theorem d_Ss_init_22 : decode c_Ss_init 22 = .ok (.aload_n 0, 1) := by decide +kernel
theorem d_Ss_init_23 : decode c_Ss_init 23 = .ok (.bipush 24, 2) := by decide +kernel
theorem d_Ss_init_25 : decode c_Ss_init 25 = .ok (.anewarray 21, 3) := by decide +kernel
theorem d_Ss_init_28 : decode c_Ss_init 28 = .ok (.putfield 23, 3) := by decide +kernel
theorem d_Ss_init_31 : decode c_Ss_init 31 = .ok (.aload_n 0, 1) := by decide +kernel
theorem d_Ss_init_32 : decode c_Ss_init 32 = .ok (.bipush 10, 2) := by decide +kernel
theorem d_Ss_init_34 : decode c_Ss_init 34 = .ok (.newarray .long, 2) := by decide +kernel
theorem d_Ss_init_36 : decode c_Ss_init 36 = .ok (.putfield 27, 3) := by decide +kernel
theorem d_Ss_init_39 : decode c_Ss_init 39 = .ok (.aload_n 0, 1) := by decide +kernel
theorem d_Ss_init_40 : decode c_Ss_init 40 = .ok (.bipush 10, 2) := by decide +kernel
theorem d_Ss_init_42 : decode c_Ss_init 42 = .ok (.newarray .int, 2) := by decide +kernel
theorem d_Ss_init_44 : decode c_Ss_init 44 = .ok (.putfield 31, 3) := by decide +kernel
theorem d_Ss_init_47 : decode c_Ss_init 47 = .ok (.aload_n 0, 1) := by decide +kernel
theorem d_Ss_init_48 : decode c_Ss_init 48 = .ok (.iconst 0, 1) := by decide +kernel
theorem d_Ss_init_49 : decode c_Ss_init 49 = .ok (.putfield 35, 3) := by decide +kernel
theorem d_Ss_init_52 : decode c_Ss_init 52 = .ok (.aload_n 0, 1) := by decide +kernel
theorem d_Ss_init_53 : decode c_Ss_init 53 = .ok (.iconst 0, 1) := by decide +kernel
theorem d_Ss_init_54 : decode c_Ss_init 54 = .ok (.putfield 39, 3) := by decide +kernel
theorem d_Ss_init_57 : decode c_Ss_init 57 = .ok (.aload_n 0, 1) := by decide +kernel
theorem d_Ss_init_58 : decode c_Ss_init 58 = .ok (.iconst 1, 1) := by decide +kernel
theorem d_Ss_init_59 : decode c_Ss_init 59 = .ok (.iload_n 1, 1) := by decide +kernel
theorem d_Ss_init_60 : decode c_Ss_init 60 = .ok (.bipush 60, 2) := by decide +kernel
theorem d_Ss_init_62 : decode c_Ss_init 62 = .ok (.invokestatic 42, 3) := by decide +kernel
theorem d_Ss_init_65 : decode c_Ss_init 65 = .ok (.invokestatic 48, 3) := by decide +kernel
theorem d_Ss_init_68 : decode c_Ss_init 68 = .ok (.putfield 51, 3) := by decide +kernel
theorem d_Ss_init_71 : decode c_Ss_init 71 = .ok (.aload_n 0, 1) := by decide +kernel
theorem d_Ss_init_72 : decode c_Ss_init 72 = .ok (.iconst 1, 1) := by decide +kernel
theorem d_Ss_init_73 : decode c_Ss_init 73 = .ok (.iload_n 2, 1) := by decide +kernel
theorem d_Ss_init_74 : decode c_Ss_init 74 = .ok (.bipush 60, 2) := by decide +kernel
theorem d_Ss_init_76 : decode c_Ss_init 76 = .ok (.invokestatic 42, 3) := by decide +kernel
theorem d_Ss_init_79 : decode c_Ss_init 79 = .ok (.invokestatic 48, 3) := by decide +kernel
theorem d_Ss_init_82 : decode c_Ss_init 82 = .ok (.putfield 54, 3) := by decide +kernel
theorem d_Ss_init_85 : decode c_Ss_init 85 = .ok (.iconst 0, 1) := by decide +kernel
theorem d_Ss_init_86 : decode c_Ss_init 86 = .ok (.istore_n 3, 1) := by decide +kernel
theorem d_Ss_init_87 : decode c_Ss_init 87 = .ok (.iload_n 3, 1) := by decide +kernel
theorem d_Ss_init_88 : decode c_Ss_init 88 = .ok (.aload_n 0, 1) := by decide +kernel
theorem d_Ss_init_89 : decode c_Ss_init 89 = .ok (.getfield 23, 3) := by decide +kernel
theorem d_Ss_init_92 : decode c_Ss_init 92 = .ok (.arraylength, 1) := by decide +kernel
theorem d_Ss_init_93 : decode c_Ss_init 93 = .ok (.if_icmp .ge 22, 3) := by decide +kernel
theorem d_Ss_init_96 : decode c_Ss_init 96 = .ok (.aload_n 0, 1) := by decide +kernel
theorem d_Ss_init_97 : decode c_Ss_init 97 = .ok (.getfield 23, 3) := by decide +kernel
theorem d_Ss_init_100 : decode c_Ss_init 100 = .ok (.iload_n 3, 1) := by decide +kernel
theorem d_Ss_init_101 : decode c_Ss_init 101 = .ok (.new 21, 3) := by decide +kernel
theorem d_Ss_init_104 : decode c_Ss_init 104 = .ok (.dup, 1) := by decide +kernel
theorem d_Ss_init_105 : decode c_Ss_init 105 = .ok (.invokespecial 57, 3) := by decide +kernel
theorem d_Ss_init_108 : decode c_Ss_init 108 = .ok (.aastore, 1) := by decide +kernel
theorem d_Ss_init_109 : decode c_Ss_init 109 = .ok (.iinc 3 1, 3) := by decide +kernel
theorem d_Ss_init_112 : decode c_Ss_init 112 = .ok (.goto (-25), 3) := by decide +kernel
theorem d_Ss_init_115 : decode c_Ss_init 115 = .ok (.return_, 1) := by decide +kernel
theorem d_Ss_box_0 : decode c_Ss_box 0 = .ok (.iload_n 1, 1) := by decide +kernel
theorem d_Ss_box_1 : decode c_Ss_box 1 = .ok (.iload_n 2, 1) := by decide +kernel
theorem d_Ss_box_2 : decode c_Ss_box 2 = .ok (.iload_n 3, 1) := by decide +kernel
theorem d_Ss_box_3 : decode c_Ss_box 3 = .ok (.iload 4, 2) := by decide +kernel
theorem d_Ss_box_5 : decode c_Ss_box 5 = .ok (.iload 5, 2) := by decide +kernel
theorem d_Ss_box_7 : decode c_Ss_box 7 = .ok (.iload 6, 2) := by decide +kernel
theorem d_Ss_box_9 : decode c_Ss_box 9 = .ok (.invokestatic 58, 3) := by decide +kernel
theorem d_Ss_box_12 : decode c_Ss_box 12 = .ok (.ifCond .ne 13, 3) := by decide +kernel
theorem d_Ss_box_15 : decode c_Ss_box 15 = .ok (.new 62, 3) := by decide +kernel
theorem d_Ss_box_18 : decode c_Ss_box 18 = .ok (.dup, 1) := by decide +kernel
theorem d_Ss_box_19 : decode c_Ss_box 19 = .ok (.ldc 64, 2) := by decide +kernel
theorem d_Ss_box_21 : decode c_Ss_box 21 = .ok (.invokespecial 66, 3) := by decide +kernel
theorem d_Ss_box_24 : decode c_Ss_box 24 = .ok (.athrow, 1) := by decide +kernel
theorem d_Ss_box_25 : decode c_Ss_box 25 = .ok (.aload_n 0, 1) := by decide +kernel
theorem d_Ss_box_26 : decode c_Ss_box 26 = .ok (.getfield 35, 3) := by decide +kernel
theorem d_Ss_box_29 : decode c_Ss_box 29 = .ok (.aload_n 0, 1) := by decide +kernel
theorem d_Ss_box_30 : decode c_Ss_box 30 = .ok (.getfield 11, 3) := by decide +kernel
theorem d_Ss_box_33 : decode c_Ss_box 33 = .ok (.arraylength, 1) := by decide +kernel
theorem d_Ss_box_34 : decode c_Ss_box 34 = .ok (.if_icmp .lt 13, 3) := by decide +kernel
theorem d_Ss_box_37 : decode c_Ss_box 37 = .ok (.new 69, 3) := by decide +kernel
theorem d_Ss_box_40 : decode c_Ss_box 40 = .ok (.dup, 1) := by decide +kernel
theorem d_Ss_box_41 : decode c_Ss_box 41 = .ok (.ldc 71, 2) := by decide +kernel
theorem d_Ss_box_43 : decode c_Ss_box 43 = .ok (.invokespecial 73, 3) := by decide +kernel
theorem d_Ss_box_46 : decode c_Ss_box 46 = .ok (.athrow, 1) := by decide +kernel
theorem d_Ss_box_47 : decode c_Ss_box 47 = .ok (.aload_n 0, 1) := by decide +kernel
theorem d_Ss_box_48 : decode c_Ss_box 48 = .ok (.getfield 35, 3) := by decide +kernel
theorem d_Ss_box_51 : decode c_Ss_box 51 = .ok (.istore 7, 2) := by decide +kernel
theorem d_Ss_box_53 : decode c_Ss_box 53 = .ok (.aload_n 0, 1) := by decide +kernel
theorem d_Ss_box_54 : decode c_Ss_box 54 = .ok (.getfield 11, 3) := by decide +kernel
theorem d_Ss_box_57 : decode c_Ss_box 57 = .ok (.iload 7, 2) := by decide +kernel
theorem d_Ss_box_59 : decode c_Ss_box 59 = .ok (.new 9, 3) := by decide +kernel
theorem d_Ss_box_62 : decode c_Ss_box 62 = .ok (.dup, 1) := by decide +kernel
theorem d_Ss_box_63 : decode c_Ss_box 63 = .ok (.iload_n 1, 1) := by decide +kernel
theorem d_Ss_box_64 : decode c_Ss_box 64 = .ok (.iload_n 2, 1) := by decide +kernel
theorem d_Ss_box_65 : decode c_Ss_box 65 = .ok (.iload_n 3, 1) := by decide +kernel
theorem d_Ss_box_66 : decode c_Ss_box 66 = .ok (.iload 4, 2) := by decide +kernel
theorem d_Ss_box_68 : decode c_Ss_box 68 = .ok (.iload 5, 2) := by decide +kernel
theorem d_Ss_box_70 : decode c_Ss_box 70 = .ok (.iload 6, 2) := by decide +kernel
theorem d_Ss_box_72 : decode c_Ss_box 72 = .ok (.invokespecial 74, 3) := by decide +kernel
theorem d_Ss_box_75 : decode c_Ss_box 75 = .ok (.aastore, 1) := by decide +kernel
theorem d_Ss_box_76 : decode c_Ss_box 76 = .ok (.aload_n 0, 1) := by decide +kernel
theorem d_Ss_box_77 : decode c_Ss_box 77 = .ok (.iload 7, 2) := by decide +kernel
theorem d_Ss_box_79 : decode c_Ss_box 79 = .ok (.iconst 1, 1) := by decide +kernel
theorem d_Ss_box_80 : decode c_Ss_box 80 = .ok (.iadd, 1) := by decide +kernel
theorem d_Ss_box_81 : decode c_Ss_box 81 = .ok (.putfield 35, 3) := by decide +kernel
theorem d_Ss_box_84 : decode c_Ss_box 84 = .ok (.iload 7, 2) := by decide +kernel
theorem d_Ss_box_86 : decode c_Ss_box 86 = .ok (.ireturn, 1) := by decide +kernel
theorem d_Ss_move_0 : decode c_Ss_move 0 = .ok (.aload_n 0, 1) := by decide +kernel
theorem d_Ss_move_1 : decode c_Ss_move 1 = .ok (.iload_n 1, 1) := by decide +kernel
theorem d_Ss_move_2 : decode c_Ss_move 2 = .ok (.invokevirtual 77, 3) := by decide +kernel
theorem d_Ss_move_5 : decode c_Ss_move 5 = .ok (.astore 5, 2) := by decide +kernel
theorem d_Ss_move_7 : decode c_Ss_move 7 = .ok (.iload_n 2, 1) := by decide +kernel
theorem d_Ss_move_8 : decode c_Ss_move 8 = .ok (.sipush (-300), 3) := by decide +kernel
theorem d_Ss_move_11 : decode c_Ss_move 11 = .ok (.sipush 300, 3) := by decide +kernel
theorem d_Ss_move_14 : decode c_Ss_move 14 = .ok (.invokestatic 81, 3) := by decide +kernel
theorem d_Ss_move_17 : decode c_Ss_move 17 = .ok (.ifCond .eq 30, 3) := by decide +kernel
theorem d_Ss_move_20 : decode c_Ss_move 20 = .ok (.iload_n 3, 1) := by decide +kernel
theorem d_Ss_move_21 : decode c_Ss_move 21 = .ok (.sipush (-300), 3) := by decide +kernel
theorem d_Ss_move_24 : decode c_Ss_move 24 = .ok (.sipush 300, 3) := by decide +kernel
theorem d_Ss_move_27 : decode c_Ss_move 27 = .ok (.invokestatic 81, 3) := by decide +kernel
theorem d_Ss_move_30 : decode c_Ss_move 30 = .ok (.ifCond .eq 17, 3) := by decide +kernel
theorem d_Ss_move_33 : decode c_Ss_move 33 = .ok (.iload 4, 2) := by decide +kernel
theorem d_Ss_move_35 : decode c_Ss_move 35 = .ok (.sipush (-300), 3) := by decide +kernel
theorem d_Ss_move_38 : decode c_Ss_move 38 = .ok (.sipush 300, 3) := by decide +kernel
theorem d_Ss_move_41 : decode c_Ss_move 41 = .ok (.invokestatic 81, 3) := by decide +kernel
theorem d_Ss_move_44 : decode c_Ss_move 44 = .ok (.ifCond .ne 13, 3) := by decide +kernel
theorem d_Ss_move_47 : decode c_Ss_move 47 = .ok (.new 62, 3) := by decide +kernel
theorem d_Ss_move_50 : decode c_Ss_move 50 = .ok (.dup, 1) := by decide +kernel
theorem d_Ss_move_51 : decode c_Ss_move 51 = .ok (.ldc 85, 2) := by decide +kernel
theorem d_Ss_move_53 : decode c_Ss_move 53 = .ok (.invokespecial 66, 3) := by decide +kernel
theorem d_Ss_move_56 : decode c_Ss_move 56 = .ok (.athrow, 1) := by decide +kernel
theorem d_Ss_move_57 : decode c_Ss_move 57 = .ok (.aload 5, 2) := by decide +kernel
theorem d_Ss_move_59 : decode c_Ss_move 59 = .ok (.iload_n 2, 1) := by decide +kernel
theorem d_Ss_move_60 : decode c_Ss_move 60 = .ok (.iload_n 3, 1) := by decide +kernel
theorem d_Ss_move_61 : decode c_Ss_move 61 = .ok (.iload 4, 2) := by decide +kernel
theorem d_Ss_move_63 : decode c_Ss_move 63 = .ok (.invokevirtual 87, 3) := by decide +kernel
theorem d_Ss_move_66 : decode c_Ss_move 66 = .ok (.ireturn, 1) := by decide +kernel
theorem d_Ss_knownBox_0 : decode c_Ss_knownBox 0 = .ok (.iload_n 1, 1) := by decide +kernel
theorem d_Ss_knownBox_1 : decode c_Ss_knownBox 1 = .ok (.ifCond .lt 21, 3) := by decide +kernel
theorem d_Ss_knownBox_4 : decode c_Ss_knownBox 4 = .ok (.iload_n 1, 1) := by decide +kernel
theorem d_Ss_knownBox_5 : decode c_Ss_knownBox 5 = .ok (.aload_n 0, 1) := by decide +kernel
theorem d_Ss_knownBox_6 : decode c_Ss_knownBox 6 = .ok (.getfield 11, 3) := by decide +kernel
theorem d_Ss_knownBox_9 : decode c_Ss_knownBox 9 = .ok (.arraylength, 1) := by decide +kernel
theorem d_Ss_knownBox_10 : decode c_Ss_knownBox 10 = .ok (.if_icmp .ge 12, 3) := by decide +kernel
theorem d_Ss_knownBox_13 : decode c_Ss_knownBox 13 = .ok (.aload_n 0, 1) := by decide +kernel
theorem d_Ss_knownBox_14 : decode c_Ss_knownBox 14 = .ok (.getfield 11, 3) := by decide +kernel
theorem d_Ss_knownBox_17 : decode c_Ss_knownBox 17 = .ok (.iload_n 1, 1) := by decide +kernel
theorem d_Ss_knownBox_18 : decode c_Ss_knownBox 18 = .ok (.aaload, 1) := by decide +kernel
theorem d_Ss_knownBox_19 : decode c_Ss_knownBox 19 = .ok (.goto 4, 3) := by decide +kernel
theorem d_Ss_knownBox_22 : decode c_Ss_knownBox 22 = .ok (.aconst_null, 1) := by decide +kernel
theorem d_Ss_knownBox_23 : decode c_Ss_knownBox 23 = .ok (.astore_n 2, 1) := by decide +kernel
theorem d_Ss_knownBox_24 : decode c_Ss_knownBox 24 = .ok (.aload_n 2, 1) := by decide +kernel
theorem d_Ss_knownBox_25 : decode c_Ss_knownBox 25 = .ok (.ifnonnull 13, 3) := by decide +kernel
theorem d_Ss_knownBox_28 : decode c_Ss_knownBox 28 = .ok (.new 62, 3) := by decide +kernel
theorem d_Ss_knownBox_31 : decode c_Ss_knownBox 31 = .ok (.dup, 1) := by decide +kernel
theorem d_Ss_knownBox_32 : decode c_Ss_knownBox 32 = .ok (.ldc 181, 2) := by decide +kernel
theorem d_Ss_knownBox_34 : decode c_Ss_knownBox 34 = .ok (.invokespecial 66, 3) := by decide +kernel
theorem d_Ss_knownBox_37 : decode c_Ss_knownBox 37 = .ok (.athrow, 1) := by decide +kernel
theorem d_Ss_knownBox_38 : decode c_Ss_knownBox 38 = .ok (.aload_n 2, 1) := by decide +kernel
theorem d_Ss_knownBox_39 : decode c_Ss_knownBox 39 = .ok (.areturn, 1) := by decide +kernel
theorem d_Ss_isWithin_0 : decode c_Ss_isWithin 0 = .ok (.iload_n 0, 1) := by decide +kernel
theorem d_Ss_isWithin_1 : decode c_Ss_isWithin 1 = .ok (.iload_n 1, 1) := by decide +kernel
theorem d_Ss_isWithin_2 : decode c_Ss_isWithin 2 = .ok (.if_icmp .lt 12, 3) := by decide +kernel
theorem d_Ss_isWithin_5 : decode c_Ss_isWithin 5 = .ok (.iload_n 0, 1) := by decide +kernel
theorem d_Ss_isWithin_6 : decode c_Ss_isWithin 6 = .ok (.iload_n 2, 1) := by decide +kernel
theorem d_Ss_isWithin_7 : decode c_Ss_isWithin 7 = .ok (.if_icmp .gt 7, 3) := by decide +kernel
theorem d_Ss_isWithin_10 : decode c_Ss_isWithin 10 = .ok (.iconst 1, 1) := by decide +kernel
theorem d_Ss_isWithin_11 : decode c_Ss_isWithin 11 = .ok (.goto 4, 3) := by decide +kernel
theorem d_Ss_isWithin_14 : decode c_Ss_isWithin 14 = .ok (.iconst 0, 1) := by decide +kernel
theorem d_Ss_isWithin_15 : decode c_Ss_isWithin 15 = .ok (.ireturn, 1) := by decide +kernel
theorem d_Ss_there_0 : decode c_Ss_there 0 = .ok (.aload_n 0, 1) := by decide +kernel
theorem d_Ss_there_1 : decode c_Ss_there 1 = .ok (.iload_n 1, 1) := by decide +kernel
theorem d_Ss_there_2 : decode c_Ss_there 2 = .ok (.invokevirtual 77, 3) := by decide +kernel
theorem d_Ss_there_5 : decode c_Ss_there 5 = .ok (.astore_n 3, 1) := by decide +kernel
theorem d_Ss_there_6 : decode c_Ss_there 6 = .ok (.aload_n 3, 1) := by decide +kernel
theorem d_Ss_there_7 : decode c_Ss_there 7 = .ok (.getfield 90, 3) := by decide +kernel
theorem d_Ss_there_10 : decode c_Ss_there 10 = .ok (.istore 4, 2) := by decide +kernel
theorem d_Ss_there_12 : decode c_Ss_there 12 = .ok (.aload_n 3, 1) := by decide +kernel
theorem d_Ss_there_13 : decode c_Ss_there 13 = .ok (.iload_n 2, 1) := by decide +kernel
theorem d_Ss_there_14 : decode c_Ss_there 14 = .ok (.putfield 90, 3) := by decide +kernel
theorem d_Ss_there_17 : decode c_Ss_there 17 = .ok (.iload 4, 2) := by decide +kernel
theorem d_Ss_there_19 : decode c_Ss_there 19 = .ok (.ireturn, 1) := by decide +kernel
theorem d_Ss_sun_0 : decode c_Ss_sun 0 = .ok (.aload_n 0, 1) := by decide +kernel
theorem d_Ss_sun_1 : decode c_Ss_sun 1 = .ok (.iload_n 1, 1) := by decide +kernel
theorem d_Ss_sun_2 : decode c_Ss_sun 2 = .ok (.invokevirtual 94, 3) := by decide +kernel
theorem d_Ss_sun_5 : decode c_Ss_sun 5 = .ok (.astore 5, 2) := by decide +kernel
theorem d_Ss_sun_7 : decode c_Ss_sun 7 = .ok (.iload_n 2, 1) := by decide +kernel
theorem d_Ss_sun_8 : decode c_Ss_sun 8 = .ok (.sipush (-300), 3) := by decide +kernel
theorem d_Ss_sun_11 : decode c_Ss_sun 11 = .ok (.sipush 300, 3) := by decide +kernel
theorem d_Ss_sun_14 : decode c_Ss_sun 14 = .ok (.invokestatic 81, 3) := by decide +kernel
theorem d_Ss_sun_17 : decode c_Ss_sun 17 = .ok (.ifCond .eq 27, 3) := by decide +kernel
theorem d_Ss_sun_20 : decode c_Ss_sun 20 = .ok (.iload_n 3, 1) := by decide +kernel
theorem d_Ss_sun_21 : decode c_Ss_sun 21 = .ok (.sipush (-300), 3) := by decide +kernel
theorem d_Ss_sun_24 : decode c_Ss_sun 24 = .ok (.sipush 300, 3) := by decide +kernel
theorem d_Ss_sun_27 : decode c_Ss_sun 27 = .ok (.invokestatic 81, 3) := by decide +kernel
theorem d_Ss_sun_30 : decode c_Ss_sun 30 = .ok (.ifCond .eq 14, 3) := by decide +kernel
theorem d_Ss_sun_33 : decode c_Ss_sun 33 = .ok (.iload 4, 2) := by decide +kernel
theorem d_Ss_sun_35 : decode c_Ss_sun 35 = .ok (.iconst 0, 1) := by decide +kernel
theorem d_Ss_sun_36 : decode c_Ss_sun 36 = .ok (.bipush 100, 2) := by decide +kernel
theorem d_Ss_sun_38 : decode c_Ss_sun 38 = .ok (.invokestatic 81, 3) := by decide +kernel
theorem d_Ss_sun_41 : decode c_Ss_sun 41 = .ok (.ifCond .ne 13, 3) := by decide +kernel
theorem d_Ss_sun_44 : decode c_Ss_sun 44 = .ok (.new 62, 3) := by decide +kernel
theorem d_Ss_sun_47 : decode c_Ss_sun 47 = .ok (.dup, 1) := by decide +kernel
theorem d_Ss_sun_48 : decode c_Ss_sun 48 = .ok (.ldc 98, 2) := by decide +kernel
theorem d_Ss_sun_50 : decode c_Ss_sun 50 = .ok (.invokespecial 66, 3) := by decide +kernel
theorem d_Ss_sun_53 : decode c_Ss_sun 53 = .ok (.athrow, 1) := by decide +kernel
theorem d_Ss_sun_54 : decode c_Ss_sun 54 = .ok (.aload 5, 2) := by decide +kernel
theorem d_Ss_sun_56 : decode c_Ss_sun 56 = .ok (.iload_n 2, 1) := by decide +kernel
theorem d_Ss_sun_57 : decode c_Ss_sun 57 = .ok (.putfield 100, 3) := by decide +kernel
theorem d_Ss_sun_60 : decode c_Ss_sun 60 = .ok (.aload 5, 2) := by decide +kernel
theorem d_Ss_sun_62 : decode c_Ss_sun 62 = .ok (.iload_n 3, 1) := by decide +kernel
theorem d_Ss_sun_63 : decode c_Ss_sun 63 = .ok (.putfield 103, 3) := by decide +kernel
theorem d_Ss_sun_66 : decode c_Ss_sun 66 = .ok (.aload 5, 2) := by decide +kernel
theorem d_Ss_sun_68 : decode c_Ss_sun 68 = .ok (.iload 4, 2) := by decide +kernel
theorem d_Ss_sun_70 : decode c_Ss_sun 70 = .ok (.putfield 106, 3) := by decide +kernel
theorem d_Ss_sun_73 : decode c_Ss_sun 73 = .ok (.return_, 1) := by decide +kernel
theorem d_Ss_knownHour_0 : decode c_Ss_knownHour 0 = .ok (.iload_n 1, 1) := by decide +kernel
theorem d_Ss_knownHour_1 : decode c_Ss_knownHour 1 = .ok (.ifCond .lt 21, 3) := by decide +kernel
theorem d_Ss_knownHour_4 : decode c_Ss_knownHour 4 = .ok (.iload_n 1, 1) := by decide +kernel
theorem d_Ss_knownHour_5 : decode c_Ss_knownHour 5 = .ok (.aload_n 0, 1) := by decide +kernel
theorem d_Ss_knownHour_6 : decode c_Ss_knownHour 6 = .ok (.getfield 23, 3) := by decide +kernel
theorem d_Ss_knownHour_9 : decode c_Ss_knownHour 9 = .ok (.arraylength, 1) := by decide +kernel
theorem d_Ss_knownHour_10 : decode c_Ss_knownHour 10 = .ok (.if_icmp .ge 12, 3) := by decide +kernel
theorem d_Ss_knownHour_13 : decode c_Ss_knownHour 13 = .ok (.aload_n 0, 1) := by decide +kernel
theorem d_Ss_knownHour_14 : decode c_Ss_knownHour 14 = .ok (.getfield 23, 3) := by decide +kernel
theorem d_Ss_knownHour_17 : decode c_Ss_knownHour 17 = .ok (.iload_n 1, 1) := by decide +kernel
theorem d_Ss_knownHour_18 : decode c_Ss_knownHour 18 = .ok (.aaload, 1) := by decide +kernel
theorem d_Ss_knownHour_19 : decode c_Ss_knownHour 19 = .ok (.goto 4, 3) := by decide +kernel
theorem d_Ss_knownHour_22 : decode c_Ss_knownHour 22 = .ok (.aconst_null, 1) := by decide +kernel
theorem d_Ss_knownHour_23 : decode c_Ss_knownHour 23 = .ok (.astore_n 2, 1) := by decide +kernel
theorem d_Ss_knownHour_24 : decode c_Ss_knownHour 24 = .ok (.aload_n 2, 1) := by decide +kernel
theorem d_Ss_knownHour_25 : decode c_Ss_knownHour 25 = .ok (.ifnonnull 13, 3) := by decide +kernel
theorem d_Ss_knownHour_28 : decode c_Ss_knownHour 28 = .ok (.new 62, 3) := by decide +kernel
theorem d_Ss_knownHour_31 : decode c_Ss_knownHour 31 = .ok (.dup, 1) := by decide +kernel
theorem d_Ss_knownHour_32 : decode c_Ss_knownHour 32 = .ok (.ldc 185, 2) := by decide +kernel
theorem d_Ss_knownHour_34 : decode c_Ss_knownHour 34 = .ok (.invokespecial 66, 3) := by decide +kernel
theorem d_Ss_knownHour_37 : decode c_Ss_knownHour 37 = .ok (.athrow, 1) := by decide +kernel
theorem d_Ss_knownHour_38 : decode c_Ss_knownHour 38 = .ok (.aload_n 2, 1) := by decide +kernel
theorem d_Ss_knownHour_39 : decode c_Ss_knownHour 39 = .ok (.areturn, 1) := by decide +kernel
theorem d_Ss_light_0 : decode c_Ss_light 0 = .ok (.aload_n 0, 1) := by decide +kernel
theorem d_Ss_light_1 : decode c_Ss_light 1 = .ok (.iload_n 1, 1) := by decide +kernel
theorem d_Ss_light_2 : decode c_Ss_light 2 = .ok (.invokevirtual 94, 3) := by decide +kernel
theorem d_Ss_light_5 : decode c_Ss_light 5 = .ok (.astore_n 3, 1) := by decide +kernel
theorem d_Ss_light_6 : decode c_Ss_light 6 = .ok (.iload_n 2, 1) := by decide +kernel
theorem d_Ss_light_7 : decode c_Ss_light 7 = .ok (.iconst 0, 1) := by decide +kernel
theorem d_Ss_light_8 : decode c_Ss_light 8 = .ok (.sipush 1000, 3) := by decide +kernel
theorem d_Ss_light_11 : decode c_Ss_light 11 = .ok (.invokestatic 81, 3) := by decide +kernel
theorem d_Ss_light_14 : decode c_Ss_light 14 = .ok (.ifCond .ne 13, 3) := by decide +kernel
theorem d_Ss_light_17 : decode c_Ss_light 17 = .ok (.new 62, 3) := by decide +kernel
theorem d_Ss_light_20 : decode c_Ss_light 20 = .ok (.dup, 1) := by decide +kernel
theorem d_Ss_light_21 : decode c_Ss_light 21 = .ok (.ldc 109, 2) := by decide +kernel
theorem d_Ss_light_23 : decode c_Ss_light 23 = .ok (.invokespecial 66, 3) := by decide +kernel
theorem d_Ss_light_26 : decode c_Ss_light 26 = .ok (.athrow, 1) := by decide +kernel
theorem d_Ss_light_27 : decode c_Ss_light 27 = .ok (.aload_n 3, 1) := by decide +kernel
theorem d_Ss_light_28 : decode c_Ss_light 28 = .ok (.getfield 111, 3) := by decide +kernel
theorem d_Ss_light_31 : decode c_Ss_light 31 = .ok (.istore 4, 2) := by decide +kernel
theorem d_Ss_light_33 : decode c_Ss_light 33 = .ok (.aload_n 3, 1) := by decide +kernel
theorem d_Ss_light_34 : decode c_Ss_light 34 = .ok (.iload_n 2, 1) := by decide +kernel
theorem d_Ss_light_35 : decode c_Ss_light 35 = .ok (.putfield 111, 3) := by decide +kernel
theorem d_Ss_light_38 : decode c_Ss_light 38 = .ok (.iload 4, 2) := by decide +kernel
theorem d_Ss_light_40 : decode c_Ss_light 40 = .ok (.ireturn, 1) := by decide +kernel
theorem d_Ss_window_0 : decode c_Ss_window 0 = .ok (.iload_n 1, 1) := by decide +kernel
theorem d_Ss_window_1 : decode c_Ss_window 1 = .ok (.ifCond .lt 35, 3) := by decide +kernel
theorem d_Ss_window_4 : decode c_Ss_window 4 = .ok (.iload_n 1, 1) := by decide +kernel
theorem d_Ss_window_5 : decode c_Ss_window 5 = .ok (.iload_n 3, 1) := by decide +kernel
theorem d_Ss_window_6 : decode c_Ss_window 6 = .ok (.if_icmp .ge 30, 3) := by decide +kernel
theorem d_Ss_window_9 : decode c_Ss_window 9 = .ok (.iload_n 3, 1) := by decide +kernel
theorem d_Ss_window_10 : decode c_Ss_window 10 = .ok (.aload_n 0, 1) := by decide +kernel
theorem d_Ss_window_11 : decode c_Ss_window 11 = .ok (.getfield 51, 3) := by decide +kernel
theorem d_Ss_window_14 : decode c_Ss_window 14 = .ok (.if_icmp .gt 22, 3) := by decide +kernel
theorem d_Ss_window_17 : decode c_Ss_window 17 = .ok (.iload_n 2, 1) := by decide +kernel
theorem d_Ss_window_18 : decode c_Ss_window 18 = .ok (.ifCond .lt 18, 3) := by decide +kernel
theorem d_Ss_window_21 : decode c_Ss_window 21 = .ok (.iload_n 2, 1) := by decide +kernel
theorem d_Ss_window_22 : decode c_Ss_window 22 = .ok (.iload 4, 2) := by decide +kernel
theorem d_Ss_window_24 : decode c_Ss_window 24 = .ok (.if_icmp .ge 12, 3) := by decide +kernel
theorem d_Ss_window_27 : decode c_Ss_window 27 = .ok (.iload 4, 2) := by decide +kernel
theorem d_Ss_window_29 : decode c_Ss_window 29 = .ok (.aload_n 0, 1) := by decide +kernel
theorem d_Ss_window_30 : decode c_Ss_window 30 = .ok (.getfield 54, 3) := by decide +kernel
theorem d_Ss_window_33 : decode c_Ss_window 33 = .ok (.if_icmp .le 13, 3) := by decide +kernel
theorem d_Ss_window_36 : decode c_Ss_window 36 = .ok (.new 62, 3) := by decide +kernel
theorem d_Ss_window_39 : decode c_Ss_window 39 = .ok (.dup, 1) := by decide +kernel
theorem d_Ss_window_40 : decode c_Ss_window 40 = .ok (.ldc 114, 2) := by decide +kernel
theorem d_Ss_window_42 : decode c_Ss_window 42 = .ok (.invokespecial 66, 3) := by decide +kernel
theorem d_Ss_window_45 : decode c_Ss_window 45 = .ok (.athrow, 1) := by decide +kernel
theorem d_Ss_window_46 : decode c_Ss_window 46 = .ok (.aload_n 0, 1) := by decide +kernel
theorem d_Ss_window_47 : decode c_Ss_window 47 = .ok (.getfield 39, 3) := by decide +kernel
theorem d_Ss_window_50 : decode c_Ss_window 50 = .ok (.aload_n 0, 1) := by decide +kernel
theorem d_Ss_window_51 : decode c_Ss_window 51 = .ok (.getfield 17, 3) := by decide +kernel
theorem d_Ss_window_54 : decode c_Ss_window 54 = .ok (.arraylength, 1) := by decide +kernel
theorem d_Ss_window_55 : decode c_Ss_window 55 = .ok (.if_icmp .lt 13, 3) := by decide +kernel
theorem d_Ss_window_58 : decode c_Ss_window 58 = .ok (.new 69, 3) := by decide +kernel
theorem d_Ss_window_61 : decode c_Ss_window 61 = .ok (.dup, 1) := by decide +kernel
theorem d_Ss_window_62 : decode c_Ss_window 62 = .ok (.ldc 116, 2) := by decide +kernel
theorem d_Ss_window_64 : decode c_Ss_window 64 = .ok (.invokespecial 73, 3) := by decide +kernel
theorem d_Ss_window_67 : decode c_Ss_window 67 = .ok (.athrow, 1) := by decide +kernel
theorem d_Ss_window_68 : decode c_Ss_window 68 = .ok (.aload_n 0, 1) := by decide +kernel
theorem d_Ss_window_69 : decode c_Ss_window 69 = .ok (.getfield 39, 3) := by decide +kernel
theorem d_Ss_window_72 : decode c_Ss_window 72 = .ok (.istore 5, 2) := by decide +kernel
theorem d_Ss_window_74 : decode c_Ss_window 74 = .ok (.aload_n 0, 1) := by decide +kernel
theorem d_Ss_window_75 : decode c_Ss_window 75 = .ok (.getfield 17, 3) := by decide +kernel
theorem d_Ss_window_78 : decode c_Ss_window 78 = .ok (.iload 5, 2) := by decide +kernel
theorem d_Ss_window_80 : decode c_Ss_window 80 = .ok (.new 15, 3) := by decide +kernel
theorem d_Ss_window_83 : decode c_Ss_window 83 = .ok (.dup, 1) := by decide +kernel
theorem d_Ss_window_84 : decode c_Ss_window 84 = .ok (.iload_n 1, 1) := by decide +kernel
theorem d_Ss_window_85 : decode c_Ss_window 85 = .ok (.iload_n 2, 1) := by decide +kernel
theorem d_Ss_window_86 : decode c_Ss_window 86 = .ok (.iload_n 3, 1) := by decide +kernel
theorem d_Ss_window_87 : decode c_Ss_window 87 = .ok (.iload 4, 2) := by decide +kernel
theorem d_Ss_window_89 : decode c_Ss_window 89 = .ok (.invokespecial 118, 3) := by decide +kernel
theorem d_Ss_window_92 : decode c_Ss_window 92 = .ok (.aastore, 1) := by decide +kernel
theorem d_Ss_window_93 : decode c_Ss_window 93 = .ok (.aload_n 0, 1) := by decide +kernel
theorem d_Ss_window_94 : decode c_Ss_window 94 = .ok (.iload 5, 2) := by decide +kernel
theorem d_Ss_window_96 : decode c_Ss_window 96 = .ok (.iconst 1, 1) := by decide +kernel
theorem d_Ss_window_97 : decode c_Ss_window 97 = .ok (.iadd, 1) := by decide +kernel
theorem d_Ss_window_98 : decode c_Ss_window 98 = .ok (.putfield 39, 3) := by decide +kernel
theorem d_Ss_window_101 : decode c_Ss_window 101 = .ok (.iload 5, 2) := by decide +kernel
theorem d_Ss_window_103 : decode c_Ss_window 103 = .ok (.ireturn, 1) := by decide +kernel
theorem d_Ss_shadow_0 : decode c_Ss_shadow 0 = .ok (.iload_n 1, 1) := by decide +kernel
theorem d_Ss_shadow_1 : decode c_Ss_shadow 1 = .ok (.iconst 0, 1) := by decide +kernel
theorem d_Ss_shadow_2 : decode c_Ss_shadow 2 = .ok (.aload_n 0, 1) := by decide +kernel
theorem d_Ss_shadow_3 : decode c_Ss_shadow 3 = .ok (.getfield 51, 3) := by decide +kernel
theorem d_Ss_shadow_6 : decode c_Ss_shadow 6 = .ok (.iconst 1, 1) := by decide +kernel
theorem d_Ss_shadow_7 : decode c_Ss_shadow 7 = .ok (.isub, 1) := by decide +kernel
theorem d_Ss_shadow_8 : decode c_Ss_shadow 8 = .ok (.invokestatic 81, 3) := by decide +kernel
theorem d_Ss_shadow_11 : decode c_Ss_shadow 11 = .ok (.ifCond .eq 17, 3) := by decide +kernel
theorem d_Ss_shadow_14 : decode c_Ss_shadow 14 = .ok (.iload_n 2, 1) := by decide +kernel
theorem d_Ss_shadow_15 : decode c_Ss_shadow 15 = .ok (.iconst 0, 1) := by decide +kernel
theorem d_Ss_shadow_16 : decode c_Ss_shadow 16 = .ok (.aload_n 0, 1) := by decide +kernel
theorem d_Ss_shadow_17 : decode c_Ss_shadow 17 = .ok (.getfield 54, 3) := by decide +kernel
theorem d_Ss_shadow_20 : decode c_Ss_shadow 20 = .ok (.iconst 1, 1) := by decide +kernel
theorem d_Ss_shadow_21 : decode c_Ss_shadow 21 = .ok (.isub, 1) := by decide +kernel
theorem d_Ss_shadow_22 : decode c_Ss_shadow 22 = .ok (.invokestatic 81, 3) := by decide +kernel
theorem d_Ss_shadow_25 : decode c_Ss_shadow 25 = .ok (.ifCond .ne 13, 3) := by decide +kernel
theorem d_Ss_shadow_28 : decode c_Ss_shadow 28 = .ok (.new 62, 3) := by decide +kernel
theorem d_Ss_shadow_31 : decode c_Ss_shadow 31 = .ok (.dup, 1) := by decide +kernel
theorem d_Ss_shadow_32 : decode c_Ss_shadow 32 = .ok (.ldc 121, 2) := by decide +kernel
theorem d_Ss_shadow_34 : decode c_Ss_shadow 34 = .ok (.invokespecial 66, 3) := by decide +kernel
theorem d_Ss_shadow_37 : decode c_Ss_shadow 37 = .ok (.athrow, 1) := by decide +kernel
theorem d_Ss_shadow_38 : decode c_Ss_shadow 38 = .ok (.aload_n 0, 1) := by decide +kernel
theorem d_Ss_shadow_39 : decode c_Ss_shadow 39 = .ok (.iload_n 2, 1) := by decide +kernel
theorem d_Ss_shadow_40 : decode c_Ss_shadow 40 = .ok (.aload_n 0, 1) := by decide +kernel
theorem d_Ss_shadow_41 : decode c_Ss_shadow 41 = .ok (.iload_n 3, 1) := by decide +kernel
theorem d_Ss_shadow_42 : decode c_Ss_shadow 42 = .ok (.invokevirtual 123, 3) := by decide +kernel
theorem d_Ss_shadow_45 : decode c_Ss_shadow 45 = .ok (.invokevirtual 126, 3) := by decide +kernel
theorem d_Ss_shadow_48 : decode c_Ss_shadow 48 = .ok (.iload_n 1, 1) := by decide +kernel
theorem d_Ss_shadow_49 : decode c_Ss_shadow 49 = .ok (.invokestatic 130, 3) := by decide +kernel
theorem d_Ss_shadow_52 : decode c_Ss_shadow 52 = .ok (.ireturn, 1) := by decide +kernel
theorem d_Ss_sunnyHour_0 : decode c_Ss_sunnyHour 0 = .ok (.aload_n 0, 1) := by decide +kernel
theorem d_Ss_sunnyHour_1 : decode c_Ss_sunnyHour 1 = .ok (.iload_n 1, 1) := by decide +kernel
theorem d_Ss_sunnyHour_2 : decode c_Ss_sunnyHour 2 = .ok (.invokevirtual 94, 3) := by decide +kernel
theorem d_Ss_sunnyHour_5 : decode c_Ss_sunnyHour 5 = .ok (.astore_n 2, 1) := by decide +kernel
theorem d_Ss_sunnyHour_6 : decode c_Ss_sunnyHour 6 = .ok (.aload_n 2, 1) := by decide +kernel
theorem d_Ss_sunnyHour_7 : decode c_Ss_sunnyHour 7 = .ok (.invokevirtual 173, 3) := by decide +kernel
theorem d_Ss_sunnyHour_10 : decode c_Ss_sunnyHour 10 = .ok (.ifCond .ne 13, 3) := by decide +kernel
theorem d_Ss_sunnyHour_13 : decode c_Ss_sunnyHour 13 = .ok (.new 69, 3) := by decide +kernel
theorem d_Ss_sunnyHour_16 : decode c_Ss_sunnyHour 16 = .ok (.dup, 1) := by decide +kernel
theorem d_Ss_sunnyHour_17 : decode c_Ss_sunnyHour 17 = .ok (.ldc 187, 2) := by decide +kernel
theorem d_Ss_sunnyHour_19 : decode c_Ss_sunnyHour 19 = .ok (.invokespecial 73, 3) := by decide +kernel
theorem d_Ss_sunnyHour_22 : decode c_Ss_sunnyHour 22 = .ok (.athrow, 1) := by decide +kernel
theorem d_Ss_sunnyHour_23 : decode c_Ss_sunnyHour 23 = .ok (.aload_n 2, 1) := by decide +kernel
theorem d_Ss_sunnyHour_24 : decode c_Ss_sunnyHour 24 = .ok (.areturn, 1) := by decide +kernel
theorem d_Ss_shadeOfRow_0 : decode c_Ss_shadeOfRow 0 = .ok (.lconst 0, 1) := by decide +kernel
theorem d_Ss_shadeOfRow_1 : decode c_Ss_shadeOfRow 1 = .ok (.lstore_n 3, 1) := by decide +kernel
theorem d_Ss_shadeOfRow_2 : decode c_Ss_shadeOfRow 2 = .ok (.aload_n 0, 1) := by decide +kernel
theorem d_Ss_shadeOfRow_3 : decode c_Ss_shadeOfRow 3 = .ok (.getfield 11, 3) := by decide +kernel
theorem d_Ss_shadeOfRow_6 : decode c_Ss_shadeOfRow 6 = .ok (.astore 5, 2) := by decide +kernel
theorem d_Ss_shadeOfRow_8 : decode c_Ss_shadeOfRow 8 = .ok (.aload 5, 2) := by decide +kernel
theorem d_Ss_shadeOfRow_10 : decode c_Ss_shadeOfRow 10 = .ok (.arraylength, 1) := by decide +kernel
theorem d_Ss_shadeOfRow_11 : decode c_Ss_shadeOfRow 11 = .ok (.istore 6, 2) := by decide +kernel
theorem d_Ss_shadeOfRow_13 : decode c_Ss_shadeOfRow 13 = .ok (.iconst 0, 1) := by decide +kernel
theorem d_Ss_shadeOfRow_14 : decode c_Ss_shadeOfRow 14 = .ok (.istore 7, 2) := by decide +kernel
theorem d_Ss_shadeOfRow_16 : decode c_Ss_shadeOfRow 16 = .ok (.iload 7, 2) := by decide +kernel
theorem d_Ss_shadeOfRow_18 : decode c_Ss_shadeOfRow 18 = .ok (.iload 6, 2) := by decide +kernel
theorem d_Ss_shadeOfRow_20 : decode c_Ss_shadeOfRow 20 = .ok (.if_icmp .ge 35, 3) := by decide +kernel
theorem d_Ss_shadeOfRow_23 : decode c_Ss_shadeOfRow 23 = .ok (.aload 5, 2) := by decide +kernel
theorem d_Ss_shadeOfRow_25 : decode c_Ss_shadeOfRow 25 = .ok (.iload 7, 2) := by decide +kernel
theorem d_Ss_shadeOfRow_27 : decode c_Ss_shadeOfRow 27 = .ok (.aaload, 1) := by decide +kernel
theorem d_Ss_shadeOfRow_28 : decode c_Ss_shadeOfRow 28 = .ok (.astore 8, 2) := by decide +kernel
theorem d_Ss_shadeOfRow_30 : decode c_Ss_shadeOfRow 30 = .ok (.aload 8, 2) := by decide +kernel
theorem d_Ss_shadeOfRow_32 : decode c_Ss_shadeOfRow 32 = .ok (.ifnull 17, 3) := by decide +kernel
theorem d_Ss_shadeOfRow_35 : decode c_Ss_shadeOfRow 35 = .ok (.lload_n 3, 1) := by decide +kernel
theorem d_Ss_shadeOfRow_36 : decode c_Ss_shadeOfRow 36 = .ok (.aload 8, 2) := by decide +kernel
theorem d_Ss_shadeOfRow_38 : decode c_Ss_shadeOfRow 38 = .ok (.iload_n 1, 1) := by decide +kernel
theorem d_Ss_shadeOfRow_39 : decode c_Ss_shadeOfRow 39 = .ok (.aload_n 2, 1) := by decide +kernel
theorem d_Ss_shadeOfRow_40 : decode c_Ss_shadeOfRow 40 = .ok (.aload_n 0, 1) := by decide +kernel
theorem d_Ss_shadeOfRow_41 : decode c_Ss_shadeOfRow 41 = .ok (.getfield 51, 3) := by decide +kernel
theorem d_Ss_shadeOfRow_44 : decode c_Ss_shadeOfRow 44 = .ok (.invokevirtual 134, 3) := by decide +kernel
theorem d_Ss_shadeOfRow_47 : decode c_Ss_shadeOfRow 47 = .ok (.lor, 1) := by decide +kernel
theorem d_Ss_shadeOfRow_48 : decode c_Ss_shadeOfRow 48 = .ok (.lstore_n 3, 1) := by decide +kernel
theorem d_Ss_shadeOfRow_49 : decode c_Ss_shadeOfRow 49 = .ok (.iinc 7 1, 3) := by decide +kernel
theorem d_Ss_shadeOfRow_52 : decode c_Ss_shadeOfRow 52 = .ok (.goto (-36), 3) := by decide +kernel
theorem d_Ss_shadeOfRow_55 : decode c_Ss_shadeOfRow 55 = .ok (.lload_n 3, 1) := by decide +kernel
theorem d_Ss_shadeOfRow_56 : decode c_Ss_shadeOfRow 56 = .ok (.lreturn, 1) := by decide +kernel
theorem d_Ss_cellsBetween_0 : decode c_Ss_cellsBetween 0 = .ok (.iload_n 0, 1) := by decide +kernel
theorem d_Ss_cellsBetween_1 : decode c_Ss_cellsBetween 1 = .ok (.iload_n 1, 1) := by decide +kernel
theorem d_Ss_cellsBetween_2 : decode c_Ss_cellsBetween 2 = .ok (.if_icmp .le 5, 3) := by decide +kernel
theorem d_Ss_cellsBetween_5 : decode c_Ss_cellsBetween 5 = .ok (.lconst 0, 1) := by decide +kernel
theorem d_Ss_cellsBetween_6 : decode c_Ss_cellsBetween 6 = .ok (.lreturn, 1) := by decide +kernel
theorem d_Ss_cellsBetween_7 : decode c_Ss_cellsBetween 7 = .ok (.lconst 1, 1) := by decide +kernel
theorem d_Ss_cellsBetween_8 : decode c_Ss_cellsBetween 8 = .ok (.iload_n 1, 1) := by decide +kernel
theorem d_Ss_cellsBetween_9 : decode c_Ss_cellsBetween 9 = .ok (.iload_n 0, 1) := by decide +kernel
theorem d_Ss_cellsBetween_10 : decode c_Ss_cellsBetween 10 = .ok (.isub, 1) := by decide +kernel
theorem d_Ss_cellsBetween_11 : decode c_Ss_cellsBetween 11 = .ok (.iconst 1, 1) := by decide +kernel
theorem d_Ss_cellsBetween_12 : decode c_Ss_cellsBetween 12 = .ok (.iadd, 1) := by decide +kernel
theorem d_Ss_cellsBetween_13 : decode c_Ss_cellsBetween 13 = .ok (.lshl, 1) := by decide +kernel
theorem d_Ss_cellsBetween_14 : decode c_Ss_cellsBetween 14 = .ok (.lconst 1, 1) := by decide +kernel
theorem d_Ss_cellsBetween_15 : decode c_Ss_cellsBetween 15 = .ok (.lsub, 1) := by decide +kernel
theorem d_Ss_cellsBetween_16 : decode c_Ss_cellsBetween 16 = .ok (.iload_n 0, 1) := by decide +kernel
theorem d_Ss_cellsBetween_17 : decode c_Ss_cellsBetween 17 = .ok (.lshl, 1) := by decide +kernel
theorem d_Ss_cellsBetween_18 : decode c_Ss_cellsBetween 18 = .ok (.lreturn, 1) := by decide +kernel
theorem d_Ss_hasCell_0 : decode c_Ss_hasCell 0 = .ok (.lload_n 0, 1) := by decide +kernel
theorem d_Ss_hasCell_1 : decode c_Ss_hasCell 1 = .ok (.iload_n 2, 1) := by decide +kernel
theorem d_Ss_hasCell_2 : decode c_Ss_hasCell 2 = .ok (.lushr, 1) := by decide +kernel
theorem d_Ss_hasCell_3 : decode c_Ss_hasCell 3 = .ok (.lconst 1, 1) := by decide +kernel
theorem d_Ss_hasCell_4 : decode c_Ss_hasCell 4 = .ok (.land, 1) := by decide +kernel
theorem d_Ss_hasCell_5 : decode c_Ss_hasCell 5 = .ok (.lconst 0, 1) := by decide +kernel
theorem d_Ss_hasCell_6 : decode c_Ss_hasCell 6 = .ok (.lcmp, 1) := by decide +kernel
theorem d_Ss_hasCell_7 : decode c_Ss_hasCell 7 = .ok (.ifCond .eq 7, 3) := by decide +kernel
theorem d_Ss_hasCell_10 : decode c_Ss_hasCell 10 = .ok (.iconst 1, 1) := by decide +kernel
theorem d_Ss_hasCell_11 : decode c_Ss_hasCell 11 = .ok (.goto 4, 3) := by decide +kernel
theorem d_Ss_hasCell_14 : decode c_Ss_hasCell 14 = .ok (.iconst 0, 1) := by decide +kernel
theorem d_Ss_hasCell_15 : decode c_Ss_hasCell 15 = .ok (.ireturn, 1) := by decide +kernel
theorem d_Ss_shadows_0 : decode c_Ss_shadows 0 = .ok (.iload_n 1, 1) := by decide +kernel
theorem d_Ss_shadows_1 : decode c_Ss_shadows 1 = .ok (.iconst (-1), 1) := by decide +kernel
theorem d_Ss_shadows_2 : decode c_Ss_shadows 2 = .ok (.if_icmp .ne 7, 3) := by decide +kernel
theorem d_Ss_shadows_5 : decode c_Ss_shadows 5 = .ok (.aconst_null, 1) := by decide +kernel
theorem d_Ss_shadows_6 : decode c_Ss_shadows 6 = .ok (.goto 8, 3) := by decide +kernel
theorem d_Ss_shadows_9 : decode c_Ss_shadows 9 = .ok (.aload_n 0, 1) := by decide +kernel
theorem d_Ss_shadows_10 : decode c_Ss_shadows 10 = .ok (.iload_n 1, 1) := by decide +kernel
theorem d_Ss_shadows_11 : decode c_Ss_shadows 11 = .ok (.invokevirtual 77, 3) := by decide +kernel
theorem d_Ss_shadows_14 : decode c_Ss_shadows 14 = .ok (.astore_n 3, 1) := by decide +kernel
theorem d_Ss_shadows_15 : decode c_Ss_shadows 15 = .ok (.aload_n 0, 1) := by decide +kernel
theorem d_Ss_shadows_16 : decode c_Ss_shadows 16 = .ok (.iload_n 2, 1) := by decide +kernel
theorem d_Ss_shadows_17 : decode c_Ss_shadows 17 = .ok (.invokevirtual 123, 3) := by decide +kernel
theorem d_Ss_shadows_20 : decode c_Ss_shadows 20 = .ok (.astore 4, 2) := by decide +kernel
theorem d_Ss_shadows_22 : decode c_Ss_shadows 22 = .ok (.iconst 0, 1) := by decide +kernel
theorem d_Ss_shadows_23 : decode c_Ss_shadows 23 = .ok (.istore 5, 2) := by decide +kernel
theorem d_Ss_shadows_25 : decode c_Ss_shadows 25 = .ok (.iconst 0, 1) := by decide +kernel
theorem d_Ss_shadows_26 : decode c_Ss_shadows 26 = .ok (.istore 6, 2) := by decide +kernel
theorem d_Ss_shadows_28 : decode c_Ss_shadows 28 = .ok (.iload 6, 2) := by decide +kernel
theorem d_Ss_shadows_30 : decode c_Ss_shadows 30 = .ok (.aload_n 0, 1) := by decide +kernel
theorem d_Ss_shadows_31 : decode c_Ss_shadows 31 = .ok (.getfield 54, 3) := by decide +kernel
theorem d_Ss_shadows_34 : decode c_Ss_shadows 34 = .ok (.if_icmp .ge 48, 3) := by decide +kernel
theorem d_Ss_shadows_37 : decode c_Ss_shadows 37 = .ok (.aload_n 3, 1) := by decide +kernel
theorem d_Ss_shadows_38 : decode c_Ss_shadows 38 = .ok (.ifnonnull 14, 3) := by decide +kernel
theorem d_Ss_shadows_41 : decode c_Ss_shadows 41 = .ok (.aload_n 0, 1) := by decide +kernel
theorem d_Ss_shadows_42 : decode c_Ss_shadows 42 = .ok (.iload 6, 2) := by decide +kernel
theorem d_Ss_shadows_44 : decode c_Ss_shadows 44 = .ok (.aload 4, 2) := by decide +kernel
theorem d_Ss_shadows_46 : decode c_Ss_shadows 46 = .ok (.invokevirtual 126, 3) := by decide +kernel
theorem d_Ss_shadows_49 : decode c_Ss_shadows 49 = .ok (.goto 15, 3) := by decide +kernel
theorem d_Ss_shadows_52 : decode c_Ss_shadows 52 = .ok (.aload_n 3, 1) := by decide +kernel
theorem d_Ss_shadows_53 : decode c_Ss_shadows 53 = .ok (.iload 6, 2) := by decide +kernel
theorem d_Ss_shadows_55 : decode c_Ss_shadows 55 = .ok (.aload 4, 2) := by decide +kernel
theorem d_Ss_shadows_57 : decode c_Ss_shadows 57 = .ok (.aload_n 0, 1) := by decide +kernel
theorem d_Ss_shadows_58 : decode c_Ss_shadows 58 = .ok (.getfield 51, 3) := by decide +kernel
theorem d_Ss_shadows_61 : decode c_Ss_shadows 61 = .ok (.invokevirtual 134, 3) := by decide +kernel
theorem d_Ss_shadows_64 : decode c_Ss_shadows 64 = .ok (.lstore 7, 2) := by decide +kernel
theorem d_Ss_shadows_66 : decode c_Ss_shadows 66 = .ok (.iload 5, 2) := by decide +kernel
theorem d_Ss_shadows_68 : decode c_Ss_shadows 68 = .ok (.lload 7, 2) := by decide +kernel
theorem d_Ss_shadows_70 : decode c_Ss_shadows 70 = .ok (.invokestatic 138, 3) := by decide +kernel
theorem d_Ss_shadows_73 : decode c_Ss_shadows 73 = .ok (.iadd, 1) := by decide +kernel
theorem d_Ss_shadows_74 : decode c_Ss_shadows 74 = .ok (.istore 5, 2) := by decide +kernel
theorem d_Ss_shadows_76 : decode c_Ss_shadows 76 = .ok (.iinc 6 1, 3) := by decide +kernel
theorem d_Ss_shadows_79 : decode c_Ss_shadows 79 = .ok (.goto (-51), 3) := by decide +kernel
theorem d_Ss_shadows_82 : decode c_Ss_shadows 82 = .ok (.iload 5, 2) := by decide +kernel
theorem d_Ss_shadows_84 : decode c_Ss_shadows 84 = .ok (.ireturn, 1) := by decide +kernel
theorem d_Ss_dark_0 : decode c_Ss_dark 0 = .ok (.aload_n 0, 1) := by decide +kernel
theorem d_Ss_dark_1 : decode c_Ss_dark 1 = .ok (.iload_n 1, 1) := by decide +kernel
theorem d_Ss_dark_2 : decode c_Ss_dark 2 = .ok (.invokevirtual 144, 3) := by decide +kernel
theorem d_Ss_dark_5 : decode c_Ss_dark 5 = .ok (.astore_n 3, 1) := by decide +kernel
theorem d_Ss_dark_6 : decode c_Ss_dark 6 = .ok (.aload_n 0, 1) := by decide +kernel
theorem d_Ss_dark_7 : decode c_Ss_dark 7 = .ok (.aload_n 3, 1) := by decide +kernel
theorem d_Ss_dark_8 : decode c_Ss_dark 8 = .ok (.aload_n 0, 1) := by decide +kernel
theorem d_Ss_dark_9 : decode c_Ss_dark 9 = .ok (.iload_n 2, 1) := by decide +kernel
theorem d_Ss_dark_10 : decode c_Ss_dark 10 = .ok (.invokevirtual 123, 3) := by decide +kernel
theorem d_Ss_dark_13 : decode c_Ss_dark 13 = .ok (.aconst_null, 1) := by decide +kernel
theorem d_Ss_dark_14 : decode c_Ss_dark 14 = .ok (.invokevirtual 148, 3) := by decide +kernel
theorem d_Ss_dark_17 : decode c_Ss_dark 17 = .ok (.ireturn, 1) := by decide +kernel
theorem d_Ss_knownWindow_0 : decode c_Ss_knownWindow 0 = .ok (.iload_n 1, 1) := by decide +kernel
theorem d_Ss_knownWindow_1 : decode c_Ss_knownWindow 1 = .ok (.ifCond .lt 21, 3) := by decide +kernel
theorem d_Ss_knownWindow_4 : decode c_Ss_knownWindow 4 = .ok (.iload_n 1, 1) := by decide +kernel
theorem d_Ss_knownWindow_5 : decode c_Ss_knownWindow 5 = .ok (.aload_n 0, 1) := by decide +kernel
theorem d_Ss_knownWindow_6 : decode c_Ss_knownWindow 6 = .ok (.getfield 17, 3) := by decide +kernel
theorem d_Ss_knownWindow_9 : decode c_Ss_knownWindow 9 = .ok (.arraylength, 1) := by decide +kernel
theorem d_Ss_knownWindow_10 : decode c_Ss_knownWindow 10 = .ok (.if_icmp .ge 12, 3) := by decide +kernel
theorem d_Ss_knownWindow_13 : decode c_Ss_knownWindow 13 = .ok (.aload_n 0, 1) := by decide +kernel
theorem d_Ss_knownWindow_14 : decode c_Ss_knownWindow 14 = .ok (.getfield 17, 3) := by decide +kernel
theorem d_Ss_knownWindow_17 : decode c_Ss_knownWindow 17 = .ok (.iload_n 1, 1) := by decide +kernel
theorem d_Ss_knownWindow_18 : decode c_Ss_knownWindow 18 = .ok (.aaload, 1) := by decide +kernel
theorem d_Ss_knownWindow_19 : decode c_Ss_knownWindow 19 = .ok (.goto 4, 3) := by decide +kernel
theorem d_Ss_knownWindow_22 : decode c_Ss_knownWindow 22 = .ok (.aconst_null, 1) := by decide +kernel
theorem d_Ss_knownWindow_23 : decode c_Ss_knownWindow 23 = .ok (.astore_n 2, 1) := by decide +kernel
theorem d_Ss_knownWindow_24 : decode c_Ss_knownWindow 24 = .ok (.aload_n 2, 1) := by decide +kernel
theorem d_Ss_knownWindow_25 : decode c_Ss_knownWindow 25 = .ok (.ifnonnull 13, 3) := by decide +kernel
theorem d_Ss_knownWindow_28 : decode c_Ss_knownWindow 28 = .ok (.new 62, 3) := by decide +kernel
theorem d_Ss_knownWindow_31 : decode c_Ss_knownWindow 31 = .ok (.dup, 1) := by decide +kernel
theorem d_Ss_knownWindow_32 : decode c_Ss_knownWindow 32 = .ok (.ldc 183, 2) := by decide +kernel
theorem d_Ss_knownWindow_34 : decode c_Ss_knownWindow 34 = .ok (.invokespecial 66, 3) := by decide +kernel
theorem d_Ss_knownWindow_37 : decode c_Ss_knownWindow 37 = .ok (.athrow, 1) := by decide +kernel
theorem d_Ss_knownWindow_38 : decode c_Ss_knownWindow 38 = .ok (.aload_n 2, 1) := by decide +kernel
theorem d_Ss_knownWindow_39 : decode c_Ss_knownWindow 39 = .ok (.areturn, 1) := by decide +kernel
theorem d_Ss_darkCells_0 : decode c_Ss_darkCells 0 = .ok (.aload_n 1, 1) := by decide +kernel
theorem d_Ss_darkCells_1 : decode c_Ss_darkCells 1 = .ok (.invokevirtual 189, 3) := by decide +kernel
theorem d_Ss_darkCells_4 : decode c_Ss_darkCells 4 = .ok (.lstore 4, 2) := by decide +kernel
theorem d_Ss_darkCells_6 : decode c_Ss_darkCells 6 = .ok (.iconst 0, 1) := by decide +kernel
theorem d_Ss_darkCells_7 : decode c_Ss_darkCells 7 = .ok (.istore 6, 2) := by decide +kernel
theorem d_Ss_darkCells_9 : decode c_Ss_darkCells 9 = .ok (.aload_n 1, 1) := by decide +kernel
theorem d_Ss_darkCells_10 : decode c_Ss_darkCells 10 = .ok (.getfield 193, 3) := by decide +kernel
theorem d_Ss_darkCells_13 : decode c_Ss_darkCells 13 = .ok (.istore 7, 2) := by decide +kernel
theorem d_Ss_darkCells_15 : decode c_Ss_darkCells 15 = .ok (.iload 7, 2) := by decide +kernel
theorem d_Ss_darkCells_17 : decode c_Ss_darkCells 17 = .ok (.aload_n 1, 1) := by decide +kernel
theorem d_Ss_darkCells_18 : decode c_Ss_darkCells 18 = .ok (.getfield 196, 3) := by decide +kernel
theorem d_Ss_darkCells_21 : decode c_Ss_darkCells 21 = .ok (.if_icmp .ge 51, 3) := by decide +kernel
theorem d_Ss_darkCells_24 : decode c_Ss_darkCells 24 = .ok (.aload_n 0, 1) := by decide +kernel
theorem d_Ss_darkCells_25 : decode c_Ss_darkCells 25 = .ok (.iload 7, 2) := by decide +kernel
theorem d_Ss_darkCells_27 : decode c_Ss_darkCells 27 = .ok (.aload_n 2, 1) := by decide +kernel
theorem d_Ss_darkCells_28 : decode c_Ss_darkCells 28 = .ok (.invokevirtual 126, 3) := by decide +kernel
theorem d_Ss_darkCells_31 : decode c_Ss_darkCells 31 = .ok (.lstore 8, 2) := by decide +kernel
theorem d_Ss_darkCells_33 : decode c_Ss_darkCells 33 = .ok (.aload_n 3, 1) := by decide +kernel
theorem d_Ss_darkCells_34 : decode c_Ss_darkCells 34 = .ok (.ifnull 19, 3) := by decide +kernel
theorem d_Ss_darkCells_37 : decode c_Ss_darkCells 37 = .ok (.lload 8, 2) := by decide +kernel
theorem d_Ss_darkCells_39 : decode c_Ss_darkCells 39 = .ok (.aload_n 3, 1) := by decide +kernel
theorem d_Ss_darkCells_40 : decode c_Ss_darkCells 40 = .ok (.iload 7, 2) := by decide +kernel
theorem d_Ss_darkCells_42 : decode c_Ss_darkCells 42 = .ok (.aload_n 2, 1) := by decide +kernel
theorem d_Ss_darkCells_43 : decode c_Ss_darkCells 43 = .ok (.aload_n 0, 1) := by decide +kernel
theorem d_Ss_darkCells_44 : decode c_Ss_darkCells 44 = .ok (.getfield 51, 3) := by decide +kernel
theorem d_Ss_darkCells_47 : decode c_Ss_darkCells 47 = .ok (.invokevirtual 134, 3) := by decide +kernel
theorem d_Ss_darkCells_50 : decode c_Ss_darkCells 50 = .ok (.lor, 1) := by decide +kernel
theorem d_Ss_darkCells_51 : decode c_Ss_darkCells 51 = .ok (.lstore 8, 2) := by decide +kernel
theorem d_Ss_darkCells_53 : decode c_Ss_darkCells 53 = .ok (.iload 6, 2) := by decide +kernel
theorem d_Ss_darkCells_55 : decode c_Ss_darkCells 55 = .ok (.lload 8, 2) := by decide +kernel
theorem d_Ss_darkCells_57 : decode c_Ss_darkCells 57 = .ok (.lload 4, 2) := by decide +kernel
theorem d_Ss_darkCells_59 : decode c_Ss_darkCells 59 = .ok (.land, 1) := by decide +kernel
theorem d_Ss_darkCells_60 : decode c_Ss_darkCells 60 = .ok (.invokestatic 138, 3) := by decide +kernel
theorem d_Ss_darkCells_63 : decode c_Ss_darkCells 63 = .ok (.iadd, 1) := by decide +kernel
theorem d_Ss_darkCells_64 : decode c_Ss_darkCells 64 = .ok (.istore 6, 2) := by decide +kernel
theorem d_Ss_darkCells_66 : decode c_Ss_darkCells 66 = .ok (.iinc 7 1, 3) := by decide +kernel
theorem d_Ss_darkCells_69 : decode c_Ss_darkCells 69 = .ok (.goto (-54), 3) := by decide +kernel
theorem d_Ss_darkCells_72 : decode c_Ss_darkCells 72 = .ok (.iload 6, 2) := by decide +kernel
theorem d_Ss_darkCells_74 : decode c_Ss_darkCells 74 = .ok (.ireturn, 1) := by decide +kernel
theorem d_Ss_cell_0 : decode c_Ss_cell 0 = .ok (.iload_n 1, 1) := by decide +kernel
theorem d_Ss_cell_1 : decode c_Ss_cell 1 = .ok (.ifCond .ge 13, 3) := by decide +kernel
theorem d_Ss_cell_4 : decode c_Ss_cell 4 = .ok (.new 62, 3) := by decide +kernel
theorem d_Ss_cell_7 : decode c_Ss_cell 7 = .ok (.dup, 1) := by decide +kernel
theorem d_Ss_cell_8 : decode c_Ss_cell 8 = .ok (.ldc 152, 2) := by decide +kernel
theorem d_Ss_cell_10 : decode c_Ss_cell 10 = .ok (.invokespecial 66, 3) := by decide +kernel
theorem d_Ss_cell_13 : decode c_Ss_cell 13 = .ok (.athrow, 1) := by decide +kernel
theorem d_Ss_cell_14 : decode c_Ss_cell 14 = .ok (.aload_n 0, 1) := by decide +kernel
theorem d_Ss_cell_15 : decode c_Ss_cell 15 = .ok (.iload_n 2, 1) := by decide +kernel
theorem d_Ss_cell_16 : decode c_Ss_cell 16 = .ok (.invokevirtual 123, 3) := by decide +kernel
theorem d_Ss_cell_19 : decode c_Ss_cell 19 = .ok (.astore_n 3, 1) := by decide +kernel
theorem d_Ss_cell_20 : decode c_Ss_cell 20 = .ok (.iload_n 1, 1) := by decide +kernel
theorem d_Ss_cell_21 : decode c_Ss_cell 21 = .ok (.istore 4, 2) := by decide +kernel
theorem d_Ss_cell_23 : decode c_Ss_cell 23 = .ok (.iconst 0, 1) := by decide +kernel
theorem d_Ss_cell_24 : decode c_Ss_cell 24 = .ok (.istore 5, 2) := by decide +kernel
theorem d_Ss_cell_26 : decode c_Ss_cell 26 = .ok (.iload 5, 2) := by decide +kernel
theorem d_Ss_cell_28 : decode c_Ss_cell 28 = .ok (.aload_n 0, 1) := by decide +kernel
theorem d_Ss_cell_29 : decode c_Ss_cell 29 = .ok (.getfield 54, 3) := by decide +kernel
theorem d_Ss_cell_32 : decode c_Ss_cell 32 = .ok (.if_icmp .ge 53, 3) := by decide +kernel
theorem d_Ss_cell_35 : decode c_Ss_cell 35 = .ok (.aload_n 0, 1) := by decide +kernel
theorem d_Ss_cell_36 : decode c_Ss_cell 36 = .ok (.iload 5, 2) := by decide +kernel
theorem d_Ss_cell_38 : decode c_Ss_cell 38 = .ok (.aload_n 3, 1) := by decide +kernel
theorem d_Ss_cell_39 : decode c_Ss_cell 39 = .ok (.invokevirtual 126, 3) := by decide +kernel
theorem d_Ss_cell_42 : decode c_Ss_cell 42 = .ok (.lstore 6, 2) := by decide +kernel
theorem d_Ss_cell_44 : decode c_Ss_cell 44 = .ok (.lload 6, 2) := by decide +kernel
theorem d_Ss_cell_46 : decode c_Ss_cell 46 = .ok (.invokestatic 138, 3) := by decide +kernel
theorem d_Ss_cell_49 : decode c_Ss_cell 49 = .ok (.istore 8, 2) := by decide +kernel
theorem d_Ss_cell_51 : decode c_Ss_cell 51 = .ok (.iload 4, 2) := by decide +kernel
theorem d_Ss_cell_53 : decode c_Ss_cell 53 = .ok (.iload 8, 2) := by decide +kernel
theorem d_Ss_cell_55 : decode c_Ss_cell 55 = .ok (.if_icmp .ge 17, 3) := by decide +kernel
theorem d_Ss_cell_58 : decode c_Ss_cell 58 = .ok (.bipush 100, 2) := by decide +kernel
theorem d_Ss_cell_60 : decode c_Ss_cell 60 = .ok (.iload 5, 2) := by decide +kernel
theorem d_Ss_cell_62 : decode c_Ss_cell 62 = .ok (.imul, 1) := by decide +kernel
theorem d_Ss_cell_63 : decode c_Ss_cell 63 = .ok (.lload 6, 2) := by decide +kernel
theorem d_Ss_cell_65 : decode c_Ss_cell 65 = .ok (.iload 4, 2) := by decide +kernel
theorem d_Ss_cell_67 : decode c_Ss_cell 67 = .ok (.invokestatic 154, 3) := by decide +kernel
theorem d_Ss_cell_70 : decode c_Ss_cell 70 = .ok (.iadd, 1) := by decide +kernel
theorem d_Ss_cell_71 : decode c_Ss_cell 71 = .ok (.ireturn, 1) := by decide +kernel
theorem d_Ss_cell_72 : decode c_Ss_cell 72 = .ok (.iload 4, 2) := by decide +kernel
theorem d_Ss_cell_74 : decode c_Ss_cell 74 = .ok (.iload 8, 2) := by decide +kernel
theorem d_Ss_cell_76 : decode c_Ss_cell 76 = .ok (.isub, 1) := by decide +kernel
theorem d_Ss_cell_77 : decode c_Ss_cell 77 = .ok (.istore 4, 2) := by decide +kernel
theorem d_Ss_cell_79 : decode c_Ss_cell 79 = .ok (.iinc 5 1, 3) := by decide +kernel
theorem d_Ss_cell_82 : decode c_Ss_cell 82 = .ok (.goto (-56), 3) := by decide +kernel
theorem d_Ss_cell_85 : decode c_Ss_cell 85 = .ok (.iconst (-1), 1) := by decide +kernel
theorem d_Ss_cell_86 : decode c_Ss_cell 86 = .ok (.ireturn, 1) := by decide +kernel
theorem d_Ss_cellWithBefore_0 : decode c_Ss_cellWithBefore 0 = .ok (.iload_n 2, 1) := by decide +kernel
theorem d_Ss_cellWithBefore_1 : decode c_Ss_cellWithBefore 1 = .ok (.istore_n 3, 1) := by decide +kernel
theorem d_Ss_cellWithBefore_2 : decode c_Ss_cellWithBefore 2 = .ok (.iconst 0, 1) := by decide +kernel
theorem d_Ss_cellWithBefore_3 : decode c_Ss_cellWithBefore 3 = .ok (.istore 4, 2) := by decide +kernel
theorem d_Ss_cellWithBefore_5 : decode c_Ss_cellWithBefore 5 = .ok (.iload 4, 2) := by decide +kernel
theorem d_Ss_cellWithBefore_7 : decode c_Ss_cellWithBefore 7 = .ok (.bipush 60, 2) := by decide +kernel
theorem d_Ss_cellWithBefore_9 : decode c_Ss_cellWithBefore 9 = .ok (.if_icmp .ge 28, 3) := by decide +kernel
theorem d_Ss_cellWithBefore_12 : decode c_Ss_cellWithBefore 12 = .ok (.lload_n 0, 1) := by decide +kernel
theorem d_Ss_cellWithBefore_13 : decode c_Ss_cellWithBefore 13 = .ok (.iload 4, 2) := by decide +kernel
theorem d_Ss_cellWithBefore_15 : decode c_Ss_cellWithBefore 15 = .ok (.invokestatic 130, 3) := by decide +kernel
theorem d_Ss_cellWithBefore_18 : decode c_Ss_cellWithBefore 18 = .ok (.ifCond .eq 13, 3) := by decide +kernel
theorem d_Ss_cellWithBefore_21 : decode c_Ss_cellWithBefore 21 = .ok (.iload_n 3, 1) := by decide +kernel
theorem d_Ss_cellWithBefore_22 : decode c_Ss_cellWithBefore 22 = .ok (.ifCond .ne 6, 3) := by decide +kernel
theorem d_Ss_cellWithBefore_25 : decode c_Ss_cellWithBefore 25 = .ok (.iload 4, 2) := by decide +kernel
theorem d_Ss_cellWithBefore_27 : decode c_Ss_cellWithBefore 27 = .ok (.ireturn, 1) := by decide +kernel
theorem d_Ss_cellWithBefore_28 : decode c_Ss_cellWithBefore 28 = .ok (.iinc 3 (-1), 3) := by decide +kernel
theorem d_Ss_cellWithBefore_31 : decode c_Ss_cellWithBefore 31 = .ok (.iinc 4 1, 3) := by decide +kernel
theorem d_Ss_cellWithBefore_34 : decode c_Ss_cellWithBefore 34 = .ok (.goto (-29), 3) := by decide +kernel
theorem d_Ss_cellWithBefore_37 : decode c_Ss_cellWithBefore 37 = .ok (.iconst (-1), 1) := by decide +kernel
theorem d_Ss_cellWithBefore_38 : decode c_Ss_cellWithBefore 38 = .ok (.ireturn, 1) := by decide +kernel
theorem d_Ss_lit_0 : decode c_Ss_lit 0 = .ok (.aload_n 0, 1) := by decide +kernel
theorem d_Ss_lit_1 : decode c_Ss_lit 1 = .ok (.iload_n 1, 1) := by decide +kernel
theorem d_Ss_lit_2 : decode c_Ss_lit 2 = .ok (.invokevirtual 144, 3) := by decide +kernel
theorem d_Ss_lit_5 : decode c_Ss_lit 5 = .ok (.astore_n 3, 1) := by decide +kernel
theorem d_Ss_lit_6 : decode c_Ss_lit 6 = .ok (.iload_n 2, 1) := by decide +kernel
theorem d_Ss_lit_7 : decode c_Ss_lit 7 = .ok (.iconst (-1), 1) := by decide +kernel
theorem d_Ss_lit_8 : decode c_Ss_lit 8 = .ok (.if_icmp .eq 14, 3) := by decide +kernel
theorem d_Ss_lit_11 : decode c_Ss_lit 11 = .ok (.aload_n 0, 1) := by decide +kernel
theorem d_Ss_lit_12 : decode c_Ss_lit 12 = .ok (.aload_n 3, 1) := by decide +kernel
theorem d_Ss_lit_13 : decode c_Ss_lit 13 = .ok (.aload_n 0, 1) := by decide +kernel
theorem d_Ss_lit_14 : decode c_Ss_lit 14 = .ok (.iload_n 2, 1) := by decide +kernel
theorem d_Ss_lit_15 : decode c_Ss_lit 15 = .ok (.invokevirtual 94, 3) := by decide +kernel
theorem d_Ss_lit_18 : decode c_Ss_lit 18 = .ok (.invokevirtual 158, 3) := by decide +kernel
theorem d_Ss_lit_21 : decode c_Ss_lit 21 = .ok (.ireturn, 1) := by decide +kernel
theorem d_Ss_lit_22 : decode c_Ss_lit 22 = .ok (.iconst 0, 1) := by decide +kernel
theorem d_Ss_lit_23 : decode c_Ss_lit 23 = .ok (.istore 4, 2) := by decide +kernel
theorem d_Ss_lit_25 : decode c_Ss_lit 25 = .ok (.aload_n 0, 1) := by decide +kernel
theorem d_Ss_lit_26 : decode c_Ss_lit 26 = .ok (.getfield 23, 3) := by decide +kernel
theorem d_Ss_lit_29 : decode c_Ss_lit 29 = .ok (.astore 5, 2) := by decide +kernel
theorem d_Ss_lit_31 : decode c_Ss_lit 31 = .ok (.aload 5, 2) := by decide +kernel
theorem d_Ss_lit_33 : decode c_Ss_lit 33 = .ok (.arraylength, 1) := by decide +kernel
theorem d_Ss_lit_34 : decode c_Ss_lit 34 = .ok (.istore 6, 2) := by decide +kernel
theorem d_Ss_lit_36 : decode c_Ss_lit 36 = .ok (.iconst 0, 1) := by decide +kernel
theorem d_Ss_lit_37 : decode c_Ss_lit 37 = .ok (.istore 7, 2) := by decide +kernel
theorem d_Ss_lit_39 : decode c_Ss_lit 39 = .ok (.iload 7, 2) := by decide +kernel
theorem d_Ss_lit_41 : decode c_Ss_lit 41 = .ok (.iload 6, 2) := by decide +kernel
theorem d_Ss_lit_43 : decode c_Ss_lit 43 = .ok (.if_icmp .ge 28, 3) := by decide +kernel
theorem d_Ss_lit_46 : decode c_Ss_lit 46 = .ok (.aload 5, 2) := by decide +kernel
theorem d_Ss_lit_48 : decode c_Ss_lit 48 = .ok (.iload 7, 2) := by decide +kernel
theorem d_Ss_lit_50 : decode c_Ss_lit 50 = .ok (.aaload, 1) := by decide +kernel
theorem d_Ss_lit_51 : decode c_Ss_lit 51 = .ok (.astore 8, 2) := by decide +kernel
theorem d_Ss_lit_53 : decode c_Ss_lit 53 = .ok (.iload 4, 2) := by decide +kernel
theorem d_Ss_lit_55 : decode c_Ss_lit 55 = .ok (.aload_n 0, 1) := by decide +kernel
theorem d_Ss_lit_56 : decode c_Ss_lit 56 = .ok (.aload_n 3, 1) := by decide +kernel
theorem d_Ss_lit_57 : decode c_Ss_lit 57 = .ok (.aload 8, 2) := by decide +kernel
theorem d_Ss_lit_59 : decode c_Ss_lit 59 = .ok (.invokevirtual 158, 3) := by decide +kernel
theorem d_Ss_lit_62 : decode c_Ss_lit 62 = .ok (.iadd, 1) := by decide +kernel
theorem d_Ss_lit_63 : decode c_Ss_lit 63 = .ok (.istore 4, 2) := by decide +kernel
theorem d_Ss_lit_65 : decode c_Ss_lit 65 = .ok (.iinc 7 1, 3) := by decide +kernel
theorem d_Ss_lit_68 : decode c_Ss_lit 68 = .ok (.goto (-29), 3) := by decide +kernel
theorem d_Ss_lit_71 : decode c_Ss_lit 71 = .ok (.iload 4, 2) := by decide +kernel
theorem d_Ss_lit_73 : decode c_Ss_lit 73 = .ok (.ireturn, 1) := by decide +kernel
theorem d_Ss_lightOfHour_0 : decode c_Ss_lightOfHour 0 = .ok (.aload_n 2, 1) := by decide +kernel
theorem d_Ss_lightOfHour_1 : decode c_Ss_lightOfHour 1 = .ok (.ifnull 17, 3) := by decide +kernel
theorem d_Ss_lightOfHour_4 : decode c_Ss_lightOfHour 4 = .ok (.aload_n 2, 1) := by decide +kernel
theorem d_Ss_lightOfHour_5 : decode c_Ss_lightOfHour 5 = .ok (.invokevirtual 173, 3) := by decide +kernel
theorem d_Ss_lightOfHour_8 : decode c_Ss_lightOfHour 8 = .ok (.ifCond .eq 10, 3) := by decide +kernel
theorem d_Ss_lightOfHour_11 : decode c_Ss_lightOfHour 11 = .ok (.aload_n 2, 1) := by decide +kernel
theorem d_Ss_lightOfHour_12 : decode c_Ss_lightOfHour 12 = .ok (.getfield 111, 3) := by decide +kernel
theorem d_Ss_lightOfHour_15 : decode c_Ss_lightOfHour 15 = .ok (.ifCond .ne 5, 3) := by decide +kernel
theorem d_Ss_lightOfHour_18 : decode c_Ss_lightOfHour 18 = .ok (.iconst 0, 1) := by decide +kernel
theorem d_Ss_lightOfHour_19 : decode c_Ss_lightOfHour 19 = .ok (.ireturn, 1) := by decide +kernel
theorem d_Ss_lightOfHour_20 : decode c_Ss_lightOfHour 20 = .ok (.aload_n 2, 1) := by decide +kernel
theorem d_Ss_lightOfHour_21 : decode c_Ss_lightOfHour 21 = .ok (.getfield 111, 3) := by decide +kernel
theorem d_Ss_lightOfHour_24 : decode c_Ss_lightOfHour 24 = .ok (.aload_n 1, 1) := by decide +kernel
theorem d_Ss_lightOfHour_25 : decode c_Ss_lightOfHour 25 = .ok (.invokevirtual 199, 3) := by decide +kernel
theorem d_Ss_lightOfHour_28 : decode c_Ss_lightOfHour 28 = .ok (.aload_n 0, 1) := by decide +kernel
theorem d_Ss_lightOfHour_29 : decode c_Ss_lightOfHour 29 = .ok (.aload_n 1, 1) := by decide +kernel
theorem d_Ss_lightOfHour_30 : decode c_Ss_lightOfHour 30 = .ok (.aload_n 2, 1) := by decide +kernel
theorem d_Ss_lightOfHour_31 : decode c_Ss_lightOfHour 31 = .ok (.aconst_null, 1) := by decide +kernel
theorem d_Ss_lightOfHour_32 : decode c_Ss_lightOfHour 32 = .ok (.invokevirtual 148, 3) := by decide +kernel
theorem d_Ss_lightOfHour_35 : decode c_Ss_lightOfHour 35 = .ok (.isub, 1) := by decide +kernel
theorem d_Ss_lightOfHour_36 : decode c_Ss_lightOfHour 36 = .ok (.imul, 1) := by decide +kernel
theorem d_Ss_lightOfHour_37 : decode c_Ss_lightOfHour 37 = .ok (.ireturn, 1) := by decide +kernel
theorem d_Ss_brightest_0 : decode c_Ss_brightest 0 = .ok (.aload_n 0, 1) := by decide +kernel
theorem d_Ss_brightest_1 : decode c_Ss_brightest 1 = .ok (.iload_n 1, 1) := by decide +kernel
theorem d_Ss_brightest_2 : decode c_Ss_brightest 2 = .ok (.invokevirtual 144, 3) := by decide +kernel
theorem d_Ss_brightest_5 : decode c_Ss_brightest 5 = .ok (.astore_n 2, 1) := by decide +kernel
theorem d_Ss_brightest_6 : decode c_Ss_brightest 6 = .ok (.iconst (-1), 1) := by decide +kernel
theorem d_Ss_brightest_7 : decode c_Ss_brightest 7 = .ok (.istore_n 3, 1) := by decide +kernel
theorem d_Ss_brightest_8 : decode c_Ss_brightest 8 = .ok (.iconst 0, 1) := by decide +kernel
theorem d_Ss_brightest_9 : decode c_Ss_brightest 9 = .ok (.istore 4, 2) := by decide +kernel
theorem d_Ss_brightest_11 : decode c_Ss_brightest 11 = .ok (.iconst 0, 1) := by decide +kernel
theorem d_Ss_brightest_12 : decode c_Ss_brightest 12 = .ok (.istore 5, 2) := by decide +kernel
theorem d_Ss_brightest_14 : decode c_Ss_brightest 14 = .ok (.iload 5, 2) := by decide +kernel
theorem d_Ss_brightest_16 : decode c_Ss_brightest 16 = .ok (.aload_n 0, 1) := by decide +kernel
theorem d_Ss_brightest_17 : decode c_Ss_brightest 17 = .ok (.getfield 23, 3) := by decide +kernel
theorem d_Ss_brightest_20 : decode c_Ss_brightest 20 = .ok (.arraylength, 1) := by decide +kernel
theorem d_Ss_brightest_21 : decode c_Ss_brightest 21 = .ok (.if_icmp .ge 37, 3) := by decide +kernel
theorem d_Ss_brightest_24 : decode c_Ss_brightest 24 = .ok (.aload_n 0, 1) := by decide +kernel
theorem d_Ss_brightest_25 : decode c_Ss_brightest 25 = .ok (.aload_n 2, 1) := by decide +kernel
theorem d_Ss_brightest_26 : decode c_Ss_brightest 26 = .ok (.aload_n 0, 1) := by decide +kernel
theorem d_Ss_brightest_27 : decode c_Ss_brightest 27 = .ok (.getfield 23, 3) := by decide +kernel
theorem d_Ss_brightest_30 : decode c_Ss_brightest 30 = .ok (.iload 5, 2) := by decide +kernel
theorem d_Ss_brightest_32 : decode c_Ss_brightest 32 = .ok (.aaload, 1) := by decide +kernel
theorem d_Ss_brightest_33 : decode c_Ss_brightest 33 = .ok (.invokevirtual 158, 3) := by decide +kernel
theorem d_Ss_brightest_36 : decode c_Ss_brightest 36 = .ok (.istore 6, 2) := by decide +kernel
theorem d_Ss_brightest_38 : decode c_Ss_brightest 38 = .ok (.iload 6, 2) := by decide +kernel
theorem d_Ss_brightest_40 : decode c_Ss_brightest 40 = .ok (.iload 4, 2) := by decide +kernel
theorem d_Ss_brightest_42 : decode c_Ss_brightest 42 = .ok (.if_icmp .le 10, 3) := by decide +kernel
theorem d_Ss_brightest_45 : decode c_Ss_brightest 45 = .ok (.iload 5, 2) := by decide +kernel
theorem d_Ss_brightest_47 : decode c_Ss_brightest 47 = .ok (.istore_n 3, 1) := by decide +kernel
theorem d_Ss_brightest_48 : decode c_Ss_brightest 48 = .ok (.iload 6, 2) := by decide +kernel
theorem d_Ss_brightest_50 : decode c_Ss_brightest 50 = .ok (.istore 4, 2) := by decide +kernel
theorem d_Ss_brightest_52 : decode c_Ss_brightest 52 = .ok (.iinc 5 1, 3) := by decide +kernel
theorem d_Ss_brightest_55 : decode c_Ss_brightest 55 = .ok (.goto (-41), 3) := by decide +kernel
theorem d_Ss_brightest_58 : decode c_Ss_brightest 58 = .ok (.iload_n 3, 1) := by decide +kernel
theorem d_Ss_brightest_59 : decode c_Ss_brightest 59 = .ok (.ireturn, 1) := by decide +kernel
theorem d_Ss_ledge_0 : decode c_Ss_ledge 0 = .ok (.aload_n 0, 1) := by decide +kernel
theorem d_Ss_ledge_1 : decode c_Ss_ledge 1 = .ok (.iload_n 1, 1) := by decide +kernel
theorem d_Ss_ledge_2 : decode c_Ss_ledge 2 = .ok (.invokevirtual 144, 3) := by decide +kernel
theorem d_Ss_ledge_5 : decode c_Ss_ledge 5 = .ok (.astore 4, 2) := by decide +kernel
theorem d_Ss_ledge_7 : decode c_Ss_ledge 7 = .ok (.iload_n 3, 1) := by decide +kernel
theorem d_Ss_ledge_8 : decode c_Ss_ledge 8 = .ok (.iconst 1, 1) := by decide +kernel
theorem d_Ss_ledge_9 : decode c_Ss_ledge 9 = .ok (.bipush 100, 2) := by decide +kernel
theorem d_Ss_ledge_11 : decode c_Ss_ledge 11 = .ok (.invokestatic 81, 3) := by decide +kernel
theorem d_Ss_ledge_14 : decode c_Ss_ledge 14 = .ok (.ifCond .ne 13, 3) := by decide +kernel
theorem d_Ss_ledge_17 : decode c_Ss_ledge 17 = .ok (.new 62, 3) := by decide +kernel
theorem d_Ss_ledge_20 : decode c_Ss_ledge 20 = .ok (.dup, 1) := by decide +kernel
theorem d_Ss_ledge_21 : decode c_Ss_ledge 21 = .ok (.ldc 162, 2) := by decide +kernel
theorem d_Ss_ledge_23 : decode c_Ss_ledge 23 = .ok (.invokespecial 66, 3) := by decide +kernel
theorem d_Ss_ledge_26 : decode c_Ss_ledge 26 = .ok (.athrow, 1) := by decide +kernel
theorem d_Ss_ledge_27 : decode c_Ss_ledge 27 = .ok (.aload_n 0, 1) := by decide +kernel
theorem d_Ss_ledge_28 : decode c_Ss_ledge 28 = .ok (.aload 4, 2) := by decide +kernel
theorem d_Ss_ledge_30 : decode c_Ss_ledge 30 = .ok (.aload_n 0, 1) := by decide +kernel
theorem d_Ss_ledge_31 : decode c_Ss_ledge 31 = .ok (.iload_n 2, 1) := by decide +kernel
theorem d_Ss_ledge_32 : decode c_Ss_ledge 32 = .ok (.invokevirtual 123, 3) := by decide +kernel
theorem d_Ss_ledge_35 : decode c_Ss_ledge 35 = .ok (.aload 4, 2) := by decide +kernel
theorem d_Ss_ledge_37 : decode c_Ss_ledge 37 = .ok (.iload_n 3, 1) := by decide +kernel
theorem d_Ss_ledge_38 : decode c_Ss_ledge 38 = .ok (.invokevirtual 164, 3) := by decide +kernel
theorem d_Ss_ledge_41 : decode c_Ss_ledge 41 = .ok (.invokevirtual 148, 3) := by decide +kernel
theorem d_Ss_ledge_44 : decode c_Ss_ledge 44 = .ok (.ireturn, 1) := by decide +kernel
theorem d_Ss_deep_0 : decode c_Ss_deep 0 = .ok (.aload_n 0, 1) := by decide +kernel
theorem d_Ss_deep_1 : decode c_Ss_deep 1 = .ok (.iload_n 1, 1) := by decide +kernel
theorem d_Ss_deep_2 : decode c_Ss_deep 2 = .ok (.invokevirtual 144, 3) := by decide +kernel
theorem d_Ss_deep_5 : decode c_Ss_deep 5 = .ok (.astore 4, 2) := by decide +kernel
theorem d_Ss_deep_7 : decode c_Ss_deep 7 = .ok (.iload_n 3, 1) := by decide +kernel
theorem d_Ss_deep_8 : decode c_Ss_deep 8 = .ok (.ifCond .ge 13, 3) := by decide +kernel
theorem d_Ss_deep_11 : decode c_Ss_deep 11 = .ok (.new 62, 3) := by decide +kernel
theorem d_Ss_deep_14 : decode c_Ss_deep 14 = .ok (.dup, 1) := by decide +kernel
theorem d_Ss_deep_15 : decode c_Ss_deep 15 = .ok (.ldc 167, 2) := by decide +kernel
theorem d_Ss_deep_17 : decode c_Ss_deep 17 = .ok (.invokespecial 66, 3) := by decide +kernel
theorem d_Ss_deep_20 : decode c_Ss_deep 20 = .ok (.athrow, 1) := by decide +kernel
theorem d_Ss_deep_21 : decode c_Ss_deep 21 = .ok (.aload_n 0, 1) := by decide +kernel
theorem d_Ss_deep_22 : decode c_Ss_deep 22 = .ok (.iload_n 2, 1) := by decide +kernel
theorem d_Ss_deep_23 : decode c_Ss_deep 23 = .ok (.invokevirtual 123, 3) := by decide +kernel
theorem d_Ss_deep_26 : decode c_Ss_deep 26 = .ok (.astore 5, 2) := by decide +kernel
theorem d_Ss_deep_28 : decode c_Ss_deep 28 = .ok (.aload_n 0, 1) := by decide +kernel
theorem d_Ss_deep_29 : decode c_Ss_deep 29 = .ok (.aload 4, 2) := by decide +kernel
theorem d_Ss_deep_31 : decode c_Ss_deep 31 = .ok (.aload 5, 2) := by decide +kernel
theorem d_Ss_deep_33 : decode c_Ss_deep 33 = .ok (.aconst_null, 1) := by decide +kernel
theorem d_Ss_deep_34 : decode c_Ss_deep 34 = .ok (.invokevirtual 148, 3) := by decide +kernel
theorem d_Ss_deep_37 : decode c_Ss_deep 37 = .ok (.iload_n 3, 1) := by decide +kernel
theorem d_Ss_deep_38 : decode c_Ss_deep 38 = .ok (.if_icmp .lt 5, 3) := by decide +kernel
theorem d_Ss_deep_41 : decode c_Ss_deep 41 = .ok (.iconst 0, 1) := by decide +kernel
theorem d_Ss_deep_42 : decode c_Ss_deep 42 = .ok (.ireturn, 1) := by decide +kernel
theorem d_Ss_deep_43 : decode c_Ss_deep 43 = .ok (.aload_n 0, 1) := by decide +kernel
theorem d_Ss_deep_44 : decode c_Ss_deep 44 = .ok (.aload 4, 2) := by decide +kernel
theorem d_Ss_deep_46 : decode c_Ss_deep 46 = .ok (.aload 5, 2) := by decide +kernel
theorem d_Ss_deep_48 : decode c_Ss_deep 48 = .ok (.iload_n 3, 1) := by decide +kernel
theorem d_Ss_deep_49 : decode c_Ss_deep 49 = .ok (.invokevirtual 169, 3) := by decide +kernel
theorem d_Ss_deep_52 : decode c_Ss_deep 52 = .ok (.istore 6, 2) := by decide +kernel
theorem d_Ss_deep_54 : decode c_Ss_deep 54 = .ok (.iload 6, 2) := by decide +kernel
theorem d_Ss_deep_56 : decode c_Ss_deep 56 = .ok (.bipush 100, 2) := by decide +kernel
theorem d_Ss_deep_58 : decode c_Ss_deep 58 = .ok (.if_icmp .ge 10, 3) := by decide +kernel
theorem d_Ss_deep_61 : decode c_Ss_deep 61 = .ok (.iload 6, 2) := by decide +kernel
theorem d_Ss_deep_63 : decode c_Ss_deep 63 = .ok (.iconst 1, 1) := by decide +kernel
theorem d_Ss_deep_64 : decode c_Ss_deep 64 = .ok (.iadd, 1) := by decide +kernel
theorem d_Ss_deep_65 : decode c_Ss_deep 65 = .ok (.goto 4, 3) := by decide +kernel
theorem d_Ss_deep_68 : decode c_Ss_deep 68 = .ok (.iconst (-1), 1) := by decide +kernel
theorem d_Ss_deep_69 : decode c_Ss_deep 69 = .ok (.ireturn, 1) := by decide +kernel
theorem d_Ss_deepestTooLittle_0 : decode c_Ss_deepestTooLittle 0 = .ok (.aload_n 1, 1) := by decide +kernel
theorem d_Ss_deepestTooLittle_1 : decode c_Ss_deepestTooLittle 1 = .ok (.iconst 0, 1) := by decide +kernel
theorem d_Ss_deepestTooLittle_2 : decode c_Ss_deepestTooLittle 2 = .ok (.invokevirtual 164, 3) := by decide +kernel
theorem d_Ss_deepestTooLittle_5 : decode c_Ss_deepestTooLittle 5 = .ok (.astore 4, 2) := by decide +kernel
theorem d_Ss_deepestTooLittle_7 : decode c_Ss_deepestTooLittle 7 = .ok (.iconst 0, 1) := by decide +kernel
theorem d_Ss_deepestTooLittle_8 : decode c_Ss_deepestTooLittle 8 = .ok (.istore 5, 2) := by decide +kernel
theorem d_Ss_deepestTooLittle_10 : decode c_Ss_deepestTooLittle 10 = .ok (.bipush 64, 2) := by decide +kernel
theorem d_Ss_deepestTooLittle_12 : decode c_Ss_deepestTooLittle 12 = .ok (.istore 6, 2) := by decide +kernel
theorem d_Ss_deepestTooLittle_14 : decode c_Ss_deepestTooLittle 14 = .ok (.iload 6, 2) := by decide +kernel
theorem d_Ss_deepestTooLittle_16 : decode c_Ss_deepestTooLittle 16 = .ok (.ifCond .le 49, 3) := by decide +kernel
theorem d_Ss_deepestTooLittle_19 : decode c_Ss_deepestTooLittle 19 = .ok (.iload 5, 2) := by decide +kernel
theorem d_Ss_deepestTooLittle_21 : decode c_Ss_deepestTooLittle 21 = .ok (.iload 6, 2) := by decide +kernel
theorem d_Ss_deepestTooLittle_23 : decode c_Ss_deepestTooLittle 23 = .ok (.iadd, 1) := by decide +kernel
theorem d_Ss_deepestTooLittle_24 : decode c_Ss_deepestTooLittle 24 = .ok (.istore 7, 2) := by decide +kernel
theorem d_Ss_deepestTooLittle_26 : decode c_Ss_deepestTooLittle 26 = .ok (.aload 4, 2) := by decide +kernel
theorem d_Ss_deepestTooLittle_28 : decode c_Ss_deepestTooLittle 28 = .ok (.iload 7, 2) := by decide +kernel
theorem d_Ss_deepestTooLittle_30 : decode c_Ss_deepestTooLittle 30 = .ok (.putfield 203, 3) := by decide +kernel
theorem d_Ss_deepestTooLittle_33 : decode c_Ss_deepestTooLittle 33 = .ok (.iload 7, 2) := by decide +kernel
theorem d_Ss_deepestTooLittle_35 : decode c_Ss_deepestTooLittle 35 = .ok (.bipush 100, 2) := by decide +kernel
theorem d_Ss_deepestTooLittle_37 : decode c_Ss_deepestTooLittle 37 = .ok (.if_icmp .gt 19, 3) := by decide +kernel
theorem d_Ss_deepestTooLittle_40 : decode c_Ss_deepestTooLittle 40 = .ok (.aload_n 0, 1) := by decide +kernel
theorem d_Ss_deepestTooLittle_41 : decode c_Ss_deepestTooLittle 41 = .ok (.aload_n 1, 1) := by decide +kernel
theorem d_Ss_deepestTooLittle_42 : decode c_Ss_deepestTooLittle 42 = .ok (.aload_n 2, 1) := by decide +kernel
theorem d_Ss_deepestTooLittle_43 : decode c_Ss_deepestTooLittle 43 = .ok (.aload 4, 2) := by decide +kernel
theorem d_Ss_deepestTooLittle_45 : decode c_Ss_deepestTooLittle 45 = .ok (.invokevirtual 148, 3) := by decide +kernel
theorem d_Ss_deepestTooLittle_48 : decode c_Ss_deepestTooLittle 48 = .ok (.iload_n 3, 1) := by decide +kernel
theorem d_Ss_deepestTooLittle_49 : decode c_Ss_deepestTooLittle 49 = .ok (.if_icmp .ge 7, 3) := by decide +kernel
theorem d_Ss_deepestTooLittle_52 : decode c_Ss_deepestTooLittle 52 = .ok (.iload 7, 2) := by decide +kernel
theorem d_Ss_deepestTooLittle_54 : decode c_Ss_deepestTooLittle 54 = .ok (.istore 5, 2) := by decide +kernel
theorem d_Ss_deepestTooLittle_56 : decode c_Ss_deepestTooLittle 56 = .ok (.iload 6, 2) := by decide +kernel
theorem d_Ss_deepestTooLittle_58 : decode c_Ss_deepestTooLittle 58 = .ok (.iconst 2, 1) := by decide +kernel
theorem d_Ss_deepestTooLittle_59 : decode c_Ss_deepestTooLittle 59 = .ok (.idiv, 1) := by decide +kernel
theorem d_Ss_deepestTooLittle_60 : decode c_Ss_deepestTooLittle 60 = .ok (.istore 6, 2) := by decide +kernel
theorem d_Ss_deepestTooLittle_62 : decode c_Ss_deepestTooLittle 62 = .ok (.goto (-48), 3) := by decide +kernel
theorem d_Ss_deepestTooLittle_65 : decode c_Ss_deepestTooLittle 65 = .ok (.iload 5, 2) := by decide +kernel
theorem d_Ss_deepestTooLittle_67 : decode c_Ss_deepestTooLittle 67 = .ok (.ireturn, 1) := by decide +kernel
theorem d_Ss_worst_0 : decode c_Ss_worst 0 = .ok (.aload_n 0, 1) := by decide +kernel
theorem d_Ss_worst_1 : decode c_Ss_worst 1 = .ok (.iload_n 1, 1) := by decide +kernel
theorem d_Ss_worst_2 : decode c_Ss_worst 2 = .ok (.invokevirtual 144, 3) := by decide +kernel
theorem d_Ss_worst_5 : decode c_Ss_worst 5 = .ok (.astore_n 2, 1) := by decide +kernel
theorem d_Ss_worst_6 : decode c_Ss_worst 6 = .ok (.iconst 0, 1) := by decide +kernel
theorem d_Ss_worst_7 : decode c_Ss_worst 7 = .ok (.istore_n 3, 1) := by decide +kernel
theorem d_Ss_worst_8 : decode c_Ss_worst 8 = .ok (.iload_n 3, 1) := by decide +kernel
theorem d_Ss_worst_9 : decode c_Ss_worst 9 = .ok (.aload_n 0, 1) := by decide +kernel
theorem d_Ss_worst_10 : decode c_Ss_worst 10 = .ok (.getfield 31, 3) := by decide +kernel
theorem d_Ss_worst_13 : decode c_Ss_worst 13 = .ok (.arraylength, 1) := by decide +kernel
theorem d_Ss_worst_14 : decode c_Ss_worst 14 = .ok (.if_icmp .ge 16, 3) := by decide +kernel
theorem d_Ss_worst_17 : decode c_Ss_worst 17 = .ok (.aload_n 0, 1) := by decide +kernel
theorem d_Ss_worst_18 : decode c_Ss_worst 18 = .ok (.getfield 31, 3) := by decide +kernel
theorem d_Ss_worst_21 : decode c_Ss_worst 21 = .ok (.iload_n 3, 1) := by decide +kernel
theorem d_Ss_worst_22 : decode c_Ss_worst 22 = .ok (.iconst 0, 1) := by decide +kernel
theorem d_Ss_worst_23 : decode c_Ss_worst 23 = .ok (.iastore, 1) := by decide +kernel
theorem d_Ss_worst_24 : decode c_Ss_worst 24 = .ok (.iinc 3 1, 3) := by decide +kernel
theorem d_Ss_worst_27 : decode c_Ss_worst 27 = .ok (.goto (-19), 3) := by decide +kernel
theorem d_Ss_worst_30 : decode c_Ss_worst 30 = .ok (.aload_n 0, 1) := by decide +kernel
theorem d_Ss_worst_31 : decode c_Ss_worst 31 = .ok (.getfield 23, 3) := by decide +kernel
theorem d_Ss_worst_34 : decode c_Ss_worst 34 = .ok (.astore_n 3, 1) := by decide +kernel
theorem d_Ss_worst_35 : decode c_Ss_worst 35 = .ok (.aload_n 3, 1) := by decide +kernel
theorem d_Ss_worst_36 : decode c_Ss_worst 36 = .ok (.arraylength, 1) := by decide +kernel
theorem d_Ss_worst_37 : decode c_Ss_worst 37 = .ok (.istore 4, 2) := by decide +kernel
theorem d_Ss_worst_39 : decode c_Ss_worst 39 = .ok (.iconst 0, 1) := by decide +kernel
theorem d_Ss_worst_40 : decode c_Ss_worst 40 = .ok (.istore 5, 2) := by decide +kernel
theorem d_Ss_worst_42 : decode c_Ss_worst 42 = .ok (.iload 5, 2) := by decide +kernel
theorem d_Ss_worst_44 : decode c_Ss_worst 44 = .ok (.iload 4, 2) := by decide +kernel
theorem d_Ss_worst_46 : decode c_Ss_worst 46 = .ok (.if_icmp .ge 43, 3) := by decide +kernel
theorem d_Ss_worst_49 : decode c_Ss_worst 49 = .ok (.aload_n 3, 1) := by decide +kernel
theorem d_Ss_worst_50 : decode c_Ss_worst 50 = .ok (.iload 5, 2) := by decide +kernel
theorem d_Ss_worst_52 : decode c_Ss_worst 52 = .ok (.aaload, 1) := by decide +kernel
theorem d_Ss_worst_53 : decode c_Ss_worst 53 = .ok (.astore 6, 2) := by decide +kernel
theorem d_Ss_worst_55 : decode c_Ss_worst 55 = .ok (.aload 6, 2) := by decide +kernel
theorem d_Ss_worst_57 : decode c_Ss_worst 57 = .ok (.ifnull 26, 3) := by decide +kernel
theorem d_Ss_worst_60 : decode c_Ss_worst 60 = .ok (.aload 6, 2) := by decide +kernel
theorem d_Ss_worst_62 : decode c_Ss_worst 62 = .ok (.invokevirtual 173, 3) := by decide +kernel
theorem d_Ss_worst_65 : decode c_Ss_worst 65 = .ok (.ifCond .eq 18, 3) := by decide +kernel
theorem d_Ss_worst_68 : decode c_Ss_worst 68 = .ok (.aload 6, 2) := by decide +kernel
theorem d_Ss_worst_70 : decode c_Ss_worst 70 = .ok (.getfield 111, 3) := by decide +kernel
theorem d_Ss_worst_73 : decode c_Ss_worst 73 = .ok (.ifCond .le 10, 3) := by decide +kernel
theorem d_Ss_worst_76 : decode c_Ss_worst 76 = .ok (.aload_n 0, 1) := by decide +kernel
theorem d_Ss_worst_77 : decode c_Ss_worst 77 = .ok (.aload_n 2, 1) := by decide +kernel
theorem d_Ss_worst_78 : decode c_Ss_worst 78 = .ok (.aload 6, 2) := by decide +kernel
theorem d_Ss_worst_80 : decode c_Ss_worst 80 = .ok (.invokevirtual 177, 3) := by decide +kernel
theorem d_Ss_worst_83 : decode c_Ss_worst 83 = .ok (.iinc 5 1, 3) := by decide +kernel
theorem d_Ss_worst_86 : decode c_Ss_worst 86 = .ok (.goto (-44), 3) := by decide +kernel
theorem d_Ss_worst_89 : decode c_Ss_worst 89 = .ok (.iconst (-1), 1) := by decide +kernel
theorem d_Ss_worst_90 : decode c_Ss_worst 90 = .ok (.istore_n 3, 1) := by decide +kernel
theorem d_Ss_worst_91 : decode c_Ss_worst 91 = .ok (.iconst 0, 1) := by decide +kernel
theorem d_Ss_worst_92 : decode c_Ss_worst 92 = .ok (.istore 4, 2) := by decide +kernel
theorem d_Ss_worst_94 : decode c_Ss_worst 94 = .ok (.iconst 0, 1) := by decide +kernel
theorem d_Ss_worst_95 : decode c_Ss_worst 95 = .ok (.istore 5, 2) := by decide +kernel
theorem d_Ss_worst_97 : decode c_Ss_worst 97 = .ok (.iload 5, 2) := by decide +kernel
theorem d_Ss_worst_99 : decode c_Ss_worst 99 = .ok (.aload_n 0, 1) := by decide +kernel
theorem d_Ss_worst_100 : decode c_Ss_worst 100 = .ok (.getfield 31, 3) := by decide +kernel
theorem d_Ss_worst_103 : decode c_Ss_worst 103 = .ok (.arraylength, 1) := by decide +kernel
theorem d_Ss_worst_104 : decode c_Ss_worst 104 = .ok (.if_icmp .ge 33, 3) := by decide +kernel
theorem d_Ss_worst_107 : decode c_Ss_worst 107 = .ok (.aload_n 0, 1) := by decide +kernel
theorem d_Ss_worst_108 : decode c_Ss_worst 108 = .ok (.getfield 31, 3) := by decide +kernel
theorem d_Ss_worst_111 : decode c_Ss_worst 111 = .ok (.iload 5, 2) := by decide +kernel
theorem d_Ss_worst_113 : decode c_Ss_worst 113 = .ok (.iaload, 1) := by decide +kernel
theorem d_Ss_worst_114 : decode c_Ss_worst 114 = .ok (.iload 4, 2) := by decide +kernel
theorem d_Ss_worst_116 : decode c_Ss_worst 116 = .ok (.if_icmp .le 15, 3) := by decide +kernel
theorem d_Ss_worst_119 : decode c_Ss_worst 119 = .ok (.iload 5, 2) := by decide +kernel
theorem d_Ss_worst_121 : decode c_Ss_worst 121 = .ok (.istore_n 3, 1) := by decide +kernel
theorem d_Ss_worst_122 : decode c_Ss_worst 122 = .ok (.aload_n 0, 1) := by decide +kernel
theorem d_Ss_worst_123 : decode c_Ss_worst 123 = .ok (.getfield 31, 3) := by decide +kernel
theorem d_Ss_worst_126 : decode c_Ss_worst 126 = .ok (.iload 5, 2) := by decide +kernel
theorem d_Ss_worst_128 : decode c_Ss_worst 128 = .ok (.iaload, 1) := by decide +kernel
theorem d_Ss_worst_129 : decode c_Ss_worst 129 = .ok (.istore 4, 2) := by decide +kernel
theorem d_Ss_worst_131 : decode c_Ss_worst 131 = .ok (.iinc 5 1, 3) := by decide +kernel
theorem d_Ss_worst_134 : decode c_Ss_worst 134 = .ok (.goto (-37), 3) := by decide +kernel
theorem d_Ss_worst_137 : decode c_Ss_worst 137 = .ok (.iload_n 3, 1) := by decide +kernel
theorem d_Ss_worst_138 : decode c_Ss_worst 138 = .ok (.ireturn, 1) := by decide +kernel
theorem d_Ss_addTaken_0 : decode c_Ss_addTaken 0 = .ok (.aload_n 1, 1) := by decide +kernel
theorem d_Ss_addTaken_1 : decode c_Ss_addTaken 1 = .ok (.invokevirtual 189, 3) := by decide +kernel
theorem d_Ss_addTaken_4 : decode c_Ss_addTaken 4 = .ok (.lstore_n 3, 1) := by decide +kernel
theorem d_Ss_addTaken_5 : decode c_Ss_addTaken 5 = .ok (.aload_n 1, 1) := by decide +kernel
theorem d_Ss_addTaken_6 : decode c_Ss_addTaken 6 = .ok (.getfield 193, 3) := by decide +kernel
theorem d_Ss_addTaken_9 : decode c_Ss_addTaken 9 = .ok (.istore 5, 2) := by decide +kernel
theorem d_Ss_addTaken_11 : decode c_Ss_addTaken 11 = .ok (.iload 5, 2) := by decide +kernel
theorem d_Ss_addTaken_13 : decode c_Ss_addTaken 13 = .ok (.aload_n 1, 1) := by decide +kernel
theorem d_Ss_addTaken_14 : decode c_Ss_addTaken 14 = .ok (.getfield 196, 3) := by decide +kernel
theorem d_Ss_addTaken_17 : decode c_Ss_addTaken 17 = .ok (.if_icmp .ge 77, 3) := by decide +kernel
theorem d_Ss_addTaken_20 : decode c_Ss_addTaken 20 = .ok (.lload_n 3, 1) := by decide +kernel
theorem d_Ss_addTaken_21 : decode c_Ss_addTaken 21 = .ok (.aload_n 0, 1) := by decide +kernel
theorem d_Ss_addTaken_22 : decode c_Ss_addTaken 22 = .ok (.iload 5, 2) := by decide +kernel
theorem d_Ss_addTaken_24 : decode c_Ss_addTaken 24 = .ok (.aload_n 2, 1) := by decide +kernel
theorem d_Ss_addTaken_25 : decode c_Ss_addTaken 25 = .ok (.invokevirtual 206, 3) := by decide +kernel
theorem d_Ss_addTaken_28 : decode c_Ss_addTaken 28 = .ok (.land, 1) := by decide +kernel
theorem d_Ss_addTaken_29 : decode c_Ss_addTaken 29 = .ok (.lstore 6, 2) := by decide +kernel
theorem d_Ss_addTaken_31 : decode c_Ss_addTaken 31 = .ok (.iconst 0, 1) := by decide +kernel
theorem d_Ss_addTaken_32 : decode c_Ss_addTaken 32 = .ok (.istore 8, 2) := by decide +kernel
theorem d_Ss_addTaken_34 : decode c_Ss_addTaken 34 = .ok (.iload 8, 2) := by decide +kernel
theorem d_Ss_addTaken_36 : decode c_Ss_addTaken 36 = .ok (.aload_n 0, 1) := by decide +kernel
theorem d_Ss_addTaken_37 : decode c_Ss_addTaken 37 = .ok (.getfield 27, 3) := by decide +kernel
theorem d_Ss_addTaken_40 : decode c_Ss_addTaken 40 = .ok (.arraylength, 1) := by decide +kernel
theorem d_Ss_addTaken_41 : decode c_Ss_addTaken 41 = .ok (.if_icmp .ge 47, 3) := by decide +kernel
theorem d_Ss_addTaken_44 : decode c_Ss_addTaken 44 = .ok (.iload 8, 2) := by decide +kernel
theorem d_Ss_addTaken_46 : decode c_Ss_addTaken 46 = .ok (.aload_n 0, 1) := by decide +kernel
theorem d_Ss_addTaken_47 : decode c_Ss_addTaken 47 = .ok (.getfield 31, 3) := by decide +kernel
theorem d_Ss_addTaken_50 : decode c_Ss_addTaken 50 = .ok (.arraylength, 1) := by decide +kernel
theorem d_Ss_addTaken_51 : decode c_Ss_addTaken 51 = .ok (.if_icmp .ge 37, 3) := by decide +kernel
theorem d_Ss_addTaken_54 : decode c_Ss_addTaken 54 = .ok (.aload_n 0, 1) := by decide +kernel
theorem d_Ss_addTaken_55 : decode c_Ss_addTaken 55 = .ok (.getfield 31, 3) := by decide +kernel
theorem d_Ss_addTaken_58 : decode c_Ss_addTaken 58 = .ok (.iload 8, 2) := by decide +kernel
theorem d_Ss_addTaken_60 : decode c_Ss_addTaken 60 = .ok (.dup2, 1) := by decide +kernel
theorem d_Ss_addTaken_61 : decode c_Ss_addTaken 61 = .ok (.iaload, 1) := by decide +kernel
theorem d_Ss_addTaken_62 : decode c_Ss_addTaken 62 = .ok (.aload_n 2, 1) := by decide +kernel
theorem d_Ss_addTaken_63 : decode c_Ss_addTaken 63 = .ok (.getfield 111, 3) := by decide +kernel
theorem d_Ss_addTaken_66 : decode c_Ss_addTaken 66 = .ok (.aload_n 0, 1) := by decide +kernel
theorem d_Ss_addTaken_67 : decode c_Ss_addTaken 67 = .ok (.getfield 27, 3) := by decide +kernel
theorem d_Ss_addTaken_70 : decode c_Ss_addTaken 70 = .ok (.iload 8, 2) := by decide +kernel
theorem d_Ss_addTaken_72 : decode c_Ss_addTaken 72 = .ok (.laload, 1) := by decide +kernel
theorem d_Ss_addTaken_73 : decode c_Ss_addTaken 73 = .ok (.lload 6, 2) := by decide +kernel
theorem d_Ss_addTaken_75 : decode c_Ss_addTaken 75 = .ok (.land, 1) := by decide +kernel
theorem d_Ss_addTaken_76 : decode c_Ss_addTaken 76 = .ok (.invokestatic 138, 3) := by decide +kernel
theorem d_Ss_addTaken_79 : decode c_Ss_addTaken 79 = .ok (.imul, 1) := by decide +kernel
theorem d_Ss_addTaken_80 : decode c_Ss_addTaken 80 = .ok (.iadd, 1) := by decide +kernel
theorem d_Ss_addTaken_81 : decode c_Ss_addTaken 81 = .ok (.iastore, 1) := by decide +kernel
theorem d_Ss_addTaken_82 : decode c_Ss_addTaken 82 = .ok (.iinc 8 1, 3) := by decide +kernel
theorem d_Ss_addTaken_85 : decode c_Ss_addTaken 85 = .ok (.goto (-51), 3) := by decide +kernel
theorem d_Ss_addTaken_88 : decode c_Ss_addTaken 88 = .ok (.iinc 5 1, 3) := by decide +kernel
theorem d_Ss_addTaken_91 : decode c_Ss_addTaken 91 = .ok (.goto (-80), 3) := by decide +kernel
theorem d_Ss_addTaken_94 : decode c_Ss_addTaken 94 = .ok (.return_, 1) := by decide +kernel
theorem d_Ss_shadeOfOneBoxOnly_0 : decode c_Ss_shadeOfOneBoxOnly 0 = .ok (.lconst 0, 1) := by decide +kernel
theorem d_Ss_shadeOfOneBoxOnly_1 : decode c_Ss_shadeOfOneBoxOnly 1 = .ok (.lstore_n 3, 1) := by decide +kernel
theorem d_Ss_shadeOfOneBoxOnly_2 : decode c_Ss_shadeOfOneBoxOnly 2 = .ok (.lconst 0, 1) := by decide +kernel
theorem d_Ss_shadeOfOneBoxOnly_3 : decode c_Ss_shadeOfOneBoxOnly 3 = .ok (.lstore 5, 2) := by decide +kernel
theorem d_Ss_shadeOfOneBoxOnly_5 : decode c_Ss_shadeOfOneBoxOnly 5 = .ok (.iconst 0, 1) := by decide +kernel
theorem d_Ss_shadeOfOneBoxOnly_6 : decode c_Ss_shadeOfOneBoxOnly 6 = .ok (.istore 7, 2) := by decide +kernel
theorem d_Ss_shadeOfOneBoxOnly_8 : decode c_Ss_shadeOfOneBoxOnly 8 = .ok (.iload 7, 2) := by decide +kernel
theorem d_Ss_shadeOfOneBoxOnly_10 : decode c_Ss_shadeOfOneBoxOnly 10 = .ok (.aload_n 0, 1) := by decide +kernel
theorem d_Ss_shadeOfOneBoxOnly_11 : decode c_Ss_shadeOfOneBoxOnly 11 = .ok (.getfield 11, 3) := by decide +kernel
theorem d_Ss_shadeOfOneBoxOnly_14 : decode c_Ss_shadeOfOneBoxOnly 14 = .ok (.arraylength, 1) := by decide +kernel
theorem d_Ss_shadeOfOneBoxOnly_15 : decode c_Ss_shadeOfOneBoxOnly 15 = .ok (.if_icmp .ge 73, 3) := by decide +kernel
theorem d_Ss_shadeOfOneBoxOnly_18 : decode c_Ss_shadeOfOneBoxOnly 18 = .ok (.iload 7, 2) := by decide +kernel
theorem d_Ss_shadeOfOneBoxOnly_20 : decode c_Ss_shadeOfOneBoxOnly 20 = .ok (.aload_n 0, 1) := by decide +kernel
theorem d_Ss_shadeOfOneBoxOnly_21 : decode c_Ss_shadeOfOneBoxOnly 21 = .ok (.getfield 27, 3) := by decide +kernel
theorem d_Ss_shadeOfOneBoxOnly_24 : decode c_Ss_shadeOfOneBoxOnly 24 = .ok (.arraylength, 1) := by decide +kernel
theorem d_Ss_shadeOfOneBoxOnly_25 : decode c_Ss_shadeOfOneBoxOnly 25 = .ok (.if_icmp .ge 63, 3) := by decide +kernel
theorem d_Ss_shadeOfOneBoxOnly_28 : decode c_Ss_shadeOfOneBoxOnly 28 = .ok (.aload_n 0, 1) := by decide +kernel
theorem d_Ss_shadeOfOneBoxOnly_29 : decode c_Ss_shadeOfOneBoxOnly 29 = .ok (.getfield 11, 3) := by decide +kernel
theorem d_Ss_shadeOfOneBoxOnly_32 : decode c_Ss_shadeOfOneBoxOnly 32 = .ok (.iload 7, 2) := by decide +kernel
theorem d_Ss_shadeOfOneBoxOnly_34 : decode c_Ss_shadeOfOneBoxOnly 34 = .ok (.aaload, 1) := by decide +kernel
theorem d_Ss_shadeOfOneBoxOnly_35 : decode c_Ss_shadeOfOneBoxOnly 35 = .ok (.astore 8, 2) := by decide +kernel
theorem d_Ss_shadeOfOneBoxOnly_37 : decode c_Ss_shadeOfOneBoxOnly 37 = .ok (.aload 8, 2) := by decide +kernel
theorem d_Ss_shadeOfOneBoxOnly_39 : decode c_Ss_shadeOfOneBoxOnly 39 = .ok (.ifnonnull 7, 3) := by decide +kernel
theorem d_Ss_shadeOfOneBoxOnly_42 : decode c_Ss_shadeOfOneBoxOnly 42 = .ok (.lconst 0, 1) := by decide +kernel
theorem d_Ss_shadeOfOneBoxOnly_43 : decode c_Ss_shadeOfOneBoxOnly 43 = .ok (.goto 14, 3) := by decide +kernel
theorem d_Ss_shadeOfOneBoxOnly_46 : decode c_Ss_shadeOfOneBoxOnly 46 = .ok (.aload 8, 2) := by decide +kernel
theorem d_Ss_shadeOfOneBoxOnly_48 : decode c_Ss_shadeOfOneBoxOnly 48 = .ok (.iload_n 1, 1) := by decide +kernel
theorem d_Ss_shadeOfOneBoxOnly_49 : decode c_Ss_shadeOfOneBoxOnly 49 = .ok (.aload_n 2, 1) := by decide +kernel
theorem d_Ss_shadeOfOneBoxOnly_50 : decode c_Ss_shadeOfOneBoxOnly 50 = .ok (.aload_n 0, 1) := by decide +kernel
theorem d_Ss_shadeOfOneBoxOnly_51 : decode c_Ss_shadeOfOneBoxOnly 51 = .ok (.getfield 51, 3) := by decide +kernel
theorem d_Ss_shadeOfOneBoxOnly_54 : decode c_Ss_shadeOfOneBoxOnly 54 = .ok (.invokevirtual 134, 3) := by decide +kernel
theorem d_Ss_shadeOfOneBoxOnly_57 : decode c_Ss_shadeOfOneBoxOnly 57 = .ok (.lstore 9, 2) := by decide +kernel
theorem d_Ss_shadeOfOneBoxOnly_59 : decode c_Ss_shadeOfOneBoxOnly 59 = .ok (.aload_n 0, 1) := by decide +kernel
theorem d_Ss_shadeOfOneBoxOnly_60 : decode c_Ss_shadeOfOneBoxOnly 60 = .ok (.getfield 27, 3) := by decide +kernel
theorem d_Ss_shadeOfOneBoxOnly_63 : decode c_Ss_shadeOfOneBoxOnly 63 = .ok (.iload 7, 2) := by decide +kernel
theorem d_Ss_shadeOfOneBoxOnly_65 : decode c_Ss_shadeOfOneBoxOnly 65 = .ok (.lload 9, 2) := by decide +kernel
theorem d_Ss_shadeOfOneBoxOnly_67 : decode c_Ss_shadeOfOneBoxOnly 67 = .ok (.lastore, 1) := by decide +kernel
theorem d_Ss_shadeOfOneBoxOnly_68 : decode c_Ss_shadeOfOneBoxOnly 68 = .ok (.lload 5, 2) := by decide +kernel
theorem d_Ss_shadeOfOneBoxOnly_70 : decode c_Ss_shadeOfOneBoxOnly 70 = .ok (.lload_n 3, 1) := by decide +kernel
theorem d_Ss_shadeOfOneBoxOnly_71 : decode c_Ss_shadeOfOneBoxOnly 71 = .ok (.lload 9, 2) := by decide +kernel
theorem d_Ss_shadeOfOneBoxOnly_73 : decode c_Ss_shadeOfOneBoxOnly 73 = .ok (.land, 1) := by decide +kernel
theorem d_Ss_shadeOfOneBoxOnly_74 : decode c_Ss_shadeOfOneBoxOnly 74 = .ok (.lor, 1) := by decide +kernel
theorem d_Ss_shadeOfOneBoxOnly_75 : decode c_Ss_shadeOfOneBoxOnly 75 = .ok (.lstore 5, 2) := by decide +kernel
theorem d_Ss_shadeOfOneBoxOnly_77 : decode c_Ss_shadeOfOneBoxOnly 77 = .ok (.lload_n 3, 1) := by decide +kernel
theorem d_Ss_shadeOfOneBoxOnly_78 : decode c_Ss_shadeOfOneBoxOnly 78 = .ok (.lload 9, 2) := by decide +kernel
theorem d_Ss_shadeOfOneBoxOnly_80 : decode c_Ss_shadeOfOneBoxOnly 80 = .ok (.lor, 1) := by decide +kernel
theorem d_Ss_shadeOfOneBoxOnly_81 : decode c_Ss_shadeOfOneBoxOnly 81 = .ok (.lstore_n 3, 1) := by decide +kernel
theorem d_Ss_shadeOfOneBoxOnly_82 : decode c_Ss_shadeOfOneBoxOnly 82 = .ok (.iinc 7 1, 3) := by decide +kernel
theorem d_Ss_shadeOfOneBoxOnly_85 : decode c_Ss_shadeOfOneBoxOnly 85 = .ok (.goto (-77), 3) := by decide +kernel
theorem d_Ss_shadeOfOneBoxOnly_88 : decode c_Ss_shadeOfOneBoxOnly 88 = .ok (.lload_n 3, 1) := by decide +kernel
theorem d_Ss_shadeOfOneBoxOnly_89 : decode c_Ss_shadeOfOneBoxOnly 89 = .ok (.lload 5, 2) := by decide +kernel
theorem d_Ss_shadeOfOneBoxOnly_91 : decode c_Ss_shadeOfOneBoxOnly 91 = .ok (.ldc2_w 209, 3) := by decide +kernel
theorem d_Ss_shadeOfOneBoxOnly_94 : decode c_Ss_shadeOfOneBoxOnly 94 = .ok (.lxor, 1) := by decide +kernel
theorem d_Ss_shadeOfOneBoxOnly_95 : decode c_Ss_shadeOfOneBoxOnly 95 = .ok (.land, 1) := by decide +kernel
theorem d_Ss_shadeOfOneBoxOnly_96 : decode c_Ss_shadeOfOneBoxOnly 96 = .ok (.lreturn, 1) := by decide +kernel
end
section
theorem d_Md_init_0 : decode c_Md_init 0 = .ok (.aload_n 0, 1) := by decide +kernel
theorem d_Md_init_1 : decode c_Md_init 1 = .ok (.invokespecial 1, 3) := by decide +kernel
theorem d_Md_init_4 : decode c_Md_init 4 = .ok (.aload_n 0, 1) := by decide +kernel
theorem d_Md_init_5 : decode c_Md_init 5 = .ok (.bipush 66, 2) := by decide +kernel
theorem d_Md_init_7 : decode c_Md_init 7 = .ok (.newarray .int, 2) := by decide +kernel
theorem d_Md_init_9 : decode c_Md_init 9 = .ok (.putfield 7, 3) := by decide +kernel
theorem d_Md_init_12 : decode c_Md_init 12 = .ok (.aload_n 0, 1) := by decide +kernel
theorem d_Md_init_13 : decode c_Md_init 13 = .ok (.bipush 11, 2) := by decide +kernel
theorem d_Md_init_15 : decode c_Md_init 15 = .ok (.newarray .boolean, 2) := by decide +kernel
theorem d_Md_init_17 : decode c_Md_init 17 = .ok (.putfield 13, 3) := by decide +kernel
theorem d_Md_init_20 : decode c_Md_init 20 = .ok (.aload_n 0, 1) := by decide +kernel
theorem d_Md_init_21 : decode c_Md_init 21 = .ok (.bipush 72, 2) := by decide +kernel
theorem d_Md_init_23 : decode c_Md_init 23 = .ok (.newarray .int, 2) := by decide +kernel
theorem d_Md_init_25 : decode c_Md_init 25 = .ok (.putfield 17, 3) := by decide +kernel
theorem d_Md_init_28 : decode c_Md_init 28 = .ok (.aload_n 0, 1) := by decide +kernel
theorem d_Md_init_29 : decode c_Md_init 29 = .ok (.bipush 24, 2) := by decide +kernel
theorem d_Md_init_31 : decode c_Md_init 31 = .ok (.newarray .int, 2) := by decide +kernel
theorem d_Md_init_33 : decode c_Md_init 33 = .ok (.putfield 20, 3) := by decide +kernel
theorem d_Md_init_36 : decode c_Md_init 36 = .ok (.aload_n 0, 1) := by decide +kernel
theorem d_Md_init_37 : decode c_Md_init 37 = .ok (.bipush 40, 2) := by decide +kernel
theorem d_Md_init_39 : decode c_Md_init 39 = .ok (.newarray .int, 2) := by decide +kernel
theorem d_Md_init_41 : decode c_Md_init 41 = .ok (.putfield 23, 3) := by decide +kernel
theorem d_Md_init_44 : decode c_Md_init 44 = .ok (.aload_n 0, 1) := by decide +kernel
theorem d_Md_init_45 : decode c_Md_init 45 = .ok (.iload_n 1, 1) := by decide +kernel
theorem d_Md_init_46 : decode c_Md_init 46 = .ok (.iconst 1, 1) := by decide +kernel
theorem d_Md_init_47 : decode c_Md_init 47 = .ok (.if_icmp .ge 7, 3) := by decide +kernel
theorem d_Md_init_50 : decode c_Md_init 50 = .ok (.iconst 1, 1) := by decide +kernel
theorem d_Md_init_51 : decode c_Md_init 51 = .ok (.goto 15, 3) := by decide +kernel
theorem d_Md_init_54 : decode c_Md_init 54 = .ok (.iload_n 1, 1) := by decide +kernel
theorem d_Md_init_55 : decode c_Md_init 55 = .ok (.bipush 60, 2) := by decide +kernel
theorem d_Md_init_57 : decode c_Md_init 57 = .ok (.if_icmp .le 8, 3) := by decide +kernel
theorem d_Md_init_60 : decode c_Md_init 60 = .ok (.bipush 60, 2) := by decide +kernel
theorem d_Md_init_62 : decode c_Md_init 62 = .ok (.goto 4, 3) := by decide +kernel
theorem d_Md_init_65 : decode c_Md_init 65 = .ok (.iload_n 1, 1) := by decide +kernel
theorem d_Md_init_66 : decode c_Md_init 66 = .ok (.putfield 26, 3) := by decide +kernel
theorem d_Md_init_69 : decode c_Md_init 69 = .ok (.aload_n 0, 1) := by decide +kernel
theorem d_Md_init_70 : decode c_Md_init 70 = .ok (.iload_n 2, 1) := by decide +kernel
theorem d_Md_init_71 : decode c_Md_init 71 = .ok (.iconst 1, 1) := by decide +kernel
theorem d_Md_init_72 : decode c_Md_init 72 = .ok (.if_icmp .ge 7, 3) := by decide +kernel
theorem d_Md_init_75 : decode c_Md_init 75 = .ok (.iconst 1, 1) := by decide +kernel
theorem d_Md_init_76 : decode c_Md_init 76 = .ok (.goto 15, 3) := by decide +kernel
theorem d_Md_init_79 : decode c_Md_init 79 = .ok (.iload_n 2, 1) := by decide +kernel
theorem d_Md_init_80 : decode c_Md_init 80 = .ok (.bipush 60, 2) := by decide +kernel
theorem d_Md_init_82 : decode c_Md_init 82 = .ok (.if_icmp .le 8, 3) := by decide +kernel
theorem d_Md_init_85 : decode c_Md_init 85 = .ok (.bipush 60, 2) := by decide +kernel
theorem d_Md_init_87 : decode c_Md_init 87 = .ok (.goto 4, 3) := by decide +kernel
theorem d_Md_init_90 : decode c_Md_init 90 = .ok (.iload_n 2, 1) := by decide +kernel
theorem d_Md_init_91 : decode c_Md_init 91 = .ok (.putfield 30, 3) := by decide +kernel
theorem d_Md_init_94 : decode c_Md_init 94 = .ok (.return_, 1) := by decide +kernel
theorem d_Md_thrown_0 : decode c_Md_thrown 0 = .ok (.aload_n 0, 1) := by decide +kernel
theorem d_Md_thrown_1 : decode c_Md_thrown 1 = .ok (.getfield 33, 3) := by decide +kernel
theorem d_Md_thrown_4 : decode c_Md_thrown 4 = .ok (.ireturn, 1) := by decide +kernel
theorem d_Md_box_0 : decode c_Md_box 0 = .ok (.aload_n 0, 1) := by decide +kernel
theorem d_Md_box_1 : decode c_Md_box 1 = .ok (.iload_n 1, 1) := by decide +kernel
theorem d_Md_box_2 : decode c_Md_box 2 = .ok (.iload_n 2, 1) := by decide +kernel
theorem d_Md_box_3 : decode c_Md_box 3 = .ok (.iload_n 3, 1) := by decide +kernel
theorem d_Md_box_4 : decode c_Md_box 4 = .ok (.iload 4, 2) := by decide +kernel
theorem d_Md_box_6 : decode c_Md_box 6 = .ok (.iload 5, 2) := by decide +kernel
theorem d_Md_box_8 : decode c_Md_box 8 = .ok (.iload 6, 2) := by decide +kernel
theorem d_Md_box_10 : decode c_Md_box 10 = .ok (.invokestatic 40, 3) := by decide +kernel
theorem d_Md_box_13 : decode c_Md_box 13 = .ok (.ifCond .ne 7, 3) := by decide +kernel
theorem d_Md_box_16 : decode c_Md_box 16 = .ok (.iconst 1, 1) := by decide +kernel
theorem d_Md_box_17 : decode c_Md_box 17 = .ok (.goto 17, 3) := by decide +kernel
theorem d_Md_box_20 : decode c_Md_box 20 = .ok (.aload_n 0, 1) := by decide +kernel
theorem d_Md_box_21 : decode c_Md_box 21 = .ok (.getfield 44, 3) := by decide +kernel
theorem d_Md_box_24 : decode c_Md_box 24 = .ok (.bipush 10, 2) := by decide +kernel
theorem d_Md_box_26 : decode c_Md_box 26 = .ok (.if_icmp .ne 7, 3) := by decide +kernel
theorem d_Md_box_29 : decode c_Md_box 29 = .ok (.iconst 2, 1) := by decide +kernel
theorem d_Md_box_30 : decode c_Md_box 30 = .ok (.goto 4, 3) := by decide +kernel
theorem d_Md_box_33 : decode c_Md_box 33 = .ok (.iconst 0, 1) := by decide +kernel
theorem d_Md_box_34 : decode c_Md_box 34 = .ok (.putfield 33, 3) := by decide +kernel
theorem d_Md_box_37 : decode c_Md_box 37 = .ok (.aload_n 0, 1) := by decide +kernel
theorem d_Md_box_38 : decode c_Md_box 38 = .ok (.getfield 33, 3) := by decide +kernel
theorem d_Md_box_41 : decode c_Md_box 41 = .ok (.ifCond .le 5, 3) := by decide +kernel
theorem d_Md_box_44 : decode c_Md_box 44 = .ok (.iconst 0, 1) := by decide +kernel
theorem d_Md_box_45 : decode c_Md_box 45 = .ok (.ireturn, 1) := by decide +kernel
theorem d_Md_box_46 : decode c_Md_box 46 = .ok (.aload_n 0, 1) := by decide +kernel
theorem d_Md_box_47 : decode c_Md_box 47 = .ok (.aload_n 0, 1) := by decide +kernel
theorem d_Md_box_48 : decode c_Md_box 48 = .ok (.getfield 44, 3) := by decide +kernel
theorem d_Md_box_51 : decode c_Md_box 51 = .ok (.iload_n 1, 1) := by decide +kernel
theorem d_Md_box_52 : decode c_Md_box 52 = .ok (.iload_n 2, 1) := by decide +kernel
theorem d_Md_box_53 : decode c_Md_box 53 = .ok (.iload_n 3, 1) := by decide +kernel
theorem d_Md_box_54 : decode c_Md_box 54 = .ok (.iload 4, 2) := by decide +kernel
theorem d_Md_box_56 : decode c_Md_box 56 = .ok (.iload 5, 2) := by decide +kernel
theorem d_Md_box_58 : decode c_Md_box 58 = .ok (.iload 6, 2) := by decide +kernel
theorem d_Md_box_60 : decode c_Md_box 60 = .ok (.invokevirtual 47, 3) := by decide +kernel
theorem d_Md_box_63 : decode c_Md_box 63 = .ok (.aload_n 0, 1) := by decide +kernel
theorem d_Md_box_64 : decode c_Md_box 64 = .ok (.dup, 1) := by decide +kernel
theorem d_Md_box_65 : decode c_Md_box 65 = .ok (.getfield 44, 3) := by decide +kernel
theorem d_Md_box_68 : decode c_Md_box 68 = .ok (.iconst 1, 1) := by decide +kernel
theorem d_Md_box_69 : decode c_Md_box 69 = .ok (.iadd, 1) := by decide +kernel
theorem d_Md_box_70 : decode c_Md_box 70 = .ok (.putfield 44, 3) := by decide +kernel
theorem d_Md_box_73 : decode c_Md_box 73 = .ok (.aload_n 0, 1) := by decide +kernel
theorem d_Md_box_74 : decode c_Md_box 74 = .ok (.getfield 44, 3) := by decide +kernel
theorem d_Md_box_77 : decode c_Md_box 77 = .ok (.iconst 1, 1) := by decide +kernel
theorem d_Md_box_78 : decode c_Md_box 78 = .ok (.isub, 1) := by decide +kernel
theorem d_Md_box_79 : decode c_Md_box 79 = .ok (.ireturn, 1) := by decide +kernel
theorem d_Md_isBox_0 : decode c_Md_isBox 0 = .ok (.iload_n 0, 1) := by decide +kernel
theorem d_Md_isBox_1 : decode c_Md_isBox 1 = .ok (.bipush (-100), 2) := by decide +kernel
theorem d_Md_isBox_3 : decode c_Md_isBox 3 = .ok (.sipush 200, 3) := by decide +kernel
theorem d_Md_isBox_6 : decode c_Md_isBox 6 = .ok (.invokestatic 36, 3) := by decide +kernel
theorem d_Md_isBox_9 : decode c_Md_isBox 9 = .ok (.ifCond .eq 82, 3) := by decide +kernel
theorem d_Md_isBox_12 : decode c_Md_isBox 12 = .ok (.iload_n 1, 1) := by decide +kernel
theorem d_Md_isBox_13 : decode c_Md_isBox 13 = .ok (.bipush (-100), 2) := by decide +kernel
theorem d_Md_isBox_15 : decode c_Md_isBox 15 = .ok (.sipush 200, 3) := by decide +kernel
theorem d_Md_isBox_18 : decode c_Md_isBox 18 = .ok (.invokestatic 36, 3) := by decide +kernel
theorem d_Md_isBox_21 : decode c_Md_isBox 21 = .ok (.ifCond .eq 70, 3) := by decide +kernel
theorem d_Md_isBox_24 : decode c_Md_isBox 24 = .ok (.iload_n 3, 1) := by decide +kernel
theorem d_Md_isBox_25 : decode c_Md_isBox 25 = .ok (.bipush (-100), 2) := by decide +kernel
theorem d_Md_isBox_27 : decode c_Md_isBox 27 = .ok (.sipush 200, 3) := by decide +kernel
theorem d_Md_isBox_30 : decode c_Md_isBox 30 = .ok (.invokestatic 36, 3) := by decide +kernel
theorem d_Md_isBox_33 : decode c_Md_isBox 33 = .ok (.ifCond .eq 58, 3) := by decide +kernel
theorem d_Md_isBox_36 : decode c_Md_isBox 36 = .ok (.iload 4, 2) := by decide +kernel
theorem d_Md_isBox_38 : decode c_Md_isBox 38 = .ok (.bipush (-100), 2) := by decide +kernel
theorem d_Md_isBox_40 : decode c_Md_isBox 40 = .ok (.sipush 200, 3) := by decide +kernel
theorem d_Md_isBox_43 : decode c_Md_isBox 43 = .ok (.invokestatic 36, 3) := by decide +kernel
theorem d_Md_isBox_46 : decode c_Md_isBox 46 = .ok (.ifCond .eq 45, 3) := by decide +kernel
theorem d_Md_isBox_49 : decode c_Md_isBox 49 = .ok (.iload_n 2, 1) := by decide +kernel
theorem d_Md_isBox_50 : decode c_Md_isBox 50 = .ok (.iconst 0, 1) := by decide +kernel
theorem d_Md_isBox_51 : decode c_Md_isBox 51 = .ok (.bipush 100, 2) := by decide +kernel
theorem d_Md_isBox_53 : decode c_Md_isBox 53 = .ok (.invokestatic 36, 3) := by decide +kernel
theorem d_Md_isBox_56 : decode c_Md_isBox 56 = .ok (.ifCond .eq 35, 3) := by decide +kernel
theorem d_Md_isBox_59 : decode c_Md_isBox 59 = .ok (.iload 5, 2) := by decide +kernel
theorem d_Md_isBox_61 : decode c_Md_isBox 61 = .ok (.iconst 0, 1) := by decide +kernel
theorem d_Md_isBox_62 : decode c_Md_isBox 62 = .ok (.bipush 100, 2) := by decide +kernel
theorem d_Md_isBox_64 : decode c_Md_isBox 64 = .ok (.invokestatic 36, 3) := by decide +kernel
theorem d_Md_isBox_67 : decode c_Md_isBox 67 = .ok (.ifCond .eq 24, 3) := by decide +kernel
theorem d_Md_isBox_70 : decode c_Md_isBox 70 = .ok (.iload_n 0, 1) := by decide +kernel
theorem d_Md_isBox_71 : decode c_Md_isBox 71 = .ok (.iload_n 3, 1) := by decide +kernel
theorem d_Md_isBox_72 : decode c_Md_isBox 72 = .ok (.if_icmp .ge 19, 3) := by decide +kernel
theorem d_Md_isBox_75 : decode c_Md_isBox 75 = .ok (.iload_n 1, 1) := by decide +kernel
theorem d_Md_isBox_76 : decode c_Md_isBox 76 = .ok (.iload 4, 2) := by decide +kernel
theorem d_Md_isBox_78 : decode c_Md_isBox 78 = .ok (.if_icmp .ge 13, 3) := by decide +kernel
theorem d_Md_isBox_81 : decode c_Md_isBox 81 = .ok (.iload_n 2, 1) := by decide +kernel
theorem d_Md_isBox_82 : decode c_Md_isBox 82 = .ok (.iload 5, 2) := by decide +kernel
theorem d_Md_isBox_84 : decode c_Md_isBox 84 = .ok (.if_icmp .gt 7, 3) := by decide +kernel
theorem d_Md_isBox_87 : decode c_Md_isBox 87 = .ok (.iconst 1, 1) := by decide +kernel
theorem d_Md_isBox_88 : decode c_Md_isBox 88 = .ok (.goto 4, 3) := by decide +kernel
theorem d_Md_isBox_91 : decode c_Md_isBox 91 = .ok (.iconst 0, 1) := by decide +kernel
theorem d_Md_isBox_92 : decode c_Md_isBox 92 = .ok (.ireturn, 1) := by decide +kernel
theorem d_Md_isIn_0 : decode c_Md_isIn 0 = .ok (.iload_n 0, 1) := by decide +kernel
theorem d_Md_isIn_1 : decode c_Md_isIn 1 = .ok (.iload_n 1, 1) := by decide +kernel
theorem d_Md_isIn_2 : decode c_Md_isIn 2 = .ok (.if_icmp .lt 12, 3) := by decide +kernel
theorem d_Md_isIn_5 : decode c_Md_isIn 5 = .ok (.iload_n 0, 1) := by decide +kernel
theorem d_Md_isIn_6 : decode c_Md_isIn 6 = .ok (.iload_n 2, 1) := by decide +kernel
theorem d_Md_isIn_7 : decode c_Md_isIn 7 = .ok (.if_icmp .gt 7, 3) := by decide +kernel
theorem d_Md_isIn_10 : decode c_Md_isIn 10 = .ok (.iconst 1, 1) := by decide +kernel
theorem d_Md_isIn_11 : decode c_Md_isIn 11 = .ok (.goto 4, 3) := by decide +kernel
theorem d_Md_isIn_14 : decode c_Md_isIn 14 = .ok (.iconst 0, 1) := by decide +kernel
theorem d_Md_isIn_15 : decode c_Md_isIn 15 = .ok (.ireturn, 1) := by decide +kernel
theorem d_Md_lay_0 : decode c_Md_lay 0 = .ok (.aload_n 0, 1) := by decide +kernel
theorem d_Md_lay_1 : decode c_Md_lay 1 = .ok (.getfield 7, 3) := by decide +kernel
theorem d_Md_lay_4 : decode c_Md_lay 4 = .ok (.bipush 6, 2) := by decide +kernel
theorem d_Md_lay_6 : decode c_Md_lay 6 = .ok (.iload_n 1, 1) := by decide +kernel
theorem d_Md_lay_7 : decode c_Md_lay 7 = .ok (.imul, 1) := by decide +kernel
theorem d_Md_lay_8 : decode c_Md_lay 8 = .ok (.iload_n 2, 1) := by decide +kernel
theorem d_Md_lay_9 : decode c_Md_lay 9 = .ok (.iastore, 1) := by decide +kernel
theorem d_Md_lay_10 : decode c_Md_lay 10 = .ok (.aload_n 0, 1) := by decide +kernel
theorem d_Md_lay_11 : decode c_Md_lay 11 = .ok (.getfield 7, 3) := by decide +kernel
theorem d_Md_lay_14 : decode c_Md_lay 14 = .ok (.bipush 6, 2) := by decide +kernel
theorem d_Md_lay_16 : decode c_Md_lay 16 = .ok (.iload_n 1, 1) := by decide +kernel
theorem d_Md_lay_17 : decode c_Md_lay 17 = .ok (.imul, 1) := by decide +kernel
theorem d_Md_lay_18 : decode c_Md_lay 18 = .ok (.iconst 1, 1) := by decide +kernel
theorem d_Md_lay_19 : decode c_Md_lay 19 = .ok (.iadd, 1) := by decide +kernel
theorem d_Md_lay_20 : decode c_Md_lay 20 = .ok (.iload_n 3, 1) := by decide +kernel
theorem d_Md_lay_21 : decode c_Md_lay 21 = .ok (.iastore, 1) := by decide +kernel
theorem d_Md_lay_22 : decode c_Md_lay 22 = .ok (.aload_n 0, 1) := by decide +kernel
theorem d_Md_lay_23 : decode c_Md_lay 23 = .ok (.getfield 7, 3) := by decide +kernel
theorem d_Md_lay_26 : decode c_Md_lay 26 = .ok (.bipush 6, 2) := by decide +kernel
theorem d_Md_lay_28 : decode c_Md_lay 28 = .ok (.iload_n 1, 1) := by decide +kernel
theorem d_Md_lay_29 : decode c_Md_lay 29 = .ok (.imul, 1) := by decide +kernel
theorem d_Md_lay_30 : decode c_Md_lay 30 = .ok (.iconst 2, 1) := by decide +kernel
theorem d_Md_lay_31 : decode c_Md_lay 31 = .ok (.iadd, 1) := by decide +kernel
theorem d_Md_lay_32 : decode c_Md_lay 32 = .ok (.iload 4, 2) := by decide +kernel
theorem d_Md_lay_34 : decode c_Md_lay 34 = .ok (.iastore, 1) := by decide +kernel
theorem d_Md_lay_35 : decode c_Md_lay 35 = .ok (.aload_n 0, 1) := by decide +kernel
theorem d_Md_lay_36 : decode c_Md_lay 36 = .ok (.getfield 7, 3) := by decide +kernel
theorem d_Md_lay_39 : decode c_Md_lay 39 = .ok (.bipush 6, 2) := by decide +kernel
theorem d_Md_lay_41 : decode c_Md_lay 41 = .ok (.iload_n 1, 1) := by decide +kernel
theorem d_Md_lay_42 : decode c_Md_lay 42 = .ok (.imul, 1) := by decide +kernel
theorem d_Md_lay_43 : decode c_Md_lay 43 = .ok (.iconst 3, 1) := by decide +kernel
theorem d_Md_lay_44 : decode c_Md_lay 44 = .ok (.iadd, 1) := by decide +kernel
theorem d_Md_lay_45 : decode c_Md_lay 45 = .ok (.iload 5, 2) := by decide +kernel
theorem d_Md_lay_47 : decode c_Md_lay 47 = .ok (.iastore, 1) := by decide +kernel
theorem d_Md_lay_48 : decode c_Md_lay 48 = .ok (.aload_n 0, 1) := by decide +kernel
theorem d_Md_lay_49 : decode c_Md_lay 49 = .ok (.getfield 7, 3) := by decide +kernel
theorem d_Md_lay_52 : decode c_Md_lay 52 = .ok (.bipush 6, 2) := by decide +kernel
theorem d_Md_lay_54 : decode c_Md_lay 54 = .ok (.iload_n 1, 1) := by decide +kernel
theorem d_Md_lay_55 : decode c_Md_lay 55 = .ok (.imul, 1) := by decide +kernel
theorem d_Md_lay_56 : decode c_Md_lay 56 = .ok (.iconst 4, 1) := by decide +kernel
theorem d_Md_lay_57 : decode c_Md_lay 57 = .ok (.iadd, 1) := by decide +kernel
theorem d_Md_lay_58 : decode c_Md_lay 58 = .ok (.iload 6, 2) := by decide +kernel
theorem d_Md_lay_60 : decode c_Md_lay 60 = .ok (.iastore, 1) := by decide +kernel
theorem d_Md_lay_61 : decode c_Md_lay 61 = .ok (.aload_n 0, 1) := by decide +kernel
theorem d_Md_lay_62 : decode c_Md_lay 62 = .ok (.getfield 7, 3) := by decide +kernel
theorem d_Md_lay_65 : decode c_Md_lay 65 = .ok (.bipush 6, 2) := by decide +kernel
theorem d_Md_lay_67 : decode c_Md_lay 67 = .ok (.iload_n 1, 1) := by decide +kernel
theorem d_Md_lay_68 : decode c_Md_lay 68 = .ok (.imul, 1) := by decide +kernel
theorem d_Md_lay_69 : decode c_Md_lay 69 = .ok (.iconst 5, 1) := by decide +kernel
theorem d_Md_lay_70 : decode c_Md_lay 70 = .ok (.iadd, 1) := by decide +kernel
theorem d_Md_lay_71 : decode c_Md_lay 71 = .ok (.iload 7, 2) := by decide +kernel
theorem d_Md_lay_73 : decode c_Md_lay 73 = .ok (.iastore, 1) := by decide +kernel
theorem d_Md_lay_74 : decode c_Md_lay 74 = .ok (.aload_n 0, 1) := by decide +kernel
theorem d_Md_lay_75 : decode c_Md_lay 75 = .ok (.getfield 13, 3) := by decide +kernel
theorem d_Md_lay_78 : decode c_Md_lay 78 = .ok (.iload_n 1, 1) := by decide +kernel
theorem d_Md_lay_79 : decode c_Md_lay 79 = .ok (.iconst 1, 1) := by decide +kernel
theorem d_Md_lay_80 : decode c_Md_lay 80 = .ok (.bastore, 1) := by decide +kernel
theorem d_Md_lay_81 : decode c_Md_lay 81 = .ok (.return_, 1) := by decide +kernel
theorem d_Md_move_0 : decode c_Md_move 0 = .ok (.aload_n 0, 1) := by decide +kernel
theorem d_Md_move_1 : decode c_Md_move 1 = .ok (.aload_n 0, 1) := by decide +kernel
theorem d_Md_move_2 : decode c_Md_move 2 = .ok (.iload_n 1, 1) := by decide +kernel
theorem d_Md_move_3 : decode c_Md_move 3 = .ok (.invokevirtual 51, 3) := by decide +kernel
theorem d_Md_move_6 : decode c_Md_move 6 = .ok (.ifCond .ne 43, 3) := by decide +kernel
theorem d_Md_move_9 : decode c_Md_move 9 = .ok (.iload_n 2, 1) := by decide +kernel
theorem d_Md_move_10 : decode c_Md_move 10 = .ok (.sipush (-300), 3) := by decide +kernel
theorem d_Md_move_13 : decode c_Md_move 13 = .ok (.sipush 300, 3) := by decide +kernel
theorem d_Md_move_16 : decode c_Md_move 16 = .ok (.invokestatic 36, 3) := by decide +kernel
theorem d_Md_move_19 : decode c_Md_move 19 = .ok (.ifCond .eq 30, 3) := by decide +kernel
theorem d_Md_move_22 : decode c_Md_move 22 = .ok (.iload_n 3, 1) := by decide +kernel
theorem d_Md_move_23 : decode c_Md_move 23 = .ok (.sipush (-300), 3) := by decide +kernel
theorem d_Md_move_26 : decode c_Md_move 26 = .ok (.sipush 300, 3) := by decide +kernel
theorem d_Md_move_29 : decode c_Md_move 29 = .ok (.invokestatic 36, 3) := by decide +kernel
theorem d_Md_move_32 : decode c_Md_move 32 = .ok (.ifCond .eq 17, 3) := by decide +kernel
theorem d_Md_move_35 : decode c_Md_move 35 = .ok (.iload 4, 2) := by decide +kernel
theorem d_Md_move_37 : decode c_Md_move 37 = .ok (.sipush (-300), 3) := by decide +kernel
theorem d_Md_move_40 : decode c_Md_move 40 = .ok (.sipush 300, 3) := by decide +kernel
theorem d_Md_move_43 : decode c_Md_move 43 = .ok (.invokestatic 36, 3) := by decide +kernel
theorem d_Md_move_46 : decode c_Md_move 46 = .ok (.ifCond .ne 7, 3) := by decide +kernel
theorem d_Md_move_49 : decode c_Md_move 49 = .ok (.iconst 1, 1) := by decide +kernel
theorem d_Md_move_50 : decode c_Md_move 50 = .ok (.goto 4, 3) := by decide +kernel
theorem d_Md_move_53 : decode c_Md_move 53 = .ok (.iconst 0, 1) := by decide +kernel
theorem d_Md_move_54 : decode c_Md_move 54 = .ok (.putfield 33, 3) := by decide +kernel
theorem d_Md_move_57 : decode c_Md_move 57 = .ok (.aload_n 0, 1) := by decide +kernel
theorem d_Md_move_58 : decode c_Md_move 58 = .ok (.getfield 33, 3) := by decide +kernel
theorem d_Md_move_61 : decode c_Md_move 61 = .ok (.ifCond .le 5, 3) := by decide +kernel
theorem d_Md_move_64 : decode c_Md_move 64 = .ok (.iconst 0, 1) := by decide +kernel
theorem d_Md_move_65 : decode c_Md_move 65 = .ok (.ireturn, 1) := by decide +kernel
theorem d_Md_move_66 : decode c_Md_move 66 = .ok (.bipush 6, 2) := by decide +kernel
theorem d_Md_move_68 : decode c_Md_move 68 = .ok (.iload_n 1, 1) := by decide +kernel
theorem d_Md_move_69 : decode c_Md_move 69 = .ok (.imul, 1) := by decide +kernel
theorem d_Md_move_70 : decode c_Md_move 70 = .ok (.istore 5, 2) := by decide +kernel
theorem d_Md_move_72 : decode c_Md_move 72 = .ok (.aload_n 0, 1) := by decide +kernel
theorem d_Md_move_73 : decode c_Md_move 73 = .ok (.getfield 7, 3) := by decide +kernel
theorem d_Md_move_76 : decode c_Md_move 76 = .ok (.iload 5, 2) := by decide +kernel
theorem d_Md_move_78 : decode c_Md_move 78 = .ok (.iaload, 1) := by decide +kernel
theorem d_Md_move_79 : decode c_Md_move 79 = .ok (.iload_n 2, 1) := by decide +kernel
theorem d_Md_move_80 : decode c_Md_move 80 = .ok (.iadd, 1) := by decide +kernel
theorem d_Md_move_81 : decode c_Md_move 81 = .ok (.aload_n 0, 1) := by decide +kernel
theorem d_Md_move_82 : decode c_Md_move 82 = .ok (.getfield 7, 3) := by decide +kernel
theorem d_Md_move_85 : decode c_Md_move 85 = .ok (.iload 5, 2) := by decide +kernel
theorem d_Md_move_87 : decode c_Md_move 87 = .ok (.iconst 1, 1) := by decide +kernel
theorem d_Md_move_88 : decode c_Md_move 88 = .ok (.iadd, 1) := by decide +kernel
theorem d_Md_move_89 : decode c_Md_move 89 = .ok (.iaload, 1) := by decide +kernel
theorem d_Md_move_90 : decode c_Md_move 90 = .ok (.iload_n 3, 1) := by decide +kernel
theorem d_Md_move_91 : decode c_Md_move 91 = .ok (.iadd, 1) := by decide +kernel
theorem d_Md_move_92 : decode c_Md_move 92 = .ok (.aload_n 0, 1) := by decide +kernel
theorem d_Md_move_93 : decode c_Md_move 93 = .ok (.getfield 7, 3) := by decide +kernel
theorem d_Md_move_96 : decode c_Md_move 96 = .ok (.iload 5, 2) := by decide +kernel
theorem d_Md_move_98 : decode c_Md_move 98 = .ok (.iconst 2, 1) := by decide +kernel
theorem d_Md_move_99 : decode c_Md_move 99 = .ok (.iadd, 1) := by decide +kernel
theorem d_Md_move_100 : decode c_Md_move 100 = .ok (.iaload, 1) := by decide +kernel
theorem d_Md_move_101 : decode c_Md_move 101 = .ok (.iload 4, 2) := by decide +kernel
theorem d_Md_move_103 : decode c_Md_move 103 = .ok (.iadd, 1) := by decide +kernel
theorem d_Md_move_104 : decode c_Md_move 104 = .ok (.aload_n 0, 1) := by decide +kernel
theorem d_Md_move_105 : decode c_Md_move 105 = .ok (.getfield 7, 3) := by decide +kernel
theorem d_Md_move_108 : decode c_Md_move 108 = .ok (.iload 5, 2) := by decide +kernel
theorem d_Md_move_110 : decode c_Md_move 110 = .ok (.iconst 3, 1) := by decide +kernel
theorem d_Md_move_111 : decode c_Md_move 111 = .ok (.iadd, 1) := by decide +kernel
theorem d_Md_move_112 : decode c_Md_move 112 = .ok (.iaload, 1) := by decide +kernel
theorem d_Md_move_113 : decode c_Md_move 113 = .ok (.iload_n 2, 1) := by decide +kernel
theorem d_Md_move_114 : decode c_Md_move 114 = .ok (.iadd, 1) := by decide +kernel
theorem d_Md_move_115 : decode c_Md_move 115 = .ok (.aload_n 0, 1) := by decide +kernel
theorem d_Md_move_116 : decode c_Md_move 116 = .ok (.getfield 7, 3) := by decide +kernel
theorem d_Md_move_119 : decode c_Md_move 119 = .ok (.iload 5, 2) := by decide +kernel
theorem d_Md_move_121 : decode c_Md_move 121 = .ok (.iconst 4, 1) := by decide +kernel
theorem d_Md_move_122 : decode c_Md_move 122 = .ok (.iadd, 1) := by decide +kernel
theorem d_Md_move_123 : decode c_Md_move 123 = .ok (.iaload, 1) := by decide +kernel
theorem d_Md_move_124 : decode c_Md_move 124 = .ok (.iload_n 3, 1) := by decide +kernel
theorem d_Md_move_125 : decode c_Md_move 125 = .ok (.iadd, 1) := by decide +kernel
theorem d_Md_move_126 : decode c_Md_move 126 = .ok (.aload_n 0, 1) := by decide +kernel
theorem d_Md_move_127 : decode c_Md_move 127 = .ok (.getfield 7, 3) := by decide +kernel
theorem d_Md_move_130 : decode c_Md_move 130 = .ok (.iload 5, 2) := by decide +kernel
theorem d_Md_move_132 : decode c_Md_move 132 = .ok (.iconst 5, 1) := by decide +kernel
theorem d_Md_move_133 : decode c_Md_move 133 = .ok (.iadd, 1) := by decide +kernel
theorem d_Md_move_134 : decode c_Md_move 134 = .ok (.iaload, 1) := by decide +kernel
theorem d_Md_move_135 : decode c_Md_move 135 = .ok (.iload 4, 2) := by decide +kernel
theorem d_Md_move_137 : decode c_Md_move 137 = .ok (.iadd, 1) := by decide +kernel
theorem d_Md_move_138 : decode c_Md_move 138 = .ok (.invokestatic 40, 3) := by decide +kernel
theorem d_Md_move_141 : decode c_Md_move 141 = .ok (.ifCond .ne 5, 3) := by decide +kernel
theorem d_Md_move_144 : decode c_Md_move 144 = .ok (.iconst 0, 1) := by decide +kernel
theorem d_Md_move_145 : decode c_Md_move 145 = .ok (.ireturn, 1) := by decide +kernel
theorem d_Md_move_146 : decode c_Md_move 146 = .ok (.aload_n 0, 1) := by decide +kernel
theorem d_Md_move_147 : decode c_Md_move 147 = .ok (.getfield 13, 3) := by decide +kernel
theorem d_Md_move_150 : decode c_Md_move 150 = .ok (.iload_n 1, 1) := by decide +kernel
theorem d_Md_move_151 : decode c_Md_move 151 = .ok (.baload, 1) := by decide +kernel
theorem d_Md_move_152 : decode c_Md_move 152 = .ok (.istore 6, 2) := by decide +kernel
theorem d_Md_move_154 : decode c_Md_move 154 = .ok (.aload_n 0, 1) := by decide +kernel
theorem d_Md_move_155 : decode c_Md_move 155 = .ok (.iload_n 1, 1) := by decide +kernel
theorem d_Md_move_156 : decode c_Md_move 156 = .ok (.aload_n 0, 1) := by decide +kernel
theorem d_Md_move_157 : decode c_Md_move 157 = .ok (.getfield 7, 3) := by decide +kernel
theorem d_Md_move_160 : decode c_Md_move 160 = .ok (.iload 5, 2) := by decide +kernel
theorem d_Md_move_162 : decode c_Md_move 162 = .ok (.iaload, 1) := by decide +kernel
theorem d_Md_move_163 : decode c_Md_move 163 = .ok (.iload_n 2, 1) := by decide +kernel
theorem d_Md_move_164 : decode c_Md_move 164 = .ok (.iadd, 1) := by decide +kernel
theorem d_Md_move_165 : decode c_Md_move 165 = .ok (.aload_n 0, 1) := by decide +kernel
theorem d_Md_move_166 : decode c_Md_move 166 = .ok (.getfield 7, 3) := by decide +kernel
theorem d_Md_move_169 : decode c_Md_move 169 = .ok (.iload 5, 2) := by decide +kernel
theorem d_Md_move_171 : decode c_Md_move 171 = .ok (.iconst 1, 1) := by decide +kernel
theorem d_Md_move_172 : decode c_Md_move 172 = .ok (.iadd, 1) := by decide +kernel
theorem d_Md_move_173 : decode c_Md_move 173 = .ok (.iaload, 1) := by decide +kernel
theorem d_Md_move_174 : decode c_Md_move 174 = .ok (.iload_n 3, 1) := by decide +kernel
theorem d_Md_move_175 : decode c_Md_move 175 = .ok (.iadd, 1) := by decide +kernel
theorem d_Md_move_176 : decode c_Md_move 176 = .ok (.aload_n 0, 1) := by decide +kernel
theorem d_Md_move_177 : decode c_Md_move 177 = .ok (.getfield 7, 3) := by decide +kernel
theorem d_Md_move_180 : decode c_Md_move 180 = .ok (.iload 5, 2) := by decide +kernel
theorem d_Md_move_182 : decode c_Md_move 182 = .ok (.iconst 2, 1) := by decide +kernel
theorem d_Md_move_183 : decode c_Md_move 183 = .ok (.iadd, 1) := by decide +kernel
theorem d_Md_move_184 : decode c_Md_move 184 = .ok (.iaload, 1) := by decide +kernel
theorem d_Md_move_185 : decode c_Md_move 185 = .ok (.iload 4, 2) := by decide +kernel
theorem d_Md_move_187 : decode c_Md_move 187 = .ok (.iadd, 1) := by decide +kernel
theorem d_Md_move_188 : decode c_Md_move 188 = .ok (.aload_n 0, 1) := by decide +kernel
theorem d_Md_move_189 : decode c_Md_move 189 = .ok (.getfield 7, 3) := by decide +kernel
theorem d_Md_move_192 : decode c_Md_move 192 = .ok (.iload 5, 2) := by decide +kernel
theorem d_Md_move_194 : decode c_Md_move 194 = .ok (.iconst 3, 1) := by decide +kernel
theorem d_Md_move_195 : decode c_Md_move 195 = .ok (.iadd, 1) := by decide +kernel
theorem d_Md_move_196 : decode c_Md_move 196 = .ok (.iaload, 1) := by decide +kernel
theorem d_Md_move_197 : decode c_Md_move 197 = .ok (.iload_n 2, 1) := by decide +kernel
theorem d_Md_move_198 : decode c_Md_move 198 = .ok (.iadd, 1) := by decide +kernel
theorem d_Md_move_199 : decode c_Md_move 199 = .ok (.aload_n 0, 1) := by decide +kernel
theorem d_Md_move_200 : decode c_Md_move 200 = .ok (.getfield 7, 3) := by decide +kernel
theorem d_Md_move_203 : decode c_Md_move 203 = .ok (.iload 5, 2) := by decide +kernel
theorem d_Md_move_205 : decode c_Md_move 205 = .ok (.iconst 4, 1) := by decide +kernel
theorem d_Md_move_206 : decode c_Md_move 206 = .ok (.iadd, 1) := by decide +kernel
theorem d_Md_move_207 : decode c_Md_move 207 = .ok (.iaload, 1) := by decide +kernel
theorem d_Md_move_208 : decode c_Md_move 208 = .ok (.iload_n 3, 1) := by decide +kernel
theorem d_Md_move_209 : decode c_Md_move 209 = .ok (.iadd, 1) := by decide +kernel
theorem d_Md_move_210 : decode c_Md_move 210 = .ok (.aload_n 0, 1) := by decide +kernel
theorem d_Md_move_211 : decode c_Md_move 211 = .ok (.getfield 7, 3) := by decide +kernel
theorem d_Md_move_214 : decode c_Md_move 214 = .ok (.iload 5, 2) := by decide +kernel
theorem d_Md_move_216 : decode c_Md_move 216 = .ok (.iconst 5, 1) := by decide +kernel
theorem d_Md_move_217 : decode c_Md_move 217 = .ok (.iadd, 1) := by decide +kernel
theorem d_Md_move_218 : decode c_Md_move 218 = .ok (.iaload, 1) := by decide +kernel
theorem d_Md_move_219 : decode c_Md_move 219 = .ok (.iload 4, 2) := by decide +kernel
theorem d_Md_move_221 : decode c_Md_move 221 = .ok (.iadd, 1) := by decide +kernel
theorem d_Md_move_222 : decode c_Md_move 222 = .ok (.invokevirtual 47, 3) := by decide +kernel
theorem d_Md_move_225 : decode c_Md_move 225 = .ok (.aload_n 0, 1) := by decide +kernel
theorem d_Md_move_226 : decode c_Md_move 226 = .ok (.getfield 13, 3) := by decide +kernel
theorem d_Md_move_229 : decode c_Md_move 229 = .ok (.iload_n 1, 1) := by decide +kernel
theorem d_Md_move_230 : decode c_Md_move 230 = .ok (.iload 6, 2) := by decide +kernel
theorem d_Md_move_232 : decode c_Md_move 232 = .ok (.bastore, 1) := by decide +kernel
theorem d_Md_move_233 : decode c_Md_move 233 = .ok (.iconst 1, 1) := by decide +kernel
theorem d_Md_move_234 : decode c_Md_move 234 = .ok (.ireturn, 1) := by decide +kernel
theorem d_Md_noBox_0 : decode c_Md_noBox 0 = .ok (.iload_n 1, 1) := by decide +kernel
theorem d_Md_noBox_1 : decode c_Md_noBox 1 = .ok (.ifCond .lt 11, 3) := by decide +kernel
theorem d_Md_noBox_4 : decode c_Md_noBox 4 = .ok (.iload_n 1, 1) := by decide +kernel
theorem d_Md_noBox_5 : decode c_Md_noBox 5 = .ok (.aload_n 0, 1) := by decide +kernel
theorem d_Md_noBox_6 : decode c_Md_noBox 6 = .ok (.getfield 44, 3) := by decide +kernel
theorem d_Md_noBox_9 : decode c_Md_noBox 9 = .ok (.if_icmp .lt 7, 3) := by decide +kernel
theorem d_Md_noBox_12 : decode c_Md_noBox 12 = .ok (.iconst 1, 1) := by decide +kernel
theorem d_Md_noBox_13 : decode c_Md_noBox 13 = .ok (.goto 4, 3) := by decide +kernel
theorem d_Md_noBox_16 : decode c_Md_noBox 16 = .ok (.iconst 0, 1) := by decide +kernel
theorem d_Md_noBox_17 : decode c_Md_noBox 17 = .ok (.ireturn, 1) := by decide +kernel
theorem d_Md_there_0 : decode c_Md_there 0 = .ok (.aload_n 0, 1) := by decide +kernel
theorem d_Md_there_1 : decode c_Md_there 1 = .ok (.aload_n 0, 1) := by decide +kernel
theorem d_Md_there_2 : decode c_Md_there 2 = .ok (.iload_n 1, 1) := by decide +kernel
theorem d_Md_there_3 : decode c_Md_there 3 = .ok (.invokevirtual 51, 3) := by decide +kernel
theorem d_Md_there_6 : decode c_Md_there 6 = .ok (.ifCond .eq 7, 3) := by decide +kernel
theorem d_Md_there_9 : decode c_Md_there 9 = .ok (.iconst 1, 1) := by decide +kernel
theorem d_Md_there_10 : decode c_Md_there 10 = .ok (.goto 4, 3) := by decide +kernel
theorem d_Md_there_13 : decode c_Md_there 13 = .ok (.iconst 0, 1) := by decide +kernel
theorem d_Md_there_14 : decode c_Md_there 14 = .ok (.putfield 33, 3) := by decide +kernel
theorem d_Md_there_17 : decode c_Md_there 17 = .ok (.aload_n 0, 1) := by decide +kernel
theorem d_Md_there_18 : decode c_Md_there 18 = .ok (.getfield 33, 3) := by decide +kernel
theorem d_Md_there_21 : decode c_Md_there 21 = .ok (.ifCond .le 5, 3) := by decide +kernel
theorem d_Md_there_24 : decode c_Md_there 24 = .ok (.iconst 0, 1) := by decide +kernel
theorem d_Md_there_25 : decode c_Md_there 25 = .ok (.ireturn, 1) := by decide +kernel
theorem d_Md_there_26 : decode c_Md_there 26 = .ok (.aload_n 0, 1) := by decide +kernel
theorem d_Md_there_27 : decode c_Md_there 27 = .ok (.getfield 13, 3) := by decide +kernel
theorem d_Md_there_30 : decode c_Md_there 30 = .ok (.iload_n 1, 1) := by decide +kernel
theorem d_Md_there_31 : decode c_Md_there 31 = .ok (.baload, 1) := by decide +kernel
theorem d_Md_there_32 : decode c_Md_there 32 = .ok (.istore_n 3, 1) := by decide +kernel
theorem d_Md_there_33 : decode c_Md_there 33 = .ok (.aload_n 0, 1) := by decide +kernel
theorem d_Md_there_34 : decode c_Md_there 34 = .ok (.getfield 13, 3) := by decide +kernel
theorem d_Md_there_37 : decode c_Md_there 37 = .ok (.iload_n 1, 1) := by decide +kernel
theorem d_Md_there_38 : decode c_Md_there 38 = .ok (.iload_n 2, 1) := by decide +kernel
theorem d_Md_there_39 : decode c_Md_there 39 = .ok (.bastore, 1) := by decide +kernel
theorem d_Md_there_40 : decode c_Md_there 40 = .ok (.iload_n 3, 1) := by decide +kernel
theorem d_Md_there_41 : decode c_Md_there 41 = .ok (.ireturn, 1) := by decide +kernel
theorem d_Md_sun_0 : decode c_Md_sun 0 = .ok (.aload_n 0, 1) := by decide +kernel
theorem d_Md_sun_1 : decode c_Md_sun 1 = .ok (.iload_n 1, 1) := by decide +kernel
theorem d_Md_sun_2 : decode c_Md_sun 2 = .ok (.invokestatic 55, 3) := by decide +kernel
theorem d_Md_sun_5 : decode c_Md_sun 5 = .ok (.ifCond .ne 40, 3) := by decide +kernel
theorem d_Md_sun_8 : decode c_Md_sun 8 = .ok (.iload_n 2, 1) := by decide +kernel
theorem d_Md_sun_9 : decode c_Md_sun 9 = .ok (.sipush (-300), 3) := by decide +kernel
theorem d_Md_sun_12 : decode c_Md_sun 12 = .ok (.sipush 300, 3) := by decide +kernel
theorem d_Md_sun_15 : decode c_Md_sun 15 = .ok (.invokestatic 36, 3) := by decide +kernel
theorem d_Md_sun_18 : decode c_Md_sun 18 = .ok (.ifCond .eq 27, 3) := by decide +kernel
theorem d_Md_sun_21 : decode c_Md_sun 21 = .ok (.iload_n 3, 1) := by decide +kernel
theorem d_Md_sun_22 : decode c_Md_sun 22 = .ok (.sipush (-300), 3) := by decide +kernel
theorem d_Md_sun_25 : decode c_Md_sun 25 = .ok (.sipush 300, 3) := by decide +kernel
theorem d_Md_sun_28 : decode c_Md_sun 28 = .ok (.invokestatic 36, 3) := by decide +kernel
theorem d_Md_sun_31 : decode c_Md_sun 31 = .ok (.ifCond .eq 14, 3) := by decide +kernel
theorem d_Md_sun_34 : decode c_Md_sun 34 = .ok (.iload 4, 2) := by decide +kernel
theorem d_Md_sun_36 : decode c_Md_sun 36 = .ok (.iconst 0, 1) := by decide +kernel
theorem d_Md_sun_37 : decode c_Md_sun 37 = .ok (.bipush 100, 2) := by decide +kernel
theorem d_Md_sun_39 : decode c_Md_sun 39 = .ok (.invokestatic 36, 3) := by decide +kernel
theorem d_Md_sun_42 : decode c_Md_sun 42 = .ok (.ifCond .ne 7, 3) := by decide +kernel
theorem d_Md_sun_45 : decode c_Md_sun 45 = .ok (.iconst 1, 1) := by decide +kernel
theorem d_Md_sun_46 : decode c_Md_sun 46 = .ok (.goto 4, 3) := by decide +kernel
theorem d_Md_sun_49 : decode c_Md_sun 49 = .ok (.iconst 0, 1) := by decide +kernel
theorem d_Md_sun_50 : decode c_Md_sun 50 = .ok (.putfield 33, 3) := by decide +kernel
theorem d_Md_sun_53 : decode c_Md_sun 53 = .ok (.aload_n 0, 1) := by decide +kernel
theorem d_Md_sun_54 : decode c_Md_sun 54 = .ok (.getfield 33, 3) := by decide +kernel
theorem d_Md_sun_57 : decode c_Md_sun 57 = .ok (.ifCond .ne 35, 3) := by decide +kernel
theorem d_Md_sun_60 : decode c_Md_sun 60 = .ok (.aload_n 0, 1) := by decide +kernel
theorem d_Md_sun_61 : decode c_Md_sun 61 = .ok (.getfield 17, 3) := by decide +kernel
theorem d_Md_sun_64 : decode c_Md_sun 64 = .ok (.iconst 3, 1) := by decide +kernel
theorem d_Md_sun_65 : decode c_Md_sun 65 = .ok (.iload_n 1, 1) := by decide +kernel
theorem d_Md_sun_66 : decode c_Md_sun 66 = .ok (.imul, 1) := by decide +kernel
theorem d_Md_sun_67 : decode c_Md_sun 67 = .ok (.iload_n 2, 1) := by decide +kernel
theorem d_Md_sun_68 : decode c_Md_sun 68 = .ok (.iastore, 1) := by decide +kernel
theorem d_Md_sun_69 : decode c_Md_sun 69 = .ok (.aload_n 0, 1) := by decide +kernel
theorem d_Md_sun_70 : decode c_Md_sun 70 = .ok (.getfield 17, 3) := by decide +kernel
theorem d_Md_sun_73 : decode c_Md_sun 73 = .ok (.iconst 3, 1) := by decide +kernel
theorem d_Md_sun_74 : decode c_Md_sun 74 = .ok (.iload_n 1, 1) := by decide +kernel
theorem d_Md_sun_75 : decode c_Md_sun 75 = .ok (.imul, 1) := by decide +kernel
theorem d_Md_sun_76 : decode c_Md_sun 76 = .ok (.iconst 1, 1) := by decide +kernel
theorem d_Md_sun_77 : decode c_Md_sun 77 = .ok (.iadd, 1) := by decide +kernel
theorem d_Md_sun_78 : decode c_Md_sun 78 = .ok (.iload_n 3, 1) := by decide +kernel
theorem d_Md_sun_79 : decode c_Md_sun 79 = .ok (.iastore, 1) := by decide +kernel
theorem d_Md_sun_80 : decode c_Md_sun 80 = .ok (.aload_n 0, 1) := by decide +kernel
theorem d_Md_sun_81 : decode c_Md_sun 81 = .ok (.getfield 17, 3) := by decide +kernel
theorem d_Md_sun_84 : decode c_Md_sun 84 = .ok (.iconst 3, 1) := by decide +kernel
theorem d_Md_sun_85 : decode c_Md_sun 85 = .ok (.iload_n 1, 1) := by decide +kernel
theorem d_Md_sun_86 : decode c_Md_sun 86 = .ok (.imul, 1) := by decide +kernel
theorem d_Md_sun_87 : decode c_Md_sun 87 = .ok (.iconst 2, 1) := by decide +kernel
theorem d_Md_sun_88 : decode c_Md_sun 88 = .ok (.iadd, 1) := by decide +kernel
theorem d_Md_sun_89 : decode c_Md_sun 89 = .ok (.iload 4, 2) := by decide +kernel
theorem d_Md_sun_91 : decode c_Md_sun 91 = .ok (.iastore, 1) := by decide +kernel
theorem d_Md_sun_92 : decode c_Md_sun 92 = .ok (.return_, 1) := by decide +kernel
theorem d_Md_noHour_0 : decode c_Md_noHour 0 = .ok (.iload_n 0, 1) := by decide +kernel
theorem d_Md_noHour_1 : decode c_Md_noHour 1 = .ok (.ifCond .lt 9, 3) := by decide +kernel
theorem d_Md_noHour_4 : decode c_Md_noHour 4 = .ok (.iload_n 0, 1) := by decide +kernel
theorem d_Md_noHour_5 : decode c_Md_noHour 5 = .ok (.bipush 23, 2) := by decide +kernel
theorem d_Md_noHour_7 : decode c_Md_noHour 7 = .ok (.if_icmp .le 7, 3) := by decide +kernel
theorem d_Md_noHour_10 : decode c_Md_noHour 10 = .ok (.iconst 1, 1) := by decide +kernel
theorem d_Md_noHour_11 : decode c_Md_noHour 11 = .ok (.goto 4, 3) := by decide +kernel
theorem d_Md_noHour_14 : decode c_Md_noHour 14 = .ok (.iconst 0, 1) := by decide +kernel
theorem d_Md_noHour_15 : decode c_Md_noHour 15 = .ok (.ireturn, 1) := by decide +kernel
theorem d_Md_light_0 : decode c_Md_light 0 = .ok (.aload_n 0, 1) := by decide +kernel
theorem d_Md_light_1 : decode c_Md_light 1 = .ok (.iload_n 1, 1) := by decide +kernel
theorem d_Md_light_2 : decode c_Md_light 2 = .ok (.invokestatic 55, 3) := by decide +kernel
theorem d_Md_light_5 : decode c_Md_light 5 = .ok (.ifCond .ne 14, 3) := by decide +kernel
theorem d_Md_light_8 : decode c_Md_light 8 = .ok (.iload_n 2, 1) := by decide +kernel
theorem d_Md_light_9 : decode c_Md_light 9 = .ok (.iconst 0, 1) := by decide +kernel
theorem d_Md_light_10 : decode c_Md_light 10 = .ok (.sipush 1000, 3) := by decide +kernel
theorem d_Md_light_13 : decode c_Md_light 13 = .ok (.invokestatic 36, 3) := by decide +kernel
theorem d_Md_light_16 : decode c_Md_light 16 = .ok (.ifCond .ne 7, 3) := by decide +kernel
theorem d_Md_light_19 : decode c_Md_light 19 = .ok (.iconst 1, 1) := by decide +kernel
theorem d_Md_light_20 : decode c_Md_light 20 = .ok (.goto 4, 3) := by decide +kernel
theorem d_Md_light_23 : decode c_Md_light 23 = .ok (.iconst 0, 1) := by decide +kernel
theorem d_Md_light_24 : decode c_Md_light 24 = .ok (.putfield 33, 3) := by decide +kernel
theorem d_Md_light_27 : decode c_Md_light 27 = .ok (.aload_n 0, 1) := by decide +kernel
theorem d_Md_light_28 : decode c_Md_light 28 = .ok (.getfield 33, 3) := by decide +kernel
theorem d_Md_light_31 : decode c_Md_light 31 = .ok (.ifCond .le 5, 3) := by decide +kernel
theorem d_Md_light_34 : decode c_Md_light 34 = .ok (.iconst 0, 1) := by decide +kernel
theorem d_Md_light_35 : decode c_Md_light 35 = .ok (.ireturn, 1) := by decide +kernel
theorem d_Md_light_36 : decode c_Md_light 36 = .ok (.aload_n 0, 1) := by decide +kernel
theorem d_Md_light_37 : decode c_Md_light 37 = .ok (.getfield 20, 3) := by decide +kernel
theorem d_Md_light_40 : decode c_Md_light 40 = .ok (.iload_n 1, 1) := by decide +kernel
theorem d_Md_light_41 : decode c_Md_light 41 = .ok (.iaload, 1) := by decide +kernel
theorem d_Md_light_42 : decode c_Md_light 42 = .ok (.istore_n 3, 1) := by decide +kernel
theorem d_Md_light_43 : decode c_Md_light 43 = .ok (.aload_n 0, 1) := by decide +kernel
theorem d_Md_light_44 : decode c_Md_light 44 = .ok (.getfield 20, 3) := by decide +kernel
theorem d_Md_light_47 : decode c_Md_light 47 = .ok (.iload_n 1, 1) := by decide +kernel
theorem d_Md_light_48 : decode c_Md_light 48 = .ok (.iload_n 2, 1) := by decide +kernel
theorem d_Md_light_49 : decode c_Md_light 49 = .ok (.iastore, 1) := by decide +kernel
theorem d_Md_light_50 : decode c_Md_light 50 = .ok (.iload_n 3, 1) := by decide +kernel
theorem d_Md_light_51 : decode c_Md_light 51 = .ok (.ireturn, 1) := by decide +kernel
theorem d_Md_window_0 : decode c_Md_window 0 = .ok (.iload_n 1, 1) := by decide +kernel
theorem d_Md_window_1 : decode c_Md_window 1 = .ok (.ifCond .lt 39, 3) := by decide +kernel
theorem d_Md_window_4 : decode c_Md_window 4 = .ok (.iload_n 2, 1) := by decide +kernel
theorem d_Md_window_5 : decode c_Md_window 5 = .ok (.ifCond .lt 35, 3) := by decide +kernel
theorem d_Md_window_8 : decode c_Md_window 8 = .ok (.iload_n 3, 1) := by decide +kernel
theorem d_Md_window_9 : decode c_Md_window 9 = .ok (.aload_n 0, 1) := by decide +kernel
theorem d_Md_window_10 : decode c_Md_window 10 = .ok (.getfield 26, 3) := by decide +kernel
theorem d_Md_window_13 : decode c_Md_window 13 = .ok (.if_icmp .gt 27, 3) := by decide +kernel
theorem d_Md_window_16 : decode c_Md_window 16 = .ok (.iload 4, 2) := by decide +kernel
theorem d_Md_window_18 : decode c_Md_window 18 = .ok (.aload_n 0, 1) := by decide +kernel
theorem d_Md_window_19 : decode c_Md_window 19 = .ok (.getfield 30, 3) := by decide +kernel
theorem d_Md_window_22 : decode c_Md_window 22 = .ok (.if_icmp .gt 18, 3) := by decide +kernel
theorem d_Md_window_25 : decode c_Md_window 25 = .ok (.iload_n 1, 1) := by decide +kernel
theorem d_Md_window_26 : decode c_Md_window 26 = .ok (.iload_n 3, 1) := by decide +kernel
theorem d_Md_window_27 : decode c_Md_window 27 = .ok (.if_icmp .ge 13, 3) := by decide +kernel
theorem d_Md_window_30 : decode c_Md_window 30 = .ok (.iload_n 2, 1) := by decide +kernel
theorem d_Md_window_31 : decode c_Md_window 31 = .ok (.iload 4, 2) := by decide +kernel
theorem d_Md_window_33 : decode c_Md_window 33 = .ok (.if_icmp .ge 7, 3) := by decide +kernel
theorem d_Md_window_36 : decode c_Md_window 36 = .ok (.iconst 1, 1) := by decide +kernel
theorem d_Md_window_37 : decode c_Md_window 37 = .ok (.goto 4, 3) := by decide +kernel
theorem d_Md_window_40 : decode c_Md_window 40 = .ok (.iconst 0, 1) := by decide +kernel
theorem d_Md_window_41 : decode c_Md_window 41 = .ok (.istore 5, 2) := by decide +kernel
theorem d_Md_window_43 : decode c_Md_window 43 = .ok (.aload_n 0, 1) := by decide +kernel
theorem d_Md_window_44 : decode c_Md_window 44 = .ok (.iload 5, 2) := by decide +kernel
theorem d_Md_window_46 : decode c_Md_window 46 = .ok (.ifCond .ne 7, 3) := by decide +kernel
theorem d_Md_window_49 : decode c_Md_window 49 = .ok (.iconst 1, 1) := by decide +kernel
theorem d_Md_window_50 : decode c_Md_window 50 = .ok (.goto 17, 3) := by decide +kernel
theorem d_Md_window_53 : decode c_Md_window 53 = .ok (.aload_n 0, 1) := by decide +kernel
theorem d_Md_window_54 : decode c_Md_window 54 = .ok (.getfield 58, 3) := by decide +kernel
theorem d_Md_window_57 : decode c_Md_window 57 = .ok (.bipush 10, 2) := by decide +kernel
theorem d_Md_window_59 : decode c_Md_window 59 = .ok (.if_icmp .ne 7, 3) := by decide +kernel
theorem d_Md_window_62 : decode c_Md_window 62 = .ok (.iconst 2, 1) := by decide +kernel
theorem d_Md_window_63 : decode c_Md_window 63 = .ok (.goto 4, 3) := by decide +kernel
theorem d_Md_window_66 : decode c_Md_window 66 = .ok (.iconst 0, 1) := by decide +kernel
theorem d_Md_window_67 : decode c_Md_window 67 = .ok (.putfield 33, 3) := by decide +kernel
theorem d_Md_window_70 : decode c_Md_window 70 = .ok (.aload_n 0, 1) := by decide +kernel
theorem d_Md_window_71 : decode c_Md_window 71 = .ok (.getfield 33, 3) := by decide +kernel
theorem d_Md_window_74 : decode c_Md_window 74 = .ok (.ifCond .le 5, 3) := by decide +kernel
theorem d_Md_window_77 : decode c_Md_window 77 = .ok (.iconst 0, 1) := by decide +kernel
theorem d_Md_window_78 : decode c_Md_window 78 = .ok (.ireturn, 1) := by decide +kernel
theorem d_Md_window_79 : decode c_Md_window 79 = .ok (.aload_n 0, 1) := by decide +kernel
theorem d_Md_window_80 : decode c_Md_window 80 = .ok (.getfield 23, 3) := by decide +kernel
theorem d_Md_window_83 : decode c_Md_window 83 = .ok (.iconst 4, 1) := by decide +kernel
theorem d_Md_window_84 : decode c_Md_window 84 = .ok (.aload_n 0, 1) := by decide +kernel
theorem d_Md_window_85 : decode c_Md_window 85 = .ok (.getfield 58, 3) := by decide +kernel
theorem d_Md_window_88 : decode c_Md_window 88 = .ok (.imul, 1) := by decide +kernel
theorem d_Md_window_89 : decode c_Md_window 89 = .ok (.iload_n 1, 1) := by decide +kernel
theorem d_Md_window_90 : decode c_Md_window 90 = .ok (.iastore, 1) := by decide +kernel
theorem d_Md_window_91 : decode c_Md_window 91 = .ok (.aload_n 0, 1) := by decide +kernel
theorem d_Md_window_92 : decode c_Md_window 92 = .ok (.getfield 23, 3) := by decide +kernel
theorem d_Md_window_95 : decode c_Md_window 95 = .ok (.iconst 4, 1) := by decide +kernel
theorem d_Md_window_96 : decode c_Md_window 96 = .ok (.aload_n 0, 1) := by decide +kernel
theorem d_Md_window_97 : decode c_Md_window 97 = .ok (.getfield 58, 3) := by decide +kernel
theorem d_Md_window_100 : decode c_Md_window 100 = .ok (.imul, 1) := by decide +kernel
theorem d_Md_window_101 : decode c_Md_window 101 = .ok (.iconst 1, 1) := by decide +kernel
theorem d_Md_window_102 : decode c_Md_window 102 = .ok (.iadd, 1) := by decide +kernel
theorem d_Md_window_103 : decode c_Md_window 103 = .ok (.iload_n 2, 1) := by decide +kernel
theorem d_Md_window_104 : decode c_Md_window 104 = .ok (.iastore, 1) := by decide +kernel
theorem d_Md_window_105 : decode c_Md_window 105 = .ok (.aload_n 0, 1) := by decide +kernel
theorem d_Md_window_106 : decode c_Md_window 106 = .ok (.getfield 23, 3) := by decide +kernel
theorem d_Md_window_109 : decode c_Md_window 109 = .ok (.iconst 4, 1) := by decide +kernel
theorem d_Md_window_110 : decode c_Md_window 110 = .ok (.aload_n 0, 1) := by decide +kernel
theorem d_Md_window_111 : decode c_Md_window 111 = .ok (.getfield 58, 3) := by decide +kernel
theorem d_Md_window_114 : decode c_Md_window 114 = .ok (.imul, 1) := by decide +kernel
theorem d_Md_window_115 : decode c_Md_window 115 = .ok (.iconst 2, 1) := by decide +kernel
theorem d_Md_window_116 : decode c_Md_window 116 = .ok (.iadd, 1) := by decide +kernel
theorem d_Md_window_117 : decode c_Md_window 117 = .ok (.iload_n 3, 1) := by decide +kernel
theorem d_Md_window_118 : decode c_Md_window 118 = .ok (.iastore, 1) := by decide +kernel
theorem d_Md_window_119 : decode c_Md_window 119 = .ok (.aload_n 0, 1) := by decide +kernel
theorem d_Md_window_120 : decode c_Md_window 120 = .ok (.getfield 23, 3) := by decide +kernel
theorem d_Md_window_123 : decode c_Md_window 123 = .ok (.iconst 4, 1) := by decide +kernel
theorem d_Md_window_124 : decode c_Md_window 124 = .ok (.aload_n 0, 1) := by decide +kernel
theorem d_Md_window_125 : decode c_Md_window 125 = .ok (.getfield 58, 3) := by decide +kernel
theorem d_Md_window_128 : decode c_Md_window 128 = .ok (.imul, 1) := by decide +kernel
theorem d_Md_window_129 : decode c_Md_window 129 = .ok (.iconst 3, 1) := by decide +kernel
theorem d_Md_window_130 : decode c_Md_window 130 = .ok (.iadd, 1) := by decide +kernel
theorem d_Md_window_131 : decode c_Md_window 131 = .ok (.iload 4, 2) := by decide +kernel
theorem d_Md_window_133 : decode c_Md_window 133 = .ok (.iastore, 1) := by decide +kernel
theorem d_Md_window_134 : decode c_Md_window 134 = .ok (.aload_n 0, 1) := by decide +kernel
theorem d_Md_window_135 : decode c_Md_window 135 = .ok (.dup, 1) := by decide +kernel
theorem d_Md_window_136 : decode c_Md_window 136 = .ok (.getfield 58, 3) := by decide +kernel
theorem d_Md_window_139 : decode c_Md_window 139 = .ok (.iconst 1, 1) := by decide +kernel
theorem d_Md_window_140 : decode c_Md_window 140 = .ok (.iadd, 1) := by decide +kernel
theorem d_Md_window_141 : decode c_Md_window 141 = .ok (.putfield 58, 3) := by decide +kernel
theorem d_Md_window_144 : decode c_Md_window 144 = .ok (.aload_n 0, 1) := by decide +kernel
theorem d_Md_window_145 : decode c_Md_window 145 = .ok (.getfield 58, 3) := by decide +kernel
theorem d_Md_window_148 : decode c_Md_window 148 = .ok (.iconst 1, 1) := by decide +kernel
theorem d_Md_window_149 : decode c_Md_window 149 = .ok (.isub, 1) := by decide +kernel
theorem d_Md_window_150 : decode c_Md_window 150 = .ok (.ireturn, 1) := by decide +kernel
theorem d_Md_shadow_0 : decode c_Md_shadow 0 = .ok (.aload_n 0, 1) := by decide +kernel
theorem d_Md_shadow_1 : decode c_Md_shadow 1 = .ok (.aload_n 0, 1) := by decide +kernel
theorem d_Md_shadow_2 : decode c_Md_shadow 2 = .ok (.iload_n 1, 1) := by decide +kernel
theorem d_Md_shadow_3 : decode c_Md_shadow 3 = .ok (.iconst 0, 1) := by decide +kernel
theorem d_Md_shadow_4 : decode c_Md_shadow 4 = .ok (.aload_n 0, 1) := by decide +kernel
theorem d_Md_shadow_5 : decode c_Md_shadow 5 = .ok (.getfield 26, 3) := by decide +kernel
theorem d_Md_shadow_8 : decode c_Md_shadow 8 = .ok (.iconst 1, 1) := by decide +kernel
theorem d_Md_shadow_9 : decode c_Md_shadow 9 = .ok (.isub, 1) := by decide +kernel
theorem d_Md_shadow_10 : decode c_Md_shadow 10 = .ok (.invokestatic 36, 3) := by decide +kernel
theorem d_Md_shadow_13 : decode c_Md_shadow 13 = .ok (.ifCond .eq 21, 3) := by decide +kernel
theorem d_Md_shadow_16 : decode c_Md_shadow 16 = .ok (.iload_n 2, 1) := by decide +kernel
theorem d_Md_shadow_17 : decode c_Md_shadow 17 = .ok (.iconst 0, 1) := by decide +kernel
theorem d_Md_shadow_18 : decode c_Md_shadow 18 = .ok (.aload_n 0, 1) := by decide +kernel
theorem d_Md_shadow_19 : decode c_Md_shadow 19 = .ok (.getfield 30, 3) := by decide +kernel
theorem d_Md_shadow_22 : decode c_Md_shadow 22 = .ok (.iconst 1, 1) := by decide +kernel
theorem d_Md_shadow_23 : decode c_Md_shadow 23 = .ok (.isub, 1) := by decide +kernel
theorem d_Md_shadow_24 : decode c_Md_shadow 24 = .ok (.invokestatic 36, 3) := by decide +kernel
theorem d_Md_shadow_27 : decode c_Md_shadow 27 = .ok (.ifCond .eq 7, 3) := by decide +kernel
theorem d_Md_shadow_30 : decode c_Md_shadow 30 = .ok (.iconst 1, 1) := by decide +kernel
theorem d_Md_shadow_31 : decode c_Md_shadow 31 = .ok (.goto 4, 3) := by decide +kernel
theorem d_Md_shadow_34 : decode c_Md_shadow 34 = .ok (.iconst 0, 1) := by decide +kernel
theorem d_Md_shadow_35 : decode c_Md_shadow 35 = .ok (.iload_n 3, 1) := by decide +kernel
theorem d_Md_shadow_36 : decode c_Md_shadow 36 = .ok (.invokevirtual 91, 3) := by decide +kernel
theorem d_Md_shadow_39 : decode c_Md_shadow 39 = .ok (.putfield 33, 3) := by decide +kernel
theorem d_Md_shadow_42 : decode c_Md_shadow 42 = .ok (.aload_n 0, 1) := by decide +kernel
theorem d_Md_shadow_43 : decode c_Md_shadow 43 = .ok (.getfield 33, 3) := by decide +kernel
theorem d_Md_shadow_46 : decode c_Md_shadow 46 = .ok (.ifCond .ne 19, 3) := by decide +kernel
theorem d_Md_shadow_49 : decode c_Md_shadow 49 = .ok (.aload_n 0, 1) := by decide +kernel
theorem d_Md_shadow_50 : decode c_Md_shadow 50 = .ok (.iload_n 1, 1) := by decide +kernel
theorem d_Md_shadow_51 : decode c_Md_shadow 51 = .ok (.iload_n 2, 1) := by decide +kernel
theorem d_Md_shadow_52 : decode c_Md_shadow 52 = .ok (.iload_n 3, 1) := by decide +kernel
theorem d_Md_shadow_53 : decode c_Md_shadow 53 = .ok (.iconst (-1), 1) := by decide +kernel
theorem d_Md_shadow_54 : decode c_Md_shadow 54 = .ok (.iconst 0, 1) := by decide +kernel
theorem d_Md_shadow_55 : decode c_Md_shadow 55 = .ok (.invokevirtual 95, 3) := by decide +kernel
theorem d_Md_shadow_58 : decode c_Md_shadow 58 = .ok (.ifCond .eq 7, 3) := by decide +kernel
theorem d_Md_shadow_61 : decode c_Md_shadow 61 = .ok (.iconst 1, 1) := by decide +kernel
theorem d_Md_shadow_62 : decode c_Md_shadow 62 = .ok (.goto 4, 3) := by decide +kernel
theorem d_Md_shadow_65 : decode c_Md_shadow 65 = .ok (.iconst 0, 1) := by decide +kernel
theorem d_Md_shadow_66 : decode c_Md_shadow 66 = .ok (.ireturn, 1) := by decide +kernel
theorem d_Md_check_0 : decode c_Md_check 0 = .ok (.iload_n 1, 1) := by decide +kernel
theorem d_Md_check_1 : decode c_Md_check 1 = .ok (.ifCond .eq 10, 3) := by decide +kernel
theorem d_Md_check_4 : decode c_Md_check 4 = .ok (.iload_n 2, 1) := by decide +kernel
theorem d_Md_check_5 : decode c_Md_check 5 = .ok (.invokestatic 55, 3) := by decide +kernel
theorem d_Md_check_8 : decode c_Md_check 8 = .ok (.ifCond .eq 7, 3) := by decide +kernel
theorem d_Md_check_11 : decode c_Md_check 11 = .ok (.iconst 1, 1) := by decide +kernel
theorem d_Md_check_12 : decode c_Md_check 12 = .ok (.goto 21, 3) := by decide +kernel
theorem d_Md_check_15 : decode c_Md_check 15 = .ok (.aload_n 0, 1) := by decide +kernel
theorem d_Md_check_16 : decode c_Md_check 16 = .ok (.getfield 17, 3) := by decide +kernel
theorem d_Md_check_19 : decode c_Md_check 19 = .ok (.iconst 3, 1) := by decide +kernel
theorem d_Md_check_20 : decode c_Md_check 20 = .ok (.iload_n 2, 1) := by decide +kernel
theorem d_Md_check_21 : decode c_Md_check 21 = .ok (.imul, 1) := by decide +kernel
theorem d_Md_check_22 : decode c_Md_check 22 = .ok (.iconst 2, 1) := by decide +kernel
theorem d_Md_check_23 : decode c_Md_check 23 = .ok (.iadd, 1) := by decide +kernel
theorem d_Md_check_24 : decode c_Md_check 24 = .ok (.iaload, 1) := by decide +kernel
theorem d_Md_check_25 : decode c_Md_check 25 = .ok (.ifCond .ne 7, 3) := by decide +kernel
theorem d_Md_check_28 : decode c_Md_check 28 = .ok (.iconst 2, 1) := by decide +kernel
theorem d_Md_check_29 : decode c_Md_check 29 = .ok (.goto 4, 3) := by decide +kernel
theorem d_Md_check_32 : decode c_Md_check 32 = .ok (.iconst 0, 1) := by decide +kernel
theorem d_Md_check_33 : decode c_Md_check 33 = .ok (.ireturn, 1) := by decide +kernel
theorem d_Md_isDark_0 : decode c_Md_isDark 0 = .ok (.iload 5, 2) := by decide +kernel
theorem d_Md_isDark_2 : decode c_Md_isDark 2 = .ok (.ifCond .eq 19, 3) := by decide +kernel
theorem d_Md_isDark_5 : decode c_Md_isDark 5 = .ok (.aload_n 0, 1) := by decide +kernel
theorem d_Md_isDark_6 : decode c_Md_isDark 6 = .ok (.bipush 10, 2) := by decide +kernel
theorem d_Md_isDark_8 : decode c_Md_isDark 8 = .ok (.iload_n 1, 1) := by decide +kernel
theorem d_Md_isDark_9 : decode c_Md_isDark 9 = .ok (.iload_n 2, 1) := by decide +kernel
theorem d_Md_isDark_10 : decode c_Md_isDark 10 = .ok (.iload_n 3, 1) := by decide +kernel
theorem d_Md_isDark_11 : decode c_Md_isDark 11 = .ok (.invokevirtual 87, 3) := by decide +kernel
theorem d_Md_isDark_14 : decode c_Md_isDark 14 = .ok (.ifCond .eq 7, 3) := by decide +kernel
theorem d_Md_isDark_17 : decode c_Md_isDark 17 = .ok (.iconst 1, 1) := by decide +kernel
theorem d_Md_isDark_18 : decode c_Md_isDark 18 = .ok (.goto 4, 3) := by decide +kernel
theorem d_Md_isDark_21 : decode c_Md_isDark 21 = .ok (.iconst 0, 1) := by decide +kernel
theorem d_Md_isDark_22 : decode c_Md_isDark 22 = .ok (.istore 6, 2) := by decide +kernel
theorem d_Md_isDark_24 : decode c_Md_isDark 24 = .ok (.iconst 0, 1) := by decide +kernel
theorem d_Md_isDark_25 : decode c_Md_isDark 25 = .ok (.istore 7, 2) := by decide +kernel
theorem d_Md_isDark_27 : decode c_Md_isDark 27 = .ok (.iload 7, 2) := by decide +kernel
theorem d_Md_isDark_29 : decode c_Md_isDark 29 = .ok (.aload_n 0, 1) := by decide +kernel
theorem d_Md_isDark_30 : decode c_Md_isDark 30 = .ok (.getfield 44, 3) := by decide +kernel
theorem d_Md_isDark_33 : decode c_Md_isDark 33 = .ok (.if_icmp .ge 50, 3) := by decide +kernel
theorem d_Md_isDark_36 : decode c_Md_isDark 36 = .ok (.iload 6, 2) := by decide +kernel
theorem d_Md_isDark_38 : decode c_Md_isDark 38 = .ok (.ifCond .ne 45, 3) := by decide +kernel
theorem d_Md_isDark_41 : decode c_Md_isDark 41 = .ok (.aload_n 0, 1) := by decide +kernel
theorem d_Md_isDark_42 : decode c_Md_isDark 42 = .ok (.getfield 13, 3) := by decide +kernel
theorem d_Md_isDark_45 : decode c_Md_isDark 45 = .ok (.iload 7, 2) := by decide +kernel
theorem d_Md_isDark_47 : decode c_Md_isDark 47 = .ok (.baload, 1) := by decide +kernel
theorem d_Md_isDark_48 : decode c_Md_isDark 48 = .ok (.ifCond .eq 26, 3) := by decide +kernel
theorem d_Md_isDark_51 : decode c_Md_isDark 51 = .ok (.iload 7, 2) := by decide +kernel
theorem d_Md_isDark_53 : decode c_Md_isDark 53 = .ok (.iload 4, 2) := by decide +kernel
theorem d_Md_isDark_55 : decode c_Md_isDark 55 = .ok (.if_icmp .eq 19, 3) := by decide +kernel
theorem d_Md_isDark_58 : decode c_Md_isDark 58 = .ok (.aload_n 0, 1) := by decide +kernel
theorem d_Md_isDark_59 : decode c_Md_isDark 59 = .ok (.iload 7, 2) := by decide +kernel
theorem d_Md_isDark_61 : decode c_Md_isDark 61 = .ok (.iload_n 1, 1) := by decide +kernel
theorem d_Md_isDark_62 : decode c_Md_isDark 62 = .ok (.iload_n 2, 1) := by decide +kernel
theorem d_Md_isDark_63 : decode c_Md_isDark 63 = .ok (.iload_n 3, 1) := by decide +kernel
theorem d_Md_isDark_64 : decode c_Md_isDark 64 = .ok (.invokevirtual 87, 3) := by decide +kernel
theorem d_Md_isDark_67 : decode c_Md_isDark 67 = .ok (.ifCond .eq 7, 3) := by decide +kernel
theorem d_Md_isDark_70 : decode c_Md_isDark 70 = .ok (.iconst 1, 1) := by decide +kernel
theorem d_Md_isDark_71 : decode c_Md_isDark 71 = .ok (.goto 4, 3) := by decide +kernel
theorem d_Md_isDark_74 : decode c_Md_isDark 74 = .ok (.iconst 0, 1) := by decide +kernel
theorem d_Md_isDark_75 : decode c_Md_isDark 75 = .ok (.istore 6, 2) := by decide +kernel
theorem d_Md_isDark_77 : decode c_Md_isDark 77 = .ok (.iinc 7 1, 3) := by decide +kernel
theorem d_Md_isDark_80 : decode c_Md_isDark 80 = .ok (.goto (-53), 3) := by decide +kernel
theorem d_Md_isDark_83 : decode c_Md_isDark 83 = .ok (.iload 6, 2) := by decide +kernel
theorem d_Md_isDark_85 : decode c_Md_isDark 85 = .ok (.ireturn, 1) := by decide +kernel
theorem d_Md_throwsOn_0 : decode c_Md_throwsOn 0 = .ok (.aload_n 0, 1) := by decide +kernel
theorem d_Md_throwsOn_1 : decode c_Md_throwsOn 1 = .ok (.getfield 17, 3) := by decide +kernel
theorem d_Md_throwsOn_4 : decode c_Md_throwsOn 4 = .ok (.iconst 3, 1) := by decide +kernel
theorem d_Md_throwsOn_5 : decode c_Md_throwsOn 5 = .ok (.iload 4, 2) := by decide +kernel
theorem d_Md_throwsOn_7 : decode c_Md_throwsOn 7 = .ok (.imul, 1) := by decide +kernel
theorem d_Md_throwsOn_8 : decode c_Md_throwsOn 8 = .ok (.iaload, 1) := by decide +kernel
theorem d_Md_throwsOn_9 : decode c_Md_throwsOn 9 = .ok (.i2l, 1) := by decide +kernel
theorem d_Md_throwsOn_10 : decode c_Md_throwsOn 10 = .ok (.lstore 5, 2) := by decide +kernel
theorem d_Md_throwsOn_12 : decode c_Md_throwsOn 12 = .ok (.aload_n 0, 1) := by decide +kernel
theorem d_Md_throwsOn_13 : decode c_Md_throwsOn 13 = .ok (.getfield 17, 3) := by decide +kernel
theorem d_Md_throwsOn_16 : decode c_Md_throwsOn 16 = .ok (.iconst 3, 1) := by decide +kernel
theorem d_Md_throwsOn_17 : decode c_Md_throwsOn 17 = .ok (.iload 4, 2) := by decide +kernel
theorem d_Md_throwsOn_19 : decode c_Md_throwsOn 19 = .ok (.imul, 1) := by decide +kernel
theorem d_Md_throwsOn_20 : decode c_Md_throwsOn 20 = .ok (.iconst 1, 1) := by decide +kernel
theorem d_Md_throwsOn_21 : decode c_Md_throwsOn 21 = .ok (.iadd, 1) := by decide +kernel
theorem d_Md_throwsOn_22 : decode c_Md_throwsOn 22 = .ok (.iaload, 1) := by decide +kernel
theorem d_Md_throwsOn_23 : decode c_Md_throwsOn 23 = .ok (.i2l, 1) := by decide +kernel
theorem d_Md_throwsOn_24 : decode c_Md_throwsOn 24 = .ok (.lstore 7, 2) := by decide +kernel
theorem d_Md_throwsOn_26 : decode c_Md_throwsOn 26 = .ok (.aload_n 0, 1) := by decide +kernel
theorem d_Md_throwsOn_27 : decode c_Md_throwsOn 27 = .ok (.getfield 17, 3) := by decide +kernel
theorem d_Md_throwsOn_30 : decode c_Md_throwsOn 30 = .ok (.iconst 3, 1) := by decide +kernel
theorem d_Md_throwsOn_31 : decode c_Md_throwsOn 31 = .ok (.iload 4, 2) := by decide +kernel
theorem d_Md_throwsOn_33 : decode c_Md_throwsOn 33 = .ok (.imul, 1) := by decide +kernel
theorem d_Md_throwsOn_34 : decode c_Md_throwsOn 34 = .ok (.iconst 2, 1) := by decide +kernel
theorem d_Md_throwsOn_35 : decode c_Md_throwsOn 35 = .ok (.iadd, 1) := by decide +kernel
theorem d_Md_throwsOn_36 : decode c_Md_throwsOn 36 = .ok (.iaload, 1) := by decide +kernel
theorem d_Md_throwsOn_37 : decode c_Md_throwsOn 37 = .ok (.i2l, 1) := by decide +kernel
theorem d_Md_throwsOn_38 : decode c_Md_throwsOn 38 = .ok (.lstore 9, 2) := by decide +kernel
theorem d_Md_throwsOn_40 : decode c_Md_throwsOn 40 = .ok (.aload_n 0, 1) := by decide +kernel
theorem d_Md_throwsOn_41 : decode c_Md_throwsOn 41 = .ok (.aload_n 0, 1) := by decide +kernel
theorem d_Md_throwsOn_42 : decode c_Md_throwsOn 42 = .ok (.getfield 7, 3) := by decide +kernel
theorem d_Md_throwsOn_45 : decode c_Md_throwsOn 45 = .ok (.bipush 6, 2) := by decide +kernel
theorem d_Md_throwsOn_47 : decode c_Md_throwsOn 47 = .ok (.iload_n 1, 1) := by decide +kernel
theorem d_Md_throwsOn_48 : decode c_Md_throwsOn 48 = .ok (.imul, 1) := by decide +kernel
theorem d_Md_throwsOn_49 : decode c_Md_throwsOn 49 = .ok (.iconst 2, 1) := by decide +kernel
theorem d_Md_throwsOn_50 : decode c_Md_throwsOn 50 = .ok (.iadd, 1) := by decide +kernel
theorem d_Md_throwsOn_51 : decode c_Md_throwsOn 51 = .ok (.iaload, 1) := by decide +kernel
theorem d_Md_throwsOn_52 : decode c_Md_throwsOn 52 = .ok (.i2l, 1) := by decide +kernel
theorem d_Md_throwsOn_53 : decode c_Md_throwsOn 53 = .ok (.putfield 65, 3) := by decide +kernel
theorem d_Md_throwsOn_56 : decode c_Md_throwsOn 56 = .ok (.aload_n 0, 1) := by decide +kernel
theorem d_Md_throwsOn_57 : decode c_Md_throwsOn 57 = .ok (.lconst 1, 1) := by decide +kernel
theorem d_Md_throwsOn_58 : decode c_Md_throwsOn 58 = .ok (.putfield 61, 3) := by decide +kernel
theorem d_Md_throwsOn_61 : decode c_Md_throwsOn 61 = .ok (.aload_n 0, 1) := by decide +kernel
theorem d_Md_throwsOn_62 : decode c_Md_throwsOn 62 = .ok (.aload_n 0, 1) := by decide +kernel
theorem d_Md_throwsOn_63 : decode c_Md_throwsOn 63 = .ok (.getfield 7, 3) := by decide +kernel
theorem d_Md_throwsOn_66 : decode c_Md_throwsOn 66 = .ok (.bipush 6, 2) := by decide +kernel
theorem d_Md_throwsOn_68 : decode c_Md_throwsOn 68 = .ok (.iload_n 1, 1) := by decide +kernel
theorem d_Md_throwsOn_69 : decode c_Md_throwsOn 69 = .ok (.imul, 1) := by decide +kernel
theorem d_Md_throwsOn_70 : decode c_Md_throwsOn 70 = .ok (.iconst 5, 1) := by decide +kernel
theorem d_Md_throwsOn_71 : decode c_Md_throwsOn 71 = .ok (.iadd, 1) := by decide +kernel
theorem d_Md_throwsOn_72 : decode c_Md_throwsOn 72 = .ok (.iaload, 1) := by decide +kernel
theorem d_Md_throwsOn_73 : decode c_Md_throwsOn 73 = .ok (.i2l, 1) := by decide +kernel
theorem d_Md_throwsOn_74 : decode c_Md_throwsOn 74 = .ok (.putfield 71, 3) := by decide +kernel
theorem d_Md_throwsOn_77 : decode c_Md_throwsOn 77 = .ok (.aload_n 0, 1) := by decide +kernel
theorem d_Md_throwsOn_78 : decode c_Md_throwsOn 78 = .ok (.lconst 1, 1) := by decide +kernel
theorem d_Md_throwsOn_79 : decode c_Md_throwsOn 79 = .ok (.putfield 68, 3) := by decide +kernel
theorem d_Md_throwsOn_82 : decode c_Md_throwsOn 82 = .ok (.aload_n 0, 1) := by decide +kernel
theorem d_Md_throwsOn_83 : decode c_Md_throwsOn 83 = .ok (.ldc2_w 81, 3) := by decide +kernel
theorem d_Md_throwsOn_86 : decode c_Md_throwsOn 86 = .ok (.iload_n 2, 1) := by decide +kernel
theorem d_Md_throwsOn_87 : decode c_Md_throwsOn 87 = .ok (.i2l, 1) := by decide +kernel
theorem d_Md_throwsOn_88 : decode c_Md_throwsOn 88 = .ok (.lmul, 1) := by decide +kernel
theorem d_Md_throwsOn_89 : decode c_Md_throwsOn 89 = .ok (.lconst 1, 1) := by decide +kernel
theorem d_Md_throwsOn_90 : decode c_Md_throwsOn 90 = .ok (.ladd, 1) := by decide +kernel
theorem d_Md_throwsOn_91 : decode c_Md_throwsOn 91 = .ok (.lload 9, 2) := by decide +kernel
theorem d_Md_throwsOn_93 : decode c_Md_throwsOn 93 = .ok (.lmul, 1) := by decide +kernel
theorem d_Md_throwsOn_94 : decode c_Md_throwsOn 94 = .ok (.ldc2_w 81, 3) := by decide +kernel
theorem d_Md_throwsOn_97 : decode c_Md_throwsOn 97 = .ok (.lload 5, 2) := by decide +kernel
theorem d_Md_throwsOn_99 : decode c_Md_throwsOn 99 = .ok (.lmul, 1) := by decide +kernel
theorem d_Md_throwsOn_100 : decode c_Md_throwsOn 100 = .ok (.ldc2_w 81, 3) := by decide +kernel
theorem d_Md_throwsOn_103 : decode c_Md_throwsOn 103 = .ok (.lload 9, 2) := by decide +kernel
theorem d_Md_throwsOn_105 : decode c_Md_throwsOn 105 = .ok (.lmul, 1) := by decide +kernel
theorem d_Md_throwsOn_106 : decode c_Md_throwsOn 106 = .ok (.aload_n 0, 1) := by decide +kernel
theorem d_Md_throwsOn_107 : decode c_Md_throwsOn 107 = .ok (.getfield 7, 3) := by decide +kernel
theorem d_Md_throwsOn_110 : decode c_Md_throwsOn 110 = .ok (.bipush 6, 2) := by decide +kernel
theorem d_Md_throwsOn_112 : decode c_Md_throwsOn 112 = .ok (.iload_n 1, 1) := by decide +kernel
theorem d_Md_throwsOn_113 : decode c_Md_throwsOn 113 = .ok (.imul, 1) := by decide +kernel
theorem d_Md_throwsOn_114 : decode c_Md_throwsOn 114 = .ok (.iaload, 1) := by decide +kernel
theorem d_Md_throwsOn_115 : decode c_Md_throwsOn 115 = .ok (.i2l, 1) := by decide +kernel
theorem d_Md_throwsOn_116 : decode c_Md_throwsOn 116 = .ok (.lmul, 1) := by decide +kernel
theorem d_Md_throwsOn_117 : decode c_Md_throwsOn 117 = .ok (.ldc2_w 81, 3) := by decide +kernel
theorem d_Md_throwsOn_120 : decode c_Md_throwsOn 120 = .ok (.lload 9, 2) := by decide +kernel
theorem d_Md_throwsOn_122 : decode c_Md_throwsOn 122 = .ok (.lmul, 1) := by decide +kernel
theorem d_Md_throwsOn_123 : decode c_Md_throwsOn 123 = .ok (.aload_n 0, 1) := by decide +kernel
theorem d_Md_throwsOn_124 : decode c_Md_throwsOn 124 = .ok (.getfield 7, 3) := by decide +kernel
theorem d_Md_throwsOn_127 : decode c_Md_throwsOn 127 = .ok (.bipush 6, 2) := by decide +kernel
theorem d_Md_throwsOn_129 : decode c_Md_throwsOn 129 = .ok (.iload_n 1, 1) := by decide +kernel
theorem d_Md_throwsOn_130 : decode c_Md_throwsOn 130 = .ok (.imul, 1) := by decide +kernel
theorem d_Md_throwsOn_131 : decode c_Md_throwsOn 131 = .ok (.iconst 3, 1) := by decide +kernel
theorem d_Md_throwsOn_132 : decode c_Md_throwsOn 132 = .ok (.iadd, 1) := by decide +kernel
theorem d_Md_throwsOn_133 : decode c_Md_throwsOn 133 = .ok (.iaload, 1) := by decide +kernel
theorem d_Md_throwsOn_134 : decode c_Md_throwsOn 134 = .ok (.i2l, 1) := by decide +kernel
theorem d_Md_throwsOn_135 : decode c_Md_throwsOn 135 = .ok (.lmul, 1) := by decide +kernel
theorem d_Md_throwsOn_136 : decode c_Md_throwsOn 136 = .ok (.invokevirtual 83, 3) := by decide +kernel
theorem d_Md_throwsOn_139 : decode c_Md_throwsOn 139 = .ok (.istore 11, 2) := by decide +kernel
theorem d_Md_throwsOn_141 : decode c_Md_throwsOn 141 = .ok (.iload 11, 2) := by decide +kernel
theorem d_Md_throwsOn_143 : decode c_Md_throwsOn 143 = .ok (.ifCond .eq 69, 3) := by decide +kernel
theorem d_Md_throwsOn_146 : decode c_Md_throwsOn 146 = .ok (.aload_n 0, 1) := by decide +kernel
theorem d_Md_throwsOn_147 : decode c_Md_throwsOn 147 = .ok (.ldc2_w 81, 3) := by decide +kernel
theorem d_Md_throwsOn_150 : decode c_Md_throwsOn 150 = .ok (.iload_n 3, 1) := by decide +kernel
theorem d_Md_throwsOn_151 : decode c_Md_throwsOn 151 = .ok (.i2l, 1) := by decide +kernel
theorem d_Md_throwsOn_152 : decode c_Md_throwsOn 152 = .ok (.lmul, 1) := by decide +kernel
theorem d_Md_throwsOn_153 : decode c_Md_throwsOn 153 = .ok (.lconst 1, 1) := by decide +kernel
theorem d_Md_throwsOn_154 : decode c_Md_throwsOn 154 = .ok (.ladd, 1) := by decide +kernel
theorem d_Md_throwsOn_155 : decode c_Md_throwsOn 155 = .ok (.lload 9, 2) := by decide +kernel
theorem d_Md_throwsOn_157 : decode c_Md_throwsOn 157 = .ok (.lmul, 1) := by decide +kernel
theorem d_Md_throwsOn_158 : decode c_Md_throwsOn 158 = .ok (.ldc2_w 81, 3) := by decide +kernel
theorem d_Md_throwsOn_161 : decode c_Md_throwsOn 161 = .ok (.lload 7, 2) := by decide +kernel
theorem d_Md_throwsOn_163 : decode c_Md_throwsOn 163 = .ok (.lmul, 1) := by decide +kernel
theorem d_Md_throwsOn_164 : decode c_Md_throwsOn 164 = .ok (.ldc2_w 81, 3) := by decide +kernel
theorem d_Md_throwsOn_167 : decode c_Md_throwsOn 167 = .ok (.lload 9, 2) := by decide +kernel
theorem d_Md_throwsOn_169 : decode c_Md_throwsOn 169 = .ok (.lmul, 1) := by decide +kernel
theorem d_Md_throwsOn_170 : decode c_Md_throwsOn 170 = .ok (.aload_n 0, 1) := by decide +kernel
theorem d_Md_throwsOn_171 : decode c_Md_throwsOn 171 = .ok (.getfield 7, 3) := by decide +kernel
theorem d_Md_throwsOn_174 : decode c_Md_throwsOn 174 = .ok (.bipush 6, 2) := by decide +kernel
theorem d_Md_throwsOn_176 : decode c_Md_throwsOn 176 = .ok (.iload_n 1, 1) := by decide +kernel
theorem d_Md_throwsOn_177 : decode c_Md_throwsOn 177 = .ok (.imul, 1) := by decide +kernel
theorem d_Md_throwsOn_178 : decode c_Md_throwsOn 178 = .ok (.iconst 1, 1) := by decide +kernel
theorem d_Md_throwsOn_179 : decode c_Md_throwsOn 179 = .ok (.iadd, 1) := by decide +kernel
theorem d_Md_throwsOn_180 : decode c_Md_throwsOn 180 = .ok (.iaload, 1) := by decide +kernel
theorem d_Md_throwsOn_181 : decode c_Md_throwsOn 181 = .ok (.i2l, 1) := by decide +kernel
theorem d_Md_throwsOn_182 : decode c_Md_throwsOn 182 = .ok (.lmul, 1) := by decide +kernel
theorem d_Md_throwsOn_183 : decode c_Md_throwsOn 183 = .ok (.ldc2_w 81, 3) := by decide +kernel
theorem d_Md_throwsOn_186 : decode c_Md_throwsOn 186 = .ok (.lload 9, 2) := by decide +kernel
theorem d_Md_throwsOn_188 : decode c_Md_throwsOn 188 = .ok (.lmul, 1) := by decide +kernel
theorem d_Md_throwsOn_189 : decode c_Md_throwsOn 189 = .ok (.aload_n 0, 1) := by decide +kernel
theorem d_Md_throwsOn_190 : decode c_Md_throwsOn 190 = .ok (.getfield 7, 3) := by decide +kernel
theorem d_Md_throwsOn_193 : decode c_Md_throwsOn 193 = .ok (.bipush 6, 2) := by decide +kernel
theorem d_Md_throwsOn_195 : decode c_Md_throwsOn 195 = .ok (.iload_n 1, 1) := by decide +kernel
theorem d_Md_throwsOn_196 : decode c_Md_throwsOn 196 = .ok (.imul, 1) := by decide +kernel
theorem d_Md_throwsOn_197 : decode c_Md_throwsOn 197 = .ok (.iconst 4, 1) := by decide +kernel
theorem d_Md_throwsOn_198 : decode c_Md_throwsOn 198 = .ok (.iadd, 1) := by decide +kernel
theorem d_Md_throwsOn_199 : decode c_Md_throwsOn 199 = .ok (.iaload, 1) := by decide +kernel
theorem d_Md_throwsOn_200 : decode c_Md_throwsOn 200 = .ok (.i2l, 1) := by decide +kernel
theorem d_Md_throwsOn_201 : decode c_Md_throwsOn 201 = .ok (.lmul, 1) := by decide +kernel
theorem d_Md_throwsOn_202 : decode c_Md_throwsOn 202 = .ok (.invokevirtual 83, 3) := by decide +kernel
theorem d_Md_throwsOn_205 : decode c_Md_throwsOn 205 = .ok (.ifCond .eq 7, 3) := by decide +kernel
theorem d_Md_throwsOn_208 : decode c_Md_throwsOn 208 = .ok (.iconst 1, 1) := by decide +kernel
theorem d_Md_throwsOn_209 : decode c_Md_throwsOn 209 = .ok (.goto 4, 3) := by decide +kernel
theorem d_Md_throwsOn_212 : decode c_Md_throwsOn 212 = .ok (.iconst 0, 1) := by decide +kernel
theorem d_Md_throwsOn_213 : decode c_Md_throwsOn 213 = .ok (.istore 11, 2) := by decide +kernel
theorem d_Md_throwsOn_215 : decode c_Md_throwsOn 215 = .ok (.iload 11, 2) := by decide +kernel
theorem d_Md_throwsOn_217 : decode c_Md_throwsOn 217 = .ok (.ifCond .eq 29, 3) := by decide +kernel
theorem d_Md_throwsOn_220 : decode c_Md_throwsOn 220 = .ok (.aload_n 0, 1) := by decide +kernel
theorem d_Md_throwsOn_221 : decode c_Md_throwsOn 221 = .ok (.getfield 65, 3) := by decide +kernel
theorem d_Md_throwsOn_224 : decode c_Md_throwsOn 224 = .ok (.aload_n 0, 1) := by decide +kernel
theorem d_Md_throwsOn_225 : decode c_Md_throwsOn 225 = .ok (.getfield 68, 3) := by decide +kernel
theorem d_Md_throwsOn_228 : decode c_Md_throwsOn 228 = .ok (.lmul, 1) := by decide +kernel
theorem d_Md_throwsOn_229 : decode c_Md_throwsOn 229 = .ok (.aload_n 0, 1) := by decide +kernel
theorem d_Md_throwsOn_230 : decode c_Md_throwsOn 230 = .ok (.getfield 71, 3) := by decide +kernel
theorem d_Md_throwsOn_233 : decode c_Md_throwsOn 233 = .ok (.aload_n 0, 1) := by decide +kernel
theorem d_Md_throwsOn_234 : decode c_Md_throwsOn 234 = .ok (.getfield 61, 3) := by decide +kernel
theorem d_Md_throwsOn_237 : decode c_Md_throwsOn 237 = .ok (.lmul, 1) := by decide +kernel
theorem d_Md_throwsOn_238 : decode c_Md_throwsOn 238 = .ok (.lcmp, 1) := by decide +kernel
theorem d_Md_throwsOn_239 : decode c_Md_throwsOn 239 = .ok (.ifCond .gt 7, 3) := by decide +kernel
theorem d_Md_throwsOn_242 : decode c_Md_throwsOn 242 = .ok (.iconst 1, 1) := by decide +kernel
theorem d_Md_throwsOn_243 : decode c_Md_throwsOn 243 = .ok (.goto 4, 3) := by decide +kernel
theorem d_Md_throwsOn_246 : decode c_Md_throwsOn 246 = .ok (.iconst 0, 1) := by decide +kernel
theorem d_Md_throwsOn_247 : decode c_Md_throwsOn 247 = .ok (.ireturn, 1) := by decide +kernel
theorem d_Md_may_0 : decode c_Md_may 0 = .ok (.lload_n 3, 1) := by decide +kernel
theorem d_Md_may_1 : decode c_Md_may 1 = .ok (.lconst 0, 1) := by decide +kernel
theorem d_Md_may_2 : decode c_Md_may 2 = .ok (.lcmp, 1) := by decide +kernel
theorem d_Md_may_3 : decode c_Md_may 3 = .ok (.ifCond .ne 23, 3) := by decide +kernel
theorem d_Md_may_6 : decode c_Md_may 6 = .ok (.lload_n 1, 1) := by decide +kernel
theorem d_Md_may_7 : decode c_Md_may 7 = .ok (.lload 5, 2) := by decide +kernel
theorem d_Md_may_9 : decode c_Md_may 9 = .ok (.lcmp, 1) := by decide +kernel
theorem d_Md_may_10 : decode c_Md_may 10 = .ok (.ifCond .lt 14, 3) := by decide +kernel
theorem d_Md_may_13 : decode c_Md_may 13 = .ok (.lload_n 1, 1) := by decide +kernel
theorem d_Md_may_14 : decode c_Md_may 14 = .ok (.lload 7, 2) := by decide +kernel
theorem d_Md_may_16 : decode c_Md_may 16 = .ok (.lcmp, 1) := by decide +kernel
theorem d_Md_may_17 : decode c_Md_may 17 = .ok (.ifCond .gt 7, 3) := by decide +kernel
theorem d_Md_may_20 : decode c_Md_may 20 = .ok (.iconst 1, 1) := by decide +kernel
theorem d_Md_may_21 : decode c_Md_may 21 = .ok (.goto 4, 3) := by decide +kernel
theorem d_Md_may_24 : decode c_Md_may 24 = .ok (.iconst 0, 1) := by decide +kernel
theorem d_Md_may_25 : decode c_Md_may 25 = .ok (.ireturn, 1) := by decide +kernel
theorem d_Md_may_26 : decode c_Md_may 26 = .ok (.lload_n 3, 1) := by decide +kernel
theorem d_Md_may_27 : decode c_Md_may 27 = .ok (.lconst 0, 1) := by decide +kernel
theorem d_Md_may_28 : decode c_Md_may 28 = .ok (.lcmp, 1) := by decide +kernel
theorem d_Md_may_29 : decode c_Md_may 29 = .ok (.ifCond .le 24, 3) := by decide +kernel
theorem d_Md_may_32 : decode c_Md_may 32 = .ok (.aload_n 0, 1) := by decide +kernel
theorem d_Md_may_33 : decode c_Md_may 33 = .ok (.lload_n 1, 1) := by decide +kernel
theorem d_Md_may_34 : decode c_Md_may 34 = .ok (.lload 7, 2) := by decide +kernel
theorem d_Md_may_36 : decode c_Md_may 36 = .ok (.lsub, 1) := by decide +kernel
theorem d_Md_may_37 : decode c_Md_may 37 = .ok (.lload_n 3, 1) := by decide +kernel
theorem d_Md_may_38 : decode c_Md_may 38 = .ok (.invokevirtual 74, 3) := by decide +kernel
theorem d_Md_may_41 : decode c_Md_may 41 = .ok (.aload_n 0, 1) := by decide +kernel
theorem d_Md_may_42 : decode c_Md_may 42 = .ok (.lload_n 1, 1) := by decide +kernel
theorem d_Md_may_43 : decode c_Md_may 43 = .ok (.lload 5, 2) := by decide +kernel
theorem d_Md_may_45 : decode c_Md_may 45 = .ok (.lsub, 1) := by decide +kernel
theorem d_Md_may_46 : decode c_Md_may 46 = .ok (.lload_n 3, 1) := by decide +kernel
theorem d_Md_may_47 : decode c_Md_may 47 = .ok (.invokevirtual 78, 3) := by decide +kernel
theorem d_Md_may_50 : decode c_Md_may 50 = .ok (.goto 23, 3) := by decide +kernel
theorem d_Md_may_53 : decode c_Md_may 53 = .ok (.aload_n 0, 1) := by decide +kernel
theorem d_Md_may_54 : decode c_Md_may 54 = .ok (.lload 5, 2) := by decide +kernel
theorem d_Md_may_56 : decode c_Md_may 56 = .ok (.lload_n 1, 1) := by decide +kernel
theorem d_Md_may_57 : decode c_Md_may 57 = .ok (.lsub, 1) := by decide +kernel
theorem d_Md_may_58 : decode c_Md_may 58 = .ok (.lload_n 3, 1) := by decide +kernel
theorem d_Md_may_59 : decode c_Md_may 59 = .ok (.lneg, 1) := by decide +kernel
theorem d_Md_may_60 : decode c_Md_may 60 = .ok (.invokevirtual 74, 3) := by decide +kernel
theorem d_Md_may_63 : decode c_Md_may 63 = .ok (.aload_n 0, 1) := by decide +kernel
theorem d_Md_may_64 : decode c_Md_may 64 = .ok (.lload 7, 2) := by decide +kernel
theorem d_Md_may_66 : decode c_Md_may 66 = .ok (.lload_n 1, 1) := by decide +kernel
theorem d_Md_may_67 : decode c_Md_may 67 = .ok (.lsub, 1) := by decide +kernel
theorem d_Md_may_68 : decode c_Md_may 68 = .ok (.lload_n 3, 1) := by decide +kernel
theorem d_Md_may_69 : decode c_Md_may 69 = .ok (.lneg, 1) := by decide +kernel
theorem d_Md_may_70 : decode c_Md_may 70 = .ok (.invokevirtual 78, 3) := by decide +kernel
theorem d_Md_may_73 : decode c_Md_may 73 = .ok (.iconst 1, 1) := by decide +kernel
theorem d_Md_may_74 : decode c_Md_may 74 = .ok (.ireturn, 1) := by decide +kernel
theorem d_Md_atLeast_0 : decode c_Md_atLeast 0 = .ok (.lload_n 1, 1) := by decide +kernel
theorem d_Md_atLeast_1 : decode c_Md_atLeast 1 = .ok (.aload_n 0, 1) := by decide +kernel
theorem d_Md_atLeast_2 : decode c_Md_atLeast 2 = .ok (.getfield 61, 3) := by decide +kernel
theorem d_Md_atLeast_5 : decode c_Md_atLeast 5 = .ok (.lmul, 1) := by decide +kernel
theorem d_Md_atLeast_6 : decode c_Md_atLeast 6 = .ok (.aload_n 0, 1) := by decide +kernel
theorem d_Md_atLeast_7 : decode c_Md_atLeast 7 = .ok (.getfield 65, 3) := by decide +kernel
theorem d_Md_atLeast_10 : decode c_Md_atLeast 10 = .ok (.lload_n 3, 1) := by decide +kernel
theorem d_Md_atLeast_11 : decode c_Md_atLeast 11 = .ok (.lmul, 1) := by decide +kernel
theorem d_Md_atLeast_12 : decode c_Md_atLeast 12 = .ok (.lcmp, 1) := by decide +kernel
theorem d_Md_atLeast_13 : decode c_Md_atLeast 13 = .ok (.ifCond .le 13, 3) := by decide +kernel
theorem d_Md_atLeast_16 : decode c_Md_atLeast 16 = .ok (.aload_n 0, 1) := by decide +kernel
theorem d_Md_atLeast_17 : decode c_Md_atLeast 17 = .ok (.lload_n 1, 1) := by decide +kernel
theorem d_Md_atLeast_18 : decode c_Md_atLeast 18 = .ok (.putfield 65, 3) := by decide +kernel
theorem d_Md_atLeast_21 : decode c_Md_atLeast 21 = .ok (.aload_n 0, 1) := by decide +kernel
theorem d_Md_atLeast_22 : decode c_Md_atLeast 22 = .ok (.lload_n 3, 1) := by decide +kernel
theorem d_Md_atLeast_23 : decode c_Md_atLeast 23 = .ok (.putfield 61, 3) := by decide +kernel
theorem d_Md_atLeast_26 : decode c_Md_atLeast 26 = .ok (.return_, 1) := by decide +kernel
theorem d_Md_atMost_0 : decode c_Md_atMost 0 = .ok (.lload_n 1, 1) := by decide +kernel
theorem d_Md_atMost_1 : decode c_Md_atMost 1 = .ok (.aload_n 0, 1) := by decide +kernel
theorem d_Md_atMost_2 : decode c_Md_atMost 2 = .ok (.getfield 68, 3) := by decide +kernel
theorem d_Md_atMost_5 : decode c_Md_atMost 5 = .ok (.lmul, 1) := by decide +kernel
theorem d_Md_atMost_6 : decode c_Md_atMost 6 = .ok (.aload_n 0, 1) := by decide +kernel
theorem d_Md_atMost_7 : decode c_Md_atMost 7 = .ok (.getfield 71, 3) := by decide +kernel
theorem d_Md_atMost_10 : decode c_Md_atMost 10 = .ok (.lload_n 3, 1) := by decide +kernel
theorem d_Md_atMost_11 : decode c_Md_atMost 11 = .ok (.lmul, 1) := by decide +kernel
theorem d_Md_atMost_12 : decode c_Md_atMost 12 = .ok (.lcmp, 1) := by decide +kernel
theorem d_Md_atMost_13 : decode c_Md_atMost 13 = .ok (.ifCond .ge 13, 3) := by decide +kernel
theorem d_Md_atMost_16 : decode c_Md_atMost 16 = .ok (.aload_n 0, 1) := by decide +kernel
theorem d_Md_atMost_17 : decode c_Md_atMost 17 = .ok (.lload_n 1, 1) := by decide +kernel
theorem d_Md_atMost_18 : decode c_Md_atMost 18 = .ok (.putfield 71, 3) := by decide +kernel
theorem d_Md_atMost_21 : decode c_Md_atMost 21 = .ok (.aload_n 0, 1) := by decide +kernel
theorem d_Md_atMost_22 : decode c_Md_atMost 22 = .ok (.lload_n 3, 1) := by decide +kernel
theorem d_Md_atMost_23 : decode c_Md_atMost 23 = .ok (.putfield 68, 3) := by decide +kernel
theorem d_Md_atMost_26 : decode c_Md_atMost 26 = .ok (.return_, 1) := by decide +kernel
theorem d_Md_shadows_0 : decode c_Md_shadows 0 = .ok (.aload_n 0, 1) := by decide +kernel
theorem d_Md_shadows_1 : decode c_Md_shadows 1 = .ok (.aload_n 0, 1) := by decide +kernel
theorem d_Md_shadows_2 : decode c_Md_shadows 2 = .ok (.iload_n 1, 1) := by decide +kernel
theorem d_Md_shadows_3 : decode c_Md_shadows 3 = .ok (.iconst (-1), 1) := by decide +kernel
theorem d_Md_shadows_4 : decode c_Md_shadows 4 = .ok (.if_icmp .eq 11, 3) := by decide +kernel
theorem d_Md_shadows_7 : decode c_Md_shadows 7 = .ok (.aload_n 0, 1) := by decide +kernel
theorem d_Md_shadows_8 : decode c_Md_shadows 8 = .ok (.iload_n 1, 1) := by decide +kernel
theorem d_Md_shadows_9 : decode c_Md_shadows 9 = .ok (.invokevirtual 51, 3) := by decide +kernel
theorem d_Md_shadows_12 : decode c_Md_shadows 12 = .ok (.ifCond .ne 7, 3) := by decide +kernel
theorem d_Md_shadows_15 : decode c_Md_shadows 15 = .ok (.iconst 1, 1) := by decide +kernel
theorem d_Md_shadows_16 : decode c_Md_shadows 16 = .ok (.goto 4, 3) := by decide +kernel
theorem d_Md_shadows_19 : decode c_Md_shadows 19 = .ok (.iconst 0, 1) := by decide +kernel
theorem d_Md_shadows_20 : decode c_Md_shadows 20 = .ok (.iload_n 2, 1) := by decide +kernel
theorem d_Md_shadows_21 : decode c_Md_shadows 21 = .ok (.invokevirtual 91, 3) := by decide +kernel
theorem d_Md_shadows_24 : decode c_Md_shadows 24 = .ok (.putfield 33, 3) := by decide +kernel
theorem d_Md_shadows_27 : decode c_Md_shadows 27 = .ok (.iconst 0, 1) := by decide +kernel
theorem d_Md_shadows_28 : decode c_Md_shadows 28 = .ok (.istore_n 3, 1) := by decide +kernel
theorem d_Md_shadows_29 : decode c_Md_shadows 29 = .ok (.iconst 0, 1) := by decide +kernel
theorem d_Md_shadows_30 : decode c_Md_shadows 30 = .ok (.istore 4, 2) := by decide +kernel
theorem d_Md_shadows_32 : decode c_Md_shadows 32 = .ok (.iload 4, 2) := by decide +kernel
theorem d_Md_shadows_34 : decode c_Md_shadows 34 = .ok (.aload_n 0, 1) := by decide +kernel
theorem d_Md_shadows_35 : decode c_Md_shadows 35 = .ok (.getfield 26, 3) := by decide +kernel
theorem d_Md_shadows_38 : decode c_Md_shadows 38 = .ok (.aload_n 0, 1) := by decide +kernel
theorem d_Md_shadows_39 : decode c_Md_shadows 39 = .ok (.getfield 30, 3) := by decide +kernel
theorem d_Md_shadows_42 : decode c_Md_shadows 42 = .ok (.imul, 1) := by decide +kernel
theorem d_Md_shadows_43 : decode c_Md_shadows 43 = .ok (.if_icmp .ge 95, 3) := by decide +kernel
theorem d_Md_shadows_46 : decode c_Md_shadows 46 = .ok (.aload_n 0, 1) := by decide +kernel
theorem d_Md_shadows_47 : decode c_Md_shadows 47 = .ok (.getfield 33, 3) := by decide +kernel
theorem d_Md_shadows_50 : decode c_Md_shadows 50 = .ok (.ifCond .ne 88, 3) := by decide +kernel
theorem d_Md_shadows_53 : decode c_Md_shadows 53 = .ok (.iload 4, 2) := by decide +kernel
theorem d_Md_shadows_55 : decode c_Md_shadows 55 = .ok (.aload_n 0, 1) := by decide +kernel
theorem d_Md_shadows_56 : decode c_Md_shadows 56 = .ok (.getfield 26, 3) := by decide +kernel
theorem d_Md_shadows_59 : decode c_Md_shadows 59 = .ok (.irem, 1) := by decide +kernel
theorem d_Md_shadows_60 : decode c_Md_shadows 60 = .ok (.istore 5, 2) := by decide +kernel
theorem d_Md_shadows_62 : decode c_Md_shadows 62 = .ok (.iload 4, 2) := by decide +kernel
theorem d_Md_shadows_64 : decode c_Md_shadows 64 = .ok (.aload_n 0, 1) := by decide +kernel
theorem d_Md_shadows_65 : decode c_Md_shadows 65 = .ok (.getfield 26, 3) := by decide +kernel
theorem d_Md_shadows_68 : decode c_Md_shadows 68 = .ok (.idiv, 1) := by decide +kernel
theorem d_Md_shadows_69 : decode c_Md_shadows 69 = .ok (.istore 6, 2) := by decide +kernel
theorem d_Md_shadows_71 : decode c_Md_shadows 71 = .ok (.iload_n 1, 1) := by decide +kernel
theorem d_Md_shadows_72 : decode c_Md_shadows 72 = .ok (.iconst (-1), 1) := by decide +kernel
theorem d_Md_shadows_73 : decode c_Md_shadows 73 = .ok (.if_icmp .ne 17, 3) := by decide +kernel
theorem d_Md_shadows_76 : decode c_Md_shadows 76 = .ok (.aload_n 0, 1) := by decide +kernel
theorem d_Md_shadows_77 : decode c_Md_shadows 77 = .ok (.iload 5, 2) := by decide +kernel
theorem d_Md_shadows_79 : decode c_Md_shadows 79 = .ok (.iload 6, 2) := by decide +kernel
theorem d_Md_shadows_81 : decode c_Md_shadows 81 = .ok (.iload_n 2, 1) := by decide +kernel
theorem d_Md_shadows_82 : decode c_Md_shadows 82 = .ok (.iconst (-1), 1) := by decide +kernel
theorem d_Md_shadows_83 : decode c_Md_shadows 83 = .ok (.iconst 0, 1) := by decide +kernel
theorem d_Md_shadows_84 : decode c_Md_shadows 84 = .ok (.invokevirtual 95, 3) := by decide +kernel
theorem d_Md_shadows_87 : decode c_Md_shadows 87 = .ok (.goto 30, 3) := by decide +kernel
theorem d_Md_shadows_90 : decode c_Md_shadows 90 = .ok (.aload_n 0, 1) := by decide +kernel
theorem d_Md_shadows_91 : decode c_Md_shadows 91 = .ok (.getfield 13, 3) := by decide +kernel
theorem d_Md_shadows_94 : decode c_Md_shadows 94 = .ok (.iload_n 1, 1) := by decide +kernel
theorem d_Md_shadows_95 : decode c_Md_shadows 95 = .ok (.baload, 1) := by decide +kernel
theorem d_Md_shadows_96 : decode c_Md_shadows 96 = .ok (.ifCond .eq 20, 3) := by decide +kernel
theorem d_Md_shadows_99 : decode c_Md_shadows 99 = .ok (.aload_n 0, 1) := by decide +kernel
theorem d_Md_shadows_100 : decode c_Md_shadows 100 = .ok (.iload_n 1, 1) := by decide +kernel
theorem d_Md_shadows_101 : decode c_Md_shadows 101 = .ok (.iload 5, 2) := by decide +kernel
theorem d_Md_shadows_103 : decode c_Md_shadows 103 = .ok (.iload 6, 2) := by decide +kernel
theorem d_Md_shadows_105 : decode c_Md_shadows 105 = .ok (.iload_n 2, 1) := by decide +kernel
theorem d_Md_shadows_106 : decode c_Md_shadows 106 = .ok (.invokevirtual 87, 3) := by decide +kernel
theorem d_Md_shadows_109 : decode c_Md_shadows 109 = .ok (.ifCond .eq 7, 3) := by decide +kernel
theorem d_Md_shadows_112 : decode c_Md_shadows 112 = .ok (.iconst 1, 1) := by decide +kernel
theorem d_Md_shadows_113 : decode c_Md_shadows 113 = .ok (.goto 4, 3) := by decide +kernel
theorem d_Md_shadows_116 : decode c_Md_shadows 116 = .ok (.iconst 0, 1) := by decide +kernel
theorem d_Md_shadows_117 : decode c_Md_shadows 117 = .ok (.istore 7, 2) := by decide +kernel
theorem d_Md_shadows_119 : decode c_Md_shadows 119 = .ok (.iload 7, 2) := by decide +kernel
theorem d_Md_shadows_121 : decode c_Md_shadows 121 = .ok (.ifCond .eq 9, 3) := by decide +kernel
theorem d_Md_shadows_124 : decode c_Md_shadows 124 = .ok (.iload_n 3, 1) := by decide +kernel
theorem d_Md_shadows_125 : decode c_Md_shadows 125 = .ok (.iconst 1, 1) := by decide +kernel
theorem d_Md_shadows_126 : decode c_Md_shadows 126 = .ok (.iadd, 1) := by decide +kernel
theorem d_Md_shadows_127 : decode c_Md_shadows 127 = .ok (.goto 4, 3) := by decide +kernel
theorem d_Md_shadows_130 : decode c_Md_shadows 130 = .ok (.iload_n 3, 1) := by decide +kernel
theorem d_Md_shadows_131 : decode c_Md_shadows 131 = .ok (.istore_n 3, 1) := by decide +kernel
theorem d_Md_shadows_132 : decode c_Md_shadows 132 = .ok (.iinc 4 1, 3) := by decide +kernel
theorem d_Md_shadows_135 : decode c_Md_shadows 135 = .ok (.goto (-103), 3) := by decide +kernel
theorem d_Md_shadows_138 : decode c_Md_shadows 138 = .ok (.iload_n 3, 1) := by decide +kernel
theorem d_Md_shadows_139 : decode c_Md_shadows 139 = .ok (.ireturn, 1) := by decide +kernel
theorem d_Md_dark_0 : decode c_Md_dark 0 = .ok (.aload_n 0, 1) := by decide +kernel
theorem d_Md_dark_1 : decode c_Md_dark 1 = .ok (.aload_n 0, 1) := by decide +kernel
theorem d_Md_dark_2 : decode c_Md_dark 2 = .ok (.aload_n 0, 1) := by decide +kernel
theorem d_Md_dark_3 : decode c_Md_dark 3 = .ok (.iload_n 1, 1) := by decide +kernel
theorem d_Md_dark_4 : decode c_Md_dark 4 = .ok (.invokevirtual 99, 3) := by decide +kernel
theorem d_Md_dark_7 : decode c_Md_dark 7 = .ok (.ifCond .ne 7, 3) := by decide +kernel
theorem d_Md_dark_10 : decode c_Md_dark 10 = .ok (.iconst 1, 1) := by decide +kernel
theorem d_Md_dark_11 : decode c_Md_dark 11 = .ok (.goto 4, 3) := by decide +kernel
theorem d_Md_dark_14 : decode c_Md_dark 14 = .ok (.iconst 0, 1) := by decide +kernel
theorem d_Md_dark_15 : decode c_Md_dark 15 = .ok (.iload_n 2, 1) := by decide +kernel
theorem d_Md_dark_16 : decode c_Md_dark 16 = .ok (.invokevirtual 91, 3) := by decide +kernel
theorem d_Md_dark_19 : decode c_Md_dark 19 = .ok (.putfield 33, 3) := by decide +kernel
theorem d_Md_dark_22 : decode c_Md_dark 22 = .ok (.aload_n 0, 1) := by decide +kernel
theorem d_Md_dark_23 : decode c_Md_dark 23 = .ok (.getfield 33, 3) := by decide +kernel
theorem d_Md_dark_26 : decode c_Md_dark 26 = .ok (.ifCond .le 7, 3) := by decide +kernel
theorem d_Md_dark_29 : decode c_Md_dark 29 = .ok (.iconst 0, 1) := by decide +kernel
theorem d_Md_dark_30 : decode c_Md_dark 30 = .ok (.goto 11, 3) := by decide +kernel
theorem d_Md_dark_33 : decode c_Md_dark 33 = .ok (.aload_n 0, 1) := by decide +kernel
theorem d_Md_dark_34 : decode c_Md_dark 34 = .ok (.iload_n 1, 1) := by decide +kernel
theorem d_Md_dark_35 : decode c_Md_dark 35 = .ok (.iload_n 2, 1) := by decide +kernel
theorem d_Md_dark_36 : decode c_Md_dark 36 = .ok (.iconst (-1), 1) := by decide +kernel
theorem d_Md_dark_37 : decode c_Md_dark 37 = .ok (.iconst 0, 1) := by decide +kernel
theorem d_Md_dark_38 : decode c_Md_dark 38 = .ok (.invokevirtual 102, 3) := by decide +kernel
theorem d_Md_dark_41 : decode c_Md_dark 41 = .ok (.ireturn, 1) := by decide +kernel
theorem d_Md_noWindow_0 : decode c_Md_noWindow 0 = .ok (.iload_n 1, 1) := by decide +kernel
theorem d_Md_noWindow_1 : decode c_Md_noWindow 1 = .ok (.ifCond .lt 11, 3) := by decide +kernel
theorem d_Md_noWindow_4 : decode c_Md_noWindow 4 = .ok (.iload_n 1, 1) := by decide +kernel
theorem d_Md_noWindow_5 : decode c_Md_noWindow 5 = .ok (.aload_n 0, 1) := by decide +kernel
theorem d_Md_noWindow_6 : decode c_Md_noWindow 6 = .ok (.getfield 58, 3) := by decide +kernel
theorem d_Md_noWindow_9 : decode c_Md_noWindow 9 = .ok (.if_icmp .lt 7, 3) := by decide +kernel
theorem d_Md_noWindow_12 : decode c_Md_noWindow 12 = .ok (.iconst 1, 1) := by decide +kernel
theorem d_Md_noWindow_13 : decode c_Md_noWindow 13 = .ok (.goto 4, 3) := by decide +kernel
theorem d_Md_noWindow_16 : decode c_Md_noWindow 16 = .ok (.iconst 0, 1) := by decide +kernel
theorem d_Md_noWindow_17 : decode c_Md_noWindow 17 = .ok (.ireturn, 1) := by decide +kernel
theorem d_Md_darkOf_0 : decode c_Md_darkOf 0 = .ok (.iconst 0, 1) := by decide +kernel
theorem d_Md_darkOf_1 : decode c_Md_darkOf 1 = .ok (.istore 5, 2) := by decide +kernel
theorem d_Md_darkOf_3 : decode c_Md_darkOf 3 = .ok (.aload_n 0, 1) := by decide +kernel
theorem d_Md_darkOf_4 : decode c_Md_darkOf 4 = .ok (.getfield 23, 3) := by decide +kernel
theorem d_Md_darkOf_7 : decode c_Md_darkOf 7 = .ok (.iconst 4, 1) := by decide +kernel
theorem d_Md_darkOf_8 : decode c_Md_darkOf 8 = .ok (.iload_n 1, 1) := by decide +kernel
theorem d_Md_darkOf_9 : decode c_Md_darkOf 9 = .ok (.imul, 1) := by decide +kernel
theorem d_Md_darkOf_10 : decode c_Md_darkOf 10 = .ok (.iconst 1, 1) := by decide +kernel
theorem d_Md_darkOf_11 : decode c_Md_darkOf 11 = .ok (.iadd, 1) := by decide +kernel
theorem d_Md_darkOf_12 : decode c_Md_darkOf 12 = .ok (.iaload, 1) := by decide +kernel
theorem d_Md_darkOf_13 : decode c_Md_darkOf 13 = .ok (.istore 6, 2) := by decide +kernel
theorem d_Md_darkOf_15 : decode c_Md_darkOf 15 = .ok (.iload 6, 2) := by decide +kernel
theorem d_Md_darkOf_17 : decode c_Md_darkOf 17 = .ok (.aload_n 0, 1) := by decide +kernel
theorem d_Md_darkOf_18 : decode c_Md_darkOf 18 = .ok (.getfield 23, 3) := by decide +kernel
theorem d_Md_darkOf_21 : decode c_Md_darkOf 21 = .ok (.iconst 4, 1) := by decide +kernel
theorem d_Md_darkOf_22 : decode c_Md_darkOf 22 = .ok (.iload_n 1, 1) := by decide +kernel
theorem d_Md_darkOf_23 : decode c_Md_darkOf 23 = .ok (.imul, 1) := by decide +kernel
theorem d_Md_darkOf_24 : decode c_Md_darkOf 24 = .ok (.iconst 3, 1) := by decide +kernel
theorem d_Md_darkOf_25 : decode c_Md_darkOf 25 = .ok (.iadd, 1) := by decide +kernel
theorem d_Md_darkOf_26 : decode c_Md_darkOf 26 = .ok (.iaload, 1) := by decide +kernel
theorem d_Md_darkOf_27 : decode c_Md_darkOf 27 = .ok (.if_icmp .ge 66, 3) := by decide +kernel
theorem d_Md_darkOf_30 : decode c_Md_darkOf 30 = .ok (.aload_n 0, 1) := by decide +kernel
theorem d_Md_darkOf_31 : decode c_Md_darkOf 31 = .ok (.getfield 23, 3) := by decide +kernel
theorem d_Md_darkOf_34 : decode c_Md_darkOf 34 = .ok (.iconst 4, 1) := by decide +kernel
theorem d_Md_darkOf_35 : decode c_Md_darkOf 35 = .ok (.iload_n 1, 1) := by decide +kernel
theorem d_Md_darkOf_36 : decode c_Md_darkOf 36 = .ok (.imul, 1) := by decide +kernel
theorem d_Md_darkOf_37 : decode c_Md_darkOf 37 = .ok (.iaload, 1) := by decide +kernel
theorem d_Md_darkOf_38 : decode c_Md_darkOf 38 = .ok (.istore 7, 2) := by decide +kernel
theorem d_Md_darkOf_40 : decode c_Md_darkOf 40 = .ok (.iload 7, 2) := by decide +kernel
theorem d_Md_darkOf_42 : decode c_Md_darkOf 42 = .ok (.aload_n 0, 1) := by decide +kernel
theorem d_Md_darkOf_43 : decode c_Md_darkOf 43 = .ok (.getfield 23, 3) := by decide +kernel
theorem d_Md_darkOf_46 : decode c_Md_darkOf 46 = .ok (.iconst 4, 1) := by decide +kernel
theorem d_Md_darkOf_47 : decode c_Md_darkOf 47 = .ok (.iload_n 1, 1) := by decide +kernel
theorem d_Md_darkOf_48 : decode c_Md_darkOf 48 = .ok (.imul, 1) := by decide +kernel
theorem d_Md_darkOf_49 : decode c_Md_darkOf 49 = .ok (.iconst 2, 1) := by decide +kernel
theorem d_Md_darkOf_50 : decode c_Md_darkOf 50 = .ok (.iadd, 1) := by decide +kernel
theorem d_Md_darkOf_51 : decode c_Md_darkOf 51 = .ok (.iaload, 1) := by decide +kernel
theorem d_Md_darkOf_52 : decode c_Md_darkOf 52 = .ok (.if_icmp .ge 35, 3) := by decide +kernel
theorem d_Md_darkOf_55 : decode c_Md_darkOf 55 = .ok (.aload_n 0, 1) := by decide +kernel
theorem d_Md_darkOf_56 : decode c_Md_darkOf 56 = .ok (.iload 7, 2) := by decide +kernel
theorem d_Md_darkOf_58 : decode c_Md_darkOf 58 = .ok (.iload 6, 2) := by decide +kernel
theorem d_Md_darkOf_60 : decode c_Md_darkOf 60 = .ok (.iload_n 2, 1) := by decide +kernel
theorem d_Md_darkOf_61 : decode c_Md_darkOf 61 = .ok (.iload_n 3, 1) := by decide +kernel
theorem d_Md_darkOf_62 : decode c_Md_darkOf 62 = .ok (.iload 4, 2) := by decide +kernel
theorem d_Md_darkOf_64 : decode c_Md_darkOf 64 = .ok (.invokevirtual 95, 3) := by decide +kernel
theorem d_Md_darkOf_67 : decode c_Md_darkOf 67 = .ok (.ifCond .eq 10, 3) := by decide +kernel
theorem d_Md_darkOf_70 : decode c_Md_darkOf 70 = .ok (.iload 5, 2) := by decide +kernel
theorem d_Md_darkOf_72 : decode c_Md_darkOf 72 = .ok (.iconst 1, 1) := by decide +kernel
theorem d_Md_darkOf_73 : decode c_Md_darkOf 73 = .ok (.iadd, 1) := by decide +kernel
theorem d_Md_darkOf_74 : decode c_Md_darkOf 74 = .ok (.goto 5, 3) := by decide +kernel
theorem d_Md_darkOf_77 : decode c_Md_darkOf 77 = .ok (.iload 5, 2) := by decide +kernel
theorem d_Md_darkOf_79 : decode c_Md_darkOf 79 = .ok (.istore 5, 2) := by decide +kernel
theorem d_Md_darkOf_81 : decode c_Md_darkOf 81 = .ok (.iinc 7 1, 3) := by decide +kernel
theorem d_Md_darkOf_84 : decode c_Md_darkOf 84 = .ok (.goto (-44), 3) := by decide +kernel
theorem d_Md_darkOf_87 : decode c_Md_darkOf 87 = .ok (.iinc 6 1, 3) := by decide +kernel
theorem d_Md_darkOf_90 : decode c_Md_darkOf 90 = .ok (.goto (-75), 3) := by decide +kernel
theorem d_Md_darkOf_93 : decode c_Md_darkOf 93 = .ok (.iload 5, 2) := by decide +kernel
theorem d_Md_darkOf_95 : decode c_Md_darkOf 95 = .ok (.ireturn, 1) := by decide +kernel
theorem d_Md_cell_0 : decode c_Md_cell 0 = .ok (.aload_n 0, 1) := by decide +kernel
theorem d_Md_cell_1 : decode c_Md_cell 1 = .ok (.aload_n 0, 1) := by decide +kernel
theorem d_Md_cell_2 : decode c_Md_cell 2 = .ok (.iload_n 1, 1) := by decide +kernel
theorem d_Md_cell_3 : decode c_Md_cell 3 = .ok (.ifCond .lt 7, 3) := by decide +kernel
theorem d_Md_cell_6 : decode c_Md_cell 6 = .ok (.iconst 1, 1) := by decide +kernel
theorem d_Md_cell_7 : decode c_Md_cell 7 = .ok (.goto 4, 3) := by decide +kernel
theorem d_Md_cell_10 : decode c_Md_cell 10 = .ok (.iconst 0, 1) := by decide +kernel
theorem d_Md_cell_11 : decode c_Md_cell 11 = .ok (.iload_n 2, 1) := by decide +kernel
theorem d_Md_cell_12 : decode c_Md_cell 12 = .ok (.invokevirtual 91, 3) := by decide +kernel
theorem d_Md_cell_15 : decode c_Md_cell 15 = .ok (.putfield 33, 3) := by decide +kernel
theorem d_Md_cell_18 : decode c_Md_cell 18 = .ok (.iconst 0, 1) := by decide +kernel
theorem d_Md_cell_19 : decode c_Md_cell 19 = .ok (.istore_n 3, 1) := by decide +kernel
theorem d_Md_cell_20 : decode c_Md_cell 20 = .ok (.iconst 0, 1) := by decide +kernel
theorem d_Md_cell_21 : decode c_Md_cell 21 = .ok (.istore 4, 2) := by decide +kernel
theorem d_Md_cell_23 : decode c_Md_cell 23 = .ok (.iload 4, 2) := by decide +kernel
theorem d_Md_cell_25 : decode c_Md_cell 25 = .ok (.aload_n 0, 1) := by decide +kernel
theorem d_Md_cell_26 : decode c_Md_cell 26 = .ok (.getfield 26, 3) := by decide +kernel
theorem d_Md_cell_29 : decode c_Md_cell 29 = .ok (.aload_n 0, 1) := by decide +kernel
theorem d_Md_cell_30 : decode c_Md_cell 30 = .ok (.getfield 30, 3) := by decide +kernel
theorem d_Md_cell_33 : decode c_Md_cell 33 = .ok (.imul, 1) := by decide +kernel
theorem d_Md_cell_34 : decode c_Md_cell 34 = .ok (.if_icmp .ge 67, 3) := by decide +kernel
theorem d_Md_cell_37 : decode c_Md_cell 37 = .ok (.aload_n 0, 1) := by decide +kernel
theorem d_Md_cell_38 : decode c_Md_cell 38 = .ok (.getfield 33, 3) := by decide +kernel
theorem d_Md_cell_41 : decode c_Md_cell 41 = .ok (.ifCond .ne 60, 3) := by decide +kernel
theorem d_Md_cell_44 : decode c_Md_cell 44 = .ok (.aload_n 0, 1) := by decide +kernel
theorem d_Md_cell_45 : decode c_Md_cell 45 = .ok (.iload 4, 2) := by decide +kernel
theorem d_Md_cell_47 : decode c_Md_cell 47 = .ok (.aload_n 0, 1) := by decide +kernel
theorem d_Md_cell_48 : decode c_Md_cell 48 = .ok (.getfield 26, 3) := by decide +kernel
theorem d_Md_cell_51 : decode c_Md_cell 51 = .ok (.irem, 1) := by decide +kernel
theorem d_Md_cell_52 : decode c_Md_cell 52 = .ok (.iload 4, 2) := by decide +kernel
theorem d_Md_cell_54 : decode c_Md_cell 54 = .ok (.aload_n 0, 1) := by decide +kernel
theorem d_Md_cell_55 : decode c_Md_cell 55 = .ok (.getfield 26, 3) := by decide +kernel
theorem d_Md_cell_58 : decode c_Md_cell 58 = .ok (.idiv, 1) := by decide +kernel
theorem d_Md_cell_59 : decode c_Md_cell 59 = .ok (.iload_n 2, 1) := by decide +kernel
theorem d_Md_cell_60 : decode c_Md_cell 60 = .ok (.iconst (-1), 1) := by decide +kernel
theorem d_Md_cell_61 : decode c_Md_cell 61 = .ok (.iconst 0, 1) := by decide +kernel
theorem d_Md_cell_62 : decode c_Md_cell 62 = .ok (.invokevirtual 95, 3) := by decide +kernel
theorem d_Md_cell_65 : decode c_Md_cell 65 = .ok (.ifCond .eq 30, 3) := by decide +kernel
theorem d_Md_cell_68 : decode c_Md_cell 68 = .ok (.iload_n 3, 1) := by decide +kernel
theorem d_Md_cell_69 : decode c_Md_cell 69 = .ok (.iload_n 1, 1) := by decide +kernel
theorem d_Md_cell_70 : decode c_Md_cell 70 = .ok (.if_icmp .ne 22, 3) := by decide +kernel
theorem d_Md_cell_73 : decode c_Md_cell 73 = .ok (.bipush 100, 2) := by decide +kernel
theorem d_Md_cell_75 : decode c_Md_cell 75 = .ok (.iload 4, 2) := by decide +kernel
theorem d_Md_cell_77 : decode c_Md_cell 77 = .ok (.aload_n 0, 1) := by decide +kernel
theorem d_Md_cell_78 : decode c_Md_cell 78 = .ok (.getfield 26, 3) := by decide +kernel
theorem d_Md_cell_81 : decode c_Md_cell 81 = .ok (.idiv, 1) := by decide +kernel
theorem d_Md_cell_82 : decode c_Md_cell 82 = .ok (.imul, 1) := by decide +kernel
theorem d_Md_cell_83 : decode c_Md_cell 83 = .ok (.iload 4, 2) := by decide +kernel
theorem d_Md_cell_85 : decode c_Md_cell 85 = .ok (.aload_n 0, 1) := by decide +kernel
theorem d_Md_cell_86 : decode c_Md_cell 86 = .ok (.getfield 26, 3) := by decide +kernel
theorem d_Md_cell_89 : decode c_Md_cell 89 = .ok (.irem, 1) := by decide +kernel
theorem d_Md_cell_90 : decode c_Md_cell 90 = .ok (.iadd, 1) := by decide +kernel
theorem d_Md_cell_91 : decode c_Md_cell 91 = .ok (.ireturn, 1) := by decide +kernel
theorem d_Md_cell_92 : decode c_Md_cell 92 = .ok (.iinc 3 1, 3) := by decide +kernel
theorem d_Md_cell_95 : decode c_Md_cell 95 = .ok (.iinc 4 1, 3) := by decide +kernel
theorem d_Md_cell_98 : decode c_Md_cell 98 = .ok (.goto (-75), 3) := by decide +kernel
theorem d_Md_cell_101 : decode c_Md_cell 101 = .ok (.aload_n 0, 1) := by decide +kernel
theorem d_Md_cell_102 : decode c_Md_cell 102 = .ok (.getfield 33, 3) := by decide +kernel
theorem d_Md_cell_105 : decode c_Md_cell 105 = .ok (.ifCond .le 7, 3) := by decide +kernel
theorem d_Md_cell_108 : decode c_Md_cell 108 = .ok (.iconst 0, 1) := by decide +kernel
theorem d_Md_cell_109 : decode c_Md_cell 109 = .ok (.goto 4, 3) := by decide +kernel
theorem d_Md_cell_112 : decode c_Md_cell 112 = .ok (.iconst (-1), 1) := by decide +kernel
theorem d_Md_cell_113 : decode c_Md_cell 113 = .ok (.ireturn, 1) := by decide +kernel
theorem d_Md_lit_0 : decode c_Md_lit 0 = .ok (.aload_n 0, 1) := by decide +kernel
theorem d_Md_lit_1 : decode c_Md_lit 1 = .ok (.aload_n 0, 1) := by decide +kernel
theorem d_Md_lit_2 : decode c_Md_lit 2 = .ok (.iload_n 1, 1) := by decide +kernel
theorem d_Md_lit_3 : decode c_Md_lit 3 = .ok (.invokevirtual 99, 3) := by decide +kernel
theorem d_Md_lit_6 : decode c_Md_lit 6 = .ok (.ifCond .ne 15, 3) := by decide +kernel
theorem d_Md_lit_9 : decode c_Md_lit 9 = .ok (.iload_n 2, 1) := by decide +kernel
theorem d_Md_lit_10 : decode c_Md_lit 10 = .ok (.iconst (-1), 1) := by decide +kernel
theorem d_Md_lit_11 : decode c_Md_lit 11 = .ok (.if_icmp .eq 14, 3) := by decide +kernel
theorem d_Md_lit_14 : decode c_Md_lit 14 = .ok (.iload_n 2, 1) := by decide +kernel
theorem d_Md_lit_15 : decode c_Md_lit 15 = .ok (.invokestatic 55, 3) := by decide +kernel
theorem d_Md_lit_18 : decode c_Md_lit 18 = .ok (.ifCond .eq 7, 3) := by decide +kernel
theorem d_Md_lit_21 : decode c_Md_lit 21 = .ok (.iconst 1, 1) := by decide +kernel
theorem d_Md_lit_22 : decode c_Md_lit 22 = .ok (.goto 4, 3) := by decide +kernel
theorem d_Md_lit_25 : decode c_Md_lit 25 = .ok (.iconst 0, 1) := by decide +kernel
theorem d_Md_lit_26 : decode c_Md_lit 26 = .ok (.putfield 33, 3) := by decide +kernel
theorem d_Md_lit_29 : decode c_Md_lit 29 = .ok (.aload_n 0, 1) := by decide +kernel
theorem d_Md_lit_30 : decode c_Md_lit 30 = .ok (.getfield 33, 3) := by decide +kernel
theorem d_Md_lit_33 : decode c_Md_lit 33 = .ok (.ifCond .le 7, 3) := by decide +kernel
theorem d_Md_lit_36 : decode c_Md_lit 36 = .ok (.iconst 0, 1) := by decide +kernel
theorem d_Md_lit_37 : decode c_Md_lit 37 = .ok (.goto 24, 3) := by decide +kernel
theorem d_Md_lit_40 : decode c_Md_lit 40 = .ok (.iload_n 2, 1) := by decide +kernel
theorem d_Md_lit_41 : decode c_Md_lit 41 = .ok (.iconst (-1), 1) := by decide +kernel
theorem d_Md_lit_42 : decode c_Md_lit 42 = .ok (.if_icmp .ne 12, 3) := by decide +kernel
theorem d_Md_lit_45 : decode c_Md_lit 45 = .ok (.aload_n 0, 1) := by decide +kernel
theorem d_Md_lit_46 : decode c_Md_lit 46 = .ok (.iload_n 1, 1) := by decide +kernel
theorem d_Md_lit_47 : decode c_Md_lit 47 = .ok (.iconst (-1), 1) := by decide +kernel
theorem d_Md_lit_48 : decode c_Md_lit 48 = .ok (.invokevirtual 110, 3) := by decide +kernel
theorem d_Md_lit_51 : decode c_Md_lit 51 = .ok (.goto 10, 3) := by decide +kernel
theorem d_Md_lit_54 : decode c_Md_lit 54 = .ok (.aload_n 0, 1) := by decide +kernel
theorem d_Md_lit_55 : decode c_Md_lit 55 = .ok (.iload_n 1, 1) := by decide +kernel
theorem d_Md_lit_56 : decode c_Md_lit 56 = .ok (.iload_n 2, 1) := by decide +kernel
theorem d_Md_lit_57 : decode c_Md_lit 57 = .ok (.iconst (-1), 1) := by decide +kernel
theorem d_Md_lit_58 : decode c_Md_lit 58 = .ok (.invokevirtual 106, 3) := by decide +kernel
theorem d_Md_lit_61 : decode c_Md_lit 61 = .ok (.ireturn, 1) := by decide +kernel
theorem d_Md_day_0 : decode c_Md_day 0 = .ok (.iconst 0, 1) := by decide +kernel
theorem d_Md_day_1 : decode c_Md_day 1 = .ok (.istore_n 3, 1) := by decide +kernel
theorem d_Md_day_2 : decode c_Md_day 2 = .ok (.iconst 0, 1) := by decide +kernel
theorem d_Md_day_3 : decode c_Md_day 3 = .ok (.istore 4, 2) := by decide +kernel
theorem d_Md_day_5 : decode c_Md_day 5 = .ok (.iload 4, 2) := by decide +kernel
theorem d_Md_day_7 : decode c_Md_day 7 = .ok (.bipush 24, 2) := by decide +kernel
theorem d_Md_day_9 : decode c_Md_day 9 = .ok (.if_icmp .ge 20, 3) := by decide +kernel
theorem d_Md_day_12 : decode c_Md_day 12 = .ok (.iload_n 3, 1) := by decide +kernel
theorem d_Md_day_13 : decode c_Md_day 13 = .ok (.aload_n 0, 1) := by decide +kernel
theorem d_Md_day_14 : decode c_Md_day 14 = .ok (.iload_n 1, 1) := by decide +kernel
theorem d_Md_day_15 : decode c_Md_day 15 = .ok (.iload 4, 2) := by decide +kernel
theorem d_Md_day_17 : decode c_Md_day 17 = .ok (.iload_n 2, 1) := by decide +kernel
theorem d_Md_day_18 : decode c_Md_day 18 = .ok (.invokevirtual 106, 3) := by decide +kernel
theorem d_Md_day_21 : decode c_Md_day 21 = .ok (.iadd, 1) := by decide +kernel
theorem d_Md_day_22 : decode c_Md_day 22 = .ok (.istore_n 3, 1) := by decide +kernel
theorem d_Md_day_23 : decode c_Md_day 23 = .ok (.iinc 4 1, 3) := by decide +kernel
theorem d_Md_day_26 : decode c_Md_day 26 = .ok (.goto (-21), 3) := by decide +kernel
theorem d_Md_day_29 : decode c_Md_day 29 = .ok (.iload_n 3, 1) := by decide +kernel
theorem d_Md_day_30 : decode c_Md_day 30 = .ok (.ireturn, 1) := by decide +kernel
theorem d_Md_litIn_0 : decode c_Md_litIn 0 = .ok (.aload_n 0, 1) := by decide +kernel
theorem d_Md_litIn_1 : decode c_Md_litIn 1 = .ok (.getfield 17, 3) := by decide +kernel
theorem d_Md_litIn_4 : decode c_Md_litIn 4 = .ok (.iconst 3, 1) := by decide +kernel
theorem d_Md_litIn_5 : decode c_Md_litIn 5 = .ok (.iload_n 2, 1) := by decide +kernel
theorem d_Md_litIn_6 : decode c_Md_litIn 6 = .ok (.imul, 1) := by decide +kernel
theorem d_Md_litIn_7 : decode c_Md_litIn 7 = .ok (.iconst 2, 1) := by decide +kernel
theorem d_Md_litIn_8 : decode c_Md_litIn 8 = .ok (.iadd, 1) := by decide +kernel
theorem d_Md_litIn_9 : decode c_Md_litIn 9 = .ok (.iaload, 1) := by decide +kernel
theorem d_Md_litIn_10 : decode c_Md_litIn 10 = .ok (.ifCond .eq 12, 3) := by decide +kernel
theorem d_Md_litIn_13 : decode c_Md_litIn 13 = .ok (.aload_n 0, 1) := by decide +kernel
theorem d_Md_litIn_14 : decode c_Md_litIn 14 = .ok (.getfield 20, 3) := by decide +kernel
theorem d_Md_litIn_17 : decode c_Md_litIn 17 = .ok (.iload_n 2, 1) := by decide +kernel
theorem d_Md_litIn_18 : decode c_Md_litIn 18 = .ok (.iaload, 1) := by decide +kernel
theorem d_Md_litIn_19 : decode c_Md_litIn 19 = .ok (.ifCond .ne 5, 3) := by decide +kernel
theorem d_Md_litIn_22 : decode c_Md_litIn 22 = .ok (.iconst 0, 1) := by decide +kernel
theorem d_Md_litIn_23 : decode c_Md_litIn 23 = .ok (.ireturn, 1) := by decide +kernel
theorem d_Md_litIn_24 : decode c_Md_litIn 24 = .ok (.aload_n 0, 1) := by decide +kernel
theorem d_Md_litIn_25 : decode c_Md_litIn 25 = .ok (.getfield 23, 3) := by decide +kernel
theorem d_Md_litIn_28 : decode c_Md_litIn 28 = .ok (.iconst 4, 1) := by decide +kernel
theorem d_Md_litIn_29 : decode c_Md_litIn 29 = .ok (.iload_n 1, 1) := by decide +kernel
theorem d_Md_litIn_30 : decode c_Md_litIn 30 = .ok (.imul, 1) := by decide +kernel
theorem d_Md_litIn_31 : decode c_Md_litIn 31 = .ok (.iconst 2, 1) := by decide +kernel
theorem d_Md_litIn_32 : decode c_Md_litIn 32 = .ok (.iadd, 1) := by decide +kernel
theorem d_Md_litIn_33 : decode c_Md_litIn 33 = .ok (.iaload, 1) := by decide +kernel
theorem d_Md_litIn_34 : decode c_Md_litIn 34 = .ok (.aload_n 0, 1) := by decide +kernel
theorem d_Md_litIn_35 : decode c_Md_litIn 35 = .ok (.getfield 23, 3) := by decide +kernel
theorem d_Md_litIn_38 : decode c_Md_litIn 38 = .ok (.iconst 4, 1) := by decide +kernel
theorem d_Md_litIn_39 : decode c_Md_litIn 39 = .ok (.iload_n 1, 1) := by decide +kernel
theorem d_Md_litIn_40 : decode c_Md_litIn 40 = .ok (.imul, 1) := by decide +kernel
theorem d_Md_litIn_41 : decode c_Md_litIn 41 = .ok (.iaload, 1) := by decide +kernel
theorem d_Md_litIn_42 : decode c_Md_litIn 42 = .ok (.isub, 1) := by decide +kernel
theorem d_Md_litIn_43 : decode c_Md_litIn 43 = .ok (.aload_n 0, 1) := by decide +kernel
theorem d_Md_litIn_44 : decode c_Md_litIn 44 = .ok (.getfield 23, 3) := by decide +kernel
theorem d_Md_litIn_47 : decode c_Md_litIn 47 = .ok (.iconst 4, 1) := by decide +kernel
theorem d_Md_litIn_48 : decode c_Md_litIn 48 = .ok (.iload_n 1, 1) := by decide +kernel
theorem d_Md_litIn_49 : decode c_Md_litIn 49 = .ok (.imul, 1) := by decide +kernel
theorem d_Md_litIn_50 : decode c_Md_litIn 50 = .ok (.iconst 3, 1) := by decide +kernel
theorem d_Md_litIn_51 : decode c_Md_litIn 51 = .ok (.iadd, 1) := by decide +kernel
theorem d_Md_litIn_52 : decode c_Md_litIn 52 = .ok (.iaload, 1) := by decide +kernel
theorem d_Md_litIn_53 : decode c_Md_litIn 53 = .ok (.aload_n 0, 1) := by decide +kernel
theorem d_Md_litIn_54 : decode c_Md_litIn 54 = .ok (.getfield 23, 3) := by decide +kernel
theorem d_Md_litIn_57 : decode c_Md_litIn 57 = .ok (.iconst 4, 1) := by decide +kernel
theorem d_Md_litIn_58 : decode c_Md_litIn 58 = .ok (.iload_n 1, 1) := by decide +kernel
theorem d_Md_litIn_59 : decode c_Md_litIn 59 = .ok (.imul, 1) := by decide +kernel
theorem d_Md_litIn_60 : decode c_Md_litIn 60 = .ok (.iconst 1, 1) := by decide +kernel
theorem d_Md_litIn_61 : decode c_Md_litIn 61 = .ok (.iadd, 1) := by decide +kernel
theorem d_Md_litIn_62 : decode c_Md_litIn 62 = .ok (.iaload, 1) := by decide +kernel
theorem d_Md_litIn_63 : decode c_Md_litIn 63 = .ok (.isub, 1) := by decide +kernel
theorem d_Md_litIn_64 : decode c_Md_litIn 64 = .ok (.imul, 1) := by decide +kernel
theorem d_Md_litIn_65 : decode c_Md_litIn 65 = .ok (.istore 4, 2) := by decide +kernel
theorem d_Md_litIn_67 : decode c_Md_litIn 67 = .ok (.aload_n 0, 1) := by decide +kernel
theorem d_Md_litIn_68 : decode c_Md_litIn 68 = .ok (.getfield 20, 3) := by decide +kernel
theorem d_Md_litIn_71 : decode c_Md_litIn 71 = .ok (.iload_n 2, 1) := by decide +kernel
theorem d_Md_litIn_72 : decode c_Md_litIn 72 = .ok (.iaload, 1) := by decide +kernel
theorem d_Md_litIn_73 : decode c_Md_litIn 73 = .ok (.iload 4, 2) := by decide +kernel
theorem d_Md_litIn_75 : decode c_Md_litIn 75 = .ok (.aload_n 0, 1) := by decide +kernel
theorem d_Md_litIn_76 : decode c_Md_litIn 76 = .ok (.iload_n 1, 1) := by decide +kernel
theorem d_Md_litIn_77 : decode c_Md_litIn 77 = .ok (.iload_n 2, 1) := by decide +kernel
theorem d_Md_litIn_78 : decode c_Md_litIn 78 = .ok (.iload_n 3, 1) := by decide +kernel
theorem d_Md_litIn_79 : decode c_Md_litIn 79 = .ok (.iconst 0, 1) := by decide +kernel
theorem d_Md_litIn_80 : decode c_Md_litIn 80 = .ok (.invokevirtual 102, 3) := by decide +kernel
theorem d_Md_litIn_83 : decode c_Md_litIn 83 = .ok (.isub, 1) := by decide +kernel
theorem d_Md_litIn_84 : decode c_Md_litIn 84 = .ok (.imul, 1) := by decide +kernel
theorem d_Md_litIn_85 : decode c_Md_litIn 85 = .ok (.ireturn, 1) := by decide +kernel
theorem d_Md_brightest_0 : decode c_Md_brightest 0 = .ok (.aload_n 0, 1) := by decide +kernel
theorem d_Md_brightest_1 : decode c_Md_brightest 1 = .ok (.aload_n 0, 1) := by decide +kernel
theorem d_Md_brightest_2 : decode c_Md_brightest 2 = .ok (.iload_n 1, 1) := by decide +kernel
theorem d_Md_brightest_3 : decode c_Md_brightest 3 = .ok (.invokevirtual 99, 3) := by decide +kernel
theorem d_Md_brightest_6 : decode c_Md_brightest 6 = .ok (.ifCond .eq 7, 3) := by decide +kernel
theorem d_Md_brightest_9 : decode c_Md_brightest 9 = .ok (.iconst 1, 1) := by decide +kernel
theorem d_Md_brightest_10 : decode c_Md_brightest 10 = .ok (.goto 4, 3) := by decide +kernel
theorem d_Md_brightest_13 : decode c_Md_brightest 13 = .ok (.iconst 0, 1) := by decide +kernel
theorem d_Md_brightest_14 : decode c_Md_brightest 14 = .ok (.putfield 33, 3) := by decide +kernel
theorem d_Md_brightest_17 : decode c_Md_brightest 17 = .ok (.iconst (-1), 1) := by decide +kernel
theorem d_Md_brightest_18 : decode c_Md_brightest 18 = .ok (.istore_n 2, 1) := by decide +kernel
theorem d_Md_brightest_19 : decode c_Md_brightest 19 = .ok (.iconst 0, 1) := by decide +kernel
theorem d_Md_brightest_20 : decode c_Md_brightest 20 = .ok (.istore_n 3, 1) := by decide +kernel
theorem d_Md_brightest_21 : decode c_Md_brightest 21 = .ok (.iconst 0, 1) := by decide +kernel
theorem d_Md_brightest_22 : decode c_Md_brightest 22 = .ok (.istore 4, 2) := by decide +kernel
theorem d_Md_brightest_24 : decode c_Md_brightest 24 = .ok (.iload 4, 2) := by decide +kernel
theorem d_Md_brightest_26 : decode c_Md_brightest 26 = .ok (.bipush 24, 2) := by decide +kernel
theorem d_Md_brightest_28 : decode c_Md_brightest 28 = .ok (.if_icmp .ge 52, 3) := by decide +kernel
theorem d_Md_brightest_31 : decode c_Md_brightest 31 = .ok (.aload_n 0, 1) := by decide +kernel
theorem d_Md_brightest_32 : decode c_Md_brightest 32 = .ok (.getfield 33, 3) := by decide +kernel
theorem d_Md_brightest_35 : decode c_Md_brightest 35 = .ok (.ifCond .ne 45, 3) := by decide +kernel
theorem d_Md_brightest_38 : decode c_Md_brightest 38 = .ok (.aload_n 0, 1) := by decide +kernel
theorem d_Md_brightest_39 : decode c_Md_brightest 39 = .ok (.iload_n 1, 1) := by decide +kernel
theorem d_Md_brightest_40 : decode c_Md_brightest 40 = .ok (.iload 4, 2) := by decide +kernel
theorem d_Md_brightest_42 : decode c_Md_brightest 42 = .ok (.iconst (-1), 1) := by decide +kernel
theorem d_Md_brightest_43 : decode c_Md_brightest 43 = .ok (.invokevirtual 106, 3) := by decide +kernel
theorem d_Md_brightest_46 : decode c_Md_brightest 46 = .ok (.istore 5, 2) := by decide +kernel
theorem d_Md_brightest_48 : decode c_Md_brightest 48 = .ok (.iload 5, 2) := by decide +kernel
theorem d_Md_brightest_50 : decode c_Md_brightest 50 = .ok (.iload_n 3, 1) := by decide +kernel
theorem d_Md_brightest_51 : decode c_Md_brightest 51 = .ok (.if_icmp .le 8, 3) := by decide +kernel
theorem d_Md_brightest_54 : decode c_Md_brightest 54 = .ok (.iload 4, 2) := by decide +kernel
theorem d_Md_brightest_56 : decode c_Md_brightest 56 = .ok (.goto 4, 3) := by decide +kernel
theorem d_Md_brightest_59 : decode c_Md_brightest 59 = .ok (.iload_n 2, 1) := by decide +kernel
theorem d_Md_brightest_60 : decode c_Md_brightest 60 = .ok (.istore_n 2, 1) := by decide +kernel
theorem d_Md_brightest_61 : decode c_Md_brightest 61 = .ok (.iload 5, 2) := by decide +kernel
theorem d_Md_brightest_63 : decode c_Md_brightest 63 = .ok (.iload_n 3, 1) := by decide +kernel
theorem d_Md_brightest_64 : decode c_Md_brightest 64 = .ok (.if_icmp .le 8, 3) := by decide +kernel
theorem d_Md_brightest_67 : decode c_Md_brightest 67 = .ok (.iload 5, 2) := by decide +kernel
theorem d_Md_brightest_69 : decode c_Md_brightest 69 = .ok (.goto 4, 3) := by decide +kernel
theorem d_Md_brightest_72 : decode c_Md_brightest 72 = .ok (.iload_n 3, 1) := by decide +kernel
theorem d_Md_brightest_73 : decode c_Md_brightest 73 = .ok (.istore_n 3, 1) := by decide +kernel
theorem d_Md_brightest_74 : decode c_Md_brightest 74 = .ok (.iinc 4 1, 3) := by decide +kernel
theorem d_Md_brightest_77 : decode c_Md_brightest 77 = .ok (.goto (-53), 3) := by decide +kernel
theorem d_Md_brightest_80 : decode c_Md_brightest 80 = .ok (.aload_n 0, 1) := by decide +kernel
theorem d_Md_brightest_81 : decode c_Md_brightest 81 = .ok (.getfield 33, 3) := by decide +kernel
theorem d_Md_brightest_84 : decode c_Md_brightest 84 = .ok (.ifCond .le 7, 3) := by decide +kernel
theorem d_Md_brightest_87 : decode c_Md_brightest 87 = .ok (.iconst 0, 1) := by decide +kernel
theorem d_Md_brightest_88 : decode c_Md_brightest 88 = .ok (.goto 4, 3) := by decide +kernel
theorem d_Md_brightest_91 : decode c_Md_brightest 91 = .ok (.iload_n 2, 1) := by decide +kernel
theorem d_Md_brightest_92 : decode c_Md_brightest 92 = .ok (.ireturn, 1) := by decide +kernel
theorem d_Md_ledge_0 : decode c_Md_ledge 0 = .ok (.aload_n 0, 1) := by decide +kernel
theorem d_Md_ledge_1 : decode c_Md_ledge 1 = .ok (.aload_n 0, 1) := by decide +kernel
theorem d_Md_ledge_2 : decode c_Md_ledge 2 = .ok (.aload_n 0, 1) := by decide +kernel
theorem d_Md_ledge_3 : decode c_Md_ledge 3 = .ok (.iload_n 1, 1) := by decide +kernel
theorem d_Md_ledge_4 : decode c_Md_ledge 4 = .ok (.invokevirtual 99, 3) := by decide +kernel
theorem d_Md_ledge_7 : decode c_Md_ledge 7 = .ok (.ifCond .ne 17, 3) := by decide +kernel
theorem d_Md_ledge_10 : decode c_Md_ledge 10 = .ok (.iload_n 3, 1) := by decide +kernel
theorem d_Md_ledge_11 : decode c_Md_ledge 11 = .ok (.iconst 1, 1) := by decide +kernel
theorem d_Md_ledge_12 : decode c_Md_ledge 12 = .ok (.bipush 100, 2) := by decide +kernel
theorem d_Md_ledge_14 : decode c_Md_ledge 14 = .ok (.invokestatic 36, 3) := by decide +kernel
theorem d_Md_ledge_17 : decode c_Md_ledge 17 = .ok (.ifCond .eq 7, 3) := by decide +kernel
theorem d_Md_ledge_20 : decode c_Md_ledge 20 = .ok (.iconst 1, 1) := by decide +kernel
theorem d_Md_ledge_21 : decode c_Md_ledge 21 = .ok (.goto 4, 3) := by decide +kernel
theorem d_Md_ledge_24 : decode c_Md_ledge 24 = .ok (.iconst 0, 1) := by decide +kernel
theorem d_Md_ledge_25 : decode c_Md_ledge 25 = .ok (.iload_n 2, 1) := by decide +kernel
theorem d_Md_ledge_26 : decode c_Md_ledge 26 = .ok (.invokevirtual 91, 3) := by decide +kernel
theorem d_Md_ledge_29 : decode c_Md_ledge 29 = .ok (.putfield 33, 3) := by decide +kernel
theorem d_Md_ledge_32 : decode c_Md_ledge 32 = .ok (.aload_n 0, 1) := by decide +kernel
theorem d_Md_ledge_33 : decode c_Md_ledge 33 = .ok (.getfield 33, 3) := by decide +kernel
theorem d_Md_ledge_36 : decode c_Md_ledge 36 = .ok (.ifCond .le 7, 3) := by decide +kernel
theorem d_Md_ledge_39 : decode c_Md_ledge 39 = .ok (.iconst 0, 1) := by decide +kernel
theorem d_Md_ledge_40 : decode c_Md_ledge 40 = .ok (.goto 10, 3) := by decide +kernel
theorem d_Md_ledge_43 : decode c_Md_ledge 43 = .ok (.aload_n 0, 1) := by decide +kernel
theorem d_Md_ledge_44 : decode c_Md_ledge 44 = .ok (.iload_n 1, 1) := by decide +kernel
theorem d_Md_ledge_45 : decode c_Md_ledge 45 = .ok (.iload_n 2, 1) := by decide +kernel
theorem d_Md_ledge_46 : decode c_Md_ledge 46 = .ok (.iload_n 3, 1) := by decide +kernel
theorem d_Md_ledge_47 : decode c_Md_ledge 47 = .ok (.invokevirtual 114, 3) := by decide +kernel
theorem d_Md_ledge_50 : decode c_Md_ledge 50 = .ok (.ireturn, 1) := by decide +kernel
theorem d_Md_ledged_0 : decode c_Md_ledged 0 = .ok (.aload_n 0, 1) := by decide +kernel
theorem d_Md_ledged_1 : decode c_Md_ledged 1 = .ok (.bipush 10, 2) := by decide +kernel
theorem d_Md_ledged_3 : decode c_Md_ledged 3 = .ok (.aload_n 0, 1) := by decide +kernel
theorem d_Md_ledged_4 : decode c_Md_ledged 4 = .ok (.getfield 23, 3) := by decide +kernel
theorem d_Md_ledged_7 : decode c_Md_ledged 7 = .ok (.iconst 4, 1) := by decide +kernel
theorem d_Md_ledged_8 : decode c_Md_ledged 8 = .ok (.iload_n 1, 1) := by decide +kernel
theorem d_Md_ledged_9 : decode c_Md_ledged 9 = .ok (.imul, 1) := by decide +kernel
theorem d_Md_ledged_10 : decode c_Md_ledged 10 = .ok (.iaload, 1) := by decide +kernel
theorem d_Md_ledged_11 : decode c_Md_ledged 11 = .ok (.aload_n 0, 1) := by decide +kernel
theorem d_Md_ledged_12 : decode c_Md_ledged 12 = .ok (.getfield 23, 3) := by decide +kernel
theorem d_Md_ledged_15 : decode c_Md_ledged 15 = .ok (.iconst 4, 1) := by decide +kernel
theorem d_Md_ledged_16 : decode c_Md_ledged 16 = .ok (.iload_n 1, 1) := by decide +kernel
theorem d_Md_ledged_17 : decode c_Md_ledged 17 = .ok (.imul, 1) := by decide +kernel
theorem d_Md_ledged_18 : decode c_Md_ledged 18 = .ok (.iconst 3, 1) := by decide +kernel
theorem d_Md_ledged_19 : decode c_Md_ledged 19 = .ok (.iadd, 1) := by decide +kernel
theorem d_Md_ledged_20 : decode c_Md_ledged 20 = .ok (.iaload, 1) := by decide +kernel
theorem d_Md_ledged_21 : decode c_Md_ledged 21 = .ok (.iconst 0, 1) := by decide +kernel
theorem d_Md_ledged_22 : decode c_Md_ledged 22 = .ok (.aload_n 0, 1) := by decide +kernel
theorem d_Md_ledged_23 : decode c_Md_ledged 23 = .ok (.getfield 23, 3) := by decide +kernel
theorem d_Md_ledged_26 : decode c_Md_ledged 26 = .ok (.iconst 4, 1) := by decide +kernel
theorem d_Md_ledged_27 : decode c_Md_ledged 27 = .ok (.iload_n 1, 1) := by decide +kernel
theorem d_Md_ledged_28 : decode c_Md_ledged 28 = .ok (.imul, 1) := by decide +kernel
theorem d_Md_ledged_29 : decode c_Md_ledged 29 = .ok (.iconst 2, 1) := by decide +kernel
theorem d_Md_ledged_30 : decode c_Md_ledged 30 = .ok (.iadd, 1) := by decide +kernel
theorem d_Md_ledged_31 : decode c_Md_ledged 31 = .ok (.iaload, 1) := by decide +kernel
theorem d_Md_ledged_32 : decode c_Md_ledged 32 = .ok (.aload_n 0, 1) := by decide +kernel
theorem d_Md_ledged_33 : decode c_Md_ledged 33 = .ok (.getfield 23, 3) := by decide +kernel
theorem d_Md_ledged_36 : decode c_Md_ledged 36 = .ok (.iconst 4, 1) := by decide +kernel
theorem d_Md_ledged_37 : decode c_Md_ledged 37 = .ok (.iload_n 1, 1) := by decide +kernel
theorem d_Md_ledged_38 : decode c_Md_ledged 38 = .ok (.imul, 1) := by decide +kernel
theorem d_Md_ledged_39 : decode c_Md_ledged 39 = .ok (.iconst 3, 1) := by decide +kernel
theorem d_Md_ledged_40 : decode c_Md_ledged 40 = .ok (.iadd, 1) := by decide +kernel
theorem d_Md_ledged_41 : decode c_Md_ledged 41 = .ok (.iaload, 1) := by decide +kernel
theorem d_Md_ledged_42 : decode c_Md_ledged 42 = .ok (.iconst 1, 1) := by decide +kernel
theorem d_Md_ledged_43 : decode c_Md_ledged 43 = .ok (.iadd, 1) := by decide +kernel
theorem d_Md_ledged_44 : decode c_Md_ledged 44 = .ok (.iload_n 3, 1) := by decide +kernel
theorem d_Md_ledged_45 : decode c_Md_ledged 45 = .ok (.invokevirtual 47, 3) := by decide +kernel
theorem d_Md_ledged_48 : decode c_Md_ledged 48 = .ok (.aload_n 0, 1) := by decide +kernel
theorem d_Md_ledged_49 : decode c_Md_ledged 49 = .ok (.iload_n 1, 1) := by decide +kernel
theorem d_Md_ledged_50 : decode c_Md_ledged 50 = .ok (.iload_n 2, 1) := by decide +kernel
theorem d_Md_ledged_51 : decode c_Md_ledged 51 = .ok (.iconst (-1), 1) := by decide +kernel
theorem d_Md_ledged_52 : decode c_Md_ledged 52 = .ok (.iconst 1, 1) := by decide +kernel
theorem d_Md_ledged_53 : decode c_Md_ledged 53 = .ok (.invokevirtual 102, 3) := by decide +kernel
theorem d_Md_ledged_56 : decode c_Md_ledged 56 = .ok (.ireturn, 1) := by decide +kernel
theorem d_Md_deep_0 : decode c_Md_deep 0 = .ok (.aload_n 0, 1) := by decide +kernel
theorem d_Md_deep_1 : decode c_Md_deep 1 = .ok (.aload_n 0, 1) := by decide +kernel
theorem d_Md_deep_2 : decode c_Md_deep 2 = .ok (.aload_n 0, 1) := by decide +kernel
theorem d_Md_deep_3 : decode c_Md_deep 3 = .ok (.iload_n 1, 1) := by decide +kernel
theorem d_Md_deep_4 : decode c_Md_deep 4 = .ok (.invokevirtual 99, 3) := by decide +kernel
theorem d_Md_deep_7 : decode c_Md_deep 7 = .ok (.ifCond .ne 11, 3) := by decide +kernel
theorem d_Md_deep_10 : decode c_Md_deep 10 = .ok (.iload_n 3, 1) := by decide +kernel
theorem d_Md_deep_11 : decode c_Md_deep 11 = .ok (.ifCond .lt 7, 3) := by decide +kernel
theorem d_Md_deep_14 : decode c_Md_deep 14 = .ok (.iconst 1, 1) := by decide +kernel
theorem d_Md_deep_15 : decode c_Md_deep 15 = .ok (.goto 4, 3) := by decide +kernel
theorem d_Md_deep_18 : decode c_Md_deep 18 = .ok (.iconst 0, 1) := by decide +kernel
theorem d_Md_deep_19 : decode c_Md_deep 19 = .ok (.iload_n 2, 1) := by decide +kernel
theorem d_Md_deep_20 : decode c_Md_deep 20 = .ok (.invokevirtual 91, 3) := by decide +kernel
theorem d_Md_deep_23 : decode c_Md_deep 23 = .ok (.putfield 33, 3) := by decide +kernel
theorem d_Md_deep_26 : decode c_Md_deep 26 = .ok (.aload_n 0, 1) := by decide +kernel
theorem d_Md_deep_27 : decode c_Md_deep 27 = .ok (.getfield 33, 3) := by decide +kernel
theorem d_Md_deep_30 : decode c_Md_deep 30 = .ok (.ifCond .le 5, 3) := by decide +kernel
theorem d_Md_deep_33 : decode c_Md_deep 33 = .ok (.iconst 0, 1) := by decide +kernel
theorem d_Md_deep_34 : decode c_Md_deep 34 = .ok (.ireturn, 1) := by decide +kernel
theorem d_Md_deep_35 : decode c_Md_deep 35 = .ok (.aload_n 0, 1) := by decide +kernel
theorem d_Md_deep_36 : decode c_Md_deep 36 = .ok (.iload_n 1, 1) := by decide +kernel
theorem d_Md_deep_37 : decode c_Md_deep 37 = .ok (.iload_n 2, 1) := by decide +kernel
theorem d_Md_deep_38 : decode c_Md_deep 38 = .ok (.iconst (-1), 1) := by decide +kernel
theorem d_Md_deep_39 : decode c_Md_deep 39 = .ok (.iconst 0, 1) := by decide +kernel
theorem d_Md_deep_40 : decode c_Md_deep 40 = .ok (.invokevirtual 102, 3) := by decide +kernel
theorem d_Md_deep_43 : decode c_Md_deep 43 = .ok (.iload_n 3, 1) := by decide +kernel
theorem d_Md_deep_44 : decode c_Md_deep 44 = .ok (.if_icmp .lt 5, 3) := by decide +kernel
theorem d_Md_deep_47 : decode c_Md_deep 47 = .ok (.iconst 0, 1) := by decide +kernel
theorem d_Md_deep_48 : decode c_Md_deep 48 = .ok (.ireturn, 1) := by decide +kernel
theorem d_Md_deep_49 : decode c_Md_deep 49 = .ok (.iconst 1, 1) := by decide +kernel
theorem d_Md_deep_50 : decode c_Md_deep 50 = .ok (.istore 4, 2) := by decide +kernel
theorem d_Md_deep_52 : decode c_Md_deep 52 = .ok (.iload 4, 2) := by decide +kernel
theorem d_Md_deep_54 : decode c_Md_deep 54 = .ok (.bipush 100, 2) := by decide +kernel
theorem d_Md_deep_56 : decode c_Md_deep 56 = .ok (.if_icmp .gt 24, 3) := by decide +kernel
theorem d_Md_deep_59 : decode c_Md_deep 59 = .ok (.aload_n 0, 1) := by decide +kernel
theorem d_Md_deep_60 : decode c_Md_deep 60 = .ok (.iload_n 1, 1) := by decide +kernel
theorem d_Md_deep_61 : decode c_Md_deep 61 = .ok (.iload_n 2, 1) := by decide +kernel
theorem d_Md_deep_62 : decode c_Md_deep 62 = .ok (.iload 4, 2) := by decide +kernel
theorem d_Md_deep_64 : decode c_Md_deep 64 = .ok (.invokevirtual 114, 3) := by decide +kernel
theorem d_Md_deep_67 : decode c_Md_deep 67 = .ok (.iload_n 3, 1) := by decide +kernel
theorem d_Md_deep_68 : decode c_Md_deep 68 = .ok (.if_icmp .lt 6, 3) := by decide +kernel
theorem d_Md_deep_71 : decode c_Md_deep 71 = .ok (.iload 4, 2) := by decide +kernel
theorem d_Md_deep_73 : decode c_Md_deep 73 = .ok (.ireturn, 1) := by decide +kernel
theorem d_Md_deep_74 : decode c_Md_deep 74 = .ok (.iinc 4 1, 3) := by decide +kernel
theorem d_Md_deep_77 : decode c_Md_deep 77 = .ok (.goto (-25), 3) := by decide +kernel
theorem d_Md_deep_80 : decode c_Md_deep 80 = .ok (.iconst (-1), 1) := by decide +kernel
theorem d_Md_deep_81 : decode c_Md_deep 81 = .ok (.ireturn, 1) := by decide +kernel
theorem d_Md_worst_0 : decode c_Md_worst 0 = .ok (.aload_n 0, 1) := by decide +kernel
theorem d_Md_worst_1 : decode c_Md_worst 1 = .ok (.aload_n 0, 1) := by decide +kernel
theorem d_Md_worst_2 : decode c_Md_worst 2 = .ok (.iload_n 1, 1) := by decide +kernel
theorem d_Md_worst_3 : decode c_Md_worst 3 = .ok (.invokevirtual 99, 3) := by decide +kernel
theorem d_Md_worst_6 : decode c_Md_worst 6 = .ok (.ifCond .eq 7, 3) := by decide +kernel
theorem d_Md_worst_9 : decode c_Md_worst 9 = .ok (.iconst 1, 1) := by decide +kernel
theorem d_Md_worst_10 : decode c_Md_worst 10 = .ok (.goto 4, 3) := by decide +kernel
theorem d_Md_worst_13 : decode c_Md_worst 13 = .ok (.iconst 0, 1) := by decide +kernel
theorem d_Md_worst_14 : decode c_Md_worst 14 = .ok (.putfield 33, 3) := by decide +kernel
theorem d_Md_worst_17 : decode c_Md_worst 17 = .ok (.iconst (-1), 1) := by decide +kernel
theorem d_Md_worst_18 : decode c_Md_worst 18 = .ok (.istore_n 2, 1) := by decide +kernel
theorem d_Md_worst_19 : decode c_Md_worst 19 = .ok (.iconst 0, 1) := by decide +kernel
theorem d_Md_worst_20 : decode c_Md_worst 20 = .ok (.istore_n 3, 1) := by decide +kernel
theorem d_Md_worst_21 : decode c_Md_worst 21 = .ok (.iconst 0, 1) := by decide +kernel
theorem d_Md_worst_22 : decode c_Md_worst 22 = .ok (.istore 4, 2) := by decide +kernel
theorem d_Md_worst_24 : decode c_Md_worst 24 = .ok (.iload 4, 2) := by decide +kernel
theorem d_Md_worst_26 : decode c_Md_worst 26 = .ok (.aload_n 0, 1) := by decide +kernel
theorem d_Md_worst_27 : decode c_Md_worst 27 = .ok (.getfield 44, 3) := by decide +kernel
theorem d_Md_worst_30 : decode c_Md_worst 30 = .ok (.if_icmp .ge 72, 3) := by decide +kernel
theorem d_Md_worst_33 : decode c_Md_worst 33 = .ok (.aload_n 0, 1) := by decide +kernel
theorem d_Md_worst_34 : decode c_Md_worst 34 = .ok (.getfield 33, 3) := by decide +kernel
theorem d_Md_worst_37 : decode c_Md_worst 37 = .ok (.ifCond .ne 65, 3) := by decide +kernel
theorem d_Md_worst_40 : decode c_Md_worst 40 = .ok (.aload_n 0, 1) := by decide +kernel
theorem d_Md_worst_41 : decode c_Md_worst 41 = .ok (.getfield 13, 3) := by decide +kernel
theorem d_Md_worst_44 : decode c_Md_worst 44 = .ok (.iload 4, 2) := by decide +kernel
theorem d_Md_worst_46 : decode c_Md_worst 46 = .ok (.baload, 1) := by decide +kernel
theorem d_Md_worst_47 : decode c_Md_worst 47 = .ok (.ifCond .eq 20, 3) := by decide +kernel
theorem d_Md_worst_50 : decode c_Md_worst 50 = .ok (.aload_n 0, 1) := by decide +kernel
theorem d_Md_worst_51 : decode c_Md_worst 51 = .ok (.iload_n 1, 1) := by decide +kernel
theorem d_Md_worst_52 : decode c_Md_worst 52 = .ok (.iload 4, 2) := by decide +kernel
theorem d_Md_worst_54 : decode c_Md_worst 54 = .ok (.invokevirtual 110, 3) := by decide +kernel
theorem d_Md_worst_57 : decode c_Md_worst 57 = .ok (.aload_n 0, 1) := by decide +kernel
theorem d_Md_worst_58 : decode c_Md_worst 58 = .ok (.iload_n 1, 1) := by decide +kernel
theorem d_Md_worst_59 : decode c_Md_worst 59 = .ok (.iconst (-1), 1) := by decide +kernel
theorem d_Md_worst_60 : decode c_Md_worst 60 = .ok (.invokevirtual 110, 3) := by decide +kernel
theorem d_Md_worst_63 : decode c_Md_worst 63 = .ok (.isub, 1) := by decide +kernel
theorem d_Md_worst_64 : decode c_Md_worst 64 = .ok (.goto 4, 3) := by decide +kernel
theorem d_Md_worst_67 : decode c_Md_worst 67 = .ok (.iconst 0, 1) := by decide +kernel
theorem d_Md_worst_68 : decode c_Md_worst 68 = .ok (.istore 5, 2) := by decide +kernel
theorem d_Md_worst_70 : decode c_Md_worst 70 = .ok (.iload 5, 2) := by decide +kernel
theorem d_Md_worst_72 : decode c_Md_worst 72 = .ok (.iload_n 3, 1) := by decide +kernel
theorem d_Md_worst_73 : decode c_Md_worst 73 = .ok (.if_icmp .le 8, 3) := by decide +kernel
theorem d_Md_worst_76 : decode c_Md_worst 76 = .ok (.iload 4, 2) := by decide +kernel
theorem d_Md_worst_78 : decode c_Md_worst 78 = .ok (.goto 4, 3) := by decide +kernel
theorem d_Md_worst_81 : decode c_Md_worst 81 = .ok (.iload_n 2, 1) := by decide +kernel
theorem d_Md_worst_82 : decode c_Md_worst 82 = .ok (.istore_n 2, 1) := by decide +kernel
theorem d_Md_worst_83 : decode c_Md_worst 83 = .ok (.iload 5, 2) := by decide +kernel
theorem d_Md_worst_85 : decode c_Md_worst 85 = .ok (.iload_n 3, 1) := by decide +kernel
theorem d_Md_worst_86 : decode c_Md_worst 86 = .ok (.if_icmp .le 8, 3) := by decide +kernel
theorem d_Md_worst_89 : decode c_Md_worst 89 = .ok (.iload 5, 2) := by decide +kernel
theorem d_Md_worst_91 : decode c_Md_worst 91 = .ok (.goto 4, 3) := by decide +kernel
theorem d_Md_worst_94 : decode c_Md_worst 94 = .ok (.iload_n 3, 1) := by decide +kernel
theorem d_Md_worst_95 : decode c_Md_worst 95 = .ok (.istore_n 3, 1) := by decide +kernel
theorem d_Md_worst_96 : decode c_Md_worst 96 = .ok (.iinc 4 1, 3) := by decide +kernel
theorem d_Md_worst_99 : decode c_Md_worst 99 = .ok (.goto (-75), 3) := by decide +kernel
theorem d_Md_worst_102 : decode c_Md_worst 102 = .ok (.aload_n 0, 1) := by decide +kernel
theorem d_Md_worst_103 : decode c_Md_worst 103 = .ok (.getfield 33, 3) := by decide +kernel
theorem d_Md_worst_106 : decode c_Md_worst 106 = .ok (.ifCond .le 7, 3) := by decide +kernel
theorem d_Md_worst_109 : decode c_Md_worst 109 = .ok (.iconst 0, 1) := by decide +kernel
theorem d_Md_worst_110 : decode c_Md_worst 110 = .ok (.goto 4, 3) := by decide +kernel
theorem d_Md_worst_113 : decode c_Md_worst 113 = .ok (.iload_n 2, 1) := by decide +kernel
theorem d_Md_worst_114 : decode c_Md_worst 114 = .ok (.ireturn, 1) := by decide +kernel
end
section
theorem d_Lw_cell_s_0 : decode c_Lw_cell_s 0 = .ok (.iload_n 1, 1) := by decide +kernel
theorem d_Lw_cell_s_1 : decode c_Lw_cell_s 1 = .ok (.aload_n 0, 1) := by decide +kernel
theorem d_Lw_cell_s_2 : decode c_Lw_cell_s 2 = .ok (.arraylength, 1) := by decide +kernel
theorem d_Lw_cell_s_3 : decode c_Lw_cell_s 3 = .ok (.if_icmp .ge 9, 3) := by decide +kernel
theorem d_Lw_cell_s_6 : decode c_Lw_cell_s 6 = .ok (.aload_n 0, 1) := by decide +kernel
theorem d_Lw_cell_s_7 : decode c_Lw_cell_s 7 = .ok (.iload_n 1, 1) := by decide +kernel
theorem d_Lw_cell_s_8 : decode c_Lw_cell_s 8 = .ok (.iaload, 1) := by decide +kernel
theorem d_Lw_cell_s_9 : decode c_Lw_cell_s 9 = .ok (.goto 4, 3) := by decide +kernel
theorem d_Lw_cell_s_12 : decode c_Lw_cell_s 12 = .ok (.iconst 0, 1) := by decide +kernel
theorem d_Lw_cell_s_13 : decode c_Lw_cell_s 13 = .ok (.ireturn, 1) := by decide +kernel
theorem d_Lw_box_0 : decode c_Lw_box 0 = .ok (.aload 7, 2) := by decide +kernel
theorem d_Lw_box_2 : decode c_Lw_box 2 = .ok (.iconst 0, 1) := by decide +kernel
theorem d_Lw_box_3 : decode c_Lw_box 3 = .ok (.aload_n 0, 1) := by decide +kernel
theorem d_Lw_box_4 : decode c_Lw_box 4 = .ok (.iload_n 1, 1) := by decide +kernel
theorem d_Lw_box_5 : decode c_Lw_box 5 = .ok (.iload_n 2, 1) := by decide +kernel
theorem d_Lw_box_6 : decode c_Lw_box 6 = .ok (.iload_n 3, 1) := by decide +kernel
theorem d_Lw_box_7 : decode c_Lw_box 7 = .ok (.iload 4, 2) := by decide +kernel
theorem d_Lw_box_9 : decode c_Lw_box 9 = .ok (.iload 5, 2) := by decide +kernel
theorem d_Lw_box_11 : decode c_Lw_box 11 = .ok (.iload 6, 2) := by decide +kernel
theorem d_Lw_box_13 : decode c_Lw_box 13 = .ok (.invokevirtual 7, 3) := by decide +kernel
theorem d_Lw_box_16 : decode c_Lw_box 16 = .ok (.i2l, 1) := by decide +kernel
theorem d_Lw_box_17 : decode c_Lw_box 17 = .ok (.lastore, 1) := by decide +kernel
theorem d_Lw_box_18 : decode c_Lw_box 18 = .ok (.goto 11, 3) := by decide +kernel
theorem d_Lw_box_21 : decode c_Lw_box 21 = .ok (.astore 8, 2) := by decide +kernel
theorem d_Lw_box_23 : decode c_Lw_box 23 = .ok (.iconst 1, 1) := by decide +kernel
theorem d_Lw_box_24 : decode c_Lw_box 24 = .ok (.ireturn, 1) := by decide +kernel
theorem d_Lw_box_25 : decode c_Lw_box 25 = .ok (.astore 8, 2) := by decide +kernel
theorem d_Lw_box_27 : decode c_Lw_box 27 = .ok (.iconst 2, 1) := by decide +kernel
theorem d_Lw_box_28 : decode c_Lw_box 28 = .ok (.ireturn, 1) := by decide +kernel
theorem d_Lw_box_29 : decode c_Lw_box 29 = .ok (.iconst 0, 1) := by decide +kernel
theorem d_Lw_box_30 : decode c_Lw_box 30 = .ok (.ireturn, 1) := by decide +kernel
theorem d_Lw_move_0 : decode c_Lw_move 0 = .ok (.aload 5, 2) := by decide +kernel
theorem d_Lw_move_2 : decode c_Lw_move 2 = .ok (.iconst 0, 1) := by decide +kernel
theorem d_Lw_move_3 : decode c_Lw_move 3 = .ok (.aload_n 0, 1) := by decide +kernel
theorem d_Lw_move_4 : decode c_Lw_move 4 = .ok (.iload_n 1, 1) := by decide +kernel
theorem d_Lw_move_5 : decode c_Lw_move 5 = .ok (.iload_n 2, 1) := by decide +kernel
theorem d_Lw_move_6 : decode c_Lw_move 6 = .ok (.iload_n 3, 1) := by decide +kernel
theorem d_Lw_move_7 : decode c_Lw_move 7 = .ok (.iload 4, 2) := by decide +kernel
theorem d_Lw_move_9 : decode c_Lw_move 9 = .ok (.invokevirtual 17, 3) := by decide +kernel
theorem d_Lw_move_12 : decode c_Lw_move 12 = .ok (.ifCond .eq 7, 3) := by decide +kernel
theorem d_Lw_move_15 : decode c_Lw_move 15 = .ok (.lconst 1, 1) := by decide +kernel
theorem d_Lw_move_16 : decode c_Lw_move 16 = .ok (.goto 4, 3) := by decide +kernel
theorem d_Lw_move_19 : decode c_Lw_move 19 = .ok (.lconst 0, 1) := by decide +kernel
theorem d_Lw_move_20 : decode c_Lw_move 20 = .ok (.lastore, 1) := by decide +kernel
theorem d_Lw_move_21 : decode c_Lw_move 21 = .ok (.goto 7, 3) := by decide +kernel
theorem d_Lw_move_24 : decode c_Lw_move 24 = .ok (.astore 6, 2) := by decide +kernel
theorem d_Lw_move_26 : decode c_Lw_move 26 = .ok (.iconst 1, 1) := by decide +kernel
theorem d_Lw_move_27 : decode c_Lw_move 27 = .ok (.ireturn, 1) := by decide +kernel
theorem d_Lw_move_28 : decode c_Lw_move 28 = .ok (.iconst 0, 1) := by decide +kernel
theorem d_Lw_move_29 : decode c_Lw_move 29 = .ok (.ireturn, 1) := by decide +kernel
theorem d_Lw_there_0 : decode c_Lw_there 0 = .ok (.aload_n 3, 1) := by decide +kernel
theorem d_Lw_there_1 : decode c_Lw_there 1 = .ok (.iconst 0, 1) := by decide +kernel
theorem d_Lw_there_2 : decode c_Lw_there 2 = .ok (.aload_n 0, 1) := by decide +kernel
theorem d_Lw_there_3 : decode c_Lw_there 3 = .ok (.iload_n 1, 1) := by decide +kernel
theorem d_Lw_there_4 : decode c_Lw_there 4 = .ok (.iload_n 2, 1) := by decide +kernel
theorem d_Lw_there_5 : decode c_Lw_there 5 = .ok (.invokevirtual 21, 3) := by decide +kernel
theorem d_Lw_there_8 : decode c_Lw_there 8 = .ok (.ifCond .eq 7, 3) := by decide +kernel
theorem d_Lw_there_11 : decode c_Lw_there 11 = .ok (.lconst 1, 1) := by decide +kernel
theorem d_Lw_there_12 : decode c_Lw_there 12 = .ok (.goto 4, 3) := by decide +kernel
theorem d_Lw_there_15 : decode c_Lw_there 15 = .ok (.lconst 0, 1) := by decide +kernel
theorem d_Lw_there_16 : decode c_Lw_there 16 = .ok (.lastore, 1) := by decide +kernel
theorem d_Lw_there_17 : decode c_Lw_there 17 = .ok (.goto 7, 3) := by decide +kernel
theorem d_Lw_there_20 : decode c_Lw_there 20 = .ok (.astore 4, 2) := by decide +kernel
theorem d_Lw_there_22 : decode c_Lw_there 22 = .ok (.iconst 1, 1) := by decide +kernel
theorem d_Lw_there_23 : decode c_Lw_there 23 = .ok (.ireturn, 1) := by decide +kernel
theorem d_Lw_there_24 : decode c_Lw_there 24 = .ok (.iconst 0, 1) := by decide +kernel
theorem d_Lw_there_25 : decode c_Lw_there 25 = .ok (.ireturn, 1) := by decide +kernel
theorem d_Lw_sun_0 : decode c_Lw_sun 0 = .ok (.aload_n 0, 1) := by decide +kernel
theorem d_Lw_sun_1 : decode c_Lw_sun 1 = .ok (.iload_n 1, 1) := by decide +kernel
theorem d_Lw_sun_2 : decode c_Lw_sun 2 = .ok (.iload_n 2, 1) := by decide +kernel
theorem d_Lw_sun_3 : decode c_Lw_sun 3 = .ok (.iload_n 3, 1) := by decide +kernel
theorem d_Lw_sun_4 : decode c_Lw_sun 4 = .ok (.iload 4, 2) := by decide +kernel
theorem d_Lw_sun_6 : decode c_Lw_sun 6 = .ok (.invokevirtual 25, 3) := by decide +kernel
theorem d_Lw_sun_9 : decode c_Lw_sun 9 = .ok (.goto 7, 3) := by decide +kernel
theorem d_Lw_sun_12 : decode c_Lw_sun 12 = .ok (.astore 5, 2) := by decide +kernel
theorem d_Lw_sun_14 : decode c_Lw_sun 14 = .ok (.iconst 1, 1) := by decide +kernel
theorem d_Lw_sun_15 : decode c_Lw_sun 15 = .ok (.ireturn, 1) := by decide +kernel
theorem d_Lw_sun_16 : decode c_Lw_sun 16 = .ok (.iconst 0, 1) := by decide +kernel
theorem d_Lw_sun_17 : decode c_Lw_sun 17 = .ok (.ireturn, 1) := by decide +kernel
theorem d_Lw_light_0 : decode c_Lw_light 0 = .ok (.aload_n 3, 1) := by decide +kernel
theorem d_Lw_light_1 : decode c_Lw_light 1 = .ok (.iconst 0, 1) := by decide +kernel
theorem d_Lw_light_2 : decode c_Lw_light 2 = .ok (.aload_n 0, 1) := by decide +kernel
theorem d_Lw_light_3 : decode c_Lw_light 3 = .ok (.iload_n 1, 1) := by decide +kernel
theorem d_Lw_light_4 : decode c_Lw_light 4 = .ok (.iload_n 2, 1) := by decide +kernel
theorem d_Lw_light_5 : decode c_Lw_light 5 = .ok (.invokevirtual 29, 3) := by decide +kernel
theorem d_Lw_light_8 : decode c_Lw_light 8 = .ok (.i2l, 1) := by decide +kernel
theorem d_Lw_light_9 : decode c_Lw_light 9 = .ok (.lastore, 1) := by decide +kernel
theorem d_Lw_light_10 : decode c_Lw_light 10 = .ok (.goto 7, 3) := by decide +kernel
theorem d_Lw_light_13 : decode c_Lw_light 13 = .ok (.astore 4, 2) := by decide +kernel
theorem d_Lw_light_15 : decode c_Lw_light 15 = .ok (.iconst 1, 1) := by decide +kernel
theorem d_Lw_light_16 : decode c_Lw_light 16 = .ok (.ireturn, 1) := by decide +kernel
theorem d_Lw_light_17 : decode c_Lw_light 17 = .ok (.iconst 0, 1) := by decide +kernel
theorem d_Lw_light_18 : decode c_Lw_light 18 = .ok (.ireturn, 1) := by decide +kernel
theorem d_Lw_window_0 : decode c_Lw_window 0 = .ok (.aload 5, 2) := by decide +kernel
theorem d_Lw_window_2 : decode c_Lw_window 2 = .ok (.iconst 0, 1) := by decide +kernel
theorem d_Lw_window_3 : decode c_Lw_window 3 = .ok (.aload_n 0, 1) := by decide +kernel
theorem d_Lw_window_4 : decode c_Lw_window 4 = .ok (.iload_n 1, 1) := by decide +kernel
theorem d_Lw_window_5 : decode c_Lw_window 5 = .ok (.iload_n 2, 1) := by decide +kernel
theorem d_Lw_window_6 : decode c_Lw_window 6 = .ok (.iload_n 3, 1) := by decide +kernel
theorem d_Lw_window_7 : decode c_Lw_window 7 = .ok (.iload 4, 2) := by decide +kernel
theorem d_Lw_window_9 : decode c_Lw_window 9 = .ok (.invokevirtual 33, 3) := by decide +kernel
theorem d_Lw_window_12 : decode c_Lw_window 12 = .ok (.i2l, 1) := by decide +kernel
theorem d_Lw_window_13 : decode c_Lw_window 13 = .ok (.lastore, 1) := by decide +kernel
theorem d_Lw_window_14 : decode c_Lw_window 14 = .ok (.goto 11, 3) := by decide +kernel
theorem d_Lw_window_17 : decode c_Lw_window 17 = .ok (.astore 6, 2) := by decide +kernel
theorem d_Lw_window_19 : decode c_Lw_window 19 = .ok (.iconst 1, 1) := by decide +kernel
theorem d_Lw_window_20 : decode c_Lw_window 20 = .ok (.ireturn, 1) := by decide +kernel
theorem d_Lw_window_21 : decode c_Lw_window 21 = .ok (.astore 6, 2) := by decide +kernel
theorem d_Lw_window_23 : decode c_Lw_window 23 = .ok (.iconst 2, 1) := by decide +kernel
theorem d_Lw_window_24 : decode c_Lw_window 24 = .ok (.ireturn, 1) := by decide +kernel
theorem d_Lw_window_25 : decode c_Lw_window 25 = .ok (.iconst 0, 1) := by decide +kernel
theorem d_Lw_window_26 : decode c_Lw_window 26 = .ok (.ireturn, 1) := by decide +kernel
theorem d_Lw_shadow_0 : decode c_Lw_shadow 0 = .ok (.aload 4, 2) := by decide +kernel
theorem d_Lw_shadow_2 : decode c_Lw_shadow 2 = .ok (.iconst 0, 1) := by decide +kernel
theorem d_Lw_shadow_3 : decode c_Lw_shadow 3 = .ok (.aload_n 0, 1) := by decide +kernel
theorem d_Lw_shadow_4 : decode c_Lw_shadow 4 = .ok (.iload_n 1, 1) := by decide +kernel
theorem d_Lw_shadow_5 : decode c_Lw_shadow 5 = .ok (.iload_n 2, 1) := by decide +kernel
theorem d_Lw_shadow_6 : decode c_Lw_shadow 6 = .ok (.iload_n 3, 1) := by decide +kernel
theorem d_Lw_shadow_7 : decode c_Lw_shadow 7 = .ok (.invokevirtual 37, 3) := by decide +kernel
theorem d_Lw_shadow_10 : decode c_Lw_shadow 10 = .ok (.ifCond .eq 7, 3) := by decide +kernel
theorem d_Lw_shadow_13 : decode c_Lw_shadow 13 = .ok (.lconst 1, 1) := by decide +kernel
theorem d_Lw_shadow_14 : decode c_Lw_shadow 14 = .ok (.goto 4, 3) := by decide +kernel
theorem d_Lw_shadow_17 : decode c_Lw_shadow 17 = .ok (.lconst 0, 1) := by decide +kernel
theorem d_Lw_shadow_18 : decode c_Lw_shadow 18 = .ok (.lastore, 1) := by decide +kernel
theorem d_Lw_shadow_19 : decode c_Lw_shadow 19 = .ok (.goto 11, 3) := by decide +kernel
theorem d_Lw_shadow_22 : decode c_Lw_shadow 22 = .ok (.astore 5, 2) := by decide +kernel
theorem d_Lw_shadow_24 : decode c_Lw_shadow 24 = .ok (.iconst 1, 1) := by decide +kernel
theorem d_Lw_shadow_25 : decode c_Lw_shadow 25 = .ok (.ireturn, 1) := by decide +kernel
theorem d_Lw_shadow_26 : decode c_Lw_shadow 26 = .ok (.astore 5, 2) := by decide +kernel
theorem d_Lw_shadow_28 : decode c_Lw_shadow 28 = .ok (.iconst 2, 1) := by decide +kernel
theorem d_Lw_shadow_29 : decode c_Lw_shadow 29 = .ok (.ireturn, 1) := by decide +kernel
theorem d_Lw_shadow_30 : decode c_Lw_shadow 30 = .ok (.iconst 0, 1) := by decide +kernel
theorem d_Lw_shadow_31 : decode c_Lw_shadow 31 = .ok (.ireturn, 1) := by decide +kernel
theorem d_Lw_shadows_0 : decode c_Lw_shadows 0 = .ok (.aload_n 3, 1) := by decide +kernel
theorem d_Lw_shadows_1 : decode c_Lw_shadows 1 = .ok (.iconst 0, 1) := by decide +kernel
theorem d_Lw_shadows_2 : decode c_Lw_shadows 2 = .ok (.aload_n 0, 1) := by decide +kernel
theorem d_Lw_shadows_3 : decode c_Lw_shadows 3 = .ok (.iload_n 1, 1) := by decide +kernel
theorem d_Lw_shadows_4 : decode c_Lw_shadows 4 = .ok (.iload_n 2, 1) := by decide +kernel
theorem d_Lw_shadows_5 : decode c_Lw_shadows 5 = .ok (.invokevirtual 41, 3) := by decide +kernel
theorem d_Lw_shadows_8 : decode c_Lw_shadows 8 = .ok (.i2l, 1) := by decide +kernel
theorem d_Lw_shadows_9 : decode c_Lw_shadows 9 = .ok (.lastore, 1) := by decide +kernel
theorem d_Lw_shadows_10 : decode c_Lw_shadows 10 = .ok (.goto 11, 3) := by decide +kernel
theorem d_Lw_shadows_13 : decode c_Lw_shadows 13 = .ok (.astore 4, 2) := by decide +kernel
theorem d_Lw_shadows_15 : decode c_Lw_shadows 15 = .ok (.iconst 1, 1) := by decide +kernel
theorem d_Lw_shadows_16 : decode c_Lw_shadows 16 = .ok (.ireturn, 1) := by decide +kernel
theorem d_Lw_shadows_17 : decode c_Lw_shadows 17 = .ok (.astore 4, 2) := by decide +kernel
theorem d_Lw_shadows_19 : decode c_Lw_shadows 19 = .ok (.iconst 2, 1) := by decide +kernel
theorem d_Lw_shadows_20 : decode c_Lw_shadows 20 = .ok (.ireturn, 1) := by decide +kernel
theorem d_Lw_shadows_21 : decode c_Lw_shadows 21 = .ok (.iconst 0, 1) := by decide +kernel
theorem d_Lw_shadows_22 : decode c_Lw_shadows 22 = .ok (.ireturn, 1) := by decide +kernel
theorem d_Lw_dark_0 : decode c_Lw_dark 0 = .ok (.aload_n 3, 1) := by decide +kernel
theorem d_Lw_dark_1 : decode c_Lw_dark 1 = .ok (.iconst 0, 1) := by decide +kernel
theorem d_Lw_dark_2 : decode c_Lw_dark 2 = .ok (.aload_n 0, 1) := by decide +kernel
theorem d_Lw_dark_3 : decode c_Lw_dark 3 = .ok (.iload_n 1, 1) := by decide +kernel
theorem d_Lw_dark_4 : decode c_Lw_dark 4 = .ok (.iload_n 2, 1) := by decide +kernel
theorem d_Lw_dark_5 : decode c_Lw_dark 5 = .ok (.invokevirtual 44, 3) := by decide +kernel
theorem d_Lw_dark_8 : decode c_Lw_dark 8 = .ok (.i2l, 1) := by decide +kernel
theorem d_Lw_dark_9 : decode c_Lw_dark 9 = .ok (.lastore, 1) := by decide +kernel
theorem d_Lw_dark_10 : decode c_Lw_dark 10 = .ok (.goto 11, 3) := by decide +kernel
theorem d_Lw_dark_13 : decode c_Lw_dark 13 = .ok (.astore 4, 2) := by decide +kernel
theorem d_Lw_dark_15 : decode c_Lw_dark 15 = .ok (.iconst 1, 1) := by decide +kernel
theorem d_Lw_dark_16 : decode c_Lw_dark 16 = .ok (.ireturn, 1) := by decide +kernel
theorem d_Lw_dark_17 : decode c_Lw_dark 17 = .ok (.astore 4, 2) := by decide +kernel
theorem d_Lw_dark_19 : decode c_Lw_dark 19 = .ok (.iconst 2, 1) := by decide +kernel
theorem d_Lw_dark_20 : decode c_Lw_dark 20 = .ok (.ireturn, 1) := by decide +kernel
theorem d_Lw_dark_21 : decode c_Lw_dark 21 = .ok (.iconst 0, 1) := by decide +kernel
theorem d_Lw_dark_22 : decode c_Lw_dark 22 = .ok (.ireturn, 1) := by decide +kernel
theorem d_Lw_cell_c_0 : decode c_Lw_cell_c 0 = .ok (.aload_n 3, 1) := by decide +kernel
theorem d_Lw_cell_c_1 : decode c_Lw_cell_c 1 = .ok (.iconst 0, 1) := by decide +kernel
theorem d_Lw_cell_c_2 : decode c_Lw_cell_c 2 = .ok (.aload_n 0, 1) := by decide +kernel
theorem d_Lw_cell_c_3 : decode c_Lw_cell_c 3 = .ok (.iload_n 1, 1) := by decide +kernel
theorem d_Lw_cell_c_4 : decode c_Lw_cell_c 4 = .ok (.iload_n 2, 1) := by decide +kernel
theorem d_Lw_cell_c_5 : decode c_Lw_cell_c 5 = .ok (.invokevirtual 47, 3) := by decide +kernel
theorem d_Lw_cell_c_8 : decode c_Lw_cell_c 8 = .ok (.i2l, 1) := by decide +kernel
theorem d_Lw_cell_c_9 : decode c_Lw_cell_c 9 = .ok (.lastore, 1) := by decide +kernel
theorem d_Lw_cell_c_10 : decode c_Lw_cell_c 10 = .ok (.goto 11, 3) := by decide +kernel
theorem d_Lw_cell_c_13 : decode c_Lw_cell_c 13 = .ok (.astore 4, 2) := by decide +kernel
theorem d_Lw_cell_c_15 : decode c_Lw_cell_c 15 = .ok (.iconst 1, 1) := by decide +kernel
theorem d_Lw_cell_c_16 : decode c_Lw_cell_c 16 = .ok (.ireturn, 1) := by decide +kernel
theorem d_Lw_cell_c_17 : decode c_Lw_cell_c 17 = .ok (.astore 4, 2) := by decide +kernel
theorem d_Lw_cell_c_19 : decode c_Lw_cell_c 19 = .ok (.iconst 2, 1) := by decide +kernel
theorem d_Lw_cell_c_20 : decode c_Lw_cell_c 20 = .ok (.ireturn, 1) := by decide +kernel
theorem d_Lw_cell_c_21 : decode c_Lw_cell_c 21 = .ok (.iconst 0, 1) := by decide +kernel
theorem d_Lw_cell_c_22 : decode c_Lw_cell_c 22 = .ok (.ireturn, 1) := by decide +kernel
theorem d_Lw_lit_0 : decode c_Lw_lit 0 = .ok (.aload_n 3, 1) := by decide +kernel
theorem d_Lw_lit_1 : decode c_Lw_lit 1 = .ok (.iconst 0, 1) := by decide +kernel
theorem d_Lw_lit_2 : decode c_Lw_lit 2 = .ok (.aload_n 0, 1) := by decide +kernel
theorem d_Lw_lit_3 : decode c_Lw_lit 3 = .ok (.iload_n 1, 1) := by decide +kernel
theorem d_Lw_lit_4 : decode c_Lw_lit 4 = .ok (.iload_n 2, 1) := by decide +kernel
theorem d_Lw_lit_5 : decode c_Lw_lit 5 = .ok (.invokevirtual 50, 3) := by decide +kernel
theorem d_Lw_lit_8 : decode c_Lw_lit 8 = .ok (.i2l, 1) := by decide +kernel
theorem d_Lw_lit_9 : decode c_Lw_lit 9 = .ok (.lastore, 1) := by decide +kernel
theorem d_Lw_lit_10 : decode c_Lw_lit 10 = .ok (.goto 7, 3) := by decide +kernel
theorem d_Lw_lit_13 : decode c_Lw_lit 13 = .ok (.astore 4, 2) := by decide +kernel
theorem d_Lw_lit_15 : decode c_Lw_lit 15 = .ok (.iconst 1, 1) := by decide +kernel
theorem d_Lw_lit_16 : decode c_Lw_lit 16 = .ok (.ireturn, 1) := by decide +kernel
theorem d_Lw_lit_17 : decode c_Lw_lit 17 = .ok (.iconst 0, 1) := by decide +kernel
theorem d_Lw_lit_18 : decode c_Lw_lit 18 = .ok (.ireturn, 1) := by decide +kernel
theorem d_Lw_brightest_0 : decode c_Lw_brightest 0 = .ok (.aload_n 2, 1) := by decide +kernel
theorem d_Lw_brightest_1 : decode c_Lw_brightest 1 = .ok (.iconst 0, 1) := by decide +kernel
theorem d_Lw_brightest_2 : decode c_Lw_brightest 2 = .ok (.aload_n 0, 1) := by decide +kernel
theorem d_Lw_brightest_3 : decode c_Lw_brightest 3 = .ok (.iload_n 1, 1) := by decide +kernel
theorem d_Lw_brightest_4 : decode c_Lw_brightest 4 = .ok (.invokevirtual 53, 3) := by decide +kernel
theorem d_Lw_brightest_7 : decode c_Lw_brightest 7 = .ok (.i2l, 1) := by decide +kernel
theorem d_Lw_brightest_8 : decode c_Lw_brightest 8 = .ok (.lastore, 1) := by decide +kernel
theorem d_Lw_brightest_9 : decode c_Lw_brightest 9 = .ok (.goto 6, 3) := by decide +kernel
theorem d_Lw_brightest_12 : decode c_Lw_brightest 12 = .ok (.astore_n 3, 1) := by decide +kernel
theorem d_Lw_brightest_13 : decode c_Lw_brightest 13 = .ok (.iconst 1, 1) := by decide +kernel
theorem d_Lw_brightest_14 : decode c_Lw_brightest 14 = .ok (.ireturn, 1) := by decide +kernel
theorem d_Lw_brightest_15 : decode c_Lw_brightest 15 = .ok (.iconst 0, 1) := by decide +kernel
theorem d_Lw_brightest_16 : decode c_Lw_brightest 16 = .ok (.ireturn, 1) := by decide +kernel
theorem d_Lw_ledge_0 : decode c_Lw_ledge 0 = .ok (.aload 4, 2) := by decide +kernel
theorem d_Lw_ledge_2 : decode c_Lw_ledge 2 = .ok (.iconst 0, 1) := by decide +kernel
theorem d_Lw_ledge_3 : decode c_Lw_ledge 3 = .ok (.aload_n 0, 1) := by decide +kernel
theorem d_Lw_ledge_4 : decode c_Lw_ledge 4 = .ok (.iload_n 1, 1) := by decide +kernel
theorem d_Lw_ledge_5 : decode c_Lw_ledge 5 = .ok (.iload_n 2, 1) := by decide +kernel
theorem d_Lw_ledge_6 : decode c_Lw_ledge 6 = .ok (.iload_n 3, 1) := by decide +kernel
theorem d_Lw_ledge_7 : decode c_Lw_ledge 7 = .ok (.invokevirtual 57, 3) := by decide +kernel
theorem d_Lw_ledge_10 : decode c_Lw_ledge 10 = .ok (.i2l, 1) := by decide +kernel
theorem d_Lw_ledge_11 : decode c_Lw_ledge 11 = .ok (.lastore, 1) := by decide +kernel
theorem d_Lw_ledge_12 : decode c_Lw_ledge 12 = .ok (.goto 11, 3) := by decide +kernel
theorem d_Lw_ledge_15 : decode c_Lw_ledge 15 = .ok (.astore 5, 2) := by decide +kernel
theorem d_Lw_ledge_17 : decode c_Lw_ledge 17 = .ok (.iconst 1, 1) := by decide +kernel
theorem d_Lw_ledge_18 : decode c_Lw_ledge 18 = .ok (.ireturn, 1) := by decide +kernel
theorem d_Lw_ledge_19 : decode c_Lw_ledge 19 = .ok (.astore 5, 2) := by decide +kernel
theorem d_Lw_ledge_21 : decode c_Lw_ledge 21 = .ok (.iconst 2, 1) := by decide +kernel
theorem d_Lw_ledge_22 : decode c_Lw_ledge 22 = .ok (.ireturn, 1) := by decide +kernel
theorem d_Lw_ledge_23 : decode c_Lw_ledge 23 = .ok (.iconst 0, 1) := by decide +kernel
theorem d_Lw_ledge_24 : decode c_Lw_ledge 24 = .ok (.ireturn, 1) := by decide +kernel
theorem d_Lw_deep_0 : decode c_Lw_deep 0 = .ok (.aload 4, 2) := by decide +kernel
theorem d_Lw_deep_2 : decode c_Lw_deep 2 = .ok (.iconst 0, 1) := by decide +kernel
theorem d_Lw_deep_3 : decode c_Lw_deep 3 = .ok (.aload_n 0, 1) := by decide +kernel
theorem d_Lw_deep_4 : decode c_Lw_deep 4 = .ok (.iload_n 1, 1) := by decide +kernel
theorem d_Lw_deep_5 : decode c_Lw_deep 5 = .ok (.iload_n 2, 1) := by decide +kernel
theorem d_Lw_deep_6 : decode c_Lw_deep 6 = .ok (.iload_n 3, 1) := by decide +kernel
theorem d_Lw_deep_7 : decode c_Lw_deep 7 = .ok (.invokevirtual 61, 3) := by decide +kernel
theorem d_Lw_deep_10 : decode c_Lw_deep 10 = .ok (.i2l, 1) := by decide +kernel
theorem d_Lw_deep_11 : decode c_Lw_deep 11 = .ok (.lastore, 1) := by decide +kernel
theorem d_Lw_deep_12 : decode c_Lw_deep 12 = .ok (.goto 11, 3) := by decide +kernel
theorem d_Lw_deep_15 : decode c_Lw_deep 15 = .ok (.astore 5, 2) := by decide +kernel
theorem d_Lw_deep_17 : decode c_Lw_deep 17 = .ok (.iconst 1, 1) := by decide +kernel
theorem d_Lw_deep_18 : decode c_Lw_deep 18 = .ok (.ireturn, 1) := by decide +kernel
theorem d_Lw_deep_19 : decode c_Lw_deep 19 = .ok (.astore 5, 2) := by decide +kernel
theorem d_Lw_deep_21 : decode c_Lw_deep 21 = .ok (.iconst 2, 1) := by decide +kernel
theorem d_Lw_deep_22 : decode c_Lw_deep 22 = .ok (.ireturn, 1) := by decide +kernel
theorem d_Lw_deep_23 : decode c_Lw_deep 23 = .ok (.iconst 0, 1) := by decide +kernel
theorem d_Lw_deep_24 : decode c_Lw_deep 24 = .ok (.ireturn, 1) := by decide +kernel
theorem d_Lw_worst_0 : decode c_Lw_worst 0 = .ok (.aload_n 2, 1) := by decide +kernel
theorem d_Lw_worst_1 : decode c_Lw_worst 1 = .ok (.iconst 0, 1) := by decide +kernel
theorem d_Lw_worst_2 : decode c_Lw_worst 2 = .ok (.aload_n 0, 1) := by decide +kernel
theorem d_Lw_worst_3 : decode c_Lw_worst 3 = .ok (.iload_n 1, 1) := by decide +kernel
theorem d_Lw_worst_4 : decode c_Lw_worst 4 = .ok (.invokevirtual 64, 3) := by decide +kernel
theorem d_Lw_worst_7 : decode c_Lw_worst 7 = .ok (.i2l, 1) := by decide +kernel
theorem d_Lw_worst_8 : decode c_Lw_worst 8 = .ok (.lastore, 1) := by decide +kernel
theorem d_Lw_worst_9 : decode c_Lw_worst 9 = .ok (.goto 6, 3) := by decide +kernel
theorem d_Lw_worst_12 : decode c_Lw_worst 12 = .ok (.astore_n 3, 1) := by decide +kernel
theorem d_Lw_worst_13 : decode c_Lw_worst 13 = .ok (.iconst 1, 1) := by decide +kernel
theorem d_Lw_worst_14 : decode c_Lw_worst 14 = .ok (.ireturn, 1) := by decide +kernel
theorem d_Lw_worst_15 : decode c_Lw_worst 15 = .ok (.iconst 0, 1) := by decide +kernel
theorem d_Lw_worst_16 : decode c_Lw_worst 16 = .ok (.ireturn, 1) := by decide +kernel
theorem d_Lw_law_0 : decode c_Lw_law 0 = .ok (.new 8, 3) := by decide +kernel
theorem d_Lw_law_3 : decode c_Lw_law 3 = .ok (.dup, 1) := by decide +kernel
theorem d_Lw_law_4 : decode c_Lw_law 4 = .ok (.aload_n 0, 1) := by decide +kernel
theorem d_Lw_law_5 : decode c_Lw_law 5 = .ok (.iconst 0, 1) := by decide +kernel
theorem d_Lw_law_6 : decode c_Lw_law 6 = .ok (.invokestatic 67, 3) := by decide +kernel
theorem d_Lw_law_9 : decode c_Lw_law 9 = .ok (.aload_n 0, 1) := by decide +kernel
theorem d_Lw_law_10 : decode c_Lw_law 10 = .ok (.iconst 1, 1) := by decide +kernel
theorem d_Lw_law_11 : decode c_Lw_law 11 = .ok (.invokestatic 67, 3) := by decide +kernel
theorem d_Lw_law_14 : decode c_Lw_law 14 = .ok (.invokespecial 72, 3) := by decide +kernel
theorem d_Lw_law_17 : decode c_Lw_law 17 = .ok (.astore_n 1, 1) := by decide +kernel
theorem d_Lw_law_18 : decode c_Lw_law 18 = .ok (.new 75, 3) := by decide +kernel
theorem d_Lw_law_21 : decode c_Lw_law 21 = .ok (.dup, 1) := by decide +kernel
theorem d_Lw_law_22 : decode c_Lw_law 22 = .ok (.aload_n 0, 1) := by decide +kernel
theorem d_Lw_law_23 : decode c_Lw_law 23 = .ok (.iconst 0, 1) := by decide +kernel
theorem d_Lw_law_24 : decode c_Lw_law 24 = .ok (.invokestatic 67, 3) := by decide +kernel
theorem d_Lw_law_27 : decode c_Lw_law 27 = .ok (.aload_n 0, 1) := by decide +kernel
theorem d_Lw_law_28 : decode c_Lw_law 28 = .ok (.iconst 1, 1) := by decide +kernel
theorem d_Lw_law_29 : decode c_Lw_law 29 = .ok (.invokestatic 67, 3) := by decide +kernel
theorem d_Lw_law_32 : decode c_Lw_law 32 = .ok (.invokespecial 77, 3) := by decide +kernel
theorem d_Lw_law_35 : decode c_Lw_law 35 = .ok (.astore_n 2, 1) := by decide +kernel
theorem d_Lw_law_36 : decode c_Lw_law 36 = .ok (.iconst 1, 1) := by decide +kernel
theorem d_Lw_law_37 : decode c_Lw_law 37 = .ok (.newarray .long, 2) := by decide +kernel
theorem d_Lw_law_39 : decode c_Lw_law 39 = .ok (.astore_n 3, 1) := by decide +kernel
theorem d_Lw_law_40 : decode c_Lw_law 40 = .ok (.iconst 2, 1) := by decide +kernel
theorem d_Lw_law_41 : decode c_Lw_law 41 = .ok (.istore 4, 2) := by decide +kernel
theorem d_Lw_law_43 : decode c_Lw_law 43 = .ok (.iload 4, 2) := by decide +kernel
theorem d_Lw_law_45 : decode c_Lw_law 45 = .ok (.aload_n 0, 1) := by decide +kernel
theorem d_Lw_law_46 : decode c_Lw_law 46 = .ok (.arraylength, 1) := by decide +kernel
theorem d_Lw_law_47 : decode c_Lw_law 47 = .ok (.bipush 7, 2) := by decide +kernel
theorem d_Lw_law_49 : decode c_Lw_law 49 = .ok (.isub, 1) := by decide +kernel
theorem d_Lw_law_50 : decode c_Lw_law 50 = .ok (.if_icmp .gt 1263, 3) := by decide +kernel
theorem d_Lw_law_53 : decode c_Lw_law 53 = .ok (.aload_n 0, 1) := by decide +kernel
theorem d_Lw_law_54 : decode c_Lw_law 54 = .ok (.iload 4, 2) := by decide +kernel
theorem d_Lw_law_56 : decode c_Lw_law 56 = .ok (.iaload, 1) := by decide +kernel
theorem d_Lw_law_57 : decode c_Lw_law 57 = .ok (.bipush 15, 2) := by decide +kernel
theorem d_Lw_law_59 : decode c_Lw_law 59 = .ok (.iand, 1) := by decide +kernel
theorem d_Lw_law_60 : decode c_Lw_law 60 = .ok (.tableswitch 1247 0 14 #[76, 194, 293, 384, 456, 524, 616, 703, 771, 839, 907, 975, 1031, 1111, 1191], 76) := by decide +kernel
theorem d_Lw_law_136 : decode c_Lw_law 136 = .ok (.aload_n 1, 1) := by decide +kernel
theorem d_Lw_law_137 : decode c_Lw_law 137 = .ok (.aload_n 0, 1) := by decide +kernel
theorem d_Lw_law_138 : decode c_Lw_law 138 = .ok (.iload 4, 2) := by decide +kernel
theorem d_Lw_law_140 : decode c_Lw_law 140 = .ok (.iconst 1, 1) := by decide +kernel
theorem d_Lw_law_141 : decode c_Lw_law 141 = .ok (.iadd, 1) := by decide +kernel
theorem d_Lw_law_142 : decode c_Lw_law 142 = .ok (.iaload, 1) := by decide +kernel
theorem d_Lw_law_143 : decode c_Lw_law 143 = .ok (.aload_n 0, 1) := by decide +kernel
theorem d_Lw_law_144 : decode c_Lw_law 144 = .ok (.iload 4, 2) := by decide +kernel
theorem d_Lw_law_146 : decode c_Lw_law 146 = .ok (.iconst 2, 1) := by decide +kernel
theorem d_Lw_law_147 : decode c_Lw_law 147 = .ok (.iadd, 1) := by decide +kernel
theorem d_Lw_law_148 : decode c_Lw_law 148 = .ok (.iaload, 1) := by decide +kernel
theorem d_Lw_law_149 : decode c_Lw_law 149 = .ok (.aload_n 0, 1) := by decide +kernel
theorem d_Lw_law_150 : decode c_Lw_law 150 = .ok (.iload 4, 2) := by decide +kernel
theorem d_Lw_law_152 : decode c_Lw_law 152 = .ok (.iconst 3, 1) := by decide +kernel
theorem d_Lw_law_153 : decode c_Lw_law 153 = .ok (.iadd, 1) := by decide +kernel
theorem d_Lw_law_154 : decode c_Lw_law 154 = .ok (.iaload, 1) := by decide +kernel
theorem d_Lw_law_155 : decode c_Lw_law 155 = .ok (.aload_n 0, 1) := by decide +kernel
theorem d_Lw_law_156 : decode c_Lw_law 156 = .ok (.iload 4, 2) := by decide +kernel
theorem d_Lw_law_158 : decode c_Lw_law 158 = .ok (.iconst 4, 1) := by decide +kernel
theorem d_Lw_law_159 : decode c_Lw_law 159 = .ok (.iadd, 1) := by decide +kernel
theorem d_Lw_law_160 : decode c_Lw_law 160 = .ok (.iaload, 1) := by decide +kernel
theorem d_Lw_law_161 : decode c_Lw_law 161 = .ok (.aload_n 0, 1) := by decide +kernel
theorem d_Lw_law_162 : decode c_Lw_law 162 = .ok (.iload 4, 2) := by decide +kernel
theorem d_Lw_law_164 : decode c_Lw_law 164 = .ok (.iconst 5, 1) := by decide +kernel
theorem d_Lw_law_165 : decode c_Lw_law 165 = .ok (.iadd, 1) := by decide +kernel
theorem d_Lw_law_166 : decode c_Lw_law 166 = .ok (.iaload, 1) := by decide +kernel
theorem d_Lw_law_167 : decode c_Lw_law 167 = .ok (.aload_n 0, 1) := by decide +kernel
theorem d_Lw_law_168 : decode c_Lw_law 168 = .ok (.iload 4, 2) := by decide +kernel
theorem d_Lw_law_170 : decode c_Lw_law 170 = .ok (.bipush 6, 2) := by decide +kernel
theorem d_Lw_law_172 : decode c_Lw_law 172 = .ok (.iadd, 1) := by decide +kernel
theorem d_Lw_law_173 : decode c_Lw_law 173 = .ok (.iaload, 1) := by decide +kernel
theorem d_Lw_law_174 : decode c_Lw_law 174 = .ok (.aload_n 3, 1) := by decide +kernel
theorem d_Lw_law_175 : decode c_Lw_law 175 = .ok (.invokestatic 78, 3) := by decide +kernel
theorem d_Lw_law_178 : decode c_Lw_law 178 = .ok (.istore 5, 2) := by decide +kernel
theorem d_Lw_law_180 : decode c_Lw_law 180 = .ok (.aload_n 2, 1) := by decide +kernel
theorem d_Lw_law_181 : decode c_Lw_law 181 = .ok (.aload_n 0, 1) := by decide +kernel
theorem d_Lw_law_182 : decode c_Lw_law 182 = .ok (.iload 4, 2) := by decide +kernel
theorem d_Lw_law_184 : decode c_Lw_law 184 = .ok (.iconst 1, 1) := by decide +kernel
theorem d_Lw_law_185 : decode c_Lw_law 185 = .ok (.iadd, 1) := by decide +kernel
theorem d_Lw_law_186 : decode c_Lw_law 186 = .ok (.iaload, 1) := by decide +kernel
theorem d_Lw_law_187 : decode c_Lw_law 187 = .ok (.aload_n 0, 1) := by decide +kernel
theorem d_Lw_law_188 : decode c_Lw_law 188 = .ok (.iload 4, 2) := by decide +kernel
theorem d_Lw_law_190 : decode c_Lw_law 190 = .ok (.iconst 2, 1) := by decide +kernel
theorem d_Lw_law_191 : decode c_Lw_law 191 = .ok (.iadd, 1) := by decide +kernel
theorem d_Lw_law_192 : decode c_Lw_law 192 = .ok (.iaload, 1) := by decide +kernel
theorem d_Lw_law_193 : decode c_Lw_law 193 = .ok (.aload_n 0, 1) := by decide +kernel
theorem d_Lw_law_194 : decode c_Lw_law 194 = .ok (.iload 4, 2) := by decide +kernel
theorem d_Lw_law_196 : decode c_Lw_law 196 = .ok (.iconst 3, 1) := by decide +kernel
theorem d_Lw_law_197 : decode c_Lw_law 197 = .ok (.iadd, 1) := by decide +kernel
theorem d_Lw_law_198 : decode c_Lw_law 198 = .ok (.iaload, 1) := by decide +kernel
theorem d_Lw_law_199 : decode c_Lw_law 199 = .ok (.aload_n 0, 1) := by decide +kernel
theorem d_Lw_law_200 : decode c_Lw_law 200 = .ok (.iload 4, 2) := by decide +kernel
theorem d_Lw_law_202 : decode c_Lw_law 202 = .ok (.iconst 4, 1) := by decide +kernel
theorem d_Lw_law_203 : decode c_Lw_law 203 = .ok (.iadd, 1) := by decide +kernel
theorem d_Lw_law_204 : decode c_Lw_law 204 = .ok (.iaload, 1) := by decide +kernel
theorem d_Lw_law_205 : decode c_Lw_law 205 = .ok (.aload_n 0, 1) := by decide +kernel
theorem d_Lw_law_206 : decode c_Lw_law 206 = .ok (.iload 4, 2) := by decide +kernel
theorem d_Lw_law_208 : decode c_Lw_law 208 = .ok (.iconst 5, 1) := by decide +kernel
theorem d_Lw_law_209 : decode c_Lw_law 209 = .ok (.iadd, 1) := by decide +kernel
theorem d_Lw_law_210 : decode c_Lw_law 210 = .ok (.iaload, 1) := by decide +kernel
theorem d_Lw_law_211 : decode c_Lw_law 211 = .ok (.aload_n 0, 1) := by decide +kernel
theorem d_Lw_law_212 : decode c_Lw_law 212 = .ok (.iload 4, 2) := by decide +kernel
theorem d_Lw_law_214 : decode c_Lw_law 214 = .ok (.bipush 6, 2) := by decide +kernel
theorem d_Lw_law_216 : decode c_Lw_law 216 = .ok (.iadd, 1) := by decide +kernel
theorem d_Lw_law_217 : decode c_Lw_law 217 = .ok (.iaload, 1) := by decide +kernel
theorem d_Lw_law_218 : decode c_Lw_law 218 = .ok (.invokevirtual 81, 3) := by decide +kernel
theorem d_Lw_law_221 : decode c_Lw_law 221 = .ok (.istore 6, 2) := by decide +kernel
theorem d_Lw_law_223 : decode c_Lw_law 223 = .ok (.aload_n 2, 1) := by decide +kernel
theorem d_Lw_law_224 : decode c_Lw_law 224 = .ok (.invokevirtual 82, 3) := by decide +kernel
theorem d_Lw_law_227 : decode c_Lw_law 227 = .ok (.iload 5, 2) := by decide +kernel
theorem d_Lw_law_229 : decode c_Lw_law 229 = .ok (.if_icmp .eq 5, 3) := by decide +kernel
theorem d_Lw_law_232 : decode c_Lw_law 232 = .ok (.iconst 0, 1) := by decide +kernel
theorem d_Lw_law_233 : decode c_Lw_law 233 = .ok (.ireturn, 1) := by decide +kernel
theorem d_Lw_law_234 : decode c_Lw_law 234 = .ok (.iload 5, 2) := by decide +kernel
theorem d_Lw_law_236 : decode c_Lw_law 236 = .ok (.ifCond .ne 15, 3) := by decide +kernel
theorem d_Lw_law_239 : decode c_Lw_law 239 = .ok (.aload_n 3, 1) := by decide +kernel
theorem d_Lw_law_240 : decode c_Lw_law 240 = .ok (.iconst 0, 1) := by decide +kernel
theorem d_Lw_law_241 : decode c_Lw_law 241 = .ok (.laload, 1) := by decide +kernel
theorem d_Lw_law_242 : decode c_Lw_law 242 = .ok (.iload 6, 2) := by decide +kernel
theorem d_Lw_law_244 : decode c_Lw_law 244 = .ok (.i2l, 1) := by decide +kernel
theorem d_Lw_law_245 : decode c_Lw_law 245 = .ok (.lcmp, 1) := by decide +kernel
theorem d_Lw_law_246 : decode c_Lw_law 246 = .ok (.ifCond .eq 5, 3) := by decide +kernel
theorem d_Lw_law_249 : decode c_Lw_law 249 = .ok (.iconst 0, 1) := by decide +kernel
theorem d_Lw_law_250 : decode c_Lw_law 250 = .ok (.ireturn, 1) := by decide +kernel
theorem d_Lw_law_251 : decode c_Lw_law 251 = .ok (.goto 1056, 3) := by decide +kernel
theorem d_Lw_law_254 : decode c_Lw_law 254 = .ok (.aload_n 1, 1) := by decide +kernel
theorem d_Lw_law_255 : decode c_Lw_law 255 = .ok (.aload_n 0, 1) := by decide +kernel
theorem d_Lw_law_256 : decode c_Lw_law 256 = .ok (.iload 4, 2) := by decide +kernel
theorem d_Lw_law_258 : decode c_Lw_law 258 = .ok (.iconst 1, 1) := by decide +kernel
theorem d_Lw_law_259 : decode c_Lw_law 259 = .ok (.iadd, 1) := by decide +kernel
theorem d_Lw_law_260 : decode c_Lw_law 260 = .ok (.iaload, 1) := by decide +kernel
theorem d_Lw_law_261 : decode c_Lw_law 261 = .ok (.aload_n 0, 1) := by decide +kernel
theorem d_Lw_law_262 : decode c_Lw_law 262 = .ok (.iload 4, 2) := by decide +kernel
theorem d_Lw_law_264 : decode c_Lw_law 264 = .ok (.iconst 2, 1) := by decide +kernel
theorem d_Lw_law_265 : decode c_Lw_law 265 = .ok (.iadd, 1) := by decide +kernel
theorem d_Lw_law_266 : decode c_Lw_law 266 = .ok (.iaload, 1) := by decide +kernel
theorem d_Lw_law_267 : decode c_Lw_law 267 = .ok (.aload_n 0, 1) := by decide +kernel
theorem d_Lw_law_268 : decode c_Lw_law 268 = .ok (.iload 4, 2) := by decide +kernel
theorem d_Lw_law_270 : decode c_Lw_law 270 = .ok (.iconst 3, 1) := by decide +kernel
theorem d_Lw_law_271 : decode c_Lw_law 271 = .ok (.iadd, 1) := by decide +kernel
theorem d_Lw_law_272 : decode c_Lw_law 272 = .ok (.iaload, 1) := by decide +kernel
theorem d_Lw_law_273 : decode c_Lw_law 273 = .ok (.aload_n 0, 1) := by decide +kernel
theorem d_Lw_law_274 : decode c_Lw_law 274 = .ok (.iload 4, 2) := by decide +kernel
theorem d_Lw_law_276 : decode c_Lw_law 276 = .ok (.iconst 4, 1) := by decide +kernel
theorem d_Lw_law_277 : decode c_Lw_law 277 = .ok (.iadd, 1) := by decide +kernel
theorem d_Lw_law_278 : decode c_Lw_law 278 = .ok (.iaload, 1) := by decide +kernel
theorem d_Lw_law_279 : decode c_Lw_law 279 = .ok (.aload_n 3, 1) := by decide +kernel
theorem d_Lw_law_280 : decode c_Lw_law 280 = .ok (.invokestatic 86, 3) := by decide +kernel
theorem d_Lw_law_283 : decode c_Lw_law 283 = .ok (.istore 5, 2) := by decide +kernel
theorem d_Lw_law_285 : decode c_Lw_law 285 = .ok (.aload_n 2, 1) := by decide +kernel
theorem d_Lw_law_286 : decode c_Lw_law 286 = .ok (.aload_n 0, 1) := by decide +kernel
theorem d_Lw_law_287 : decode c_Lw_law 287 = .ok (.iload 4, 2) := by decide +kernel
theorem d_Lw_law_289 : decode c_Lw_law 289 = .ok (.iconst 1, 1) := by decide +kernel
theorem d_Lw_law_290 : decode c_Lw_law 290 = .ok (.iadd, 1) := by decide +kernel
theorem d_Lw_law_291 : decode c_Lw_law 291 = .ok (.iaload, 1) := by decide +kernel
theorem d_Lw_law_292 : decode c_Lw_law 292 = .ok (.aload_n 0, 1) := by decide +kernel
theorem d_Lw_law_293 : decode c_Lw_law 293 = .ok (.iload 4, 2) := by decide +kernel
theorem d_Lw_law_295 : decode c_Lw_law 295 = .ok (.iconst 2, 1) := by decide +kernel
theorem d_Lw_law_296 : decode c_Lw_law 296 = .ok (.iadd, 1) := by decide +kernel
theorem d_Lw_law_297 : decode c_Lw_law 297 = .ok (.iaload, 1) := by decide +kernel
theorem d_Lw_law_298 : decode c_Lw_law 298 = .ok (.aload_n 0, 1) := by decide +kernel
theorem d_Lw_law_299 : decode c_Lw_law 299 = .ok (.iload 4, 2) := by decide +kernel
theorem d_Lw_law_301 : decode c_Lw_law 301 = .ok (.iconst 3, 1) := by decide +kernel
theorem d_Lw_law_302 : decode c_Lw_law 302 = .ok (.iadd, 1) := by decide +kernel
theorem d_Lw_law_303 : decode c_Lw_law 303 = .ok (.iaload, 1) := by decide +kernel
theorem d_Lw_law_304 : decode c_Lw_law 304 = .ok (.aload_n 0, 1) := by decide +kernel
theorem d_Lw_law_305 : decode c_Lw_law 305 = .ok (.iload 4, 2) := by decide +kernel
theorem d_Lw_law_307 : decode c_Lw_law 307 = .ok (.iconst 4, 1) := by decide +kernel
theorem d_Lw_law_308 : decode c_Lw_law 308 = .ok (.iadd, 1) := by decide +kernel
theorem d_Lw_law_309 : decode c_Lw_law 309 = .ok (.iaload, 1) := by decide +kernel
theorem d_Lw_law_310 : decode c_Lw_law 310 = .ok (.invokevirtual 89, 3) := by decide +kernel
theorem d_Lw_law_313 : decode c_Lw_law 313 = .ok (.istore 6, 2) := by decide +kernel
theorem d_Lw_law_315 : decode c_Lw_law 315 = .ok (.aload_n 2, 1) := by decide +kernel
theorem d_Lw_law_316 : decode c_Lw_law 316 = .ok (.invokevirtual 82, 3) := by decide +kernel
theorem d_Lw_law_319 : decode c_Lw_law 319 = .ok (.iload 5, 2) := by decide +kernel
theorem d_Lw_law_321 : decode c_Lw_law 321 = .ok (.if_icmp .eq 5, 3) := by decide +kernel
theorem d_Lw_law_324 : decode c_Lw_law 324 = .ok (.iconst 0, 1) := by decide +kernel
theorem d_Lw_law_325 : decode c_Lw_law 325 = .ok (.ireturn, 1) := by decide +kernel
theorem d_Lw_law_326 : decode c_Lw_law 326 = .ok (.iload 5, 2) := by decide +kernel
theorem d_Lw_law_328 : decode c_Lw_law 328 = .ok (.ifCond .ne 22, 3) := by decide +kernel
theorem d_Lw_law_331 : decode c_Lw_law 331 = .ok (.aload_n 3, 1) := by decide +kernel
theorem d_Lw_law_332 : decode c_Lw_law 332 = .ok (.iconst 0, 1) := by decide +kernel
theorem d_Lw_law_333 : decode c_Lw_law 333 = .ok (.laload, 1) := by decide +kernel
theorem d_Lw_law_334 : decode c_Lw_law 334 = .ok (.iload 6, 2) := by decide +kernel
theorem d_Lw_law_336 : decode c_Lw_law 336 = .ok (.ifCond .eq 7, 3) := by decide +kernel
theorem d_Lw_law_339 : decode c_Lw_law 339 = .ok (.lconst 1, 1) := by decide +kernel
theorem d_Lw_law_340 : decode c_Lw_law 340 = .ok (.goto 4, 3) := by decide +kernel
theorem d_Lw_law_343 : decode c_Lw_law 343 = .ok (.lconst 0, 1) := by decide +kernel
theorem d_Lw_law_344 : decode c_Lw_law 344 = .ok (.lcmp, 1) := by decide +kernel
theorem d_Lw_law_345 : decode c_Lw_law 345 = .ok (.ifCond .eq 5, 3) := by decide +kernel
theorem d_Lw_law_348 : decode c_Lw_law 348 = .ok (.iconst 0, 1) := by decide +kernel
theorem d_Lw_law_349 : decode c_Lw_law 349 = .ok (.ireturn, 1) := by decide +kernel
theorem d_Lw_law_350 : decode c_Lw_law 350 = .ok (.goto 957, 3) := by decide +kernel
theorem d_Lw_law_353 : decode c_Lw_law 353 = .ok (.aload_n 1, 1) := by decide +kernel
theorem d_Lw_law_354 : decode c_Lw_law 354 = .ok (.aload_n 0, 1) := by decide +kernel
theorem d_Lw_law_355 : decode c_Lw_law 355 = .ok (.iload 4, 2) := by decide +kernel
theorem d_Lw_law_357 : decode c_Lw_law 357 = .ok (.iconst 1, 1) := by decide +kernel
theorem d_Lw_law_358 : decode c_Lw_law 358 = .ok (.iadd, 1) := by decide +kernel
theorem d_Lw_law_359 : decode c_Lw_law 359 = .ok (.iaload, 1) := by decide +kernel
theorem d_Lw_law_360 : decode c_Lw_law 360 = .ok (.aload_n 0, 1) := by decide +kernel
theorem d_Lw_law_361 : decode c_Lw_law 361 = .ok (.iload 4, 2) := by decide +kernel
theorem d_Lw_law_363 : decode c_Lw_law 363 = .ok (.iconst 2, 1) := by decide +kernel
theorem d_Lw_law_364 : decode c_Lw_law 364 = .ok (.iadd, 1) := by decide +kernel
theorem d_Lw_law_365 : decode c_Lw_law 365 = .ok (.iaload, 1) := by decide +kernel
theorem d_Lw_law_366 : decode c_Lw_law 366 = .ok (.ifCond .eq 7, 3) := by decide +kernel
theorem d_Lw_law_369 : decode c_Lw_law 369 = .ok (.iconst 1, 1) := by decide +kernel
theorem d_Lw_law_370 : decode c_Lw_law 370 = .ok (.goto 4, 3) := by decide +kernel
theorem d_Lw_law_373 : decode c_Lw_law 373 = .ok (.iconst 0, 1) := by decide +kernel
theorem d_Lw_law_374 : decode c_Lw_law 374 = .ok (.aload_n 3, 1) := by decide +kernel
theorem d_Lw_law_375 : decode c_Lw_law 375 = .ok (.invokestatic 90, 3) := by decide +kernel
theorem d_Lw_law_378 : decode c_Lw_law 378 = .ok (.istore 5, 2) := by decide +kernel
theorem d_Lw_law_380 : decode c_Lw_law 380 = .ok (.aload_n 2, 1) := by decide +kernel
theorem d_Lw_law_381 : decode c_Lw_law 381 = .ok (.aload_n 0, 1) := by decide +kernel
theorem d_Lw_law_382 : decode c_Lw_law 382 = .ok (.iload 4, 2) := by decide +kernel
theorem d_Lw_law_384 : decode c_Lw_law 384 = .ok (.iconst 1, 1) := by decide +kernel
theorem d_Lw_law_385 : decode c_Lw_law 385 = .ok (.iadd, 1) := by decide +kernel
theorem d_Lw_law_386 : decode c_Lw_law 386 = .ok (.iaload, 1) := by decide +kernel
theorem d_Lw_law_387 : decode c_Lw_law 387 = .ok (.aload_n 0, 1) := by decide +kernel
theorem d_Lw_law_388 : decode c_Lw_law 388 = .ok (.iload 4, 2) := by decide +kernel
theorem d_Lw_law_390 : decode c_Lw_law 390 = .ok (.iconst 2, 1) := by decide +kernel
theorem d_Lw_law_391 : decode c_Lw_law 391 = .ok (.iadd, 1) := by decide +kernel
theorem d_Lw_law_392 : decode c_Lw_law 392 = .ok (.iaload, 1) := by decide +kernel
theorem d_Lw_law_393 : decode c_Lw_law 393 = .ok (.ifCond .eq 7, 3) := by decide +kernel
theorem d_Lw_law_396 : decode c_Lw_law 396 = .ok (.iconst 1, 1) := by decide +kernel
theorem d_Lw_law_397 : decode c_Lw_law 397 = .ok (.goto 4, 3) := by decide +kernel
theorem d_Lw_law_400 : decode c_Lw_law 400 = .ok (.iconst 0, 1) := by decide +kernel
theorem d_Lw_law_401 : decode c_Lw_law 401 = .ok (.invokevirtual 93, 3) := by decide +kernel
theorem d_Lw_law_404 : decode c_Lw_law 404 = .ok (.istore 6, 2) := by decide +kernel
theorem d_Lw_law_406 : decode c_Lw_law 406 = .ok (.aload_n 2, 1) := by decide +kernel
theorem d_Lw_law_407 : decode c_Lw_law 407 = .ok (.invokevirtual 82, 3) := by decide +kernel
theorem d_Lw_law_410 : decode c_Lw_law 410 = .ok (.iload 5, 2) := by decide +kernel
theorem d_Lw_law_412 : decode c_Lw_law 412 = .ok (.if_icmp .eq 5, 3) := by decide +kernel
theorem d_Lw_law_415 : decode c_Lw_law 415 = .ok (.iconst 0, 1) := by decide +kernel
theorem d_Lw_law_416 : decode c_Lw_law 416 = .ok (.ireturn, 1) := by decide +kernel
theorem d_Lw_law_417 : decode c_Lw_law 417 = .ok (.iload 5, 2) := by decide +kernel
theorem d_Lw_law_419 : decode c_Lw_law 419 = .ok (.ifCond .ne 22, 3) := by decide +kernel
theorem d_Lw_law_422 : decode c_Lw_law 422 = .ok (.aload_n 3, 1) := by decide +kernel
theorem d_Lw_law_423 : decode c_Lw_law 423 = .ok (.iconst 0, 1) := by decide +kernel
theorem d_Lw_law_424 : decode c_Lw_law 424 = .ok (.laload, 1) := by decide +kernel
theorem d_Lw_law_425 : decode c_Lw_law 425 = .ok (.iload 6, 2) := by decide +kernel
theorem d_Lw_law_427 : decode c_Lw_law 427 = .ok (.ifCond .eq 7, 3) := by decide +kernel
theorem d_Lw_law_430 : decode c_Lw_law 430 = .ok (.lconst 1, 1) := by decide +kernel
theorem d_Lw_law_431 : decode c_Lw_law 431 = .ok (.goto 4, 3) := by decide +kernel
theorem d_Lw_law_434 : decode c_Lw_law 434 = .ok (.lconst 0, 1) := by decide +kernel
theorem d_Lw_law_435 : decode c_Lw_law 435 = .ok (.lcmp, 1) := by decide +kernel
theorem d_Lw_law_436 : decode c_Lw_law 436 = .ok (.ifCond .eq 5, 3) := by decide +kernel
theorem d_Lw_law_439 : decode c_Lw_law 439 = .ok (.iconst 0, 1) := by decide +kernel
theorem d_Lw_law_440 : decode c_Lw_law 440 = .ok (.ireturn, 1) := by decide +kernel
theorem d_Lw_law_441 : decode c_Lw_law 441 = .ok (.goto 866, 3) := by decide +kernel
theorem d_Lw_law_444 : decode c_Lw_law 444 = .ok (.aload_n 1, 1) := by decide +kernel
theorem d_Lw_law_445 : decode c_Lw_law 445 = .ok (.aload_n 0, 1) := by decide +kernel
theorem d_Lw_law_446 : decode c_Lw_law 446 = .ok (.iload 4, 2) := by decide +kernel
theorem d_Lw_law_448 : decode c_Lw_law 448 = .ok (.iconst 1, 1) := by decide +kernel
theorem d_Lw_law_449 : decode c_Lw_law 449 = .ok (.iadd, 1) := by decide +kernel
theorem d_Lw_law_450 : decode c_Lw_law 450 = .ok (.iaload, 1) := by decide +kernel
theorem d_Lw_law_451 : decode c_Lw_law 451 = .ok (.aload_n 0, 1) := by decide +kernel
theorem d_Lw_law_452 : decode c_Lw_law 452 = .ok (.iload 4, 2) := by decide +kernel
theorem d_Lw_law_454 : decode c_Lw_law 454 = .ok (.iconst 2, 1) := by decide +kernel
theorem d_Lw_law_455 : decode c_Lw_law 455 = .ok (.iadd, 1) := by decide +kernel
theorem d_Lw_law_456 : decode c_Lw_law 456 = .ok (.iaload, 1) := by decide +kernel
theorem d_Lw_law_457 : decode c_Lw_law 457 = .ok (.aload_n 0, 1) := by decide +kernel
theorem d_Lw_law_458 : decode c_Lw_law 458 = .ok (.iload 4, 2) := by decide +kernel
theorem d_Lw_law_460 : decode c_Lw_law 460 = .ok (.iconst 3, 1) := by decide +kernel
theorem d_Lw_law_461 : decode c_Lw_law 461 = .ok (.iadd, 1) := by decide +kernel
theorem d_Lw_law_462 : decode c_Lw_law 462 = .ok (.iaload, 1) := by decide +kernel
theorem d_Lw_law_463 : decode c_Lw_law 463 = .ok (.aload_n 0, 1) := by decide +kernel
theorem d_Lw_law_464 : decode c_Lw_law 464 = .ok (.iload 4, 2) := by decide +kernel
theorem d_Lw_law_466 : decode c_Lw_law 466 = .ok (.iconst 4, 1) := by decide +kernel
theorem d_Lw_law_467 : decode c_Lw_law 467 = .ok (.iadd, 1) := by decide +kernel
theorem d_Lw_law_468 : decode c_Lw_law 468 = .ok (.iaload, 1) := by decide +kernel
theorem d_Lw_law_469 : decode c_Lw_law 469 = .ok (.invokestatic 94, 3) := by decide +kernel
theorem d_Lw_law_472 : decode c_Lw_law 472 = .ok (.istore 5, 2) := by decide +kernel
theorem d_Lw_law_474 : decode c_Lw_law 474 = .ok (.aload_n 2, 1) := by decide +kernel
theorem d_Lw_law_475 : decode c_Lw_law 475 = .ok (.aload_n 0, 1) := by decide +kernel
theorem d_Lw_law_476 : decode c_Lw_law 476 = .ok (.iload 4, 2) := by decide +kernel
theorem d_Lw_law_478 : decode c_Lw_law 478 = .ok (.iconst 1, 1) := by decide +kernel
theorem d_Lw_law_479 : decode c_Lw_law 479 = .ok (.iadd, 1) := by decide +kernel
theorem d_Lw_law_480 : decode c_Lw_law 480 = .ok (.iaload, 1) := by decide +kernel
theorem d_Lw_law_481 : decode c_Lw_law 481 = .ok (.aload_n 0, 1) := by decide +kernel
theorem d_Lw_law_482 : decode c_Lw_law 482 = .ok (.iload 4, 2) := by decide +kernel
theorem d_Lw_law_484 : decode c_Lw_law 484 = .ok (.iconst 2, 1) := by decide +kernel
theorem d_Lw_law_485 : decode c_Lw_law 485 = .ok (.iadd, 1) := by decide +kernel
theorem d_Lw_law_486 : decode c_Lw_law 486 = .ok (.iaload, 1) := by decide +kernel
theorem d_Lw_law_487 : decode c_Lw_law 487 = .ok (.aload_n 0, 1) := by decide +kernel
theorem d_Lw_law_488 : decode c_Lw_law 488 = .ok (.iload 4, 2) := by decide +kernel
theorem d_Lw_law_490 : decode c_Lw_law 490 = .ok (.iconst 3, 1) := by decide +kernel
theorem d_Lw_law_491 : decode c_Lw_law 491 = .ok (.iadd, 1) := by decide +kernel
theorem d_Lw_law_492 : decode c_Lw_law 492 = .ok (.iaload, 1) := by decide +kernel
theorem d_Lw_law_493 : decode c_Lw_law 493 = .ok (.aload_n 0, 1) := by decide +kernel
theorem d_Lw_law_494 : decode c_Lw_law 494 = .ok (.iload 4, 2) := by decide +kernel
theorem d_Lw_law_496 : decode c_Lw_law 496 = .ok (.iconst 4, 1) := by decide +kernel
theorem d_Lw_law_497 : decode c_Lw_law 497 = .ok (.iadd, 1) := by decide +kernel
theorem d_Lw_law_498 : decode c_Lw_law 498 = .ok (.iaload, 1) := by decide +kernel
theorem d_Lw_law_499 : decode c_Lw_law 499 = .ok (.invokevirtual 97, 3) := by decide +kernel
theorem d_Lw_law_502 : decode c_Lw_law 502 = .ok (.aload_n 2, 1) := by decide +kernel
theorem d_Lw_law_503 : decode c_Lw_law 503 = .ok (.invokevirtual 82, 3) := by decide +kernel
theorem d_Lw_law_506 : decode c_Lw_law 506 = .ok (.iload 5, 2) := by decide +kernel
theorem d_Lw_law_508 : decode c_Lw_law 508 = .ok (.if_icmp .eq 5, 3) := by decide +kernel
theorem d_Lw_law_511 : decode c_Lw_law 511 = .ok (.iconst 0, 1) := by decide +kernel
theorem d_Lw_law_512 : decode c_Lw_law 512 = .ok (.ireturn, 1) := by decide +kernel
theorem d_Lw_law_513 : decode c_Lw_law 513 = .ok (.goto 794, 3) := by decide +kernel
theorem d_Lw_law_516 : decode c_Lw_law 516 = .ok (.aload_n 1, 1) := by decide +kernel
theorem d_Lw_law_517 : decode c_Lw_law 517 = .ok (.aload_n 0, 1) := by decide +kernel
theorem d_Lw_law_518 : decode c_Lw_law 518 = .ok (.iload 4, 2) := by decide +kernel
theorem d_Lw_law_520 : decode c_Lw_law 520 = .ok (.iconst 1, 1) := by decide +kernel
theorem d_Lw_law_521 : decode c_Lw_law 521 = .ok (.iadd, 1) := by decide +kernel
theorem d_Lw_law_522 : decode c_Lw_law 522 = .ok (.iaload, 1) := by decide +kernel
theorem d_Lw_law_523 : decode c_Lw_law 523 = .ok (.aload_n 0, 1) := by decide +kernel
theorem d_Lw_law_524 : decode c_Lw_law 524 = .ok (.iload 4, 2) := by decide +kernel
theorem d_Lw_law_526 : decode c_Lw_law 526 = .ok (.iconst 2, 1) := by decide +kernel
theorem d_Lw_law_527 : decode c_Lw_law 527 = .ok (.iadd, 1) := by decide +kernel
theorem d_Lw_law_528 : decode c_Lw_law 528 = .ok (.iaload, 1) := by decide +kernel
theorem d_Lw_law_529 : decode c_Lw_law 529 = .ok (.aload_n 3, 1) := by decide +kernel
theorem d_Lw_law_530 : decode c_Lw_law 530 = .ok (.invokestatic 98, 3) := by decide +kernel
theorem d_Lw_law_533 : decode c_Lw_law 533 = .ok (.istore 5, 2) := by decide +kernel
theorem d_Lw_law_535 : decode c_Lw_law 535 = .ok (.aload_n 2, 1) := by decide +kernel
theorem d_Lw_law_536 : decode c_Lw_law 536 = .ok (.aload_n 0, 1) := by decide +kernel
theorem d_Lw_law_537 : decode c_Lw_law 537 = .ok (.iload 4, 2) := by decide +kernel
theorem d_Lw_law_539 : decode c_Lw_law 539 = .ok (.iconst 1, 1) := by decide +kernel
theorem d_Lw_law_540 : decode c_Lw_law 540 = .ok (.iadd, 1) := by decide +kernel
theorem d_Lw_law_541 : decode c_Lw_law 541 = .ok (.iaload, 1) := by decide +kernel
theorem d_Lw_law_542 : decode c_Lw_law 542 = .ok (.aload_n 0, 1) := by decide +kernel
theorem d_Lw_law_543 : decode c_Lw_law 543 = .ok (.iload 4, 2) := by decide +kernel
theorem d_Lw_law_545 : decode c_Lw_law 545 = .ok (.iconst 2, 1) := by decide +kernel
theorem d_Lw_law_546 : decode c_Lw_law 546 = .ok (.iadd, 1) := by decide +kernel
theorem d_Lw_law_547 : decode c_Lw_law 547 = .ok (.iaload, 1) := by decide +kernel
theorem d_Lw_law_548 : decode c_Lw_law 548 = .ok (.invokevirtual 101, 3) := by decide +kernel
theorem d_Lw_law_551 : decode c_Lw_law 551 = .ok (.istore 6, 2) := by decide +kernel
theorem d_Lw_law_553 : decode c_Lw_law 553 = .ok (.aload_n 2, 1) := by decide +kernel
theorem d_Lw_law_554 : decode c_Lw_law 554 = .ok (.invokevirtual 82, 3) := by decide +kernel
theorem d_Lw_law_557 : decode c_Lw_law 557 = .ok (.iload 5, 2) := by decide +kernel
theorem d_Lw_law_559 : decode c_Lw_law 559 = .ok (.if_icmp .eq 5, 3) := by decide +kernel
theorem d_Lw_law_562 : decode c_Lw_law 562 = .ok (.iconst 0, 1) := by decide +kernel
theorem d_Lw_law_563 : decode c_Lw_law 563 = .ok (.ireturn, 1) := by decide +kernel
theorem d_Lw_law_564 : decode c_Lw_law 564 = .ok (.iload 5, 2) := by decide +kernel
theorem d_Lw_law_566 : decode c_Lw_law 566 = .ok (.ifCond .ne 15, 3) := by decide +kernel
theorem d_Lw_law_569 : decode c_Lw_law 569 = .ok (.aload_n 3, 1) := by decide +kernel
theorem d_Lw_law_570 : decode c_Lw_law 570 = .ok (.iconst 0, 1) := by decide +kernel
theorem d_Lw_law_571 : decode c_Lw_law 571 = .ok (.laload, 1) := by decide +kernel
theorem d_Lw_law_572 : decode c_Lw_law 572 = .ok (.iload 6, 2) := by decide +kernel
theorem d_Lw_law_574 : decode c_Lw_law 574 = .ok (.i2l, 1) := by decide +kernel
theorem d_Lw_law_575 : decode c_Lw_law 575 = .ok (.lcmp, 1) := by decide +kernel
theorem d_Lw_law_576 : decode c_Lw_law 576 = .ok (.ifCond .eq 5, 3) := by decide +kernel
theorem d_Lw_law_579 : decode c_Lw_law 579 = .ok (.iconst 0, 1) := by decide +kernel
theorem d_Lw_law_580 : decode c_Lw_law 580 = .ok (.ireturn, 1) := by decide +kernel
theorem d_Lw_law_581 : decode c_Lw_law 581 = .ok (.goto 726, 3) := by decide +kernel
theorem d_Lw_law_584 : decode c_Lw_law 584 = .ok (.aload_n 1, 1) := by decide +kernel
theorem d_Lw_law_585 : decode c_Lw_law 585 = .ok (.aload_n 0, 1) := by decide +kernel
theorem d_Lw_law_586 : decode c_Lw_law 586 = .ok (.iload 4, 2) := by decide +kernel
theorem d_Lw_law_588 : decode c_Lw_law 588 = .ok (.iconst 1, 1) := by decide +kernel
theorem d_Lw_law_589 : decode c_Lw_law 589 = .ok (.iadd, 1) := by decide +kernel
theorem d_Lw_law_590 : decode c_Lw_law 590 = .ok (.iaload, 1) := by decide +kernel
theorem d_Lw_law_591 : decode c_Lw_law 591 = .ok (.aload_n 0, 1) := by decide +kernel
theorem d_Lw_law_592 : decode c_Lw_law 592 = .ok (.iload 4, 2) := by decide +kernel
theorem d_Lw_law_594 : decode c_Lw_law 594 = .ok (.iconst 2, 1) := by decide +kernel
theorem d_Lw_law_595 : decode c_Lw_law 595 = .ok (.iadd, 1) := by decide +kernel
theorem d_Lw_law_596 : decode c_Lw_law 596 = .ok (.iaload, 1) := by decide +kernel
theorem d_Lw_law_597 : decode c_Lw_law 597 = .ok (.aload_n 0, 1) := by decide +kernel
theorem d_Lw_law_598 : decode c_Lw_law 598 = .ok (.iload 4, 2) := by decide +kernel
theorem d_Lw_law_600 : decode c_Lw_law 600 = .ok (.iconst 3, 1) := by decide +kernel
theorem d_Lw_law_601 : decode c_Lw_law 601 = .ok (.iadd, 1) := by decide +kernel
theorem d_Lw_law_602 : decode c_Lw_law 602 = .ok (.iaload, 1) := by decide +kernel
theorem d_Lw_law_603 : decode c_Lw_law 603 = .ok (.aload_n 0, 1) := by decide +kernel
theorem d_Lw_law_604 : decode c_Lw_law 604 = .ok (.iload 4, 2) := by decide +kernel
theorem d_Lw_law_606 : decode c_Lw_law 606 = .ok (.iconst 4, 1) := by decide +kernel
theorem d_Lw_law_607 : decode c_Lw_law 607 = .ok (.iadd, 1) := by decide +kernel
theorem d_Lw_law_608 : decode c_Lw_law 608 = .ok (.iaload, 1) := by decide +kernel
theorem d_Lw_law_609 : decode c_Lw_law 609 = .ok (.aload_n 3, 1) := by decide +kernel
theorem d_Lw_law_610 : decode c_Lw_law 610 = .ok (.invokestatic 102, 3) := by decide +kernel
theorem d_Lw_law_613 : decode c_Lw_law 613 = .ok (.istore 5, 2) := by decide +kernel
theorem d_Lw_law_615 : decode c_Lw_law 615 = .ok (.aload_n 2, 1) := by decide +kernel
theorem d_Lw_law_616 : decode c_Lw_law 616 = .ok (.aload_n 0, 1) := by decide +kernel
theorem d_Lw_law_617 : decode c_Lw_law 617 = .ok (.iload 4, 2) := by decide +kernel
theorem d_Lw_law_619 : decode c_Lw_law 619 = .ok (.iconst 1, 1) := by decide +kernel
theorem d_Lw_law_620 : decode c_Lw_law 620 = .ok (.iadd, 1) := by decide +kernel
theorem d_Lw_law_621 : decode c_Lw_law 621 = .ok (.iaload, 1) := by decide +kernel
theorem d_Lw_law_622 : decode c_Lw_law 622 = .ok (.aload_n 0, 1) := by decide +kernel
theorem d_Lw_law_623 : decode c_Lw_law 623 = .ok (.iload 4, 2) := by decide +kernel
theorem d_Lw_law_625 : decode c_Lw_law 625 = .ok (.iconst 2, 1) := by decide +kernel
theorem d_Lw_law_626 : decode c_Lw_law 626 = .ok (.iadd, 1) := by decide +kernel
theorem d_Lw_law_627 : decode c_Lw_law 627 = .ok (.iaload, 1) := by decide +kernel
theorem d_Lw_law_628 : decode c_Lw_law 628 = .ok (.aload_n 0, 1) := by decide +kernel
theorem d_Lw_law_629 : decode c_Lw_law 629 = .ok (.iload 4, 2) := by decide +kernel
theorem d_Lw_law_631 : decode c_Lw_law 631 = .ok (.iconst 3, 1) := by decide +kernel
theorem d_Lw_law_632 : decode c_Lw_law 632 = .ok (.iadd, 1) := by decide +kernel
theorem d_Lw_law_633 : decode c_Lw_law 633 = .ok (.iaload, 1) := by decide +kernel
theorem d_Lw_law_634 : decode c_Lw_law 634 = .ok (.aload_n 0, 1) := by decide +kernel
theorem d_Lw_law_635 : decode c_Lw_law 635 = .ok (.iload 4, 2) := by decide +kernel
theorem d_Lw_law_637 : decode c_Lw_law 637 = .ok (.iconst 4, 1) := by decide +kernel
theorem d_Lw_law_638 : decode c_Lw_law 638 = .ok (.iadd, 1) := by decide +kernel
theorem d_Lw_law_639 : decode c_Lw_law 639 = .ok (.iaload, 1) := by decide +kernel
theorem d_Lw_law_640 : decode c_Lw_law 640 = .ok (.invokevirtual 104, 3) := by decide +kernel
theorem d_Lw_law_643 : decode c_Lw_law 643 = .ok (.istore 6, 2) := by decide +kernel
theorem d_Lw_law_645 : decode c_Lw_law 645 = .ok (.aload_n 2, 1) := by decide +kernel
theorem d_Lw_law_646 : decode c_Lw_law 646 = .ok (.invokevirtual 82, 3) := by decide +kernel
theorem d_Lw_law_649 : decode c_Lw_law 649 = .ok (.iload 5, 2) := by decide +kernel
theorem d_Lw_law_651 : decode c_Lw_law 651 = .ok (.if_icmp .eq 5, 3) := by decide +kernel
theorem d_Lw_law_654 : decode c_Lw_law 654 = .ok (.iconst 0, 1) := by decide +kernel
theorem d_Lw_law_655 : decode c_Lw_law 655 = .ok (.ireturn, 1) := by decide +kernel
theorem d_Lw_law_656 : decode c_Lw_law 656 = .ok (.iload 5, 2) := by decide +kernel
theorem d_Lw_law_658 : decode c_Lw_law 658 = .ok (.ifCond .ne 15, 3) := by decide +kernel
theorem d_Lw_law_661 : decode c_Lw_law 661 = .ok (.aload_n 3, 1) := by decide +kernel
theorem d_Lw_law_662 : decode c_Lw_law 662 = .ok (.iconst 0, 1) := by decide +kernel
theorem d_Lw_law_663 : decode c_Lw_law 663 = .ok (.laload, 1) := by decide +kernel
theorem d_Lw_law_664 : decode c_Lw_law 664 = .ok (.iload 6, 2) := by decide +kernel
theorem d_Lw_law_666 : decode c_Lw_law 666 = .ok (.i2l, 1) := by decide +kernel
theorem d_Lw_law_667 : decode c_Lw_law 667 = .ok (.lcmp, 1) := by decide +kernel
theorem d_Lw_law_668 : decode c_Lw_law 668 = .ok (.ifCond .eq 5, 3) := by decide +kernel
theorem d_Lw_law_671 : decode c_Lw_law 671 = .ok (.iconst 0, 1) := by decide +kernel
theorem d_Lw_law_672 : decode c_Lw_law 672 = .ok (.ireturn, 1) := by decide +kernel
theorem d_Lw_law_673 : decode c_Lw_law 673 = .ok (.goto 634, 3) := by decide +kernel
theorem d_Lw_law_676 : decode c_Lw_law 676 = .ok (.aload_n 1, 1) := by decide +kernel
theorem d_Lw_law_677 : decode c_Lw_law 677 = .ok (.aload_n 0, 1) := by decide +kernel
theorem d_Lw_law_678 : decode c_Lw_law 678 = .ok (.iload 4, 2) := by decide +kernel
theorem d_Lw_law_680 : decode c_Lw_law 680 = .ok (.iconst 1, 1) := by decide +kernel
theorem d_Lw_law_681 : decode c_Lw_law 681 = .ok (.iadd, 1) := by decide +kernel
theorem d_Lw_law_682 : decode c_Lw_law 682 = .ok (.iaload, 1) := by decide +kernel
theorem d_Lw_law_683 : decode c_Lw_law 683 = .ok (.aload_n 0, 1) := by decide +kernel
theorem d_Lw_law_684 : decode c_Lw_law 684 = .ok (.iload 4, 2) := by decide +kernel
theorem d_Lw_law_686 : decode c_Lw_law 686 = .ok (.iconst 2, 1) := by decide +kernel
theorem d_Lw_law_687 : decode c_Lw_law 687 = .ok (.iadd, 1) := by decide +kernel
theorem d_Lw_law_688 : decode c_Lw_law 688 = .ok (.iaload, 1) := by decide +kernel
theorem d_Lw_law_689 : decode c_Lw_law 689 = .ok (.aload_n 0, 1) := by decide +kernel
theorem d_Lw_law_690 : decode c_Lw_law 690 = .ok (.iload 4, 2) := by decide +kernel
theorem d_Lw_law_692 : decode c_Lw_law 692 = .ok (.iconst 3, 1) := by decide +kernel
theorem d_Lw_law_693 : decode c_Lw_law 693 = .ok (.iadd, 1) := by decide +kernel
theorem d_Lw_law_694 : decode c_Lw_law 694 = .ok (.iaload, 1) := by decide +kernel
theorem d_Lw_law_695 : decode c_Lw_law 695 = .ok (.aload_n 3, 1) := by decide +kernel
theorem d_Lw_law_696 : decode c_Lw_law 696 = .ok (.invokestatic 105, 3) := by decide +kernel
theorem d_Lw_law_699 : decode c_Lw_law 699 = .ok (.istore 5, 2) := by decide +kernel
theorem d_Lw_law_701 : decode c_Lw_law 701 = .ok (.aload_n 2, 1) := by decide +kernel
theorem d_Lw_law_702 : decode c_Lw_law 702 = .ok (.aload_n 0, 1) := by decide +kernel
theorem d_Lw_law_703 : decode c_Lw_law 703 = .ok (.iload 4, 2) := by decide +kernel
theorem d_Lw_law_705 : decode c_Lw_law 705 = .ok (.iconst 1, 1) := by decide +kernel
theorem d_Lw_law_706 : decode c_Lw_law 706 = .ok (.iadd, 1) := by decide +kernel
theorem d_Lw_law_707 : decode c_Lw_law 707 = .ok (.iaload, 1) := by decide +kernel
theorem d_Lw_law_708 : decode c_Lw_law 708 = .ok (.aload_n 0, 1) := by decide +kernel
theorem d_Lw_law_709 : decode c_Lw_law 709 = .ok (.iload 4, 2) := by decide +kernel
theorem d_Lw_law_711 : decode c_Lw_law 711 = .ok (.iconst 2, 1) := by decide +kernel
theorem d_Lw_law_712 : decode c_Lw_law 712 = .ok (.iadd, 1) := by decide +kernel
theorem d_Lw_law_713 : decode c_Lw_law 713 = .ok (.iaload, 1) := by decide +kernel
theorem d_Lw_law_714 : decode c_Lw_law 714 = .ok (.aload_n 0, 1) := by decide +kernel
theorem d_Lw_law_715 : decode c_Lw_law 715 = .ok (.iload 4, 2) := by decide +kernel
theorem d_Lw_law_717 : decode c_Lw_law 717 = .ok (.iconst 3, 1) := by decide +kernel
theorem d_Lw_law_718 : decode c_Lw_law 718 = .ok (.iadd, 1) := by decide +kernel
theorem d_Lw_law_719 : decode c_Lw_law 719 = .ok (.iaload, 1) := by decide +kernel
theorem d_Lw_law_720 : decode c_Lw_law 720 = .ok (.invokevirtual 108, 3) := by decide +kernel
theorem d_Lw_law_723 : decode c_Lw_law 723 = .ok (.istore 6, 2) := by decide +kernel
theorem d_Lw_law_725 : decode c_Lw_law 725 = .ok (.aload_n 2, 1) := by decide +kernel
theorem d_Lw_law_726 : decode c_Lw_law 726 = .ok (.invokevirtual 82, 3) := by decide +kernel
theorem d_Lw_law_729 : decode c_Lw_law 729 = .ok (.iload 5, 2) := by decide +kernel
theorem d_Lw_law_731 : decode c_Lw_law 731 = .ok (.if_icmp .eq 5, 3) := by decide +kernel
theorem d_Lw_law_734 : decode c_Lw_law 734 = .ok (.iconst 0, 1) := by decide +kernel
theorem d_Lw_law_735 : decode c_Lw_law 735 = .ok (.ireturn, 1) := by decide +kernel
theorem d_Lw_law_736 : decode c_Lw_law 736 = .ok (.iload 5, 2) := by decide +kernel
theorem d_Lw_law_738 : decode c_Lw_law 738 = .ok (.ifCond .ne 22, 3) := by decide +kernel
theorem d_Lw_law_741 : decode c_Lw_law 741 = .ok (.aload_n 3, 1) := by decide +kernel
theorem d_Lw_law_742 : decode c_Lw_law 742 = .ok (.iconst 0, 1) := by decide +kernel
theorem d_Lw_law_743 : decode c_Lw_law 743 = .ok (.laload, 1) := by decide +kernel
theorem d_Lw_law_744 : decode c_Lw_law 744 = .ok (.iload 6, 2) := by decide +kernel
theorem d_Lw_law_746 : decode c_Lw_law 746 = .ok (.ifCond .eq 7, 3) := by decide +kernel
theorem d_Lw_law_749 : decode c_Lw_law 749 = .ok (.lconst 1, 1) := by decide +kernel
theorem d_Lw_law_750 : decode c_Lw_law 750 = .ok (.goto 4, 3) := by decide +kernel
theorem d_Lw_law_753 : decode c_Lw_law 753 = .ok (.lconst 0, 1) := by decide +kernel
theorem d_Lw_law_754 : decode c_Lw_law 754 = .ok (.lcmp, 1) := by decide +kernel
theorem d_Lw_law_755 : decode c_Lw_law 755 = .ok (.ifCond .eq 5, 3) := by decide +kernel
theorem d_Lw_law_758 : decode c_Lw_law 758 = .ok (.iconst 0, 1) := by decide +kernel
theorem d_Lw_law_759 : decode c_Lw_law 759 = .ok (.ireturn, 1) := by decide +kernel
theorem d_Lw_law_760 : decode c_Lw_law 760 = .ok (.goto 547, 3) := by decide +kernel
theorem d_Lw_law_763 : decode c_Lw_law 763 = .ok (.aload_n 1, 1) := by decide +kernel
theorem d_Lw_law_764 : decode c_Lw_law 764 = .ok (.aload_n 0, 1) := by decide +kernel
theorem d_Lw_law_765 : decode c_Lw_law 765 = .ok (.iload 4, 2) := by decide +kernel
theorem d_Lw_law_767 : decode c_Lw_law 767 = .ok (.iconst 1, 1) := by decide +kernel
theorem d_Lw_law_768 : decode c_Lw_law 768 = .ok (.iadd, 1) := by decide +kernel
theorem d_Lw_law_769 : decode c_Lw_law 769 = .ok (.iaload, 1) := by decide +kernel
theorem d_Lw_law_770 : decode c_Lw_law 770 = .ok (.aload_n 0, 1) := by decide +kernel
theorem d_Lw_law_771 : decode c_Lw_law 771 = .ok (.iload 4, 2) := by decide +kernel
theorem d_Lw_law_773 : decode c_Lw_law 773 = .ok (.iconst 2, 1) := by decide +kernel
theorem d_Lw_law_774 : decode c_Lw_law 774 = .ok (.iadd, 1) := by decide +kernel
theorem d_Lw_law_775 : decode c_Lw_law 775 = .ok (.iaload, 1) := by decide +kernel
theorem d_Lw_law_776 : decode c_Lw_law 776 = .ok (.aload_n 3, 1) := by decide +kernel
theorem d_Lw_law_777 : decode c_Lw_law 777 = .ok (.invokestatic 109, 3) := by decide +kernel
theorem d_Lw_law_780 : decode c_Lw_law 780 = .ok (.istore 5, 2) := by decide +kernel
theorem d_Lw_law_782 : decode c_Lw_law 782 = .ok (.aload_n 2, 1) := by decide +kernel
theorem d_Lw_law_783 : decode c_Lw_law 783 = .ok (.aload_n 0, 1) := by decide +kernel
theorem d_Lw_law_784 : decode c_Lw_law 784 = .ok (.iload 4, 2) := by decide +kernel
theorem d_Lw_law_786 : decode c_Lw_law 786 = .ok (.iconst 1, 1) := by decide +kernel
theorem d_Lw_law_787 : decode c_Lw_law 787 = .ok (.iadd, 1) := by decide +kernel
theorem d_Lw_law_788 : decode c_Lw_law 788 = .ok (.iaload, 1) := by decide +kernel
theorem d_Lw_law_789 : decode c_Lw_law 789 = .ok (.aload_n 0, 1) := by decide +kernel
theorem d_Lw_law_790 : decode c_Lw_law 790 = .ok (.iload 4, 2) := by decide +kernel
theorem d_Lw_law_792 : decode c_Lw_law 792 = .ok (.iconst 2, 1) := by decide +kernel
theorem d_Lw_law_793 : decode c_Lw_law 793 = .ok (.iadd, 1) := by decide +kernel
theorem d_Lw_law_794 : decode c_Lw_law 794 = .ok (.iaload, 1) := by decide +kernel
theorem d_Lw_law_795 : decode c_Lw_law 795 = .ok (.invokevirtual 111, 3) := by decide +kernel
theorem d_Lw_law_798 : decode c_Lw_law 798 = .ok (.istore 6, 2) := by decide +kernel
theorem d_Lw_law_800 : decode c_Lw_law 800 = .ok (.aload_n 2, 1) := by decide +kernel
theorem d_Lw_law_801 : decode c_Lw_law 801 = .ok (.invokevirtual 82, 3) := by decide +kernel
theorem d_Lw_law_804 : decode c_Lw_law 804 = .ok (.iload 5, 2) := by decide +kernel
theorem d_Lw_law_806 : decode c_Lw_law 806 = .ok (.if_icmp .eq 5, 3) := by decide +kernel
theorem d_Lw_law_809 : decode c_Lw_law 809 = .ok (.iconst 0, 1) := by decide +kernel
theorem d_Lw_law_810 : decode c_Lw_law 810 = .ok (.ireturn, 1) := by decide +kernel
theorem d_Lw_law_811 : decode c_Lw_law 811 = .ok (.iload 5, 2) := by decide +kernel
theorem d_Lw_law_813 : decode c_Lw_law 813 = .ok (.ifCond .ne 15, 3) := by decide +kernel
theorem d_Lw_law_816 : decode c_Lw_law 816 = .ok (.aload_n 3, 1) := by decide +kernel
theorem d_Lw_law_817 : decode c_Lw_law 817 = .ok (.iconst 0, 1) := by decide +kernel
theorem d_Lw_law_818 : decode c_Lw_law 818 = .ok (.laload, 1) := by decide +kernel
theorem d_Lw_law_819 : decode c_Lw_law 819 = .ok (.iload 6, 2) := by decide +kernel
theorem d_Lw_law_821 : decode c_Lw_law 821 = .ok (.i2l, 1) := by decide +kernel
theorem d_Lw_law_822 : decode c_Lw_law 822 = .ok (.lcmp, 1) := by decide +kernel
theorem d_Lw_law_823 : decode c_Lw_law 823 = .ok (.ifCond .eq 5, 3) := by decide +kernel
theorem d_Lw_law_826 : decode c_Lw_law 826 = .ok (.iconst 0, 1) := by decide +kernel
theorem d_Lw_law_827 : decode c_Lw_law 827 = .ok (.ireturn, 1) := by decide +kernel
theorem d_Lw_law_828 : decode c_Lw_law 828 = .ok (.goto 479, 3) := by decide +kernel
theorem d_Lw_law_831 : decode c_Lw_law 831 = .ok (.aload_n 1, 1) := by decide +kernel
theorem d_Lw_law_832 : decode c_Lw_law 832 = .ok (.aload_n 0, 1) := by decide +kernel
theorem d_Lw_law_833 : decode c_Lw_law 833 = .ok (.iload 4, 2) := by decide +kernel
theorem d_Lw_law_835 : decode c_Lw_law 835 = .ok (.iconst 1, 1) := by decide +kernel
theorem d_Lw_law_836 : decode c_Lw_law 836 = .ok (.iadd, 1) := by decide +kernel
theorem d_Lw_law_837 : decode c_Lw_law 837 = .ok (.iaload, 1) := by decide +kernel
theorem d_Lw_law_838 : decode c_Lw_law 838 = .ok (.aload_n 0, 1) := by decide +kernel
theorem d_Lw_law_839 : decode c_Lw_law 839 = .ok (.iload 4, 2) := by decide +kernel
theorem d_Lw_law_841 : decode c_Lw_law 841 = .ok (.iconst 2, 1) := by decide +kernel
theorem d_Lw_law_842 : decode c_Lw_law 842 = .ok (.iadd, 1) := by decide +kernel
theorem d_Lw_law_843 : decode c_Lw_law 843 = .ok (.iaload, 1) := by decide +kernel
theorem d_Lw_law_844 : decode c_Lw_law 844 = .ok (.aload_n 3, 1) := by decide +kernel
theorem d_Lw_law_845 : decode c_Lw_law 845 = .ok (.invokestatic 112, 3) := by decide +kernel
theorem d_Lw_law_848 : decode c_Lw_law 848 = .ok (.istore 5, 2) := by decide +kernel
theorem d_Lw_law_850 : decode c_Lw_law 850 = .ok (.aload_n 2, 1) := by decide +kernel
theorem d_Lw_law_851 : decode c_Lw_law 851 = .ok (.aload_n 0, 1) := by decide +kernel
theorem d_Lw_law_852 : decode c_Lw_law 852 = .ok (.iload 4, 2) := by decide +kernel
theorem d_Lw_law_854 : decode c_Lw_law 854 = .ok (.iconst 1, 1) := by decide +kernel
theorem d_Lw_law_855 : decode c_Lw_law 855 = .ok (.iadd, 1) := by decide +kernel
theorem d_Lw_law_856 : decode c_Lw_law 856 = .ok (.iaload, 1) := by decide +kernel
theorem d_Lw_law_857 : decode c_Lw_law 857 = .ok (.aload_n 0, 1) := by decide +kernel
theorem d_Lw_law_858 : decode c_Lw_law 858 = .ok (.iload 4, 2) := by decide +kernel
theorem d_Lw_law_860 : decode c_Lw_law 860 = .ok (.iconst 2, 1) := by decide +kernel
theorem d_Lw_law_861 : decode c_Lw_law 861 = .ok (.iadd, 1) := by decide +kernel
theorem d_Lw_law_862 : decode c_Lw_law 862 = .ok (.iaload, 1) := by decide +kernel
theorem d_Lw_law_863 : decode c_Lw_law 863 = .ok (.invokevirtual 114, 3) := by decide +kernel
theorem d_Lw_law_866 : decode c_Lw_law 866 = .ok (.istore 6, 2) := by decide +kernel
theorem d_Lw_law_868 : decode c_Lw_law 868 = .ok (.aload_n 2, 1) := by decide +kernel
theorem d_Lw_law_869 : decode c_Lw_law 869 = .ok (.invokevirtual 82, 3) := by decide +kernel
theorem d_Lw_law_872 : decode c_Lw_law 872 = .ok (.iload 5, 2) := by decide +kernel
theorem d_Lw_law_874 : decode c_Lw_law 874 = .ok (.if_icmp .eq 5, 3) := by decide +kernel
theorem d_Lw_law_877 : decode c_Lw_law 877 = .ok (.iconst 0, 1) := by decide +kernel
theorem d_Lw_law_878 : decode c_Lw_law 878 = .ok (.ireturn, 1) := by decide +kernel
theorem d_Lw_law_879 : decode c_Lw_law 879 = .ok (.iload 5, 2) := by decide +kernel
theorem d_Lw_law_881 : decode c_Lw_law 881 = .ok (.ifCond .ne 15, 3) := by decide +kernel
theorem d_Lw_law_884 : decode c_Lw_law 884 = .ok (.aload_n 3, 1) := by decide +kernel
theorem d_Lw_law_885 : decode c_Lw_law 885 = .ok (.iconst 0, 1) := by decide +kernel
theorem d_Lw_law_886 : decode c_Lw_law 886 = .ok (.laload, 1) := by decide +kernel
theorem d_Lw_law_887 : decode c_Lw_law 887 = .ok (.iload 6, 2) := by decide +kernel
theorem d_Lw_law_889 : decode c_Lw_law 889 = .ok (.i2l, 1) := by decide +kernel
theorem d_Lw_law_890 : decode c_Lw_law 890 = .ok (.lcmp, 1) := by decide +kernel
theorem d_Lw_law_891 : decode c_Lw_law 891 = .ok (.ifCond .eq 5, 3) := by decide +kernel
theorem d_Lw_law_894 : decode c_Lw_law 894 = .ok (.iconst 0, 1) := by decide +kernel
theorem d_Lw_law_895 : decode c_Lw_law 895 = .ok (.ireturn, 1) := by decide +kernel
theorem d_Lw_law_896 : decode c_Lw_law 896 = .ok (.goto 411, 3) := by decide +kernel
theorem d_Lw_law_899 : decode c_Lw_law 899 = .ok (.aload_n 1, 1) := by decide +kernel
theorem d_Lw_law_900 : decode c_Lw_law 900 = .ok (.aload_n 0, 1) := by decide +kernel
theorem d_Lw_law_901 : decode c_Lw_law 901 = .ok (.iload 4, 2) := by decide +kernel
theorem d_Lw_law_903 : decode c_Lw_law 903 = .ok (.iconst 1, 1) := by decide +kernel
theorem d_Lw_law_904 : decode c_Lw_law 904 = .ok (.iadd, 1) := by decide +kernel
theorem d_Lw_law_905 : decode c_Lw_law 905 = .ok (.iaload, 1) := by decide +kernel
theorem d_Lw_law_906 : decode c_Lw_law 906 = .ok (.aload_n 0, 1) := by decide +kernel
theorem d_Lw_law_907 : decode c_Lw_law 907 = .ok (.iload 4, 2) := by decide +kernel
theorem d_Lw_law_909 : decode c_Lw_law 909 = .ok (.iconst 2, 1) := by decide +kernel
theorem d_Lw_law_910 : decode c_Lw_law 910 = .ok (.iadd, 1) := by decide +kernel
theorem d_Lw_law_911 : decode c_Lw_law 911 = .ok (.iaload, 1) := by decide +kernel
theorem d_Lw_law_912 : decode c_Lw_law 912 = .ok (.aload_n 3, 1) := by decide +kernel
theorem d_Lw_law_913 : decode c_Lw_law 913 = .ok (.invokestatic 115, 3) := by decide +kernel
theorem d_Lw_law_916 : decode c_Lw_law 916 = .ok (.istore 5, 2) := by decide +kernel
theorem d_Lw_law_918 : decode c_Lw_law 918 = .ok (.aload_n 2, 1) := by decide +kernel
theorem d_Lw_law_919 : decode c_Lw_law 919 = .ok (.aload_n 0, 1) := by decide +kernel
theorem d_Lw_law_920 : decode c_Lw_law 920 = .ok (.iload 4, 2) := by decide +kernel
theorem d_Lw_law_922 : decode c_Lw_law 922 = .ok (.iconst 1, 1) := by decide +kernel
theorem d_Lw_law_923 : decode c_Lw_law 923 = .ok (.iadd, 1) := by decide +kernel
theorem d_Lw_law_924 : decode c_Lw_law 924 = .ok (.iaload, 1) := by decide +kernel
theorem d_Lw_law_925 : decode c_Lw_law 925 = .ok (.aload_n 0, 1) := by decide +kernel
theorem d_Lw_law_926 : decode c_Lw_law 926 = .ok (.iload 4, 2) := by decide +kernel
theorem d_Lw_law_928 : decode c_Lw_law 928 = .ok (.iconst 2, 1) := by decide +kernel
theorem d_Lw_law_929 : decode c_Lw_law 929 = .ok (.iadd, 1) := by decide +kernel
theorem d_Lw_law_930 : decode c_Lw_law 930 = .ok (.iaload, 1) := by decide +kernel
theorem d_Lw_law_931 : decode c_Lw_law 931 = .ok (.invokevirtual 117, 3) := by decide +kernel
theorem d_Lw_law_934 : decode c_Lw_law 934 = .ok (.istore 6, 2) := by decide +kernel
theorem d_Lw_law_936 : decode c_Lw_law 936 = .ok (.aload_n 2, 1) := by decide +kernel
theorem d_Lw_law_937 : decode c_Lw_law 937 = .ok (.invokevirtual 82, 3) := by decide +kernel
theorem d_Lw_law_940 : decode c_Lw_law 940 = .ok (.iload 5, 2) := by decide +kernel
theorem d_Lw_law_942 : decode c_Lw_law 942 = .ok (.if_icmp .eq 5, 3) := by decide +kernel
theorem d_Lw_law_945 : decode c_Lw_law 945 = .ok (.iconst 0, 1) := by decide +kernel
theorem d_Lw_law_946 : decode c_Lw_law 946 = .ok (.ireturn, 1) := by decide +kernel
theorem d_Lw_law_947 : decode c_Lw_law 947 = .ok (.iload 5, 2) := by decide +kernel
theorem d_Lw_law_949 : decode c_Lw_law 949 = .ok (.ifCond .ne 15, 3) := by decide +kernel
theorem d_Lw_law_952 : decode c_Lw_law 952 = .ok (.aload_n 3, 1) := by decide +kernel
theorem d_Lw_law_953 : decode c_Lw_law 953 = .ok (.iconst 0, 1) := by decide +kernel
theorem d_Lw_law_954 : decode c_Lw_law 954 = .ok (.laload, 1) := by decide +kernel
theorem d_Lw_law_955 : decode c_Lw_law 955 = .ok (.iload 6, 2) := by decide +kernel
theorem d_Lw_law_957 : decode c_Lw_law 957 = .ok (.i2l, 1) := by decide +kernel
theorem d_Lw_law_958 : decode c_Lw_law 958 = .ok (.lcmp, 1) := by decide +kernel
theorem d_Lw_law_959 : decode c_Lw_law 959 = .ok (.ifCond .eq 5, 3) := by decide +kernel
theorem d_Lw_law_962 : decode c_Lw_law 962 = .ok (.iconst 0, 1) := by decide +kernel
theorem d_Lw_law_963 : decode c_Lw_law 963 = .ok (.ireturn, 1) := by decide +kernel
theorem d_Lw_law_964 : decode c_Lw_law 964 = .ok (.goto 343, 3) := by decide +kernel
theorem d_Lw_law_967 : decode c_Lw_law 967 = .ok (.aload_n 1, 1) := by decide +kernel
theorem d_Lw_law_968 : decode c_Lw_law 968 = .ok (.aload_n 0, 1) := by decide +kernel
theorem d_Lw_law_969 : decode c_Lw_law 969 = .ok (.iload 4, 2) := by decide +kernel
theorem d_Lw_law_971 : decode c_Lw_law 971 = .ok (.iconst 1, 1) := by decide +kernel
theorem d_Lw_law_972 : decode c_Lw_law 972 = .ok (.iadd, 1) := by decide +kernel
theorem d_Lw_law_973 : decode c_Lw_law 973 = .ok (.iaload, 1) := by decide +kernel
theorem d_Lw_law_974 : decode c_Lw_law 974 = .ok (.aload_n 0, 1) := by decide +kernel
theorem d_Lw_law_975 : decode c_Lw_law 975 = .ok (.iload 4, 2) := by decide +kernel
theorem d_Lw_law_977 : decode c_Lw_law 977 = .ok (.iconst 2, 1) := by decide +kernel
theorem d_Lw_law_978 : decode c_Lw_law 978 = .ok (.iadd, 1) := by decide +kernel
theorem d_Lw_law_979 : decode c_Lw_law 979 = .ok (.iaload, 1) := by decide +kernel
theorem d_Lw_law_980 : decode c_Lw_law 980 = .ok (.aload_n 3, 1) := by decide +kernel
theorem d_Lw_law_981 : decode c_Lw_law 981 = .ok (.invokestatic 118, 3) := by decide +kernel
theorem d_Lw_law_984 : decode c_Lw_law 984 = .ok (.istore 5, 2) := by decide +kernel
theorem d_Lw_law_986 : decode c_Lw_law 986 = .ok (.aload_n 2, 1) := by decide +kernel
theorem d_Lw_law_987 : decode c_Lw_law 987 = .ok (.aload_n 0, 1) := by decide +kernel
theorem d_Lw_law_988 : decode c_Lw_law 988 = .ok (.iload 4, 2) := by decide +kernel
theorem d_Lw_law_990 : decode c_Lw_law 990 = .ok (.iconst 1, 1) := by decide +kernel
theorem d_Lw_law_991 : decode c_Lw_law 991 = .ok (.iadd, 1) := by decide +kernel
theorem d_Lw_law_992 : decode c_Lw_law 992 = .ok (.iaload, 1) := by decide +kernel
theorem d_Lw_law_993 : decode c_Lw_law 993 = .ok (.aload_n 0, 1) := by decide +kernel
theorem d_Lw_law_994 : decode c_Lw_law 994 = .ok (.iload 4, 2) := by decide +kernel
theorem d_Lw_law_996 : decode c_Lw_law 996 = .ok (.iconst 2, 1) := by decide +kernel
theorem d_Lw_law_997 : decode c_Lw_law 997 = .ok (.iadd, 1) := by decide +kernel
theorem d_Lw_law_998 : decode c_Lw_law 998 = .ok (.iaload, 1) := by decide +kernel
theorem d_Lw_law_999 : decode c_Lw_law 999 = .ok (.invokevirtual 120, 3) := by decide +kernel
theorem d_Lw_law_1002 : decode c_Lw_law 1002 = .ok (.istore 6, 2) := by decide +kernel
theorem d_Lw_law_1004 : decode c_Lw_law 1004 = .ok (.aload_n 2, 1) := by decide +kernel
theorem d_Lw_law_1005 : decode c_Lw_law 1005 = .ok (.invokevirtual 82, 3) := by decide +kernel
theorem d_Lw_law_1008 : decode c_Lw_law 1008 = .ok (.iload 5, 2) := by decide +kernel
theorem d_Lw_law_1010 : decode c_Lw_law 1010 = .ok (.if_icmp .eq 5, 3) := by decide +kernel
theorem d_Lw_law_1013 : decode c_Lw_law 1013 = .ok (.iconst 0, 1) := by decide +kernel
theorem d_Lw_law_1014 : decode c_Lw_law 1014 = .ok (.ireturn, 1) := by decide +kernel
theorem d_Lw_law_1015 : decode c_Lw_law 1015 = .ok (.iload 5, 2) := by decide +kernel
theorem d_Lw_law_1017 : decode c_Lw_law 1017 = .ok (.ifCond .ne 15, 3) := by decide +kernel
theorem d_Lw_law_1020 : decode c_Lw_law 1020 = .ok (.aload_n 3, 1) := by decide +kernel
theorem d_Lw_law_1021 : decode c_Lw_law 1021 = .ok (.iconst 0, 1) := by decide +kernel
theorem d_Lw_law_1022 : decode c_Lw_law 1022 = .ok (.laload, 1) := by decide +kernel
theorem d_Lw_law_1023 : decode c_Lw_law 1023 = .ok (.iload 6, 2) := by decide +kernel
theorem d_Lw_law_1025 : decode c_Lw_law 1025 = .ok (.i2l, 1) := by decide +kernel
theorem d_Lw_law_1026 : decode c_Lw_law 1026 = .ok (.lcmp, 1) := by decide +kernel
theorem d_Lw_law_1027 : decode c_Lw_law 1027 = .ok (.ifCond .eq 5, 3) := by decide +kernel
theorem d_Lw_law_1030 : decode c_Lw_law 1030 = .ok (.iconst 0, 1) := by decide +kernel
theorem d_Lw_law_1031 : decode c_Lw_law 1031 = .ok (.ireturn, 1) := by decide +kernel
theorem d_Lw_law_1032 : decode c_Lw_law 1032 = .ok (.goto 275, 3) := by decide +kernel
theorem d_Lw_law_1035 : decode c_Lw_law 1035 = .ok (.aload_n 1, 1) := by decide +kernel
theorem d_Lw_law_1036 : decode c_Lw_law 1036 = .ok (.aload_n 0, 1) := by decide +kernel
theorem d_Lw_law_1037 : decode c_Lw_law 1037 = .ok (.iload 4, 2) := by decide +kernel
theorem d_Lw_law_1039 : decode c_Lw_law 1039 = .ok (.iconst 1, 1) := by decide +kernel
theorem d_Lw_law_1040 : decode c_Lw_law 1040 = .ok (.iadd, 1) := by decide +kernel
theorem d_Lw_law_1041 : decode c_Lw_law 1041 = .ok (.iaload, 1) := by decide +kernel
theorem d_Lw_law_1042 : decode c_Lw_law 1042 = .ok (.aload_n 3, 1) := by decide +kernel
theorem d_Lw_law_1043 : decode c_Lw_law 1043 = .ok (.invokestatic 121, 3) := by decide +kernel
theorem d_Lw_law_1046 : decode c_Lw_law 1046 = .ok (.istore 5, 2) := by decide +kernel
theorem d_Lw_law_1048 : decode c_Lw_law 1048 = .ok (.aload_n 2, 1) := by decide +kernel
theorem d_Lw_law_1049 : decode c_Lw_law 1049 = .ok (.aload_n 0, 1) := by decide +kernel
theorem d_Lw_law_1050 : decode c_Lw_law 1050 = .ok (.iload 4, 2) := by decide +kernel
theorem d_Lw_law_1052 : decode c_Lw_law 1052 = .ok (.iconst 1, 1) := by decide +kernel
theorem d_Lw_law_1053 : decode c_Lw_law 1053 = .ok (.iadd, 1) := by decide +kernel
theorem d_Lw_law_1054 : decode c_Lw_law 1054 = .ok (.iaload, 1) := by decide +kernel
theorem d_Lw_law_1055 : decode c_Lw_law 1055 = .ok (.invokevirtual 124, 3) := by decide +kernel
theorem d_Lw_law_1058 : decode c_Lw_law 1058 = .ok (.istore 6, 2) := by decide +kernel
theorem d_Lw_law_1060 : decode c_Lw_law 1060 = .ok (.aload_n 2, 1) := by decide +kernel
theorem d_Lw_law_1061 : decode c_Lw_law 1061 = .ok (.invokevirtual 82, 3) := by decide +kernel
theorem d_Lw_law_1064 : decode c_Lw_law 1064 = .ok (.iload 5, 2) := by decide +kernel
theorem d_Lw_law_1066 : decode c_Lw_law 1066 = .ok (.if_icmp .eq 5, 3) := by decide +kernel
theorem d_Lw_law_1069 : decode c_Lw_law 1069 = .ok (.iconst 0, 1) := by decide +kernel
theorem d_Lw_law_1070 : decode c_Lw_law 1070 = .ok (.ireturn, 1) := by decide +kernel
theorem d_Lw_law_1071 : decode c_Lw_law 1071 = .ok (.iload 5, 2) := by decide +kernel
theorem d_Lw_law_1073 : decode c_Lw_law 1073 = .ok (.ifCond .ne 15, 3) := by decide +kernel
theorem d_Lw_law_1076 : decode c_Lw_law 1076 = .ok (.aload_n 3, 1) := by decide +kernel
theorem d_Lw_law_1077 : decode c_Lw_law 1077 = .ok (.iconst 0, 1) := by decide +kernel
theorem d_Lw_law_1078 : decode c_Lw_law 1078 = .ok (.laload, 1) := by decide +kernel
theorem d_Lw_law_1079 : decode c_Lw_law 1079 = .ok (.iload 6, 2) := by decide +kernel
theorem d_Lw_law_1081 : decode c_Lw_law 1081 = .ok (.i2l, 1) := by decide +kernel
theorem d_Lw_law_1082 : decode c_Lw_law 1082 = .ok (.lcmp, 1) := by decide +kernel
theorem d_Lw_law_1083 : decode c_Lw_law 1083 = .ok (.ifCond .eq 5, 3) := by decide +kernel
theorem d_Lw_law_1086 : decode c_Lw_law 1086 = .ok (.iconst 0, 1) := by decide +kernel
theorem d_Lw_law_1087 : decode c_Lw_law 1087 = .ok (.ireturn, 1) := by decide +kernel
theorem d_Lw_law_1088 : decode c_Lw_law 1088 = .ok (.goto 219, 3) := by decide +kernel
theorem d_Lw_law_1091 : decode c_Lw_law 1091 = .ok (.aload_n 1, 1) := by decide +kernel
theorem d_Lw_law_1092 : decode c_Lw_law 1092 = .ok (.aload_n 0, 1) := by decide +kernel
theorem d_Lw_law_1093 : decode c_Lw_law 1093 = .ok (.iload 4, 2) := by decide +kernel
theorem d_Lw_law_1095 : decode c_Lw_law 1095 = .ok (.iconst 1, 1) := by decide +kernel
theorem d_Lw_law_1096 : decode c_Lw_law 1096 = .ok (.iadd, 1) := by decide +kernel
theorem d_Lw_law_1097 : decode c_Lw_law 1097 = .ok (.iaload, 1) := by decide +kernel
theorem d_Lw_law_1098 : decode c_Lw_law 1098 = .ok (.aload_n 0, 1) := by decide +kernel
theorem d_Lw_law_1099 : decode c_Lw_law 1099 = .ok (.iload 4, 2) := by decide +kernel
theorem d_Lw_law_1101 : decode c_Lw_law 1101 = .ok (.iconst 2, 1) := by decide +kernel
theorem d_Lw_law_1102 : decode c_Lw_law 1102 = .ok (.iadd, 1) := by decide +kernel
theorem d_Lw_law_1103 : decode c_Lw_law 1103 = .ok (.iaload, 1) := by decide +kernel
theorem d_Lw_law_1104 : decode c_Lw_law 1104 = .ok (.aload_n 0, 1) := by decide +kernel
theorem d_Lw_law_1105 : decode c_Lw_law 1105 = .ok (.iload 4, 2) := by decide +kernel
theorem d_Lw_law_1107 : decode c_Lw_law 1107 = .ok (.iconst 3, 1) := by decide +kernel
theorem d_Lw_law_1108 : decode c_Lw_law 1108 = .ok (.iadd, 1) := by decide +kernel
theorem d_Lw_law_1109 : decode c_Lw_law 1109 = .ok (.iaload, 1) := by decide +kernel
theorem d_Lw_law_1110 : decode c_Lw_law 1110 = .ok (.aload_n 3, 1) := by decide +kernel
theorem d_Lw_law_1111 : decode c_Lw_law 1111 = .ok (.invokestatic 125, 3) := by decide +kernel
theorem d_Lw_law_1114 : decode c_Lw_law 1114 = .ok (.istore 5, 2) := by decide +kernel
theorem d_Lw_law_1116 : decode c_Lw_law 1116 = .ok (.aload_n 2, 1) := by decide +kernel
theorem d_Lw_law_1117 : decode c_Lw_law 1117 = .ok (.aload_n 0, 1) := by decide +kernel
theorem d_Lw_law_1118 : decode c_Lw_law 1118 = .ok (.iload 4, 2) := by decide +kernel
theorem d_Lw_law_1120 : decode c_Lw_law 1120 = .ok (.iconst 1, 1) := by decide +kernel
theorem d_Lw_law_1121 : decode c_Lw_law 1121 = .ok (.iadd, 1) := by decide +kernel
theorem d_Lw_law_1122 : decode c_Lw_law 1122 = .ok (.iaload, 1) := by decide +kernel
theorem d_Lw_law_1123 : decode c_Lw_law 1123 = .ok (.aload_n 0, 1) := by decide +kernel
theorem d_Lw_law_1124 : decode c_Lw_law 1124 = .ok (.iload 4, 2) := by decide +kernel
theorem d_Lw_law_1126 : decode c_Lw_law 1126 = .ok (.iconst 2, 1) := by decide +kernel
theorem d_Lw_law_1127 : decode c_Lw_law 1127 = .ok (.iadd, 1) := by decide +kernel
theorem d_Lw_law_1128 : decode c_Lw_law 1128 = .ok (.iaload, 1) := by decide +kernel
theorem d_Lw_law_1129 : decode c_Lw_law 1129 = .ok (.aload_n 0, 1) := by decide +kernel
theorem d_Lw_law_1130 : decode c_Lw_law 1130 = .ok (.iload 4, 2) := by decide +kernel
theorem d_Lw_law_1132 : decode c_Lw_law 1132 = .ok (.iconst 3, 1) := by decide +kernel
theorem d_Lw_law_1133 : decode c_Lw_law 1133 = .ok (.iadd, 1) := by decide +kernel
theorem d_Lw_law_1134 : decode c_Lw_law 1134 = .ok (.iaload, 1) := by decide +kernel
theorem d_Lw_law_1135 : decode c_Lw_law 1135 = .ok (.invokevirtual 127, 3) := by decide +kernel
theorem d_Lw_law_1138 : decode c_Lw_law 1138 = .ok (.istore 6, 2) := by decide +kernel
theorem d_Lw_law_1140 : decode c_Lw_law 1140 = .ok (.aload_n 2, 1) := by decide +kernel
theorem d_Lw_law_1141 : decode c_Lw_law 1141 = .ok (.invokevirtual 82, 3) := by decide +kernel
theorem d_Lw_law_1144 : decode c_Lw_law 1144 = .ok (.iload 5, 2) := by decide +kernel
theorem d_Lw_law_1146 : decode c_Lw_law 1146 = .ok (.if_icmp .eq 5, 3) := by decide +kernel
theorem d_Lw_law_1149 : decode c_Lw_law 1149 = .ok (.iconst 0, 1) := by decide +kernel
theorem d_Lw_law_1150 : decode c_Lw_law 1150 = .ok (.ireturn, 1) := by decide +kernel
theorem d_Lw_law_1151 : decode c_Lw_law 1151 = .ok (.iload 5, 2) := by decide +kernel
theorem d_Lw_law_1153 : decode c_Lw_law 1153 = .ok (.ifCond .ne 15, 3) := by decide +kernel
theorem d_Lw_law_1156 : decode c_Lw_law 1156 = .ok (.aload_n 3, 1) := by decide +kernel
theorem d_Lw_law_1157 : decode c_Lw_law 1157 = .ok (.iconst 0, 1) := by decide +kernel
theorem d_Lw_law_1158 : decode c_Lw_law 1158 = .ok (.laload, 1) := by decide +kernel
theorem d_Lw_law_1159 : decode c_Lw_law 1159 = .ok (.iload 6, 2) := by decide +kernel
theorem d_Lw_law_1161 : decode c_Lw_law 1161 = .ok (.i2l, 1) := by decide +kernel
theorem d_Lw_law_1162 : decode c_Lw_law 1162 = .ok (.lcmp, 1) := by decide +kernel
theorem d_Lw_law_1163 : decode c_Lw_law 1163 = .ok (.ifCond .eq 5, 3) := by decide +kernel
theorem d_Lw_law_1166 : decode c_Lw_law 1166 = .ok (.iconst 0, 1) := by decide +kernel
theorem d_Lw_law_1167 : decode c_Lw_law 1167 = .ok (.ireturn, 1) := by decide +kernel
theorem d_Lw_law_1168 : decode c_Lw_law 1168 = .ok (.goto 139, 3) := by decide +kernel
theorem d_Lw_law_1171 : decode c_Lw_law 1171 = .ok (.aload_n 1, 1) := by decide +kernel
theorem d_Lw_law_1172 : decode c_Lw_law 1172 = .ok (.aload_n 0, 1) := by decide +kernel
theorem d_Lw_law_1173 : decode c_Lw_law 1173 = .ok (.iload 4, 2) := by decide +kernel
theorem d_Lw_law_1175 : decode c_Lw_law 1175 = .ok (.iconst 1, 1) := by decide +kernel
theorem d_Lw_law_1176 : decode c_Lw_law 1176 = .ok (.iadd, 1) := by decide +kernel
theorem d_Lw_law_1177 : decode c_Lw_law 1177 = .ok (.iaload, 1) := by decide +kernel
theorem d_Lw_law_1178 : decode c_Lw_law 1178 = .ok (.aload_n 0, 1) := by decide +kernel
theorem d_Lw_law_1179 : decode c_Lw_law 1179 = .ok (.iload 4, 2) := by decide +kernel
theorem d_Lw_law_1181 : decode c_Lw_law 1181 = .ok (.iconst 2, 1) := by decide +kernel
theorem d_Lw_law_1182 : decode c_Lw_law 1182 = .ok (.iadd, 1) := by decide +kernel
theorem d_Lw_law_1183 : decode c_Lw_law 1183 = .ok (.iaload, 1) := by decide +kernel
theorem d_Lw_law_1184 : decode c_Lw_law 1184 = .ok (.aload_n 0, 1) := by decide +kernel
theorem d_Lw_law_1185 : decode c_Lw_law 1185 = .ok (.iload 4, 2) := by decide +kernel
theorem d_Lw_law_1187 : decode c_Lw_law 1187 = .ok (.iconst 3, 1) := by decide +kernel
theorem d_Lw_law_1188 : decode c_Lw_law 1188 = .ok (.iadd, 1) := by decide +kernel
theorem d_Lw_law_1189 : decode c_Lw_law 1189 = .ok (.iaload, 1) := by decide +kernel
theorem d_Lw_law_1190 : decode c_Lw_law 1190 = .ok (.aload_n 3, 1) := by decide +kernel
theorem d_Lw_law_1191 : decode c_Lw_law 1191 = .ok (.invokestatic 128, 3) := by decide +kernel
theorem d_Lw_law_1194 : decode c_Lw_law 1194 = .ok (.istore 5, 2) := by decide +kernel
theorem d_Lw_law_1196 : decode c_Lw_law 1196 = .ok (.aload_n 2, 1) := by decide +kernel
theorem d_Lw_law_1197 : decode c_Lw_law 1197 = .ok (.aload_n 0, 1) := by decide +kernel
theorem d_Lw_law_1198 : decode c_Lw_law 1198 = .ok (.iload 4, 2) := by decide +kernel
theorem d_Lw_law_1200 : decode c_Lw_law 1200 = .ok (.iconst 1, 1) := by decide +kernel
theorem d_Lw_law_1201 : decode c_Lw_law 1201 = .ok (.iadd, 1) := by decide +kernel
theorem d_Lw_law_1202 : decode c_Lw_law 1202 = .ok (.iaload, 1) := by decide +kernel
theorem d_Lw_law_1203 : decode c_Lw_law 1203 = .ok (.aload_n 0, 1) := by decide +kernel
theorem d_Lw_law_1204 : decode c_Lw_law 1204 = .ok (.iload 4, 2) := by decide +kernel
theorem d_Lw_law_1206 : decode c_Lw_law 1206 = .ok (.iconst 2, 1) := by decide +kernel
theorem d_Lw_law_1207 : decode c_Lw_law 1207 = .ok (.iadd, 1) := by decide +kernel
theorem d_Lw_law_1208 : decode c_Lw_law 1208 = .ok (.iaload, 1) := by decide +kernel
theorem d_Lw_law_1209 : decode c_Lw_law 1209 = .ok (.aload_n 0, 1) := by decide +kernel
theorem d_Lw_law_1210 : decode c_Lw_law 1210 = .ok (.iload 4, 2) := by decide +kernel
theorem d_Lw_law_1212 : decode c_Lw_law 1212 = .ok (.iconst 3, 1) := by decide +kernel
theorem d_Lw_law_1213 : decode c_Lw_law 1213 = .ok (.iadd, 1) := by decide +kernel
theorem d_Lw_law_1214 : decode c_Lw_law 1214 = .ok (.iaload, 1) := by decide +kernel
theorem d_Lw_law_1215 : decode c_Lw_law 1215 = .ok (.invokevirtual 130, 3) := by decide +kernel
theorem d_Lw_law_1218 : decode c_Lw_law 1218 = .ok (.istore 6, 2) := by decide +kernel
theorem d_Lw_law_1220 : decode c_Lw_law 1220 = .ok (.aload_n 2, 1) := by decide +kernel
theorem d_Lw_law_1221 : decode c_Lw_law 1221 = .ok (.invokevirtual 82, 3) := by decide +kernel
theorem d_Lw_law_1224 : decode c_Lw_law 1224 = .ok (.iload 5, 2) := by decide +kernel
theorem d_Lw_law_1226 : decode c_Lw_law 1226 = .ok (.if_icmp .eq 5, 3) := by decide +kernel
theorem d_Lw_law_1229 : decode c_Lw_law 1229 = .ok (.iconst 0, 1) := by decide +kernel
theorem d_Lw_law_1230 : decode c_Lw_law 1230 = .ok (.ireturn, 1) := by decide +kernel
theorem d_Lw_law_1231 : decode c_Lw_law 1231 = .ok (.iload 5, 2) := by decide +kernel
theorem d_Lw_law_1233 : decode c_Lw_law 1233 = .ok (.ifCond .ne 15, 3) := by decide +kernel
theorem d_Lw_law_1236 : decode c_Lw_law 1236 = .ok (.aload_n 3, 1) := by decide +kernel
theorem d_Lw_law_1237 : decode c_Lw_law 1237 = .ok (.iconst 0, 1) := by decide +kernel
theorem d_Lw_law_1238 : decode c_Lw_law 1238 = .ok (.laload, 1) := by decide +kernel
theorem d_Lw_law_1239 : decode c_Lw_law 1239 = .ok (.iload 6, 2) := by decide +kernel
theorem d_Lw_law_1241 : decode c_Lw_law 1241 = .ok (.i2l, 1) := by decide +kernel
theorem d_Lw_law_1242 : decode c_Lw_law 1242 = .ok (.lcmp, 1) := by decide +kernel
theorem d_Lw_law_1243 : decode c_Lw_law 1243 = .ok (.ifCond .eq 5, 3) := by decide +kernel
theorem d_Lw_law_1246 : decode c_Lw_law 1246 = .ok (.iconst 0, 1) := by decide +kernel
theorem d_Lw_law_1247 : decode c_Lw_law 1247 = .ok (.ireturn, 1) := by decide +kernel
theorem d_Lw_law_1248 : decode c_Lw_law 1248 = .ok (.goto 59, 3) := by decide +kernel
theorem d_Lw_law_1251 : decode c_Lw_law 1251 = .ok (.aload_n 1, 1) := by decide +kernel
theorem d_Lw_law_1252 : decode c_Lw_law 1252 = .ok (.aload_n 0, 1) := by decide +kernel
theorem d_Lw_law_1253 : decode c_Lw_law 1253 = .ok (.iload 4, 2) := by decide +kernel
theorem d_Lw_law_1255 : decode c_Lw_law 1255 = .ok (.iconst 1, 1) := by decide +kernel
theorem d_Lw_law_1256 : decode c_Lw_law 1256 = .ok (.iadd, 1) := by decide +kernel
theorem d_Lw_law_1257 : decode c_Lw_law 1257 = .ok (.iaload, 1) := by decide +kernel
theorem d_Lw_law_1258 : decode c_Lw_law 1258 = .ok (.aload_n 3, 1) := by decide +kernel
theorem d_Lw_law_1259 : decode c_Lw_law 1259 = .ok (.invokestatic 131, 3) := by decide +kernel
theorem d_Lw_law_1262 : decode c_Lw_law 1262 = .ok (.istore 5, 2) := by decide +kernel
theorem d_Lw_law_1264 : decode c_Lw_law 1264 = .ok (.aload_n 2, 1) := by decide +kernel
theorem d_Lw_law_1265 : decode c_Lw_law 1265 = .ok (.aload_n 0, 1) := by decide +kernel
theorem d_Lw_law_1266 : decode c_Lw_law 1266 = .ok (.iload 4, 2) := by decide +kernel
theorem d_Lw_law_1268 : decode c_Lw_law 1268 = .ok (.iconst 1, 1) := by decide +kernel
theorem d_Lw_law_1269 : decode c_Lw_law 1269 = .ok (.iadd, 1) := by decide +kernel
theorem d_Lw_law_1270 : decode c_Lw_law 1270 = .ok (.iaload, 1) := by decide +kernel
theorem d_Lw_law_1271 : decode c_Lw_law 1271 = .ok (.invokevirtual 133, 3) := by decide +kernel
theorem d_Lw_law_1274 : decode c_Lw_law 1274 = .ok (.istore 6, 2) := by decide +kernel
theorem d_Lw_law_1276 : decode c_Lw_law 1276 = .ok (.aload_n 2, 1) := by decide +kernel
theorem d_Lw_law_1277 : decode c_Lw_law 1277 = .ok (.invokevirtual 82, 3) := by decide +kernel
theorem d_Lw_law_1280 : decode c_Lw_law 1280 = .ok (.iload 5, 2) := by decide +kernel
theorem d_Lw_law_1282 : decode c_Lw_law 1282 = .ok (.if_icmp .eq 5, 3) := by decide +kernel
theorem d_Lw_law_1285 : decode c_Lw_law 1285 = .ok (.iconst 0, 1) := by decide +kernel
theorem d_Lw_law_1286 : decode c_Lw_law 1286 = .ok (.ireturn, 1) := by decide +kernel
theorem d_Lw_law_1287 : decode c_Lw_law 1287 = .ok (.iload 5, 2) := by decide +kernel
theorem d_Lw_law_1289 : decode c_Lw_law 1289 = .ok (.ifCond .ne 15, 3) := by decide +kernel
theorem d_Lw_law_1292 : decode c_Lw_law 1292 = .ok (.aload_n 3, 1) := by decide +kernel
theorem d_Lw_law_1293 : decode c_Lw_law 1293 = .ok (.iconst 0, 1) := by decide +kernel
theorem d_Lw_law_1294 : decode c_Lw_law 1294 = .ok (.laload, 1) := by decide +kernel
theorem d_Lw_law_1295 : decode c_Lw_law 1295 = .ok (.iload 6, 2) := by decide +kernel
theorem d_Lw_law_1297 : decode c_Lw_law 1297 = .ok (.i2l, 1) := by decide +kernel
theorem d_Lw_law_1298 : decode c_Lw_law 1298 = .ok (.lcmp, 1) := by decide +kernel
theorem d_Lw_law_1299 : decode c_Lw_law 1299 = .ok (.ifCond .eq 5, 3) := by decide +kernel
theorem d_Lw_law_1302 : decode c_Lw_law 1302 = .ok (.iconst 0, 1) := by decide +kernel
theorem d_Lw_law_1303 : decode c_Lw_law 1303 = .ok (.ireturn, 1) := by decide +kernel
theorem d_Lw_law_1304 : decode c_Lw_law 1304 = .ok (.goto 3, 3) := by decide +kernel
theorem d_Lw_law_1307 : decode c_Lw_law 1307 = .ok (.iinc 4 7, 3) := by decide +kernel
theorem d_Lw_law_1310 : decode c_Lw_law 1310 = .ok (.goto (-1267), 3) := by decide +kernel
theorem d_Lw_law_1313 : decode c_Lw_law 1313 = .ok (.iconst 1, 1) := by decide +kernel
theorem d_Lw_law_1314 : decode c_Lw_law 1314 = .ok (.ireturn, 1) := by decide +kernel
end
section
/-! THE WORLD AS A MAP: G says of an address which cell lies there (an object's fields, an array's contents); a write is an update of the map. A contract speaks of G alone. -/
def gs_W (D : va_G) (cl : List vw_C) (z0 : Nat) (G : Nat → Option va_E) (H : Heap) : Prop := z0 ≤ H.size ∧ ∀ (a : Nat) (e : va_E), G a = some e → z0 ≤ a ∧ va_at D cl (a, e) H
def gs_u (G : Nat → Option va_E) (a : Nat) (e : va_E) : Nat → Option va_E := fun q => if q = a then some e else G q
theorem gs_us (G : Nat → Option va_E) (a : Nat) (e : va_E) : gs_u G a e a = some e := by simp [gs_u]
theorem gs_un {G : Nat → Option va_E} {a b : Nat} {e : va_E} (h : b ≠ a) : gs_u G a e b = G b := by simp [gs_u, h]
theorem gs_ne {G : Nat → Option va_E} {a b : Nat} {e f : va_E} (ha : G a = some e) (hb : G b = some f) (h : e ≠ f) : a ≠ b := fun q => h (Option.some.inj (ha.symm.trans (q ▸ hb)))
theorem gs_keep {G : Nat → Option va_E} {a b : Nat} {e f g : va_E} (hb : G b = some f) (ha : G a = some e) (h : f ≠ e) : gs_u G a g b = some f := (gs_un (gs_ne hb ha h)).trans hb
section GS
variable {D : va_G} {cl : List vw_C} {z0 a : Nat} {G : Nat → Option va_E} {H H1 : Heap} {e : va_E}
theorem gs_W.P (h : gs_W D cl z0 G H) (ha : G a = some e) : va_P D cl [(a, e)] H := fun k q hk => by
  have hz : k < 1 := (List.getElem?_eq_some_iff.mp hk).1
  rw [show k = 0 by omega] at hk
  cases hk
  exact (h.2 a e ha).2
theorem gs_W.lt (h : gs_W D cl z0 G H) (ha : G a = some e) : a < H.size := (h.2 a e ha).2.lt
theorem gs_W.ge (h : gs_W D cl z0 G H) (ha : G a = some e) : z0 ≤ a := (h.2 a e ha).1
theorem gs_W.fresh (h : gs_W D cl z0 G H) : G H.size = none := by
  cases hq : G H.size with
  | none => rfl
  | some e => exact absurd (h.lt hq) (Nat.lt_irrefl _)
theorem gs_W.set (h : gs_W D cl z0 G H) (ha : z0 ≤ a) (z : H1.size = H.size) (oq : ∀ q : Nat, q ≠ a → H1[q]? = H[q]?) (he : va_at D cl (a, e) H1) : gs_W D cl z0 (gs_u G a e) H1 := by
  refine ⟨by rw [z]; exact h.1, fun b e' hb => ?_⟩
  unfold gs_u at hb
  split at hb
  · rename_i q
    subst q
    cases hb
    exact ⟨ha, he⟩
  · rename_i q
    exact ⟨(h.2 b e' hb).1, (h.2 b e' hb).2.kept (oq b q)⟩
theorem gs_W.new (h : gs_W D cl z0 G H) (z : H1.size = H.size + 1) (oq : ∀ q : Nat, q < H.size → H1[q]? = H[q]?) (he : va_at D cl (H.size, e) H1) : gs_W D cl z0 (gs_u G H.size e) H1 := by
  refine ⟨by have := h.1; omega, fun b e' hb => ?_⟩
  unfold gs_u at hb
  split at hb
  · rename_i q
    subst q
    cases hb
    exact ⟨h.1, he⟩
  · exact ⟨(h.2 b e' hb).1, (h.2 b e' hb).2.kept (oq b (h.lt hb))⟩
/-- more cells behind it, none of the world's touched -/
theorem gs_W.grow (h : gs_W D cl z0 G H) (z : H.size ≤ H1.size) (oq : ∀ q : Nat, q < H.size → H1[q]? = H[q]?) : gs_W D cl z0 G H1 := ⟨Nat.le_trans h.1 z, fun b e' hb => ⟨(h.2 b e' hb).1, (h.2 b e' hb).2.kept (oq b (h.lt hb))⟩⟩
end GS
/-- what a method stands on: the machine, its code, its words, its own name -/
def gs_E (p : Program) (s : State) (m : MethodId) (args : Array Value) (c : Code) (cc : ByteArray) (Ts : List Cond) (own : String) : Prop := p.tables.exec = Jvm.exec ∧ c.code = cc ∧ (∀ w ∈ Ts, w.before args s = true) ∧ s.vm.findClass own = some m.cls
abbrev gs_S (z0 : Nat) (H0 H : Heap) (locs : List Loc) : Prop := va_S (fun q : Nat => z0 ≤ q) H0 H locs
section GR
variable {p : Program} {l : Launch} {e : Env} {R : Room} {s : State} {m : MethodId} {args : Array Value} {below : List Frame} {meth : Method} {c : Code} {H : Heap} {locs : List Loc} {cells slots : Nat} {Q : State → Prop}
variable {cc : ByteArray} {pc : Nat} {ls : Array Slot} {rest : List Value} {D : va_G} {cl : List vw_C} {a : Nat} {tys : List (ClassId × FieldType)} {H0 : Heap} {z0 : Nat} {G : Nat → Option va_E} {Ts : List Cond} {own : String}
theorem gs_get (E : gs_E p s m args c cc Ts own) (hK : va_K D cl tys s) (hG : gs_W D cl z0 G H) {C : String} {T : u_T} {N ci index : Nat} {fs : List Value} (ha : G a = some (.inr (ci, fs))) (hc : cl[ci]? = some (C, T, N)) (hin : ∀ w ∈ u_ws C T N, w ∈ Ts) (k : Nat) (hk : k < N) (hl : Cond.fieldLink own index (T k).1 (T k).2.1 (T k).2.2.1 ∈ Ts) {v : Value} (hv : fs[k]? = some v) (hdg : decode cc pc = .ok (.getfield index, 3))
    (kk : W p l e R s m args below meth c H locs cells slots Q (F0 m (pc + 3) ls (v :: rest))) : W p l e R s m args below meth c H locs cells slots Q (F0 m pc ls (.ref a :: rest)) :=
  va_get E.1 E.2.1 E.2.2.1 hin E.2.2.2 hK (hG.P ha) 0 rfl hc k hk (E.2.2.1 _ hl) (fun _ h => h) hv hdg kk
theorem gs_put (E : gs_E p s m args c cc Ts own) (hK : va_K D cl tys s) (hG : gs_W D cl z0 G H) (hS : gs_S z0 H0 H locs) {C : String} {T : u_T} {N ci index : Nat} {fs : List Value} (ha : G a = some (.inr (ci, fs))) (hc : cl[ci]? = some (C, T, N)) (hin : ∀ w ∈ u_ws C T N, w ∈ Ts) (ty0 : Nat → FieldType) (hty : ∀ k, k < N → parseFieldDescriptor (T k).2.2.1 = some (ty0 k)) (hnm : ∀ a, a < N → ∀ b, b < N → a ≠ b → (T a).2.1 ≠ (T b).2.1) (k : Nat) (hk : k < N) (hl : Cond.fieldLink own index (T k).1 (T k).2.1 (T k).2.2.1 ∈ Ts) (hfin : (T k).2.2.2 = false) {v : Value} (hn : narrow (ty0 k) v = v) (hfit : fits (ty0 k) v = true) (hlen : k < fs.length) (hdg : decode cc pc = .ok (.putfield index, 3))
    (kk : ∀ (H1 : Heap) (locs1 : List Loc), gs_W D cl z0 (gs_u G a (.inr (ci, fs.set k v))) H1 → gs_S z0 H0 H1 locs1 → W p l e R s m args below meth c H1 locs1 cells slots Q (F0 m (pc + 3) ls rest)) : W p l e R s m args below meth c H locs cells slots Q (F0 m pc ls (v :: .ref a :: rest)) := by
  obtain ⟨hexec, hb, hts, hown⟩ := E
  have hap := va_apart (own := own) hts hin ty0 hty hnm hK hc
  obtain ⟨r, h1, cell, q1, q2, q3, q4⟩ := (hG.2 a _ ha).2
  have hr : r = (C, T, N) := Option.some.inj (h1.symm.trans hc)
  subst hr
  obtain ⟨hSl, hfc, kC, hkC, hkind⟩ := hK.1 ci _ hc
  obtain ⟨cf, kf, fi, f, hi, hsl⟩ := hSl k hk
  have hlay := hts _ (hin _ (u_in_lay hk))
  unfold u_lay at hlay
  rw [if_neg (by rw [hfin]; decide)] at hlay
  have hst := (u_facts hfc hkC (u_lays hts hin hk) hi).1
  have h6 := u_store hfc hkC hkind hlay hi (hty k hk) hn hfit
  refine W.putK hexec hb (f := f) ⟨hown, hts _ hl, ⟨_, _, _, hi⟩, hst⟩ (by rw [q2]; exact h6) q1 q3 (by rw [hsl]; exact k2_hasslot (q4 k hk)) rfl rfl hdg fun H' e1 e2 e3 => ?_
  rw [hsl] at e1 ⊢
  exact kk H' _ (hG.set (hG.ge ha) e2 e3 ⟨_, hc, t_OB.to (V := updV (vp_V fs) k v) ⟨_, e1, q2, q3, t_set q4 hap hk v⟩ (fun j _ => vp_updV_set hlen v j)⟩) (hS.put e2 e3 (hG.ge ha))
theorem gs_putF (E : gs_E p s m args c cc Ts own) (hK : va_K D cl tys s) (hG : gs_W D cl z0 G H) (hS : gs_S z0 H0 H locs) {C : String} {T : u_T} {N ci index : Nat} {fs : List Value} (ha : G a = some (.inr (ci, fs))) (hc : cl[ci]? = some (C, T, N)) (hin : ∀ w ∈ u_ws C T N, w ∈ Ts) (ty0 : Nat → FieldType) (hty : ∀ k, k < N → parseFieldDescriptor (T k).2.2.1 = some (ty0 k)) (hnm : ∀ a, a < N → ∀ b, b < N → a ≠ b → (T a).2.1 ≠ (T b).2.1) (k : Nat) (hk : k < N) (hl : Cond.fieldLink own index (T k).1 (T k).2.1 (T k).2.2.1 ∈ Ts) (hfin : (T k).2.2.2 = true) (hin2 : meth.name = "<init>") (hdecl : (T k).1 = own) {v : Value} (hn : narrow (ty0 k) v = v) (hfit : fits (ty0 k) v = true) (hlen : k < fs.length) (hdg : decode cc pc = .ok (.putfield index, 3))
    (kk : ∀ (H1 : Heap) (locs1 : List Loc), gs_W D cl z0 (gs_u G a (.inr (ci, fs.set k v))) H1 → gs_S z0 H0 H1 locs1 → W p l e R s m args below meth c H1 locs1 cells slots Q (F0 m (pc + 3) ls rest)) : W p l e R s m args below meth c H locs cells slots Q (F0 m pc ls (v :: .ref a :: rest)) := by
  obtain ⟨hexec, hb, hts, hown⟩ := E
  have hap := va_apart (own := own) hts hin ty0 hty hnm hK hc
  obtain ⟨r, h1, cell, q1, q2, q3, q4⟩ := (hG.2 a _ ha).2
  have hr : r = (C, T, N) := Option.some.inj (h1.symm.trans hc)
  subst hr
  obtain ⟨hSl, hfc, kC, hkC, hkind⟩ := hK.1 ci _ hc
  obtain ⟨cf, kf, fi, f, hi, hsl⟩ := hSl k hk
  have hlay := hts _ (hin _ (u_in_lay hk))
  unfold u_lay at hlay
  rw [if_pos hfin] at hlay
  have hst := (u_facts hfc hkC (u_lays hts hin hk) hi).1
  have hcf : m.cls = cf := by
    obtain ⟨_, _, c', _, _, _, -, -, hf', -, -, -, hown2, -⟩ := Cond.laysFinal_spec hlay
    have e1 : c' = cf := by have := hi.symm.trans hf'; simp at this; exact this.1.symm
    rw [hdecl] at hown2
    rw [← e1]; exact Option.some.inj (hown.symm.trans hown2)
  have h6 := u_fits hfc hkC hkind (Or.inr hlay) hi (hty k hk) hn hfit
  refine W.putFinK hexec hb hown (hts _ hl) hi hst hcf hin2 (by rw [q2]; exact h6) q1 q3 (by rw [hsl]; exact k2_hasslot (q4 k hk)) rfl rfl hdg fun H' e1 e2 e3 => ?_
  rw [hsl] at e1 ⊢
  exact kk H' _ (hG.set (hG.ge ha) e2 e3 ⟨_, hc, t_OB.to (V := updV (vp_V fs) k v) ⟨_, e1, q2, q3, t_set q4 hap hk v⟩ (fun j _ => vp_updV_set hlen v j)⟩) (hS.put e2 e3 (hG.ge ha))
theorem gs_iald (E : gs_E p s m args c cc Ts own) (hK : va_K D cl tys s) (hG : gs_W D cl z0 G H) {cA : ClassId} {n : Nat} {f : Nat → Int32} (ha : G a = some (.inl (cA, n, .inl f))) (t0 : Nat) (ht : tys[t0]? = some (cA, .int)) {i : Int32} (hin : vp_in i n) (hdg : decode cc pc = .ok (.iaload, 1))
    (kk : W p l e R s m args below meth c H locs cells slots Q (F0 m (pc + 1) ls (.int (f i.toNatClampNeg) :: rest))) : W p l e R s m args below meth c H locs cells slots Q (F0 m pc ls (.int i :: .ref a :: rest)) :=
  va_iald E.1 E.2.1 hK (hG.P ha) 0 t0 rfl ht hin hdg kk
theorem gs_zald (E : gs_E p s m args c cc Ts own) (hK : va_K D cl tys s) (hG : gs_W D cl z0 G H) {cA : ClassId} {n : Nat} {f : Nat → Int32} (ha : G a = some (.inl (cA, n, .inl f))) (t0 : Nat) (ht : tys[t0]? = some (cA, .boolean)) {i : Int32} (hin : vp_in i n) (hdg : decode cc pc = .ok (.baload, 1))
    (kk : W p l e R s m args below meth c H locs cells slots Q (F0 m (pc + 1) ls (.int (f i.toNatClampNeg) :: rest))) : W p l e R s m args below meth c H locs cells slots Q (F0 m pc ls (.int i :: .ref a :: rest)) :=
  va_zald E.1 E.2.1 hK (hG.P ha) 0 t0 rfl ht hin hdg kk
theorem gs_lald (E : gs_E p s m args c cc Ts own) (hK : va_K D cl tys s) (hG : gs_W D cl z0 G H) {cA : ClassId} {n : Nat} {f : Nat → Int64} (ha : G a = some (.inl (cA, n, .inr (.inl f)))) (t0 : Nat) (ht : tys[t0]? = some (cA, .long)) {i : Int32} (hin : vp_in i n) (hdg : decode cc pc = .ok (.laload, 1))
    (kk : W p l e R s m args below meth c H locs cells slots Q (F0 m (pc + 1) ls (.long (f i.toNatClampNeg) :: rest))) : W p l e R s m args below meth c H locs cells slots Q (F0 m pc ls (.int i :: .ref a :: rest)) :=
  va_lald E.1 E.2.1 hK (hG.P ha) 0 t0 rfl ht hin hdg kk
theorem gs_aldq (E : gs_E p s m args c cc Ts own) (hK : va_K D cl tys s) (hG : gs_W D cl z0 G H) {cA : ClassId} {C : String} {n : Nat} {f : Nat → Option Nat} (ha : G a = some (.inl (cA, n, .inr (.inr (.inr (.inr f)))))) (t0 : Nat) (ht : tys[t0]? = some (cA, .object C)) {i : Int32} (hin : vp_in i n) (hdg : decode cc pc = .ok (.aaload, 1))
    (kk : W p l e R s m args below meth c H locs cells slots Q (F0 m (pc + 1) ls (va_rf (f i.toNatClampNeg) :: rest))) : W p l e R s m args below meth c H locs cells slots Q (F0 m pc ls (.int i :: .ref a :: rest)) :=
  va_aldq E.1 E.2.1 hK (hG.P ha) 0 t0 rfl ht hin hdg kk
theorem gs_alen (E : gs_E p s m args c cc Ts own) (hK : va_K D cl tys s) (hG : gs_W D cl z0 G H) {cA : ClassId} {x : vp_A} (ha : G a = some (.inl (cA, x))) (t0 : Nat) {ty : FieldType} (ht : tys[t0]? = some (cA, ty)) {v : Int32} (hv : Int32.ofNat x.1 = v) (hdg : decode cc pc = .ok (.arraylength, 1))
    (kk : W p l e R s m args below meth c H locs cells slots Q (F0 m (pc + 1) ls (.int v :: rest))) : W p l e R s m args below meth c H locs cells slots Q (F0 m pc ls (.ref a :: rest)) :=
  va_alen E.1 E.2.1 hK (hG.P ha) 0 t0 rfl ht hv hdg kk
theorem gs_iast (E : gs_E p s m args c cc Ts own) (hK : va_K D cl tys s) (hG : gs_W D cl z0 G H) (hS : gs_S z0 H0 H locs) {cA : ClassId} {n : Nat} {f : Nat → Int32} (ha : G a = some (.inl (cA, n, .inl f))) (t0 : Nat) (ht : tys[t0]? = some (cA, .int)) {i x : Int32} (hin : vp_in i n) (hdg : decode cc pc = .ok (.iastore, 1))
    (kk : ∀ (H1 : Heap) (locs1 : List Loc), gs_W D cl z0 (gs_u G a (.inl (cA, n, .inl (upd f i.toNatClampNeg x)))) H1 → gs_S z0 H0 H1 locs1 → W p l e R s m args below meth c H1 locs1 cells slots Q (F0 m (pc + 1) ls rest)) : W p l e R s m args below meth c H locs cells slots Q (F0 m pc ls (.int x :: .int i :: .ref a :: rest)) := by
  refine W.iast E.1 E.2.1 (hG.2 a _ ha).2 ((hK.2 t0 _ ht).1 n (fun j => .int (f j))) (fun q => by cases q) (by show ¬ (i < 0 ∨ (arrV _ _ _).slots.size ≤ _); rw [arrV_size]; exact hin) rfl rfl hdg fun H1 e z oq => ?_
  refine kk H1 _ (hG.set (hG.ge ha) z oq ?_) (hS.put z oq (hG.ge ha))
  show H1[a]? = some (vp_cell _ _)
  rw [e]
  rw [vp_cell_i, vp_cell_i, arrV_store]
  congr 2
  funext q
  by_cases hq : q = i.toNatClampNeg
  · subst hq
    simp [updV, upd]
  · simp [updV, upd, hq]
theorem gs_zast (E : gs_E p s m args c cc Ts own) (hK : va_K D cl tys s) (hG : gs_W D cl z0 G H) (hS : gs_S z0 H0 H locs) {cA : ClassId} {n : Nat} {f : Nat → Int32} (ha : G a = some (.inl (cA, n, .inl f))) (t0 : Nat) (ht : tys[t0]? = some (cA, .boolean)) {i x : Int32} (hin : vp_in i n) (hdg : decode cc pc = .ok (.bastore, 1))
    (kk : ∀ (H1 : Heap) (locs1 : List Loc), gs_W D cl z0 (gs_u G a (.inl (cA, n, .inl (upd f i.toNatClampNeg (vp_nar .boolean x))))) H1 → gs_S z0 H0 H1 locs1 → W p l e R s m args below meth c H1 locs1 cells slots Q (F0 m (pc + 1) ls rest)) : W p l e R s m args below meth c H locs cells slots Q (F0 m pc ls (.int x :: .int i :: .ref a :: rest)) := by
  refine W.zast E.1 E.2.1 (hG.2 a _ ha).2 ((hK.2 t0 _ ht).1 n (fun j => .int (f j))) (fun q => by cases q) (by show ¬ (i < 0 ∨ (arrV _ _ _).slots.size ≤ _); rw [arrV_size]; exact hin) rfl rfl hdg fun H1 e z oq => ?_
  refine kk H1 _ (hG.set (hG.ge ha) z oq ?_) (hS.put z oq (hG.ge ha))
  show H1[a]? = some (vp_cell _ _)
  rw [e]
  rw [vp_cell_i, vp_cell_i, arrV_store]
  congr 2
  funext q
  by_cases hq : q = i.toNatClampNeg
  · subst hq
    simp [updV, upd, vp_nar]
    try rfl
  · simp [updV, upd, hq]
theorem gs_last (E : gs_E p s m args c cc Ts own) (hK : va_K D cl tys s) (hG : gs_W D cl z0 G H) (hS : gs_S z0 H0 H locs) {cA : ClassId} {n : Nat} {f : Nat → Int64} (ha : G a = some (.inl (cA, n, .inr (.inl f)))) (t0 : Nat) (ht : tys[t0]? = some (cA, .long)) {i : Int32} {x : Int64} (hin : vp_in i n) (hdg : decode cc pc = .ok (.lastore, 1))
    (kk : ∀ (H1 : Heap) (locs1 : List Loc), gs_W D cl z0 (gs_u G a (.inl (cA, n, .inr (.inl (vp_updL f i.toNatClampNeg x))))) H1 → gs_S z0 H0 H1 locs1 → W p l e R s m args below meth c H1 locs1 cells slots Q (F0 m (pc + 1) ls rest)) : W p l e R s m args below meth c H locs cells slots Q (F0 m pc ls (.long x :: .int i :: .ref a :: rest)) := by
  refine W.last E.1 E.2.1 (hG.2 a _ ha).2 ((hK.2 t0 _ ht).1 n (fun j => .long (f j))) (fun q => by cases q) (by show ¬ (i < 0 ∨ (arrV _ _ _).slots.size ≤ _); rw [arrV_size]; exact hin) rfl rfl hdg fun H1 e z oq => ?_
  refine kk H1 _ (hG.set (hG.ge ha) z oq ?_) (hS.put z oq (hG.ge ha))
  show H1[a]? = some (vp_cell _ _)
  rw [e]
  rw [vp_cell_l, vp_cell_l, arrV_store]
  congr 2
  funext q
  by_cases hq : q = i.toNatClampNeg
  · subst hq
    simp [updV, vp_updL]
  · simp [updV, vp_updL, hq]
theorem gs_astq (E : gs_E p s m args c cc Ts own) (hK : va_K D cl tys s) (hG : gs_W D cl z0 G H) (hS : gs_S z0 H0 H locs) {cA : ClassId} {r : vw_C} {n v ci : Nat} {vs : List Value} {f : Nat → Option Nat} (ha : G a = some (.inl (cA, n, .inr (.inr (.inr (.inr f)))))) (t0 : Nat) (ht : tys[t0]? = some (cA, .object r.1)) (hv : G v = some (.inr (ci, vs))) (hc : cl[ci]? = some r) {i : Int32} (hin : vp_in i n) (hdg : decode cc pc = .ok (.aastore, 1))
    (kk : ∀ (H1 : Heap) (locs1 : List Loc), gs_W D cl z0 (gs_u G a (.inl (cA, n, .inr (.inr (.inr (.inr (va_up f i.toNatClampNeg (some v)))))))) H1 → gs_S z0 H0 H1 locs1 → W p l e R s m args below meth c H1 locs1 cells slots Q (F0 m (pc + 1) ls rest)) : W p l e R s m args below meth c H locs cells slots Q (F0 m pc ls (.ref v :: .int i :: .ref a :: rest)) := by
  have hlt : i.toNatClampNeg < n := Nat.not_le.mp fun q => hin (Or.inr q)
  have h0 : ¬ i < 0 := fun q => hin (Or.inl q)
  obtain ⟨r', hr', cellV, g1, g2, g3, -⟩ := (hG.2 v _ hv).2
  have hcls := (hK.1 ci r hc).2
  obtain ⟨kA, comp, k1, k2, k3, -⟩ := (hK.2 t0 _ ht).2
  have hcomp : comp = D.1 ci := Option.some.inj (k3.symm.trans hcls.1)
  subst hcomp
  obtain ⟨kC, hkC, -⟩ := hcls.2
  refine W.aast E.1 E.2.1 (hG.2 a _ ha).2 (fun q h => by cases h) (fun h => by cases h) k1 k2 rfl hkC ⟨h0, by show _ < (arrV _ _ _).slots.size; rw [arrV_size]; exact hlt⟩ g1 (fun q h => by rw [g3] at h; cases h) (by rw [g2]; exact hkC) (by rw [g2]; exact va_assign hcls) rfl rfl hdg fun H1 e z oq => ?_
  refine kk H1 _ (hG.set (hG.ge ha) z oq ?_) (hS.put z oq (hG.ge ha))
  show H1[a]? = some (vp_cell _ _)
  rw [e]
  rw [vp_cell_q, vp_cell_q, arrV_store]
  congr 2
  funext q
  by_cases hq : q = i.toNatClampNeg
  · subst hq
    simp [updV, va_up, va_rf]
  · simp [updV, va_up, hq]
theorem gs_new (E : gs_E p s m args c cc Ts own) (hK : va_K D cl tys s) (hG : gs_W D cl z0 G H) (hS : gs_S z0 H0 H locs) {C : String} {T : u_T} {N ci index : Nat} (hc : cl[ci]? = some (C, T, N)) (hin : ∀ w ∈ u_ws C T N, w ∈ Ts) (ty : Nat → FieldType) (hty : ∀ k, k < N → parseFieldDescriptor (T k).2.2.1 = some (ty k)) (hcl : Cond.classLink own index C ∈ Ts) (hinst : Cond.instantiable C N ∈ Ts) (hini : Cond.initialized C ∈ Ts) {fs : List Value} (hfs : ∀ j, j < N → defaultValue (ty j) = vp_V fs j) (hcells : cells + 1 ≤ R.cells) (hslots : slots + N ≤ R.slots) (hdg : decode cc pc = .ok (.new index, 3))
    (kk : ∀ H1 : Heap, gs_W D cl z0 (gs_u G H.size (.inr (ci, fs))) H1 → gs_S z0 H0 H1 locs → W p l e R s m args below meth c H1 locs (cells + 1) (slots + N) Q (F0 m (pc + 3) ls (.ref H.size :: rest))) : W p l e R s m args below meth c H locs cells slots Q (F0 m pc ls rest) := by
  have hKn := hK.1 ci _ hc
  refine W.newcK E.1 E.2.1 E.2.2.2 (E.2.2.1 _ hcl) (E.2.2.1 _ hinst) (E.2.2.1 _ hini) rfl hdg hcells hslots hKn.2.1 rfl fun H1 kC hkC e1 z1 o1 => ?_
  refine kk H1 (hG.new z1 o1 ?_) ⟨Nat.le_trans hS.1 (by omega), fun x h1 h2 => (o1 x (Nat.lt_of_lt_of_le h1 hS.1)).trans (hS.2.1 x h1 h2), hS.2.2⟩
  exact ⟨_, hc, (u_born ty E.2.2.1 hin hKn hkC e1 hty).to hfs⟩
theorem gs_newa (E : gs_E p s m args c cc Ts own) (hK : va_K D cl tys s) (hG : gs_W D cl z0 G H) (hS : gs_S z0 H0 H locs) {atype : ArrayType} (harr : Cond.arrayClass (newarray.typeOf atype) ∈ Ts) {cA : ClassId} (hnm : s.vm.findClass ("[" ++ (newarray.typeOf atype).toString) = some cA) {n : Int32} {N' : Nat} {a0 : vp_A} (ha : ∀ cA : ClassId, vp_cell cA a0 = arrV cA N' (fun _ => defaultValue (newarray.typeOf atype))) (hn : ¬ n < 0) (hN : n.toNatClampNeg = N') (hbytes : N' * componentBytes (newarray.typeOf atype) ≤ 536870912) (hcells : cells + 1 ≤ R.cells) (hslots : slots + N' ≤ R.slots) (hdg : decode cc pc = .ok (.newarray atype, 2))
    (kk : ∀ H1 : Heap, gs_W D cl z0 (gs_u G H.size (.inl (cA, a0))) H1 → gs_S z0 H0 H1 locs → W p l e R s m args below meth c H1 locs (cells + 1) (slots + N') Q (F0 m (pc + 2) ls (.ref H.size :: rest))) : W p l e R s m args below meth c H locs cells slots Q (F0 m pc ls (.int n :: rest)) := by
  refine va_newaK E.1 E.2.1 (E.2.2.1 _ harr) rfl hdg rfl hn hN hbytes hcells hslots rfl fun H1 cB e1 z1 o1 hAr hNm => ?_
  have hB : cB = cA := Option.some.inj (hNm.symm.trans hnm)
  subst hB
  refine kk H1 (hG.new z1 o1 ?_) ⟨Nat.le_trans hS.1 (by omega), fun x h1 h2 => (o1 x (Nat.lt_of_lt_of_le h1 hS.1)).trans (hS.2.1 x h1 h2), hS.2.2⟩
  show H1[H.size]? = some (vp_cell _ _)
  rw [ha]
  exact e1
theorem gs_newq (E : gs_E p s m args c cc Ts own) (hK : va_K D cl tys s) (hG : gs_W D cl z0 G H) (hS : gs_S z0 H0 H locs) {C : String} {index : Nat} (hcl : Cond.classLink own index C ∈ Ts) (hover : va_AO C s) {cA : ClassId} (hnm : s.vm.findClass ("[" ++ (FieldType.object C).toString) = some cA) {n : Int32} {N' : Nat} (hn : ¬ n < 0) (hN : n.toNatClampNeg = N') (hbytes : N' * 4 ≤ 536870912) (hcells : cells + 1 ≤ R.cells) (hslots : slots + N' ≤ R.slots) (hdg : decode cc pc = .ok (.anewarray index, 3))
    (kk : ∀ H1 : Heap, gs_W D cl z0 (gs_u G H.size (.inl (cA, N', .inr (.inr (.inr (.inr (fun _ => none))))))) H1 → gs_S z0 H0 H1 locs → W p l e R s m args below meth c H1 locs (cells + 1) (slots + N') Q (F0 m (pc + 3) ls (.ref H.size :: rest))) : W p l e R s m args below meth c H locs cells slots Q (F0 m pc ls (.int n :: rest)) := by
  subst hN
  refine W.anew E.1 E.2.1 E.2.2.2 (E.2.2.1 _ hcl) (va_AO.use hover) rfl hdg rfl hn hbytes hcells hslots fun cB kA comp f1 f2 f3 f4 => ?_
  have hB : cB = cA := Option.some.inj (f1.symm.trans hnm)
  subst hB
  generalize hH1 : H.push ({ cls := cB, slots := Array.replicate n.toNatClampNeg .null, vm := .none } : Cell) = H1
  have z1 : H1.size = H.size + 1 := by rw [← hH1, Array.size_push]
  have e1 : H1[H.size]? = some (arrV cB n.toNatClampNeg (fun _ => .null)) := by rw [← hH1, Array.getElem?_push_size, ← arrV_new]
  have o1 : ∀ q : Nat, q < H.size → H1[q]? = H[q]? := fun q hq => by rw [← hH1, Array.getElem?_push, if_neg (Nat.ne_of_lt hq)]
  refine kk H1 (hG.new z1 o1 ?_) ⟨Nat.le_trans hS.1 (by omega), fun x h1 h2 => (o1 x (Nat.lt_of_lt_of_le h1 hS.1)).trans (hS.2.1 x h1 h2), hS.2.2⟩
  show H1[H.size]? = some (vp_cell _ _)
  rw [vp_cell_q]
  exact e1
end GR
end
section
/-! CONTRACTS OVER THE MAP: a call's start, its end, its throw; what the tables and the JVM's own cells must be goes along (gs_K, gs_X) -/
def gs_Q (D : va_G) (z0 : Nat) (post : Option Value → (Nat → Option va_E) → Prop) : Array Value → State → Outcome → State → Prop := fun _ st o t => ∃ (v : Option Value) (G1 : Nat → Option va_E), o = .returned v ∧ post v G1 ∧ gs_W D classes z0 G1 t.heap ∧ va_F (fun q : Nat => z0 ≤ q) st t
/-- a throw leaves the world as it was at the call's start: G -/
def gs_T (D : va_G) (z0 : Nat) (G : Nat → Option va_E) (px : String → Prop) : String → State → State → Prop := fun E st t => px E ∧ gs_W D classes z0 G t.heap ∧ va_F (fun q : Nat => z0 ≤ q) st t
/-- Throwable's two statics, outside of the world -/
def gs_X (z0 : Nat) (U : State) (H : Heap) : Prop := vx_Zq Bundle.tN "UNASSIGNED_STACK" Bundle.steD (fun q : Nat => z0 ≤ q) U H ∧ vx_Zq Bundle.tN "SUPPRESSED_SENTINEL" Bundle.listD (fun q : Nat => z0 ≤ q) U H
theorem gs_X.moved {z0 : Nat} {u U : State} {H : Heap} (hvm : u.vm.Alike U.vm) (h : gs_X z0 u H) : gs_X z0 U H := ⟨h.1.moved hvm, h.2.moved hvm⟩
theorem gs_X.kept {z0 : Nat} {U : State} {H H1 : Heap} (h : gs_X z0 U H) (hq : ∀ a : Nat, a < H.size → ¬ z0 ≤ a → H1[a]? = H[a]?) : gs_X z0 U H1 := ⟨h.1.kept hq, h.2.kept hq⟩
/-- the array types: int, long, boolean, boxes, windows, hours -/
abbrev kt (k : Nat → ClassId) : List (ClassId × FieldType) := [(k 0, .int), (k 1, .long), (k 2, .boolean), (k 3, .object R_Bx), (k 4, .object R_Wn), (k 5, .object R_Hr)]
abbrev e_IA : String := "java/lang/IllegalArgumentException"
abbrev e_IS : String := "java/lang/IllegalStateException"
def gs_texts : List (Nat × String) := [(64, "not a box within the bounds"), (71, "there are 10 boxes"), (181, "no such box"), (85, "a box moves by -300 .. 300"), (185, "no such hour"), (98, "the sun's direction is out of bounds"), (109, "light is 0 .. 1000"), (114, "not a window within the wall"), (116, "there are 10 windows"), (121, "no such cell"), (187, "the hour has no sun"), (183, "no such window"), (152, "a place is not below 0"), (162, "a ledge is 1 .. 100 deep"), (167, "cells are not below 0")]
def gs_K (D : va_G) (k : Nat → ClassId) (U : State) : Prop :=
  va_K D classes (kt k) U ∧ (va_Nw (.methodLinkNest R_Ss 57 y_Hr_init R_Ss) U ∧ va_Nw (.methodLinkNest R_Bx 80 y_Ss_cellsBetween R_Ss) U ∧ va_Nw (.methodLinkNest R_Wn 22 y_Ss_cellsBetween R_Ss) U) ∧ (va_AO R_Bx U ∧ va_AO R_Wn U ∧ va_AO R_Hr U) ∧ (va_Nw (.castable e_IA e_IA) U ∧ va_Nw (.castable e_IS e_IS) U ∧ va_Nc e_IS e_IA U) ∧ (va_Nw (.declares ⟨"java/lang/RuntimeException", "<init>", "(Ljava/lang/String;)V"⟩) U ∧ va_Nw (.declares ⟨"java/lang/Exception", "<init>", "(Ljava/lang/String;)V"⟩) U ∧ va_Nw (.declares ⟨"java/lang/Throwable", "<init>", "(Ljava/lang/String;)V"⟩) U) ∧ ∀ q ∈ gs_texts, ∃ a : Nat, vk_R R_Ss q.1 q.2 a U
theorem gs_K.warm {D : va_G} {k : Nat → ClassId} {s U : State} (hW : s.WarmedH U.vm) (h : gs_K D k s) : gs_K D k U := by
  obtain ⟨h1, ⟨h2, h3, h4⟩, ⟨h5, h6, h7⟩, ⟨h8, h9, h10⟩, ⟨h12, h13, h14⟩, h11⟩ := h
  exact ⟨h1.moved hW.alike, ⟨h2.warmM hW, h3.warmM hW, h4.warmM hW⟩, ⟨h5.moved hW.alike, h6.moved hW.alike, h7.moved hW.alike⟩, ⟨h8.warmC hW, h9.warmC hW, h10.moved hW.alike⟩, ⟨h12.warmD hW, h13.warmD hW, h14.warmD hW⟩, fun q hq => (h11 q hq).elim fun a ha => ⟨a, ha.warm hW⟩⟩
theorem gs_K.same {D : va_G} {k : Nat → ClassId} {u U : State} (hv : U.vm = u.vm) (h : gs_K D k u) : gs_K D k U := by
  obtain ⟨h1, ⟨h2, h3, h4⟩, ⟨h5, h6, h7⟩, ⟨h8, h9, h10⟩, ⟨h12, h13, h14⟩, h11⟩ := h
  have hA : u.vm.Alike U.vm := by rw [hv]; exact Vm.Alike.refl u.vm
  exact ⟨h1.moved hA, ⟨h2.same rfl hv.symm, h3.same rfl hv.symm, h4.same rfl hv.symm⟩, ⟨h5.moved hA, h6.moved hA, h7.moved hA⟩, ⟨h8.same rfl hv.symm, h9.same rfl hv.symm, h10.moved hA⟩, ⟨h12.same rfl hv.symm, h13.same rfl hv.symm, h14.same rfl hv.symm⟩, fun q hq => (h11 q hq).elim fun a ha => ⟨a, ha.same hv⟩⟩
def gs_P (D : va_G) (k : Nat → ClassId) (z0 : Nat) (G : Nat → Option va_E) (av : List Value) : Array Value → State → Prop := fun v U => v = av.toArray ∧ gs_W D classes z0 G U.heap ∧ gs_K D k U ∧ gs_X z0 U U.heap
section GC
variable {p : Program} {l : Launch} {e : Env} {R : Room} {s : State} {m : MethodId} {args : Array Value} {below : List Frame} {meth : Method} {c : Code} {H : Heap} {locs : List Loc} {cells slots : Nat} {Q : State → Prop}
variable {pc : Nat} {ls : Array Slot} {rest st0 : List Value} {D : va_G} {k : Nat → ClassId} {H0 : Heap} {z0 mc ms : Nat} {G : Nat → Option va_E} {a : Array Value} {px : String → Prop} {post : Option Value → (Nat → Option va_E) → Prop}
theorem gs_blind {av : List Value} : FrameBlind (gs_P D k z0 G av) := fun a U g mk q => by
  obtain ⟨q0, q1, q2, q3⟩ := q
  exact ⟨q0, q1, gs_K.same (u := U) (U := U.calling g mk a) rfl q2, gs_X.moved (u := U) (U := U.calling g mk a) (Vm.Alike.refl U.vm) q3⟩
theorem gs_preS (hG : gs_W D classes z0 G H) (hK : gs_K D k s) (hX : gs_X z0 s s.heap) (hS : gs_S z0 s.heap H locs) {As : List Value} : PreS s H (gs_P D k z0 G As) As := ⟨gs_blind, fun U hU hW => ⟨rfl, by rw [hU]; exact hG, gs_K.warm hW hK, by rw [hU]; exact gs_X.moved hW.alike (hX.kept hS.2.1)⟩⟩
theorem gs_recv (hG : gs_W D classes z0 G H) (hK : gs_K D k s) {b ci : Nat} {fs : List Value} {r : vw_C} (hb : G b = some (.inr (ci, fs))) (hc : classes[ci]? = some r) : ∃ cell : Cell, H[b]? = some cell ∧ cell.vm.isStatics = false ∧ s.vm.findClass r.1 = some cell.cls := va_recv hK.1 (hG.P hb) hc (q0 := 0) rfl
theorem gs_preV (hG : gs_W D classes z0 G H) (hK : gs_K D k s) (hX : gs_X z0 s s.heap) (hS : gs_S z0 s.heap H locs) {b ci : Nat} {fs : List Value} {r : vw_C} (hb : G b = some (.inr (ci, fs))) (hc : classes[ci]? = some r) {As : List Value} : PreV s H r.1 b (gs_P D k z0 G (.ref b :: As)) As := ⟨gs_blind, gs_recv hG hK hb hc, fun U hU hW => ⟨rfl, by rw [hU]; exact hG, gs_K.warm hW hK, by rw [hU]; exact gs_X.moved hW.alike (hX.kept hS.2.1)⟩⟩
/-- behind a call that returns -/
theorem gs_call (hr : va_Run p l e R s m args below meth c H locs cells slots mc ms (F0 m pc ls st0) rest (gs_Q D z0 post a) (fun q : Nat => z0 ≤ q)) (hS : gs_S z0 H0 H locs)
    (kk : ∀ (v : Option Value) (G1 : Nat → Option va_E) (H1 : Heap) (locs1 : List Loc), post v G1 → gs_W D classes z0 G1 H1 → gs_S z0 H0 H1 locs1 → W p l e R s m args below meth c H1 locs1 (cells + mc) (slots + ms) Q (F0 m (pc + 3) ls (v.toList ++ rest))) : W p l e R s m args below meth c H locs cells slots Q (F0 m pc ls st0) := by
  intro T hT X
  obtain ⟨v, st₀, t, T', L, h0, X', hL, e1, e2, ⟨v', G1, hv, hp, hw, hF⟩, st⟩ := hr T hT X
  cases hv
  obtain ⟨-, -, k3⟩ := vx_keep (A0 := fun q : Nat => z0 ≤ q) (A1 := fun q : Nat => z0 ≤ q) h0 e1 hS (fun _ _ h => h) (fun _ h => h) hL hF
  obtain ⟨t2, a1, b1⟩ := kk v G1 T'.heap (locs ++ L) hp (by rw [e1]; exact hw) k3 T' rfl X'
  exact ⟨t2, st t2 a1, b1⟩
/-- behind a call that returns or throws -/
theorem gs_callX (hr : vx_Run p l e R s m args below meth c H locs cells slots mc ms (F0 m pc ls st0) rest (gs_Q D z0 post a) (gs_T D z0 G px) (fun q : Nat => z0 ≤ q)) (hS : gs_S z0 H0 H locs)
    (kx : ∀ (E : String) (ce : Cell) (q9 : Addr) (H1 : Heap) (locs1 : List Loc), px E → gs_W D classes z0 G H1 → gs_S z0 H0 H1 locs1 → H1[q9]? = some ce → ce.vm = .none → s.vm.findClass E = some ce.cls → vx_W p l e R s m args below meth c H1 locs1 (cells + mc) (slots + ms) Q (F0 m pc ls rest) q9)
    (kk : ∀ (v : Option Value) (G1 : Nat → Option va_E) (H1 : Heap) (locs1 : List Loc), post v G1 → gs_W D classes z0 G1 H1 → gs_S z0 H0 H1 locs1 → W p l e R s m args below meth c H1 locs1 (cells + mc) (slots + ms) Q (F0 m (pc + 3) ls (v.toList ++ rest))) : W p l e R s m args below meth c H locs cells slots Q (F0 m pc ls st0) := by
  intro T hT X
  rcases hr T hT X with ⟨v, st₀, t, T', L, h0, X', hL, e1, e2, ⟨v', G1, hv, hp, hw, hF⟩, st⟩ | ⟨q, st₀, t, T', L, E, ce, h0, X', hL, e1, e2, ⟨hp, hw, hF⟩, hce, hcv, hcl, st⟩
  · cases hv
    obtain ⟨-, -, k3⟩ := vx_keep (A0 := fun q : Nat => z0 ≤ q) (A1 := fun q : Nat => z0 ≤ q) h0 e1 hS (fun _ _ h => h) (fun _ h => h) hL hF
    obtain ⟨t2, a1, b1⟩ := kk v G1 T'.heap (locs ++ L) hp (by rw [e1]; exact hw) k3 T' rfl X'
    exact ⟨t2, st t2 a1, b1⟩
  · obtain ⟨-, -, k3⟩ := vx_keep (A0 := fun q : Nat => z0 ≤ q) (A1 := fun q : Nat => z0 ≤ q) h0 e1 hS (fun _ _ h => h) (fun _ h => h) hL hF
    obtain ⟨t2, a1, b1⟩ := kx E ce q T'.heap (locs ++ L) hp (by rw [e1]; exact hw) k3 (by rw [e1]; exact hce) hcv hcl T' rfl X'
    exact ⟨t2, st.trans a1, b1⟩
/-- an end -/
theorem gs_end {v : Option Value} (hp : post v G) (hG : gs_W D classes z0 G H) (hS : gs_S z0 s.heap H locs) {as : Array Value} : ∀ t : State, t.heap = H → s.WarmedH t.vm → gs_Q D z0 post as s (.returned v) t := fun _ ht _ => ⟨v, G, rfl, hp, by rw [ht]; exact hG, hS.F ht⟩
end GC
/-- the words of every method: its own code, and all that can be handed on -/
abbrev wM (y : MethodName) (cc : ByteArray) (n : Nat) (ret : Option FieldType) : List Cond := Cond.code y cc n ret :: wW
theorem gi_W {big : List Cond} (h : ∀ w ∈ wW, w ∈ big) {ws : List Cond} (hs : ∀ w ∈ ws, w ∈ wW) : GoodIn big ws := fun w hw => ⟨h w (hs w hw), good_of_word (wW_g (hs w hw))⟩
theorem gi_M {y : MethodName} {cc : ByteArray} {n : Nat} {ret : Option FieldType} (hc : Cond.code y cc n ret ∈ wW) : ∀ w ∈ wM y cc n ret, w ∈ wW := fun w h => (List.mem_cons.mp h).elim (fun e => e ▸ hc) id
theorem gi_V {own C : String} {i : Nat} {y : MethodName} {ws : List Cond} (h1 : Cond.methodLink own i y ∈ wW) (h2 : Cond.instanceMethod y ∈ wW) (h3 : Cond.selects C y y ∈ wW) (h4 : Cond.initialized C ∈ wW) (hs : ∀ w ∈ ws, w ∈ wW) : ∀ w ∈ wsV own i C y ws, w ∈ wW := fun w h => (List.mem_append.mp h).elim (fun h => by
  simp only [List.mem_cons, List.not_mem_nil, or_false] at h
  rcases h with rfl | rfl | rfl | rfl <;> assumption) (hs w)
theorem gi_S {own : String} {i : Nat} {y : MethodName} {ws : List Cond} (h1 : Cond.methodLink own i y ∈ wW) (h2 : Cond.static y ∈ wW) (h4 : Cond.initialized own ∈ wW) (hs : ∀ w ∈ ws, w ∈ wW) : ∀ w ∈ wsS own i y ws, w ∈ wW := fun w h => (List.mem_append.mp h).elim (fun h => by
  simp only [List.mem_cons, List.not_mem_nil, or_false] at h
  rcases h with rfl | rfl | rfl <;> assumption) (hs w)
theorem gi_in {c0 : Cond} : ∀ w ∈ wW, w ∈ c0 :: wW := fun _ h => List.mem_cons_of_mem _ h
end
section
/-! Int32 and Int64 as whole numbers, where nothing overflows -/
theorem mb_mul {a b A B : Int} (ha : -A ≤ a ∧ a ≤ A) (hb : -B ≤ b ∧ b ≤ B) : -(A * B) ≤ a * b ∧ a * b ≤ A * B := by
  have hA : 0 ≤ A := by omega
  have hB : 0 ≤ B := by omega
  have h1 : 0 ≤ (A - a) * (B + b) := Int.mul_nonneg (by omega) (by omega)
  have h2 : 0 ≤ (A + a) * (B - b) := Int.mul_nonneg (by omega) (by omega)
  have h3 : 0 ≤ (A - a) * (B - b) := Int.mul_nonneg (by omega) (by omega)
  have h4 : 0 ≤ (A + a) * (B + b) := Int.mul_nonneg (by omega) (by omega)
  have e1 : (A - a) * (B + b) = A * B + A * b - a * B - a * b := by grind
  have e2 : (A + a) * (B - b) = A * B - A * b + a * B - a * b := by grind
  have e3 : (A - a) * (B - b) = A * B - A * b - a * B + a * b := by grind
  have e4 : (A + a) * (B + b) = A * B + A * b + a * B + a * b := by grind
  omega
theorem mb_bm {x : Int} (h : -2147483648 ≤ x ∧ x ≤ 2147483647) : x.bmod (2 ^ 32) = x := by
  rw [Int.bmod_eq_of_le] <;> omega
theorem mb_bL {x : Int} (h : -9223372036854775808 ≤ x ∧ x ≤ 9223372036854775807) : x.bmod (2 ^ 64) = x := by
  rw [Int.bmod_eq_of_le] <;> omega
theorem i_add {a b : Int32} {x y : Int} (ha : a.toInt = x) (hb : b.toInt = y) (h : -2147483648 ≤ x + y ∧ x + y ≤ 2147483647) : (a + b).toInt = x + y := by
  rw [Int32.toInt_add, ha, hb, mb_bm h]
theorem i_sub {a b : Int32} {x y : Int} (ha : a.toInt = x) (hb : b.toInt = y) (h : -2147483648 ≤ x - y ∧ x - y ≤ 2147483647) : (a - b).toInt = x - y := by
  rw [Int32.toInt_sub, ha, hb, mb_bm h]
theorem i_mul {a b : Int32} {x y : Int} (ha : a.toInt = x) (hb : b.toInt = y) (h : -2147483648 ≤ x * y ∧ x * y ≤ 2147483647) : (a * b).toInt = x * y := by
  rw [Int32.toInt_mul, ha, hb, mb_bm h]
theorem i_neg {a : Int32} {x : Int} (ha : a.toInt = x) (h : -2147483648 ≤ -x ∧ -x ≤ 2147483647) : (-a).toInt = -x := by
  rw [Int32.toInt_neg, ha, mb_bm h]
theorem l_add {a b : Int64} {x y : Int} (ha : a.toInt = x) (hb : b.toInt = y) (h : -9223372036854775808 ≤ x + y ∧ x + y ≤ 9223372036854775807) : (a + b).toInt = x + y := by
  rw [Int64.toInt_add, ha, hb, mb_bL h]
theorem l_sub {a b : Int64} {x y : Int} (ha : a.toInt = x) (hb : b.toInt = y) (h : -9223372036854775808 ≤ x - y ∧ x - y ≤ 9223372036854775807) : (a - b).toInt = x - y := by
  rw [Int64.toInt_sub, ha, hb, mb_bL h]
theorem l_mul {a b : Int64} {x y : Int} (ha : a.toInt = x) (hb : b.toInt = y) (h : -9223372036854775808 ≤ x * y ∧ x * y ≤ 9223372036854775807) : (a * b).toInt = x * y := by
  rw [Int64.toInt_mul, ha, hb, mb_bL h]
theorem l_neg {a : Int64} {x : Int} (ha : a.toInt = x) (h : -9223372036854775808 ≤ -x ∧ -x ≤ 9223372036854775807) : (-a).toInt = -x := by
  rw [Int64.toInt_neg, ha, mb_bL h]
theorem i_lt {a b : Int32} : a < b ↔ a.toInt < b.toInt := Int32.lt_iff_toInt_lt
theorem i_le {a b : Int32} : a ≤ b ↔ a.toInt ≤ b.toInt := Int32.le_iff_toInt_le
theorem i_eq {a b : Int32} : a = b ↔ a.toInt = b.toInt := Int32.toInt_inj.symm
theorem l_lt {a b : Int64} : a < b ↔ a.toInt < b.toInt := Int64.lt_iff_toInt_lt
theorem l_le {a b : Int64} : a ≤ b ↔ a.toInt ≤ b.toInt := Int64.le_iff_toInt_le
theorem l_eq {a b : Int64} : a = b ↔ a.toInt = b.toInt := Int64.toInt_inj.symm
end
section
/-! The shadow of a box on a cell, over Int: the reference's way (fractions, low and high) and the other way (near, far, slide) say the same. -/
theorem fq_trans {a b c d e f : Int} (hd : 0 < d) (hb : 0 < b) (hf : 0 < f) (h1 : a * d ≤ c * b) (h2 : c * f ≤ e * d) : a * f ≤ e * b := by
  have p1 : (a * d) * f ≤ (c * b) * f := Int.mul_le_mul_of_nonneg_right h1 (by omega)
  have p2 : (c * f) * b ≤ (e * d) * b := Int.mul_le_mul_of_nonneg_right h2 (by omega)
  have e1 : (a * d) * f = (a * f) * d := Int.mul_right_comm ..
  have e2 : (c * b) * f = (c * f) * b := Int.mul_right_comm ..
  have e3 : (e * d) * b = (e * b) * d := Int.mul_right_comm ..
  have h3 : (a * f) * d ≤ (e * b) * d := by omega
  exact Int.le_of_mul_le_mul_right h3 hd
/-- the reference's atLeast and atMost -/
def fq_A (l : Int × Int) (a b : Int) : Int × Int := if l.1 * b < a * l.2 then (a, b) else l
def fq_B (h : Int × Int) (a b : Int) : Int × Int := if a * h.2 < h.1 * b then (a, b) else h
def fq_le (l h : Int × Int) : Prop := l.1 * h.2 ≤ h.1 * l.2
theorem fq_A_pos {l : Int × Int} {a b : Int} (hl : 0 < l.2) (hb : 0 < b) : 0 < (fq_A l a b).2 := by
  unfold fq_A; split <;> assumption
theorem fq_B_pos {l : Int × Int} {a b : Int} (hl : 0 < l.2) (hb : 0 < b) : 0 < (fq_B l a b).2 := by
  unfold fq_B; split <;> assumption
theorem fq_A_le {l h : Int × Int} {a b : Int} (hl : 0 < l.2) (hb : 0 < b) (hh : 0 < h.2) : fq_le (fq_A l a b) h ↔ fq_le l h ∧ fq_le (a, b) h := by
  unfold fq_A fq_le
  split
  · rename_i q
    refine ⟨fun z => ⟨?_, z⟩, fun z => z.2⟩
    exact fq_trans (a := l.1) (b := l.2) (c := a) (d := b) (e := h.1) (f := h.2) hb hl hh (by omega) z
  · rename_i q
    refine ⟨fun z => ⟨z, ?_⟩, fun z => z.1⟩
    exact fq_trans (a := a) (b := b) (c := l.1) (d := l.2) (e := h.1) (f := h.2) hl hb hh (by omega) z
theorem fq_B_le {l h : Int × Int} {a b : Int} (hl : 0 < l.2) (hb : 0 < b) (hh : 0 < h.2) : fq_le l (fq_B h a b) ↔ fq_le l h ∧ fq_le l (a, b) := by
  unfold fq_B fq_le
  split
  · rename_i q
    refine ⟨fun z => ⟨?_, z⟩, fun z => z.2⟩
    exact fq_trans (a := l.1) (b := l.2) (c := a) (d := b) (e := h.1) (f := h.2) hb hl hh z (by omega)
  · rename_i q
    refine ⟨fun z => ⟨z, ?_⟩, fun z => z.1⟩
    exact fq_trans (a := l.1) (b := l.2) (c := h.1) (d := h.2) (e := a) (f := b) hh hl hb z (by omega)
/-- the reference's may: whether it may be, low, high -/
def fq_may (m g f t : Int) (q : (Int × Int) × (Int × Int)) : Prop × (Int × Int) × (Int × Int) :=
  if g = 0 then (f ≤ m ∧ m ≤ t, q.1, q.2) else if 0 < g then (True, fq_A q.1 (m - t) g, fq_B q.2 (m - f) g) else (True, fq_A q.1 (f - m) (-g), fq_B q.2 (t - m) (-g))
/-- the reference's throwsOn -/
def fq_on (x0 y0 z0 x1 y1 z1 X Y Z x y : Int) : Prop :=
  (fq_may ((2 * x + 1) * Z) (2 * X) (2 * Z * x0) (2 * Z * x1) ((z0, 1), (z1, 1))).1 ∧
  (fq_may ((2 * y + 1) * Z) (2 * Y) (2 * Z * y0) (2 * Z * y1) (fq_may ((2 * x + 1) * Z) (2 * X) (2 * Z * x0) (2 * Z * x1) ((z0, 1), (z1, 1))).2).1 ∧
  fq_le (fq_may ((2 * y + 1) * Z) (2 * Y) (2 * Z * y0) (2 * Z * y1) (fq_may ((2 * x + 1) * Z) (2 * X) (2 * Z * x0) (2 * Z * x1) ((z0, 1), (z1, 1))).2).2.1 (fq_may ((2 * y + 1) * Z) (2 * Y) (2 * Z * y0) (2 * Z * y1) (fq_may ((2 * x + 1) * Z) (2 * X) (2 * Z * x0) (2 * Z * x1) ((z0, 1), (z1, 1))).2).2.2
/-- its near and far, and its question for one cell -/
def fq_S (Y : Int) : Int := if Y = 0 then 1 else 2 * (if Y < 0 then -Y else Y)
def fq_near (y0 z0 y1 Y Z y : Int) : Int := if 0 < Y then max (z0 * fq_S Y) ((2 * y + 1 - 2 * y1) * Z) else if Y < 0 then max (z0 * fq_S Y) ((2 * y0 - (2 * y + 1)) * Z) else z0 * fq_S Y
def fq_far (y0 z1 y1 Y Z y : Int) : Int := if 0 < Y then min (z1 * fq_S Y) ((2 * y + 1 - 2 * y0) * Z) else if Y < 0 then min (z1 * fq_S Y) ((2 * y1 - (2 * y + 1)) * Z) else z1 * fq_S Y
def fq_cl (x0 x1 X Z S near far x : Int) : Prop :=
  near ≤ far ∧ 2 * (x0 * (S * Z) + min (near * X) (far * X)) ≤ (2 * x + 1) * (S * Z) ∧ (2 * x + 1) * (S * Z) ≤ 2 * (x1 * (S * Z) + max (near * X) (far * X))
theorem fq_maxmul {a b k : Int} (hk : 0 ≤ k) (c : Int) : max a b * k ≤ c ↔ a * k ≤ c ∧ b * k ≤ c := by
  have h1 : a ≤ b → a * k ≤ b * k := fun h => Int.mul_le_mul_of_nonneg_right h hk
  have h2 : b ≤ a → b * k ≤ a * k := fun h => Int.mul_le_mul_of_nonneg_right h hk
  rcases Int.le_total a b with h | h
  · rw [Int.max_eq_right h]; have := h1 h; constructor <;> omega
  · rw [Int.max_eq_left h]; have := h2 h; constructor <;> omega
theorem fq_minmul {a b k : Int} (hk : 0 ≤ k) (c : Int) : c ≤ min a b * k ↔ c ≤ a * k ∧ c ≤ b * k := by
  have h1 : a ≤ b → a * k ≤ b * k := fun h => Int.mul_le_mul_of_nonneg_right h hk
  have h2 : b ≤ a → b * k ≤ a * k := fun h => Int.mul_le_mul_of_nonneg_right h hk
  rcases Int.le_total a b with h | h
  · rw [Int.min_eq_left h]; have := h1 h; constructor <;> omega
  · rw [Int.min_eq_right h]; have := h2 h; constructor <;> omega
theorem fq_cancel {a b g : Int} (hg : 0 < g) : a * g ≤ b * g ↔ a ≤ b := ⟨fun h => Int.le_of_mul_le_mul_right h hg, fun h => Int.mul_le_mul_of_nonneg_right h (by omega)⟩
theorem fq_core {z0 z1 A B C D g k : Int} (hg : 0 < g) (hk : 0 < k) (hz : z0 ≤ z1) (hAB : A ≤ B) :
    (max (z0 * g) A ≤ min (z1 * g) B ∧ max (z0 * g) A * k ≤ D * g ∧ C * g ≤ min (z1 * g) B * k) ↔ (z0 * g ≤ B ∧ A ≤ z1 * g ∧ z0 * k ≤ D ∧ A * k ≤ D * g ∧ C ≤ z1 * k ∧ C * g ≤ B * k) := by
  rw [fq_maxmul (by omega), fq_minmul (by omega)]
  have e1 : z0 * g * k = (z0 * k) * g := Int.mul_right_comm ..
  have e2 : z1 * g * k = (z1 * k) * g := Int.mul_right_comm ..
  rw [e1, e2, fq_cancel hg, fq_cancel hg]
  have hz' : z0 * g ≤ z1 * g := (fq_cancel hg).mpr hz
  omega
theorem fq_pairs {z0 z1 A B C D g k : Int} (hg : 0 < g) (hk : 0 < k) : fq_le (fq_A (fq_A (z0, 1) C k) A g) (fq_B (fq_B (z1, 1) D k) B g) ↔ (z0 ≤ z1 ∧ z0 * k ≤ D ∧ z0 * g ≤ B) ∧ (C ≤ z1 * k ∧ C * k ≤ D * k ∧ C * g ≤ B * k) ∧ (A ≤ z1 * g ∧ A * k ≤ D * g ∧ A * g ≤ B * g) := by
  have p1 : (0 : Int) < ((z0, 1) : Int × Int).2 := by show (0 : Int) < 1; decide
  have p2 : (0 : Int) < ((z1, 1) : Int × Int).2 := by show (0 : Int) < 1; decide
  rw [fq_A_le (fq_A_pos p1 hk) hg (fq_B_pos (fq_B_pos p2 hk) hg), fq_A_le p1 hk (fq_B_pos (fq_B_pos p2 hk) hg), fq_B_le p1 hg (fq_B_pos p2 hk), fq_B_le p1 hk p2, fq_B_le hk hg (fq_B_pos p2 hk), fq_B_le hk hk p2, fq_B_le hg hg (fq_B_pos p2 hk), fq_B_le hg hk p2]
  simp only [fq_le, Int.mul_one]
  constructor
  · intro h; obtain ⟨⟨⟨⟨a, b⟩, c⟩, ⟨d, e⟩, f⟩, ⟨g, h⟩, i⟩ := h; exact ⟨⟨a, b, c⟩, ⟨d, e, f⟩, g, h, i⟩
  · intro h; obtain ⟨⟨a, b, c⟩, ⟨d, e, f⟩, g, h, i⟩ := h; exact ⟨⟨⟨⟨a, b⟩, c⟩, ⟨d, e⟩, f⟩, ⟨g, h⟩, i⟩
theorem fq_pair1 {z0 z1 C D k : Int} (hk : 0 < k) : fq_le (fq_A (z0, 1) C k) (fq_B (z1, 1) D k) ↔ (z0 ≤ z1 ∧ z0 * k ≤ D) ∧ (C ≤ z1 * k ∧ C * k ≤ D * k) := by
  have p1 : (0 : Int) < ((z0, 1) : Int × Int).2 := by show (0 : Int) < 1; decide
  have p2 : (0 : Int) < ((z1, 1) : Int × Int).2 := by show (0 : Int) < 1; decide
  rw [fq_A_le p1 hk (fq_B_pos p2 hk), fq_B_le p1 hk p2, fq_B_le hk hk p2]
  simp only [fq_le, Int.mul_one]
theorem fq_clpos {x0 x1 X Z S n f x : Int} (hX : 0 < X) : fq_cl x0 x1 X Z S n f x ↔ n ≤ f ∧ n * (2 * X) ≤ ((2 * x + 1) * Z - 2 * Z * x0) * S ∧ ((2 * x + 1) * Z - 2 * Z * x1) * S ≤ f * (2 * X) := by
  unfold fq_cl
  have a0 : ((2 * x + 1) * Z - 2 * Z * x0) * S = (2 * x + 1) * (S * Z) - 2 * (x0 * (S * Z)) := by grind
  have a1 : ((2 * x + 1) * Z - 2 * Z * x1) * S = (2 * x + 1) * (S * Z) - 2 * (x1 * (S * Z)) := by grind
  have b0 : n * (2 * X) = 2 * (n * X) := Int.mul_left_comm ..
  have b1 : f * (2 * X) = 2 * (f * X) := Int.mul_left_comm ..
  refine and_congr_right fun h => ?_
  have hm : n * X ≤ f * X := Int.mul_le_mul_of_nonneg_right h (by omega)
  rw [Int.min_eq_left hm, Int.max_eq_right hm, a0, a1, b0, b1]
  omega
theorem fq_clneg {x0 x1 X Z S n f x : Int} (hX : X < 0) : fq_cl x0 x1 X Z S n f x ↔ n ≤ f ∧ n * (-(2 * X)) ≤ (2 * Z * x1 - (2 * x + 1) * Z) * S ∧ (2 * Z * x0 - (2 * x + 1) * Z) * S ≤ f * (-(2 * X)) := by
  unfold fq_cl
  have a0 : (2 * Z * x0 - (2 * x + 1) * Z) * S = 2 * (x0 * (S * Z)) - (2 * x + 1) * (S * Z) := by grind
  have a1 : (2 * Z * x1 - (2 * x + 1) * Z) * S = 2 * (x1 * (S * Z)) - (2 * x + 1) * (S * Z) := by grind
  have b0 : n * (-(2 * X)) = -(2 * (n * X)) := by grind
  have b1 : f * (-(2 * X)) = -(2 * (f * X)) := by grind
  refine and_congr_right fun h => ?_
  have hm : f * X ≤ n * X := by
    have := Int.mul_le_mul_of_nonneg_right h (show 0 ≤ -X by omega)
    have c0 : n * -X = -(n * X) := Int.mul_neg ..
    have c1 : f * -X = -(f * X) := Int.mul_neg ..
    omega
  rw [Int.min_eq_right hm, Int.max_eq_left hm, a0, a1, b0, b1]
  omega
theorem fq_cl0 {x0 x1 Z S n f x : Int} (hS : 0 < S * Z) : fq_cl x0 x1 0 Z S n f x ↔ n ≤ f ∧ 2 * x0 ≤ 2 * x + 1 ∧ 2 * x + 1 ≤ 2 * x1 := by
  unfold fq_cl
  refine and_congr_right fun h => ?_
  simp only [Int.mul_zero, Int.min_self, Int.max_self, Int.add_zero]
  have e0 : 2 * (x0 * (S * Z)) = (2 * x0) * (S * Z) := (Int.mul_assoc ..).symm
  have e1 : 2 * (x1 * (S * Z)) = (2 * x1) * (S * Z) := (Int.mul_assoc ..).symm
  rw [e0, e1, fq_cancel hS, fq_cancel hS]
theorem fq_Z {a b Z : Int} (hZ : 0 < Z) : 2 * Z * a ≤ b * Z ↔ 2 * a ≤ b := by
  rw [show 2 * Z * a = (2 * a) * Z by grind, fq_cancel hZ]
theorem fq_Z2 {a b Z : Int} (hZ : 0 < Z) : b * Z ≤ 2 * Z * a ↔ b ≤ 2 * a := by
  rw [show 2 * Z * a = (2 * a) * Z by grind, fq_cancel hZ]
/-- what is asked of one cell of a row -/
def fq_row (x0 y0 z0 x1 y1 z1 X Y Z x y : Int) : Prop :=
  (Y = 0 → 2 * y0 ≤ 2 * y + 1 ∧ 2 * y + 1 ≤ 2 * y1) ∧ fq_cl x0 x1 X Z (fq_S Y) (fq_near y0 z0 y1 Y Z y) (fq_far y0 z1 y1 Y Z y) x
theorem fq_eq {x0 y0 z0 x1 y1 z1 X Y Z x y : Int} (hZ : 0 < Z) (hx : x0 < x1) (hy : y0 < y1) (hz : z0 ≤ z1) : fq_on x0 y0 z0 x1 y1 z1 X Y Z x y ↔ fq_row x0 y0 z0 x1 y1 z1 X Y Z x y := by
  have hxx : (2 * x + 1) * Z - 2 * Z * x1 ≤ (2 * x + 1) * Z - 2 * Z * x0 := by
    have : 2 * Z * x0 ≤ 2 * Z * x1 := Int.mul_le_mul_of_nonneg_left (by omega) (by omega)
    omega
  have hyy : (2 * y + 1) * Z - 2 * Z * y1 ≤ (2 * y + 1) * Z - 2 * Z * y0 := by
    have : 2 * Z * y0 ≤ 2 * Z * y1 := Int.mul_le_mul_of_nonneg_left (by omega) (by omega)
    omega
  have ya : (2 * y + 1 - 2 * y1) * Z = (2 * y + 1) * Z - 2 * Z * y1 := by grind
  have yb : (2 * y + 1 - 2 * y0) * Z = (2 * y + 1) * Z - 2 * Z * y0 := by grind
  have yc : (2 * y0 - (2 * y + 1)) * Z = 2 * Z * y0 - (2 * y + 1) * Z := by grind
  have yd : (2 * y1 - (2 * y + 1)) * Z = 2 * Z * y1 - (2 * y + 1) * Z := by grind
  have xk : ∀ k : Int, 0 < k → ((2 * x + 1) * Z - 2 * Z * x1) * k ≤ ((2 * x + 1) * Z - 2 * Z * x0) * k := fun k hk => (fq_cancel hk).mpr hxx
  have yk : ∀ k : Int, 0 < k → ((2 * y + 1) * Z - 2 * Z * y1) * k ≤ ((2 * y + 1) * Z - 2 * Z * y0) * k := fun k hk => (fq_cancel hk).mpr hyy
  have xk' : ∀ k : Int, 0 < k → (2 * Z * x0 - (2 * x + 1) * Z) * k ≤ (2 * Z * x1 - (2 * x + 1) * Z) * k := fun k hk => (fq_cancel hk).mpr (by omega)
  have yk' : ∀ k : Int, 0 < k → (2 * Z * y0 - (2 * y + 1) * Z) * k ≤ (2 * Z * y1 - (2 * y + 1) * Z) * k := fun k hk => (fq_cancel hk).mpr (by omega)
  unfold fq_on fq_row
  rcases Int.lt_trichotomy Y 0 with hY | hY | hY
  · -- Y < 0
    have hS : fq_S Y = -(2 * Y) := by unfold fq_S; rw [if_neg (by omega), if_pos hY]; omega
    have hn : fq_near y0 z0 y1 Y Z y = max (z0 * -(2 * Y)) (2 * Z * y0 - (2 * y + 1) * Z) := by unfold fq_near; rw [if_neg (by omega), if_pos hY, hS, yc]
    have hf : fq_far y0 z1 y1 Y Z y = min (z1 * -(2 * Y)) (2 * Z * y1 - (2 * y + 1) * Z) := by unfold fq_far; rw [if_neg (by omega), if_pos hY, hS, yd]
    have hg : 0 < -(2 * Y) := by omega
    have hm : ∀ q, fq_may ((2 * y + 1) * Z) (2 * Y) (2 * Z * y0) (2 * Z * y1) q = (True, fq_A q.1 (2 * Z * y0 - (2 * y + 1) * Z) (-(2 * Y)), fq_B q.2 (2 * Z * y1 - (2 * y + 1) * Z) (-(2 * Y))) := fun q => by unfold fq_may; rw [if_neg (by omega), if_neg (by omega)]
    rw [hm, hS, hn, hf]
    have hAB : 2 * Z * y0 - (2 * y + 1) * Z ≤ 2 * Z * y1 - (2 * y + 1) * Z := by omega
    have hY0 : ¬ Y = 0 := by omega
    rcases Int.lt_trichotomy X 0 with hX | hX | hX
    · have hmx : ∀ q, fq_may ((2 * x + 1) * Z) (2 * X) (2 * Z * x0) (2 * Z * x1) q = (True, fq_A q.1 (2 * Z * x0 - (2 * x + 1) * Z) (-(2 * X)), fq_B q.2 (2 * Z * x1 - (2 * x + 1) * Z) (-(2 * X))) := fun q => by unfold fq_may; rw [if_neg (by omega), if_neg (by omega)]
      have hk : 0 < -(2 * X) := by omega
      rw [hmx]
      simp only [true_and, hY0, false_implies]
      rw [fq_pairs hg hk, fq_clneg hX, fq_core hg hk hz hAB]
      have := xk' _ hk; have := yk' _ hg
      constructor
      · rintro ⟨⟨a, b, c⟩, ⟨d, e, f⟩, g, h, i⟩; exact ⟨c, g, b, h, d, f⟩
      · rintro ⟨c, g, b, h, d, f⟩; exact ⟨⟨hz, b, c⟩, ⟨d, by assumption, f⟩, g, h, by assumption⟩
    · subst hX
      have hmx : ∀ q, fq_may ((2 * x + 1) * Z) (2 * 0) (2 * Z * x0) (2 * Z * x1) q = (2 * Z * x0 ≤ (2 * x + 1) * Z ∧ (2 * x + 1) * Z ≤ 2 * Z * x1, q.1, q.2) := fun q => by unfold fq_may; rw [if_pos (by omega)]
      rw [hmx]
      simp only [true_and, hY0, false_implies]
      rw [fq_pair1 hg, fq_cl0 (Int.mul_pos hg hZ), fq_Z hZ, fq_Z2 hZ]
      have := yk' _ hg
      have hzg : z0 * -(2 * Y) ≤ z1 * -(2 * Y) := (fq_cancel hg).mpr hz
      constructor
      · rintro ⟨⟨a, b⟩, ⟨c, d⟩, e, f⟩; exact ⟨by omega, a, b⟩
      · rintro ⟨a, b, c⟩; exact ⟨⟨b, c⟩, ⟨hz, by omega⟩, by omega, by assumption⟩
    · have hmx : ∀ q, fq_may ((2 * x + 1) * Z) (2 * X) (2 * Z * x0) (2 * Z * x1) q = (True, fq_A q.1 ((2 * x + 1) * Z - 2 * Z * x1) (2 * X), fq_B q.2 ((2 * x + 1) * Z - 2 * Z * x0) (2 * X)) := fun q => by unfold fq_may; rw [if_neg (by omega), if_pos (by omega)]
      have hk : 0 < 2 * X := by omega
      rw [hmx]
      simp only [true_and, hY0, false_implies]
      rw [fq_pairs hg hk, fq_clpos hX, fq_core hg hk hz hAB]
      have := xk _ hk; have := yk' _ hg
      constructor
      · rintro ⟨⟨a, b, c⟩, ⟨d, e, f⟩, g, h, i⟩; exact ⟨c, g, b, h, d, f⟩
      · rintro ⟨c, g, b, h, d, f⟩; exact ⟨⟨hz, b, c⟩, ⟨d, by assumption, f⟩, g, h, by assumption⟩
  · -- Y = 0
    subst hY
    have hS : fq_S 0 = 1 := by unfold fq_S; rw [if_pos rfl]
    have hn : fq_near y0 z0 y1 0 Z y = z0 := by unfold fq_near; rw [if_neg (by omega), if_neg (by omega), hS, Int.mul_one]
    have hf : fq_far y0 z1 y1 0 Z y = z1 := by unfold fq_far; rw [if_neg (by omega), if_neg (by omega), hS, Int.mul_one]
    have hm : ∀ q, fq_may ((2 * y + 1) * Z) (2 * 0) (2 * Z * y0) (2 * Z * y1) q = (2 * Z * y0 ≤ (2 * y + 1) * Z ∧ (2 * y + 1) * Z ≤ 2 * Z * y1, q.1, q.2) := fun q => by unfold fq_may; rw [if_pos (by omega)]
    rw [hm, hS, hn, hf]
    rcases Int.lt_trichotomy X 0 with hX | hX | hX
    · have hmx : ∀ q, fq_may ((2 * x + 1) * Z) (2 * X) (2 * Z * x0) (2 * Z * x1) q = (True, fq_A q.1 (2 * Z * x0 - (2 * x + 1) * Z) (-(2 * X)), fq_B q.2 (2 * Z * x1 - (2 * x + 1) * Z) (-(2 * X))) := fun q => by unfold fq_may; rw [if_neg (by omega), if_neg (by omega)]
      have hk : 0 < -(2 * X) := by omega
      rw [hmx]
      simp only [true_and, true_implies]
      rw [fq_pair1 hk, fq_clneg hX, fq_Z hZ, fq_Z2 hZ]
      simp only [Int.mul_one]
      have := xk' _ hk
      constructor
      · rintro ⟨a, ⟨b, c⟩, d, e⟩; exact ⟨a, hz, c, d⟩
      · rintro ⟨a, b, c, d⟩; exact ⟨a, ⟨hz, c⟩, d, by assumption⟩
    · subst hX
      have hmx : ∀ q, fq_may ((2 * x + 1) * Z) (2 * 0) (2 * Z * x0) (2 * Z * x1) q = (2 * Z * x0 ≤ (2 * x + 1) * Z ∧ (2 * x + 1) * Z ≤ 2 * Z * x1, q.1, q.2) := fun q => by unfold fq_may; rw [if_pos (by omega)]
      rw [hmx]
      simp only [true_implies]
      rw [fq_cl0 (by omega), fq_Z hZ, fq_Z2 hZ, fq_Z hZ, fq_Z2 hZ]
      simp only [fq_le, Int.mul_one]
      constructor
      · rintro ⟨a, b, c⟩; exact ⟨b, c, a⟩
      · rintro ⟨b, c, a⟩; exact ⟨a, b, c⟩
    · have hmx : ∀ q, fq_may ((2 * x + 1) * Z) (2 * X) (2 * Z * x0) (2 * Z * x1) q = (True, fq_A q.1 ((2 * x + 1) * Z - 2 * Z * x1) (2 * X), fq_B q.2 ((2 * x + 1) * Z - 2 * Z * x0) (2 * X)) := fun q => by unfold fq_may; rw [if_neg (by omega), if_pos (by omega)]
      have hk : 0 < 2 * X := by omega
      rw [hmx]
      simp only [true_and, true_implies]
      rw [fq_pair1 hk, fq_clpos hX, fq_Z hZ, fq_Z2 hZ]
      simp only [Int.mul_one]
      have := xk _ hk
      constructor
      · rintro ⟨a, ⟨b, c⟩, d, e⟩; exact ⟨a, hz, c, d⟩
      · rintro ⟨a, b, c, d⟩; exact ⟨a, ⟨hz, c⟩, d, by assumption⟩
  · -- 0 < Y
    have hS : fq_S Y = 2 * Y := by unfold fq_S; rw [if_neg (by omega), if_neg (by omega)]
    have hn : fq_near y0 z0 y1 Y Z y = max (z0 * (2 * Y)) ((2 * y + 1) * Z - 2 * Z * y1) := by unfold fq_near; rw [if_pos hY, hS, ya]
    have hf : fq_far y0 z1 y1 Y Z y = min (z1 * (2 * Y)) ((2 * y + 1) * Z - 2 * Z * y0) := by unfold fq_far; rw [if_pos hY, hS, yb]
    have hg : 0 < 2 * Y := by omega
    have hm : ∀ q, fq_may ((2 * y + 1) * Z) (2 * Y) (2 * Z * y0) (2 * Z * y1) q = (True, fq_A q.1 ((2 * y + 1) * Z - 2 * Z * y1) (2 * Y), fq_B q.2 ((2 * y + 1) * Z - 2 * Z * y0) (2 * Y)) := fun q => by unfold fq_may; rw [if_neg (by omega), if_pos (by omega)]
    rw [hm, hS, hn, hf]
    have hY0 : ¬ Y = 0 := by omega
    rcases Int.lt_trichotomy X 0 with hX | hX | hX
    · have hmx : ∀ q, fq_may ((2 * x + 1) * Z) (2 * X) (2 * Z * x0) (2 * Z * x1) q = (True, fq_A q.1 (2 * Z * x0 - (2 * x + 1) * Z) (-(2 * X)), fq_B q.2 (2 * Z * x1 - (2 * x + 1) * Z) (-(2 * X))) := fun q => by unfold fq_may; rw [if_neg (by omega), if_neg (by omega)]
      have hk : 0 < -(2 * X) := by omega
      rw [hmx]
      simp only [true_and, hY0, false_implies]
      rw [fq_pairs hg hk, fq_clneg hX, fq_core hg hk hz hyy]
      have := xk' _ hk; have := yk _ hg
      constructor
      · rintro ⟨⟨a, b, c⟩, ⟨d, e, f⟩, g, h, i⟩; exact ⟨c, g, b, h, d, f⟩
      · rintro ⟨c, g, b, h, d, f⟩; exact ⟨⟨hz, b, c⟩, ⟨d, by assumption, f⟩, g, h, by assumption⟩
    · subst hX
      have hmx : ∀ q, fq_may ((2 * x + 1) * Z) (2 * 0) (2 * Z * x0) (2 * Z * x1) q = (2 * Z * x0 ≤ (2 * x + 1) * Z ∧ (2 * x + 1) * Z ≤ 2 * Z * x1, q.1, q.2) := fun q => by unfold fq_may; rw [if_pos (by omega)]
      rw [hmx]
      simp only [true_and, hY0, false_implies]
      rw [fq_pair1 hg, fq_cl0 (Int.mul_pos hg hZ), fq_Z hZ, fq_Z2 hZ]
      have := yk _ hg
      have hzg : z0 * (2 * Y) ≤ z1 * (2 * Y) := (fq_cancel hg).mpr hz
      constructor
      · rintro ⟨⟨a, b⟩, ⟨c, d⟩, e, f⟩; exact ⟨by omega, a, b⟩
      · rintro ⟨a, b, c⟩; exact ⟨⟨b, c⟩, ⟨hz, by omega⟩, by omega, by assumption⟩
    · have hmx : ∀ q, fq_may ((2 * x + 1) * Z) (2 * X) (2 * Z * x0) (2 * Z * x1) q = (True, fq_A q.1 ((2 * x + 1) * Z - 2 * Z * x1) (2 * X), fq_B q.2 ((2 * x + 1) * Z - 2 * Z * x0) (2 * X)) := fun q => by unfold fq_may; rw [if_neg (by omega), if_pos (by omega)]
      have hk : 0 < 2 * X := by omega
      rw [hmx]
      simp only [true_and, hY0, false_implies]
      rw [fq_pairs hg hk, fq_clpos hX, fq_core hg hk hz hyy]
      have := xk _ hk; have := yk _ hg
      constructor
      · rintro ⟨⟨a, b, c⟩, ⟨d, e, f⟩, g, h, i⟩; exact ⟨c, g, b, h, d, f⟩
      · rintro ⟨c, g, b, h, d, f⟩; exact ⟨⟨hz, b, c⟩, ⟨d, by assumption, f⟩, g, h, by assumption⟩
theorem fq_cl_mono {x0 x1 X Z S n f f' x : Int} (hf : f ≤ f') (h : fq_cl x0 x1 X Z S n f x) : fq_cl x0 x1 X Z S n f' x := by
  obtain ⟨h1, h2, h3⟩ := h
  rcases Int.lt_trichotomy X 0 with hX | hX | hX
  · have a1 : f' * X ≤ f * X := Int.mul_le_mul_of_nonpos_right hf (by omega)
    have a2 : f * X ≤ n * X := Int.mul_le_mul_of_nonpos_right h1 (by omega)
    rw [Int.min_eq_right a2] at h2
    rw [Int.max_eq_left a2] at h3
    refine ⟨by omega, ?_, ?_⟩
    · rw [Int.min_eq_right (by omega)]; omega
    · rw [Int.max_eq_left (by omega)]; omega
  · subst hX
    simp only [Int.mul_zero] at h2 h3
    refine ⟨by omega, ?_, ?_⟩ <;> simp only [Int.mul_zero] <;> assumption
  · have a1 : f * X ≤ f' * X := Int.mul_le_mul_of_nonneg_right hf (by omega)
    have a2 : n * X ≤ f * X := Int.mul_le_mul_of_nonneg_right h1 (by omega)
    rw [Int.min_eq_left a2] at h2
    rw [Int.max_eq_right a2] at h3
    refine ⟨by omega, ?_, ?_⟩
    · rw [Int.min_eq_left (by omega)]; omega
    · rw [Int.max_eq_right (by omega)]; omega
theorem fq_far_mono {y0 z1 z1' y1 Y Z y : Int} (h : z1 ≤ z1') : fq_far y0 z1 y1 Y Z y ≤ fq_far y0 z1' y1 Y Z y := by
  have hS : 0 < fq_S Y := by unfold fq_S; split <;> (try split) <;> omega
  have : z1 * fq_S Y ≤ z1' * fq_S Y := (fq_cancel hS).mpr h
  unfold fq_far
  split <;> (try split) <;> omega
theorem fq_row_mono {x0 y0 z0 x1 y1 z1 z1' X Y Z x y : Int} (h : z1 ≤ z1') (hr : fq_row x0 y0 z0 x1 y1 z1 X Y Z x y) : fq_row x0 y0 z0 x1 y1 z1' X Y Z x y :=
  ⟨hr.1, fq_cl_mono (fq_far_mono h) hr.2⟩
end
section
/-! Long.bitCount counts the bits -/
theorem pb_and {X Y M m : Nat} (hY : Y < 256) (hm : m < 256) : (256 * X + Y) &&& (256 * M + m) = 256 * (X &&& M) + (Y &&& m) := by
  have hYm : Y &&& m < 256 := Nat.lt_of_le_of_lt Nat.and_le_left hY
  apply Nat.eq_of_testBit_eq
  intro j
  rw [Nat.testBit_and, show 256 = 2 ^ 8 from rfl, Nat.testBit_two_pow_mul_add X hY j, Nat.testBit_two_pow_mul_add M hm j, Nat.testBit_two_pow_mul_add (X &&& M) hYm j]
  split <;> simp [Nat.testBit_and]
def pb_M5 : Nat → Nat | 0 => 0 | k + 1 => 256 * pb_M5 k + 0x55
def pb_M3 : Nat → Nat | 0 => 0 | k + 1 => 256 * pb_M3 k + 0x33
def pb_MF : Nat → Nat | 0 => 0 | k + 1 => 256 * pb_MF k + 0x0f
def pb_1 (k n : Nat) : Nat := n - (n / 2 &&& pb_M5 k)
def pb_2 (k n : Nat) : Nat := (n &&& pb_M3 k) + (n / 4 &&& pb_M3 k)
def pb_3 (k n : Nat) : Nat := (n + n / 16) &&& pb_MF k
theorem pb_d1 : ∀ b, b < 2 → ∀ r, r < 128 → (128 * b + r) &&& 0x55 = r &&& 0x55 := by decide +kernel
theorem pb_d2 : ∀ b, b < 4 → ∀ r, r < 64 → (64 * b + r) &&& 0x33 = r &&& 0x33 := by decide +kernel
theorem pb_le (n : Nat) : n / 2 &&& 0x55 ≤ n := Nat.le_trans Nat.and_le_left (Nat.div_le_self ..)
theorem pb_le5 (k n : Nat) : n / 2 &&& pb_M5 k ≤ n := Nat.le_trans Nat.and_le_left (Nat.div_le_self ..)
theorem pb_1s (k q r : Nat) (hr : r < 256) : pb_1 (k + 1) (256 * q + r) = 256 * pb_1 k q + pb_1 1 r := by
  unfold pb_1
  have e1 : (256 * q + r) / 2 = 256 * (q / 2) + (128 * (q % 2) + r / 2) := by omega
  rw [e1, show pb_M5 (k + 1) = 256 * pb_M5 k + 0x55 from rfl, pb_and (by omega) (by omega), pb_d1 _ (by omega) _ (by omega), show pb_M5 1 = 0x55 from rfl]
  have := pb_le5 k q
  have := pb_le r
  omega
theorem pb_2s (k q r : Nat) (hr : r < 256) : pb_2 (k + 1) (256 * q + r) = 256 * pb_2 k q + pb_2 1 r := by
  unfold pb_2
  have e1 : (256 * q + r) / 4 = 256 * (q / 4) + (64 * (q % 4) + r / 4) := by omega
  rw [e1, show pb_M3 (k + 1) = 256 * pb_M3 k + 0x33 from rfl, pb_and hr (by omega), pb_and (by omega) (by omega), pb_d2 _ (by omega) _ (by omega), show pb_M3 1 = 0x33 from rfl]
  omega
theorem pb_d3 : ∀ r, r < 256 → pb_1 1 r < 256 ∧ pb_2 1 (pb_1 1 r) < 256 ∧ pb_2 1 (pb_1 1 r) % 16 ≤ 4 ∧ pb_2 1 (pb_1 1 r) / 16 ≤ 4 := by decide +kernel
def pb_s (k n : Nat) : Nat := pb_3 k (pb_2 k (pb_1 k n))
theorem pb_21s (k q r : Nat) (hr : r < 256) : pb_2 (k + 1) (pb_1 (k + 1) (256 * q + r)) = 256 * pb_2 k (pb_1 k q) + pb_2 1 (pb_1 1 r) := by
  rw [pb_1s k q r hr, pb_2s k _ _ (pb_d3 r hr).1]
theorem pb_low (k q : Nat) (hq : q < 256 ^ k) : pb_2 k (pb_1 k q) % 16 ≤ 4 := by
  cases k with
  | zero =>
    have : q = 0 := by simpa using hq
    subst this
    decide
  | succ k =>
    have e : q = 256 * (q / 256) + q % 256 := by omega
    rw [e, pb_21s k _ _ (by omega)]
    have := (pb_d3 (q % 256) (by omega)).2.2.1
    omega
theorem pb_d4 : ∀ y, y < 9 → ∀ x, x < 9 → (16 * y + x) &&& 0x0f = x := by decide +kernel
theorem pb_ss (k q r : Nat) (hq : q < 256 ^ k) (hr : r < 256) : pb_s (k + 1) (256 * q + r) = 256 * pb_s k q + pb_s 1 r := by
  unfold pb_s
  rw [pb_21s k q r hr]
  have h1 := pb_low k q hq
  obtain ⟨-, h2, h3, h4⟩ := pb_d3 r hr
  generalize pb_2 k (pb_1 k q) = Q at h1 ⊢
  generalize pb_2 1 (pb_1 1 r) = R at h2 h3 h4 ⊢
  unfold pb_3
  have e1 : 256 * Q + R + (256 * Q + R) / 16 = 256 * (Q + Q / 16) + (16 * (R / 16 + Q % 16) + (R % 16 + R / 16)) := by omega
  have e2 : R + R / 16 = 16 * (R / 16) + (R % 16 + R / 16) := by omega
  rw [e1, show pb_MF (k + 1) = 256 * pb_MF k + 0x0f from rfl, pb_and (by omega) (by omega), pb_d4 _ (by omega) _ (by omega), show pb_MF 1 = 0x0f from rfl, e2, pb_d4 _ (by omega) _ (by omega)]
/-- the number of bits among the lowest n -/
def pb_cnt (f : Nat → Bool) : Nat → Nat | 0 => 0 | n + 1 => pb_cnt f n + (if f n then 1 else 0)
theorem pb_byte : ∀ r, r < 256 → pb_s 1 r = pb_cnt r.testBit 8 ∧ pb_s 1 r ≤ 8 := by decide +kernel
theorem pb_cnt_add (f : Nat → Bool) (a b : Nat) : pb_cnt f (a + b) = pb_cnt f a + pb_cnt (fun j => f (a + j)) b := by
  induction b with
  | zero => rfl
  | succ b ih => rw [← Nat.add_assoc, pb_cnt, ih, pb_cnt]; omega
theorem pb_cnt_congr {f g : Nat → Bool} {n : Nat} (h : ∀ j, j < n → f j = g j) : pb_cnt f n = pb_cnt g n := by
  induction n with
  | zero => rfl
  | succ n ih => rw [pb_cnt, pb_cnt, ih fun j hj => h j (by omega), h n (by omega)]
theorem pb_cnt_split (q r k : Nat) (hr : r < 256) : pb_cnt (256 * q + r).testBit (8 + k) = pb_cnt r.testBit 8 + pb_cnt q.testBit k := by
  rw [pb_cnt_add]
  congr 1
  · exact pb_cnt_congr fun j hj => by rw [show 256 = 2 ^ 8 from rfl, Nat.testBit_two_pow_mul_add q hr j, if_pos hj]
  · exact pb_cnt_congr fun j hj => by rw [show 256 = 2 ^ 8 from rfl, Nat.testBit_two_pow_mul_add q hr, if_neg (by omega)]; congr 1; omega
theorem pb_f1 {p y : Nat} (h : p ≤ 8) : (p + 256 * y) / 256 = y := by omega
theorem pb_f2 {p q r : Nat} (h : p ≤ 16) (h2 : q ≤ 16) : (p + 256 * q + 65536 * r) / 65536 = r := by omega
theorem pb_f3 {a b c d r : Nat} (h : a ≤ 32) (h2 : b ≤ 32) (h3 : c ≤ 32) (h4 : d ≤ 32) : (a + 256 * b + 65536 * c + 16777216 * d + 4294967296 * r) / 4294967296 = r := by omega
theorem pb_f4 {a k : Nat} (h : a ≤ 64) : (a + 256 * k) % 128 = a := by omega
theorem pb_fold {x y1 y2 y3 y4 y5 y6 p0 p1 p2 p3 p4 p5 p6 p7 : Nat} (h0 : p0 ≤ 8) (h1 : p1 ≤ 8) (h2 : p2 ≤ 8) (h3 : p3 ≤ 8) (h4 : p4 ≤ 8) (h5 : p5 ≤ 8) (h6 : p6 ≤ 8) (h7 : p7 ≤ 8)
    (e0 : x = p0 + 256 * y1) (e1 : y1 = p1 + 256 * y2) (e2 : y2 = p2 + 256 * y3) (e3 : y3 = p3 + 256 * y4) (e4 : y4 = p4 + 256 * y5) (e5 : y5 = p5 + 256 * y6) (e6 : y6 = p6 + 256 * p7) :
    (let a := x + x / 256; let b := a + a / 65536; let c := b + b / 4294967296; c % 128) = p0 + p1 + p2 + p3 + p4 + p5 + p6 + p7 := by
  have a1 : x / 256 = y1 := by rw [e0]; exact pb_f1 h0
  have a2 : (x + y1) / 65536 = y2 + y3 := by
    rw [show x + y1 = (p0 + p1) + 256 * (p1 + p2) + 65536 * (y2 + y3) by omega]
    exact pb_f2 (by omega) (by omega)
  have a3 : (x + y1 + (y2 + y3)) / 4294967296 = y4 + y5 + y6 + p7 := by
    rw [show x + y1 + (y2 + y3) = (p0 + p1 + p2 + p3) + 256 * (p1 + p2 + p3 + p4) + 65536 * (p2 + p3 + p4 + p5) + 16777216 * (p3 + p4 + p5 + p6) + 4294967296 * (y4 + y5 + y6 + p7) by omega]
    exact pb_f3 (by omega) (by omega) (by omega) (by omega)
  show (x + x / 256 + (x + x / 256) / 65536 + (x + x / 256 + (x + x / 256) / 65536) / 4294967296) % 128 = _
  rw [a1, a2, a3]
  rw [show x + y1 + (y2 + y3) + (y4 + y5 + y6 + p7) = (p0 + p1 + p2 + p3 + p4 + p5 + p6 + p7) + 256 * (y1 + y2 + y3 + y4 + y5 + y6 + p7) by omega]
  exact pb_f4 (by omega)
def pb_all (n : Nat) : Nat := let x := pb_s 8 n; let a := x + x / 256; let b := a + a / 65536; let c := b + b / 4294967296; c % 128
theorem pb_ok (n : Nat) (hn : n < 2 ^ 64) : pb_all n = pb_cnt n.testBit 64 := by
  obtain ⟨q0, r0, e0, h0⟩ : ∃ q r, n = 256 * q + r ∧ r < 256 := ⟨n / 256, n % 256, by omega, by omega⟩
  obtain ⟨q1, r1, e1, h1⟩ : ∃ q r, q0 = 256 * q + r ∧ r < 256 := ⟨q0 / 256, q0 % 256, by omega, by omega⟩
  obtain ⟨q2, r2, e2, h2⟩ : ∃ q r, q1 = 256 * q + r ∧ r < 256 := ⟨q1 / 256, q1 % 256, by omega, by omega⟩
  obtain ⟨q3, r3, e3, h3⟩ : ∃ q r, q2 = 256 * q + r ∧ r < 256 := ⟨q2 / 256, q2 % 256, by omega, by omega⟩
  obtain ⟨q4, r4, e4, h4⟩ : ∃ q r, q3 = 256 * q + r ∧ r < 256 := ⟨q3 / 256, q3 % 256, by omega, by omega⟩
  obtain ⟨q5, r5, e5, h5⟩ : ∃ q r, q4 = 256 * q + r ∧ r < 256 := ⟨q4 / 256, q4 % 256, by omega, by omega⟩
  obtain ⟨r7, r6, e6, h6⟩ : ∃ q r, q5 = 256 * q + r ∧ r < 256 := ⟨q5 / 256, q5 % 256, by omega, by omega⟩
  have h7 : r7 < 256 := by omega
  have g7 : pb_s 1 r7 = pb_s 1 (256 * 0 + r7) := by rw [Nat.mul_zero, Nat.zero_add]
  have b6 : q5 < 256 ^ 2 := by omega
  have b5 : q4 < 256 ^ 3 := by omega
  have b4 : q3 < 256 ^ 4 := by omega
  have b3 : q2 < 256 ^ 5 := by omega
  have b2 : q1 < 256 ^ 6 := by omega
  have b1 : q0 < 256 ^ 7 := by omega
  have s6 : pb_s 2 q5 = 256 * pb_s 1 r7 + pb_s 1 r6 := by rw [e6, pb_ss 1 r7 r6 (by omega) h6]
  have s5 : pb_s 3 q4 = 256 * pb_s 2 q5 + pb_s 1 r5 := by rw [e5, pb_ss 2 q5 r5 b6 h5]
  have s4 : pb_s 4 q3 = 256 * pb_s 3 q4 + pb_s 1 r4 := by rw [e4, pb_ss 3 q4 r4 b5 h4]
  have s3 : pb_s 5 q2 = 256 * pb_s 4 q3 + pb_s 1 r3 := by rw [e3, pb_ss 4 q3 r3 b4 h3]
  have s2 : pb_s 6 q1 = 256 * pb_s 5 q2 + pb_s 1 r2 := by rw [e2, pb_ss 5 q2 r2 b3 h2]
  have s1 : pb_s 7 q0 = 256 * pb_s 6 q1 + pb_s 1 r1 := by rw [e1, pb_ss 6 q1 r1 b2 h1]
  have s0 : pb_s 8 n = 256 * pb_s 7 q0 + pb_s 1 r0 := by rw [e0, pb_ss 7 q0 r0 b1 h0]
  have c6 : pb_cnt q5.testBit 16 = pb_cnt r6.testBit 8 + pb_cnt r7.testBit 8 := by rw [e6]; exact pb_cnt_split r7 r6 8 h6
  have c5 : pb_cnt q4.testBit 24 = pb_cnt r5.testBit 8 + pb_cnt q5.testBit 16 := by rw [e5]; exact pb_cnt_split q5 r5 16 h5
  have c4 : pb_cnt q3.testBit 32 = pb_cnt r4.testBit 8 + pb_cnt q4.testBit 24 := by rw [e4]; exact pb_cnt_split q4 r4 24 h4
  have c3 : pb_cnt q2.testBit 40 = pb_cnt r3.testBit 8 + pb_cnt q3.testBit 32 := by rw [e3]; exact pb_cnt_split q3 r3 32 h3
  have c2 : pb_cnt q1.testBit 48 = pb_cnt r2.testBit 8 + pb_cnt q2.testBit 40 := by rw [e2]; exact pb_cnt_split q2 r2 40 h2
  have c1 : pb_cnt q0.testBit 56 = pb_cnt r1.testBit 8 + pb_cnt q1.testBit 48 := by rw [e1]; exact pb_cnt_split q1 r1 48 h1
  have c0 : pb_cnt n.testBit 64 = pb_cnt r0.testBit 8 + pb_cnt q0.testBit 56 := by rw [e0]; exact pb_cnt_split q0 r0 56 h0
  obtain ⟨u0, v0⟩ := pb_byte r0 h0
  obtain ⟨u1, v1⟩ := pb_byte r1 h1
  obtain ⟨u2, v2⟩ := pb_byte r2 h2
  obtain ⟨u3, v3⟩ := pb_byte r3 h3
  obtain ⟨u4, v4⟩ := pb_byte r4 h4
  obtain ⟨u5, v5⟩ := pb_byte r5 h5
  obtain ⟨u6, v6⟩ := pb_byte r6 h6
  obtain ⟨u7, v7⟩ := pb_byte r7 h7
  have := pb_fold (x := pb_s 8 n) v0 v1 v2 v3 v4 v5 v6 v7 (s0.trans (Nat.add_comm ..)) (s1.trans (Nat.add_comm ..)) (s2.trans (Nat.add_comm ..)) (s3.trans (Nat.add_comm ..)) (s4.trans (Nat.add_comm ..)) (s5.trans (Nat.add_comm ..)) (s6.trans (Nat.add_comm ..))
  unfold pb_all
  rw [this, c0, c1, c2, c3, c4, c5, c6, u0, u1, u2, u3, u4, u5, u6, u7]
  omega
end
section
/-! Its methods as functions of numbers (as its bytecode goes, in Int32 and Int64), and what they mean -/
def jc_max (x y : Int32) : Int32 := if x < y then y else x
def jc_min (x y : Int32) : Int32 := if y < x then y else x
def jc_abs (x : Int32) : Int32 := if 0 ≤ x then x else 0 - x
def jc_within (n a b : Int32) : Int32 := if n < a then 0 else if b < n then 0 else 1
def jc_allowed (x0 y0 z0 x1 y1 z1 : Int32) : Int32 := if x0 < (-100) then 0 else if x1 ≤ x0 then 0 else if 200 < x1 then 0 else if y0 < (-100) then 0 else if y1 ≤ y0 then 0 else if 200 < y1 then 0 else if z0 < 0 then 0 else if z1 < z0 then 0 else if 100 < z1 then 0 else 1
def jc_hasSun (Z : Int32) : Int32 := if Z ≤ 0 then 0 else 1
def jc_spans (y0 y1 tm : Int32) : Int32 := if tm < 2 * y0 then 0 else if 2 * y1 < tm then 0 else 1
def jc_near (y0 z0 y1 Y Z tm sc : Int32) : Int32 := if Y ≤ 0 then (if 0 ≤ Y then z0 * sc else jc_max (z0 * sc) ((2 * y0 - tm) * Z)) else jc_max (z0 * sc) ((tm - 2 * y1) * Z)
def jc_far (y0 y1 z1 Y Z tm sc : Int32) : Int32 := if Y ≤ 0 then (if 0 ≤ Y then z1 * sc else jc_min (z1 * sc) ((2 * y1 - tm) * Z)) else jc_min (z1 * sc) ((tm - 2 * y0) * Z)
def jc_fdiv (x y : Int32) : Int32 := if 0 ≤ (x ^^^ y) then x / y else if x / y * y = x then x / y else x / y - 1
def jc_fover (n d : Int32) : Int32 := if d ≤ 0 then 0 else jc_fdiv n d
def jc_cells (f l : Int32) : Int64 := if f ≤ l then (((1 : Int64) <<< ((l - f + 1).toInt64 &&& 63)) - 1) <<< (f.toInt64 &&& 63) else 0
def jc_scale (Y : Int32) : Int32 := if Y = 0 then 1 else 2 * jc_abs Y
def jc_first (x0 u least : Int32) : Int32 := -(jc_fover (u - 2 * (x0 * u + least)) (2 * u))
def jc_last (x1 u most : Int32) : Int32 := jc_fover (2 * (x1 * u + most) - u) (2 * u)
def jc_body (x0 x1 X Z sc n f w : Int32) : Int64 := jc_cells (jc_max (jc_first x0 (sc * Z) (jc_min (n * X) (f * X))) 0) (jc_min (jc_last x1 (sc * Z) (jc_max (n * X) (f * X))) (w - 1))
def jc_go (x0 y0 z0 x1 y1 z1 X Y Z y w : Int32) : Int64 :=
  if jc_near y0 z0 y1 Y Z (2 * y + 1) (jc_scale Y) ≤ jc_far y0 y1 z1 Y Z (2 * y + 1) (jc_scale Y) then jc_body x0 x1 X Z (jc_scale Y) (jc_near y0 z0 y1 Y Z (2 * y + 1) (jc_scale Y)) (jc_far y0 y1 z1 Y Z (2 * y + 1) (jc_scale Y)) w else 0
def jc_shade (pr x0 y0 z0 x1 y1 z1 X Y Z y w : Int32) : Int64 :=
  if pr = 0 then 0 else if jc_hasSun Z = 0 then 0 else if Y = 0 then (if jc_spans y0 y1 (2 * y + 1) = 0 then 0 else jc_go x0 y0 z0 x1 y1 z1 X Y Z y w) else jc_go x0 y0 z0 x1 y1 z1 X Y Z y w
def jc_hasCell (w : Int64) (x : Int32) : Int32 := if ((w.toUInt64 >>> (x.toInt64.toUInt64 &&& Int64.toUInt64 63)).toInt64 &&& 1) = 0 then 0 else 1
/-- Long.bitCount, as its bytecode goes -/
def jc_ush (x : Int64) (k : Int32) : Int64 := (x.toUInt64 >>> (k.toInt64.toUInt64 &&& Int64.toUInt64 63)).toInt64
def jc_b1 (i : Int64) : Int64 := i - (jc_ush i 1 &&& 6148914691236517205)
def jc_b2 (i : Int64) : Int64 := (i &&& 3689348814741910323) + (jc_ush i 2 &&& 3689348814741910323)
def jc_b3 (i : Int64) : Int64 := (i + jc_ush i 4) &&& 1085102592571150095
def jc_b4 (i : Int64) : Int64 := i + jc_ush i 8
def jc_b5 (i : Int64) : Int64 := i + jc_ush i 16
def jc_b6 (i : Int64) : Int64 := i + jc_ush i 32
def jc_bits (i : Int64) : Int32 := (jc_b6 (jc_b5 (jc_b4 (jc_b3 (jc_b2 (jc_b1 i)))))).toInt32 &&& 127
/-- whole numbers behind them -/
theorem jx_max {x y : Int32} : (jc_max x y).toInt = max x.toInt y.toInt := by
  unfold jc_max
  split <;> rename_i h <;> rw [i_lt] at h <;> omega
theorem jx_min {x y : Int32} : (jc_min x y).toInt = min x.toInt y.toInt := by
  unfold jc_min
  split <;> rename_i h <;> rw [i_lt] at h <;> omega
theorem jx_abs {x : Int32} (h : -2147483648 < x.toInt) : (jc_abs x).toInt = if x.toInt < 0 then -x.toInt else x.toInt := by
  have := x.toInt_lt
  unfold jc_abs
  split <;> rename_i h0 <;> rw [i_le] at h0
  · rw [if_neg (by simpa using h0)]
  · have h0' : x.toInt < 0 := by simpa using h0
    rw [if_pos h0', i_sub (x := 0) (y := x.toInt) rfl rfl (by omega)]
    omega
theorem jx_xor (x y : Int32) (hy : 0 < y.toInt) : 0 ≤ (x ^^^ y) ↔ 0 ≤ x.toInt := by
  have h1 : (x ^^^ y).toBitVec.msb = (x.toBitVec.msb ^^ y.toBitVec.msb) := by simp
  have hm : ∀ z : Int32, z.toBitVec.msb = decide (z.toInt < 0) := fun z => by
    rw [BitVec.msb_eq_toInt]; rfl
  rw [hm, hm, hm] at h1
  have h2 : decide (y.toInt < 0) = false := by simp; omega
  rw [h2, Bool.xor_false] at h1
  rw [i_le]
  show (0 : Int) ≤ _ ↔ _
  have h3 : ((x ^^^ y).toInt < 0) ↔ (x.toInt < 0) := by simpa using h1
  omega
theorem jx_fdiv {x y : Int32} (hy : 0 < y.toInt) : (jc_fdiv x y).toInt = x.toInt / y.toInt := by
  have hx1 := x.le_toInt
  have hx2 := x.toInt_lt
  have hq : (x / y).toInt = x.toInt.tdiv y.toInt := Int32.toInt_div_of_ne_right x y (fun h => by rw [h] at hy; exact absurd hy (by decide))
  unfold jc_fdiv
  split
  · rename_i h
    rw [jx_xor x y hy] at h
    rw [hq, Int.tdiv_eq_ediv_of_nonneg h]
  · rename_i h
    rw [jx_xor x y hy] at h
    obtain ⟨a, ha⟩ : ∃ a : Int, a = -x.toInt := ⟨_, rfl⟩
    have hxa : x.toInt = -a := by omega
    have hq2 : x.toInt.tdiv y.toInt = -(a / y.toInt) := by rw [hxa, Int.neg_tdiv, Int.tdiv_eq_ediv_of_nonneg (by omega)]
    rw [hq2] at hq
    have hdm : y.toInt * (a / y.toInt) + a % y.toInt = a := Int.mul_ediv_add_emod ..
    have hm0 : 0 ≤ a % y.toInt := Int.emod_nonneg _ (by omega)
    have hm1 : a % y.toInt < y.toInt := Int.emod_lt_of_pos _ hy
    have hq0 : 0 ≤ a / y.toInt := Int.ediv_nonneg (by omega) (by omega)
    generalize a / y.toInt = q at hq hdm hq0
    generalize a % y.toInt = r at hdm hm0 hm1
    have hqy : q ≤ y.toInt * q := by
      have := Int.mul_le_mul_of_nonneg_right (show 1 ≤ y.toInt by omega) hq0
      omega
    have hm : (x / y * y).toInt = -q * y.toInt := i_mul hq rfl (by
      have e : -q * y.toInt = -(y.toInt * q) := by rw [Int.neg_mul, Int.mul_comm]
      rw [e]; omega)
    have e : -q * y.toInt = -(y.toInt * q) := by rw [Int.neg_mul, Int.mul_comm]
    rw [e] at hm
    split
    · rename_i hz
      rw [i_eq, hm] at hz
      rw [hq, hxa]
      have e2 : -a = y.toInt * (-q) := by rw [Int.mul_neg]; omega
      rw [e2, Int.mul_ediv_cancel_left _ (by omega)]
    · rename_i hz
      rw [i_eq, hm] at hz
      have hc : (x / y - 1).toInt = -q - 1 := i_sub hq rfl (by omega)
      rw [hc, hxa]
      have e2 : -a = (y.toInt - r) + y.toInt * (-q - 1) := by rw [Int.mul_sub, Int.mul_neg]; omega
      rw [e2, Int.add_mul_ediv_left _ _ (by omega), Int.ediv_eq_zero_of_lt (by omega) (by omega)]
      omega
theorem jx_fover {n d : Int32} (hd : 0 < d.toInt) : (jc_fover n d).toInt = n.toInt / d.toInt := by
  unfold jc_fover
  rw [if_neg (by rw [i_le]; show ¬ _ ≤ (0 : Int); omega), jx_fdiv hd]
end
section
/-! CALLS, a row each -/
section GV
variable {p : Program} {l : Launch} {e : Env} {R : Room} {s : State} {m : MethodId} {args : Array Value} {below : List Frame} {meth : Method} {c : Code} {H : Heap} {locs : List Loc} {cells slots : Nat} {Q : State → Prop}
variable {cc : ByteArray} {pc nL : Nat} {ls : Array Slot} {rest st0 As : List Value} {D : va_G} {k : Nat → ClassId} {z0 mc ms n index maxL : Nat} {G : Nat → Option va_E} {px : String → Prop} {post : Option Value → (Nat → Option va_E) → Prop}
variable {own host C : String} {a : Nat} {y : MethodName} {bytes : ByteArray} {ret : Option FieldType} {rm : Room}
abbrev hdOf (y : MethodName) (n : Nat) : Prop := y.cls ≠ "java/lang/invoke/MethodHandle" ∧ y.cls ≠ "java/lang/invoke/VarHandle" ∧ (parseMethodDescriptor y.desc).map (fun d => d.parameters.length) = some n
abbrev rmOf (R rm : Room) (maxL : Nat) : Prop := rm.frames + 1 ≤ R.frames ∧ 8 + (maxL + 11) + rm.locals ≤ R.locals
theorem cg_B (hw : ∀ w ∈ wW, w.before args s = true) (hc : Cond.code y bytes maxL ret ∈ wW) (h1 : Cond.methodLink own index y ∈ wW) (h4 : Cond.initialized y.cls ∈ wW) (hd : hdOf y n) (hR : rmOf R rm maxL) : CallB R s args own index y bytes maxL ret (wM y bytes maxL ret) rm rm.cells rm.slots n :=
  callB_of n hw (gi_W (fun _ h => h) (gi_M hc)) rfl rfl rfl (hw _ h4) (hw _ h1) hd hR
theorem cg_V (hw : ∀ w ∈ wW, w.before args s = true) (hc : Cond.code y bytes maxL ret ∈ wW) (h1 : Cond.methodLink own index y ∈ wW) (h4 : Cond.initialized y.cls ∈ wW) (h2 : Cond.instanceMethod y ∈ wW) (h3 : Cond.selects C y y ∈ wW) (hd : hdOf y n) (hR : rmOf R rm maxL) : CallW R s args own C index y bytes maxL ret (wM y bytes maxL ret) rm rm.cells rm.slots n :=
  ⟨cg_B hw hc h1 h4 hd hR, hw _ h2, hw _ h3⟩
theorem cg_S (hw : ∀ w ∈ wW, w.before args s = true) (hc : Cond.code y bytes maxL ret ∈ wW) (h1 : Cond.methodLink own index y ∈ wW) (h4 : Cond.initialized y.cls ∈ wW) (h2 : Cond.static y ∈ wW) (hd : hdOf y n) (hR : rmOf R rm maxL) : CallB R s args own index y bytes maxL ret (wM y bytes maxL ret) rm rm.cells rm.slots n ∧ (Cond.static y).before args s = true :=
  ⟨cg_B hw hc h1 h4 hd hR, hw _ h2⟩
theorem cg_I (hw : ∀ w ∈ wW, w.before args s = true) (hc : Cond.code y bytes maxL none ∈ wW) (h1 : Cond.methodLink own index y ∈ wW) (h4 : Cond.initialized y.cls ∈ wW) (h2 : Cond.instanceMethod y ∈ wW) (hy : y.name = "<init>") (hd : hdOf y n) (hR : rmOf R rm maxL) : CallB R s args own index y bytes maxL none (wM y bytes maxL none) rm rm.cells rm.slots n ∧ y.name = "<init>" ∧ (Cond.instanceMethod y).before args s = true :=
  ⟨cg_B hw hc h1 h4 hd hR, hy, hw _ h2⟩
theorem cg_N (hw : ∀ w ∈ wW, w.before args s = true) (hc : Cond.code y bytes maxL ret ∈ wW) (h1 : va_Nw (.methodLinkNest own index y host) s) (h4 : Cond.initialized y.cls ∈ wW) (hd : hdOf y n) (hR : rmOf R rm maxL) : va_CN R s args own index y host bytes maxL ret (wM y bytes maxL ret) rm rm.cells rm.slots n :=
  va_cnB n hw (gi_W (fun _ h => h) (gi_M hc)) rfl rfl rfl h1 (hw _ h4) hd hR
/-- invokevirtual -/
theorem gs_V (hM : Met l y (wM y bytes maxL ret) rm (gs_P D k z0 G (.ref a :: As)) (gs_Q D z0 post) rm.cells rm.slots (fun q : Nat => z0 ≤ q)) (E : gs_E p s m args c cc wW own) (hml : c.maxLocals = nL) (hls : ls.size = nL) (cw : CallW R s args own C index y bytes maxL ret (wM y bytes maxL ret) rm rm.cells rm.slots n) (hG : gs_W D classes z0 G H) (hK : gs_K D k s) (hX : gs_X z0 s s.heap) (hS : gs_S z0 s.heap H locs) {ci : Nat} {fs : List Value} {r : vw_C} (hb : G a = some (.inr (ci, fs))) (hc : classes[ci]? = some r) (hC : r.1 = C) (hn : As.length = n) (hst : st0 = As.reverse ++ .ref a :: rest) (hW : (rest.map fun v => v.category).sum ≤ 8) (hdg : decode cc pc = .ok (.invokevirtual index, 3)) (hf : cells + rm.cells ≤ R.cells ∧ slots + rm.slots ≤ R.slots)
    (kk : ∀ (v : Option Value) (G1 : Nat → Option va_E) (H1 : Heap) (locs1 : List Loc), post v G1 → gs_W D classes z0 G1 H1 → gs_S z0 s.heap H1 locs1 → W p l e R s m args below meth c H1 locs1 (cells + rm.cells) (slots + rm.slots) Q (F0 m (pc + 3) ls (v.toList ++ rest))) : W p l e R s m args below meth c H locs cells slots Q (F0 m pc ls st0) := by
  subst hC
  exact gs_call (va_runV (As := As) (rest := rest) ⟨E.1, E.2.1, hml, E.2.2.2, E.2.2.1⟩ hM cw (gs_preV hG hK hX hS hb hc) rfl hn hls hst (lv_room hW) hdg hf) hS kk
/-- invokestatic -/
theorem gs_St (hM : Met l y (wM y bytes maxL ret) rm (gs_P D k z0 G As) (gs_Q D z0 post) rm.cells rm.slots (fun q : Nat => z0 ≤ q)) (E : gs_E p s m args c cc wW own) (hml : c.maxLocals = nL) (hls : ls.size = nL) (cw : CallB R s args own index y bytes maxL ret (wM y bytes maxL ret) rm rm.cells rm.slots n ∧ (Cond.static y).before args s = true) (hG : gs_W D classes z0 G H) (hK : gs_K D k s) (hX : gs_X z0 s s.heap) (hS : gs_S z0 s.heap H locs) (hn : As.length = n) (hst : st0 = As.reverse ++ rest) (hW : (rest.map fun v => v.category).sum ≤ 8) (hdg : decode cc pc = .ok (.invokestatic index, 3)) (hf : cells + rm.cells ≤ R.cells ∧ slots + rm.slots ≤ R.slots)
    (kk : ∀ (v : Option Value) (G1 : Nat → Option va_E) (H1 : Heap) (locs1 : List Loc), post v G1 → gs_W D classes z0 G1 H1 → gs_S z0 s.heap H1 locs1 → W p l e R s m args below meth c H1 locs1 (cells + rm.cells) (slots + rm.slots) Q (F0 m (pc + 3) ls (v.toList ++ rest))) : W p l e R s m args below meth c H locs cells slots Q (F0 m pc ls st0) :=
  gs_call (va_runS (As := As) (rest := rest) ⟨E.1, E.2.1, hml, E.2.2.2, E.2.2.1⟩ hM cw (gs_preS hG hK hX hS) rfl hn hls hst (lv_room hW) hdg hf) hS kk
/-- invokestatic of a nest mate -/
theorem gs_SN (hM : Met l y (wM y bytes maxL ret) rm (gs_P D k z0 G As) (gs_Q D z0 post) rm.cells rm.slots (fun q : Nat => z0 ≤ q)) (E : gs_E p s m args c cc wW own) (hml : c.maxLocals = nL) (hls : ls.size = nL) (cw : va_CN R s args own index y host bytes maxL ret (wM y bytes maxL ret) rm rm.cells rm.slots n) (hs : Cond.static y ∈ wW) (hG : gs_W D classes z0 G H) (hK : gs_K D k s) (hX : gs_X z0 s s.heap) (hS : gs_S z0 s.heap H locs) (hn : As.length = n) (hst : st0 = As.reverse ++ rest) (hW : (rest.map fun v => v.category).sum ≤ 8) (hdg : decode cc pc = .ok (.invokestatic index, 3)) (hf : cells + rm.cells ≤ R.cells ∧ slots + rm.slots ≤ R.slots)
    (kk : ∀ (v : Option Value) (G1 : Nat → Option va_E) (H1 : Heap) (locs1 : List Loc), post v G1 → gs_W D classes z0 G1 H1 → gs_S z0 s.heap H1 locs1 → W p l e R s m args below meth c H1 locs1 (cells + rm.cells) (slots + rm.slots) Q (F0 m (pc + 3) ls (v.toList ++ rest))) : W p l e R s m args below meth c H locs cells slots Q (F0 m pc ls st0) :=
  gs_call (va_runSN (As := As) (rest := rest) ⟨E.1, E.2.1, hml, E.2.2.2, E.2.2.1⟩ hM ⟨cw, E.2.2.1 _ hs, trivial⟩ (gs_preS hG hK hX hS) rfl hn hls hst (lv_room hW) hdg hf) hS kk
/-- invokespecial of a constructor -/
theorem gs_I (hM : Met l y (wM y bytes maxL none) rm (gs_P D k z0 G (.ref a :: As)) (gs_Q D z0 post) rm.cells rm.slots (fun q : Nat => z0 ≤ q)) (E : gs_E p s m args c cc wW own) (hml : c.maxLocals = nL) (hls : ls.size = nL) (cw : CallB R s args own index y bytes maxL none (wM y bytes maxL none) rm rm.cells rm.slots n ∧ y.name = "<init>" ∧ (Cond.instanceMethod y).before args s = true) (hG : gs_W D classes z0 G H) (hK : gs_K D k s) (hX : gs_X z0 s s.heap) (hS : gs_S z0 s.heap H locs) (hn : As.length = n) (hst : st0 = As.reverse ++ .ref a :: rest) (hW : (rest.map fun v => v.category).sum ≤ 8) (hdg : decode cc pc = .ok (.invokespecial index, 3)) (hf : cells + rm.cells ≤ R.cells ∧ slots + rm.slots ≤ R.slots)
    (kk : ∀ (v : Option Value) (G1 : Nat → Option va_E) (H1 : Heap) (locs1 : List Loc), post v G1 → gs_W D classes z0 G1 H1 → gs_S z0 s.heap H1 locs1 → W p l e R s m args below meth c H1 locs1 (cells + rm.cells) (slots + rm.slots) Q (F0 m (pc + 3) ls (v.toList ++ rest))) : W p l e R s m args below meth c H locs cells slots Q (F0 m pc ls st0) :=
  gs_call (va_runI (As := As) (rest := rest) ⟨E.1, E.2.1, hml, E.2.2.2, E.2.2.1⟩ hM cw (gs_preS hG hK hX hS) rfl hn hls hst (lv_room hW) hdg hf) hS kk
/-- the same of a nest mate -/
theorem gs_IN (hM : Met l y (wM y bytes maxL none) rm (gs_P D k z0 G (.ref a :: As)) (gs_Q D z0 post) rm.cells rm.slots (fun q : Nat => z0 ≤ q)) (E : gs_E p s m args c cc wW own) (hml : c.maxLocals = nL) (hls : ls.size = nL) (cw : va_CN R s args own index y host bytes maxL none (wM y bytes maxL none) rm rm.cells rm.slots n) (hy : y.name = "<init>") (hi : Cond.instanceMethod y ∈ wW) (hG : gs_W D classes z0 G H) (hK : gs_K D k s) (hX : gs_X z0 s s.heap) (hS : gs_S z0 s.heap H locs) (hn : As.length = n) (hst : st0 = As.reverse ++ .ref a :: rest) (hW : (rest.map fun v => v.category).sum ≤ 8) (hdg : decode cc pc = .ok (.invokespecial index, 3)) (hf : cells + rm.cells ≤ R.cells ∧ slots + rm.slots ≤ R.slots)
    (kk : ∀ (v : Option Value) (G1 : Nat → Option va_E) (H1 : Heap) (locs1 : List Loc), post v G1 → gs_W D classes z0 G1 H1 → gs_S z0 s.heap H1 locs1 → W p l e R s m args below meth c H1 locs1 (cells + rm.cells) (slots + rm.slots) Q (F0 m (pc + 3) ls (v.toList ++ rest))) : W p l e R s m args below meth c H locs cells slots Q (F0 m pc ls st0) :=
  gs_call (va_runIN (As := As) (rest := rest) ⟨E.1, E.2.1, hml, E.2.2.2, E.2.2.1⟩ hM ⟨cw, hy, E.2.2.1 _ hi⟩ (gs_preS hG hK hX hS) rfl hn hls hst (lv_room hW) hdg hf) hS kk
/-- invokevirtual of a method that may throw -/
theorem gs_VX (hM : vx_Met l y (wM y bytes maxL ret) rm (gs_P D k z0 G (.ref a :: As)) (gs_Q D z0 post) (gs_T D z0 G px) rm.cells rm.slots (fun q : Nat => z0 ≤ q)) (E : gs_E p s m args c cc wW own) (hml : c.maxLocals = nL) (hls : ls.size = nL) (cw : CallW R s args own C index y bytes maxL ret (wM y bytes maxL ret) rm rm.cells rm.slots n) (hG : gs_W D classes z0 G H) (hK : gs_K D k s) (hX : gs_X z0 s s.heap) (hS : gs_S z0 s.heap H locs) {ci : Nat} {fs : List Value} {r : vw_C} (hb : G a = some (.inr (ci, fs))) (hc : classes[ci]? = some r) (hC : r.1 = C) (hn : As.length = n) (hst : st0 = As.reverse ++ .ref a :: rest) (hW : (rest.map fun v => v.category).sum ≤ 8) (hdg : decode cc pc = .ok (.invokevirtual index, 3)) (hf : cells + rm.cells ≤ R.cells ∧ slots + rm.slots ≤ R.slots)
    (kx : ∀ (E : String) (ce : Cell) (q9 : Addr) (H1 : Heap) (locs1 : List Loc), px E → gs_W D classes z0 G H1 → gs_S z0 s.heap H1 locs1 → H1[q9]? = some ce → ce.vm = .none → s.vm.findClass E = some ce.cls → vx_W p l e R s m args below meth c H1 locs1 (cells + rm.cells) (slots + rm.slots) Q (F0 m pc ls rest) q9)
    (kk : ∀ (v : Option Value) (G1 : Nat → Option va_E) (H1 : Heap) (locs1 : List Loc), post v G1 → gs_W D classes z0 G1 H1 → gs_S z0 s.heap H1 locs1 → W p l e R s m args below meth c H1 locs1 (cells + rm.cells) (slots + rm.slots) Q (F0 m (pc + 3) ls (v.toList ++ rest))) : W p l e R s m args below meth c H locs cells slots Q (F0 m pc ls st0) := by
  subst hC
  exact gs_callX (vx_runV (As := As) (rest := rest) ⟨E.1, E.2.1, hml, E.2.2.2, E.2.2.1⟩ hM cw (gs_preV hG hK hX hS hb hc) rfl hn hls hst (lv_room hW) hdg hf) hS kx kk
end GV
/-- a body of a method of the JVM's own library that nothing replaces -/
theorem gs_ofWF {l : Launch} {y : MethodName} {ws ws' : List Cond} {rm : Room} {Pc : Array Value → State → Prop} {Qc : Array Value → State → Outcome → State → Prop} {mc ms : Nat} {free : Addr → Prop} {cc : ByteArray} {maxL : Nat} {ret : Option FieldType}
    (hy : plainFor y = true) (hw : ws = Cond.code y cc maxL ret :: ws')
    (body : ∀ p e s m args below meth c s₁, BodyLoose p l y (headSpec ws rm) cc maxL ret e s m args below meth c s₁ → c.maxLocals = maxL → Pc args s →
      W p l e (headSpec ws rm).room s m args below meth c s.heap [] 0 0 (MQ below Qc args s mc ms free) (entryFrame m args maxL)) : Met l y ws rm Pc Qc mc ms free := by
  refine MetFree.of_bodySF (code := cc) (maxLocals := maxL) (ret := ret) hy ?_ ?_
  · intro args s m h hn
    obtain ⟨meth, c, h1, h2, h3, h4, h5, h6, -, -⟩ := Cond.code_spec hn (atoms_spec (ws := ws) h _ (by rw [hw]; exact List.mem_cons_self))
    exact ⟨meth, c, h1, h2, h3, h4, h5, h6⟩
  · intro p e s m args below meth c s₁ B hml hP _
    have hh0 : s₁.heap = s.heap := by rw [B.state]; rfl
    obtain ⟨t, a1, o, b1, b2, b3⟩ := body p e s m args below meth c s₁ B hml hP s₁ hh0 (Stand.of_body B)
    exact ⟨t, o, a1, b1, b2, ⟨b3.1, b3.2⟩⟩

abbrev e_nm : List String := ["java/lang/RuntimeException", "java/lang/Exception"]
theorem at_IA : ∀ w ∈ (vx_atS R_Ss 66 e_IA e_nm).filter goodWord, w ∈ wW := by decide +kernel
theorem at_IS : ∀ w ∈ (vx_atS R_Ss 73 e_IS e_nm).filter goodWord, w ∈ wW := by decide +kernel
theorem at_go_IA : ∀ w ∈ Cond.classLink R_Ss 62 e_IA :: Cond.initialized e_IA :: vx_atS R_Ss 66 e_IA e_nm, vx_ot w = true := by decide +kernel
theorem at_go_IS : ∀ w ∈ Cond.classLink R_Ss 69 e_IS :: Cond.initialized e_IS :: vx_atS R_Ss 73 e_IS e_nm, vx_ot w = true := by decide +kernel
theorem at_IA2 : ∀ w ∈ (vx_atS R_Ss 66 e_IA e_nm).filter (fun w => !goodWord w), w ∈ [Cond.castable e_IA e_IA, .declares ⟨"java/lang/RuntimeException", "<init>", "(Ljava/lang/String;)V"⟩, .declares ⟨"java/lang/Exception", "<init>", "(Ljava/lang/String;)V"⟩, .declares ⟨"java/lang/Throwable", "<init>", "(Ljava/lang/String;)V"⟩] := by decide +kernel
theorem at_IS2 : ∀ w ∈ (vx_atS R_Ss 73 e_IS e_nm).filter (fun w => !goodWord w), w ∈ [Cond.castable e_IS e_IS, .declares ⟨"java/lang/RuntimeException", "<init>", "(Ljava/lang/String;)V"⟩, .declares ⟨"java/lang/Exception", "<init>", "(Ljava/lang/String;)V"⟩, .declares ⟨"java/lang/Throwable", "<init>", "(Ljava/lang/String;)V"⟩] := by decide +kernel
section GT
variable {p : Program} {l : Launch} {e : Env} {R : Room} {s : State} {m : MethodId} {args : Array Value} {below : List Frame} {meth : Method} {c : Code} {H : Heap} {locs : List Loc} {cells slots : Nat}
variable {cc : ByteArray} {pc : Nat} {ls : Array Slot} {rest : List Value} {D : va_G} {k : Nat → ClassId} {z0 mc ms is : Nat} {text : String} {G : Nat → Option va_E} {px : String → Prop} {Qc : Array Value → State → Outcome → State → Prop}
theorem gs_throwIA (hl : l.stackTraces = false) (E : gs_E p s m args c cc wW R_Ss) (hG : gs_W D classes z0 G H) (hK : gs_K D k s) (hX : gs_X z0 s s.heap) (hS : gs_S z0 s.heap H locs) (ht : ∀ x ∈ c.exceptionTable.toList, False) (hsize : ls.size = c.maxLocals) (hk : Cond.classLink R_Ss 62 e_IA ∈ wW) (hini : Cond.initialized e_IA ∈ wW) (htx : (is, text) ∈ gs_texts) (hp : px e_IA)
    (d0 : decode cc pc = .ok (.new 62, 3)) (d3 : decode cc (pc + 3) = .ok (.dup, 1)) (d4 : decode cc (pc + 4) = .ok (.ldc is, 2)) (d6 : decode cc (pc + 6) = .ok (.invokespecial 66, 3)) (d9 : decode cc (pc + 9) = .ok (.athrow, 1))
    (hRframes : 5 < R.frames) (hRlocals : (rest.map fun v => v.category).sum + 82 ≤ R.locals) (hRcells : cells + 1 ≤ R.cells) (hRslots : slots + 6 ≤ R.slots) (hlocks : meth.locks = false) (hc : cells + 1 ≤ mc) (hs : slots + 6 ≤ ms) :
    W p l e R s m args below meth c H locs cells slots (vx_MQ below Qc (gs_T D z0 G px) args s mc ms (fun q : Nat => z0 ≤ q)) (F0 m pc ls rest) := by
  obtain ⟨hexec, hb, hw, hown⟩ := E
  obtain ⟨sa, hstr⟩ := hK.2.2.2.2.2 (is, text) htx
  refine vx_throwS (names := e_nm) (cls := e_IA) (text := text) (sa := sa) hexec hb hl hown (by decide +kernel) (by decide +kernel) (hw _ hk) (hw _ hini) hstr (vx_hat (fun w h => hw w (at_IA w h)) at_IA2 (vx_c (va_Nw.use rfl hK.2.2.2.1.1) (vx_c (va_Nw.use rfl hK.2.2.2.2.1.1) (vx_c (va_Nw.use rfl hK.2.2.2.2.1.2.1) (vx_c (va_Nw.use rfl hK.2.2.2.2.1.2.2) vx_n))))) at_go_IA hX.1 hX.2 hS hsize d0 d3 d4 d6 d9 (fun x hx => (ht x hx).elim) hRframes hRlocals hRcells hRslots hlocks ?_ hS.2.2 hc hs
  intro t hA hz hq
  exact ⟨hp, hG.grow hz hq, Nat.le_trans hS.1 hz, fun q h1 h2 => (hq q (Nat.lt_of_lt_of_le h1 hS.1)).trans (hS.2.1 q h1 h2)⟩
theorem gs_throwIS (hl : l.stackTraces = false) (E : gs_E p s m args c cc wW R_Ss) (hG : gs_W D classes z0 G H) (hK : gs_K D k s) (hX : gs_X z0 s s.heap) (hS : gs_S z0 s.heap H locs) (ht : ∀ x ∈ c.exceptionTable.toList, False) (hsize : ls.size = c.maxLocals) (hk : Cond.classLink R_Ss 69 e_IS ∈ wW) (hini : Cond.initialized e_IS ∈ wW) (htx : (is, text) ∈ gs_texts) (hp : px e_IS)
    (d0 : decode cc pc = .ok (.new 69, 3)) (d3 : decode cc (pc + 3) = .ok (.dup, 1)) (d4 : decode cc (pc + 4) = .ok (.ldc is, 2)) (d6 : decode cc (pc + 6) = .ok (.invokespecial 73, 3)) (d9 : decode cc (pc + 9) = .ok (.athrow, 1))
    (hRframes : 5 < R.frames) (hRlocals : (rest.map fun v => v.category).sum + 82 ≤ R.locals) (hRcells : cells + 1 ≤ R.cells) (hRslots : slots + 6 ≤ R.slots) (hlocks : meth.locks = false) (hc : cells + 1 ≤ mc) (hs : slots + 6 ≤ ms) :
    W p l e R s m args below meth c H locs cells slots (vx_MQ below Qc (gs_T D z0 G px) args s mc ms (fun q : Nat => z0 ≤ q)) (F0 m pc ls rest) := by
  obtain ⟨hexec, hb, hw, hown⟩ := E
  obtain ⟨sa, hstr⟩ := hK.2.2.2.2.2 (is, text) htx
  refine vx_throwS (names := e_nm) (cls := e_IS) (text := text) (sa := sa) hexec hb hl hown (by decide +kernel) (by decide +kernel) (hw _ hk) (hw _ hini) hstr (vx_hat (fun w h => hw w (at_IS w h)) at_IS2 (vx_c (va_Nw.use rfl hK.2.2.2.1.2.1) (vx_c (va_Nw.use rfl hK.2.2.2.2.1.1) (vx_c (va_Nw.use rfl hK.2.2.2.2.1.2.1) (vx_c (va_Nw.use rfl hK.2.2.2.2.1.2.2) vx_n))))) at_go_IS hX.1 hX.2 hS hsize d0 d3 d4 d6 d9 (fun x hx => (ht x hx).elim) hRframes hRlocals hRcells hRslots hlocks ?_ hS.2.2 hc hs
  intro t hA hz hq
  exact ⟨hp, hG.grow hz hq, Nat.le_trans hS.1 hz, fun q h1 h2 => (hq q (Nat.lt_of_lt_of_le h1 hS.1)).trans (hS.2.1 q h1 h2)⟩
/-- a throw out of a callee goes on -/
theorem gs_on {E : String} {ce : Cell} {q : Addr} (ht : ∀ x ∈ c.exceptionTable.toList, False) (hlocks : meth.locks = false) (hp : px E) (hG : gs_W D classes z0 G H) (hS : gs_S z0 s.heap H locs) (hcell : H[q]? = some ce) (hv : ce.vm = .none) (hcl : s.vm.findClass E = some ce.cls) (hc : cells ≤ mc) (hs : slots ≤ ms) :
    vx_W p l e R s m args below meth c H locs cells slots (vx_MQ below Qc (gs_T D z0 G px) args s mc ms (fun q : Nat => z0 ≤ q)) (F0 m pc ls rest) q :=
  vx_out (fun x hx => (ht x hx).elim) hlocks hcell hv hcl (fun t ht2 _ => ⟨hp, by rw [ht2]; exact hG, hS.F ht2⟩) hS.2.2 hc hs
end GT
end
section
/-! more names, by program -/
theorem i_Bx : ∀ w ∈ u_ws R_Bx F_Bx 7, w ∈ wW := by decide +kernel
theorem i_Hr : ∀ w ∈ u_ws R_Hr F_Hr 4, w ∈ wW := by decide +kernel
theorem i_Wn : ∀ w ∈ u_ws R_Wn F_Wn 4, w ∈ wW := by decide +kernel
theorem i_Ss : ∀ w ∈ u_ws R_Ss F_Ss 9, w ∈ wW := by decide +kernel
theorem i_Md : ∀ w ∈ u_ws R_Md F_Md 14, w ∈ wW := by decide +kernel
theorem hd_Ss_init : hdOf y_Ss_init 2 := by decide +kernel
theorem hd_Mt_min : hdOf y_Mt_min 2 := by decide +kernel
theorem hd_Mt_max : hdOf y_Mt_max 2 := by decide +kernel
theorem hd_Hr_init : hdOf y_Hr_init 0 := by decide +kernel
theorem hd_Lw_cell_s : hdOf y_Lw_cell_s 2 := by decide +kernel
theorem hd_Lw_box : hdOf y_Lw_box 8 := by decide +kernel
theorem hd_Ss_box : hdOf y_Ss_box 6 := by decide +kernel
theorem sel_Ss_box : Cond.selects R_Ss y_Ss_box y_Ss_box ∈ wW := w_98
theorem hd_Bx_isAllowed : hdOf y_Bx_isAllowed 6 := by decide +kernel
theorem hd_Bx_init : hdOf y_Bx_init 6 := by decide +kernel
theorem hd_Lw_move : hdOf y_Lw_move 6 := by decide +kernel
theorem hd_Ss_move : hdOf y_Ss_move 4 := by decide +kernel
theorem sel_Ss_move : Cond.selects R_Ss y_Ss_move y_Ss_move ∈ wW := w_220
theorem hd_Ss_knownBox : hdOf y_Ss_knownBox 1 := by decide +kernel
theorem sel_Ss_knownBox : Cond.selects R_Ss y_Ss_knownBox y_Ss_knownBox ∈ wW := wW_s (by decide +kernel) (by decide +kernel)
theorem hd_Ss_isWithin : hdOf y_Ss_isWithin 3 := by decide +kernel
theorem hd_Bx_shiftIfAllowed : hdOf y_Bx_shiftIfAllowed 3 := by decide +kernel
theorem sel_Bx_shiftIfAllowed : Cond.selects R_Bx y_Bx_shiftIfAllowed y_Bx_shiftIfAllowed ∈ wW := w_233
theorem hd_Lw_there : hdOf y_Lw_there 4 := by decide +kernel
theorem hd_Ss_there : hdOf y_Ss_there 2 := by decide +kernel
theorem sel_Ss_there : Cond.selects R_Ss y_Ss_there y_Ss_there ∈ wW := w_241
theorem hd_Lw_sun : hdOf y_Lw_sun 5 := by decide +kernel
theorem hd_Ss_sun : hdOf y_Ss_sun 4 := by decide +kernel
theorem sel_Ss_sun : Cond.selects R_Ss y_Ss_sun y_Ss_sun ∈ wW := w_248
theorem hd_Ss_knownHour : hdOf y_Ss_knownHour 1 := by decide +kernel
theorem sel_Ss_knownHour : Cond.selects R_Ss y_Ss_knownHour y_Ss_knownHour ∈ wW := wW_s (by decide +kernel) (by decide +kernel)
theorem hd_Lw_light : hdOf y_Lw_light 4 := by decide +kernel
theorem hd_Ss_light : hdOf y_Ss_light 2 := by decide +kernel
theorem sel_Ss_light : Cond.selects R_Ss y_Ss_light y_Ss_light ∈ wW := w_261
theorem hd_Lw_window : hdOf y_Lw_window 6 := by decide +kernel
theorem hd_Ss_window : hdOf y_Ss_window 4 := by decide +kernel
theorem sel_Ss_window : Cond.selects R_Ss y_Ss_window y_Ss_window ∈ wW := w_269
theorem hd_Wn_init : hdOf y_Wn_init 4 := by decide +kernel
theorem hd_Lw_shadow : hdOf y_Lw_shadow 5 := by decide +kernel
theorem hd_Ss_shadow : hdOf y_Ss_shadow 3 := by decide +kernel
theorem sel_Ss_shadow : Cond.selects R_Ss y_Ss_shadow y_Ss_shadow ∈ wW := w_298
theorem hd_Ss_sunnyHour : hdOf y_Ss_sunnyHour 1 := by decide +kernel
theorem sel_Ss_sunnyHour : Cond.selects R_Ss y_Ss_sunnyHour y_Ss_sunnyHour ∈ wW := wW_s (by decide +kernel) (by decide +kernel)
theorem hd_Hr_hasSun : hdOf y_Hr_hasSun 0 := by decide +kernel
theorem sel_Hr_hasSun : Cond.selects R_Hr y_Hr_hasSun y_Hr_hasSun ∈ wW := w_307
theorem hd_Ss_shadeOfRow : hdOf y_Ss_shadeOfRow 2 := by decide +kernel
theorem sel_Ss_shadeOfRow : Cond.selects R_Ss y_Ss_shadeOfRow y_Ss_shadeOfRow ∈ wW := wW_s (by decide +kernel) (by decide +kernel)
theorem hd_Bx_shadeThrownOnRow : hdOf y_Bx_shadeThrownOnRow 3 := by decide +kernel
theorem sel_Bx_shadeThrownOnRow : Cond.selects R_Bx y_Bx_shadeThrownOnRow y_Bx_shadeThrownOnRow ∈ wW := w_316
theorem hd_Bx_spansLine : hdOf y_Bx_spansLine 1 := by decide +kernel
theorem sel_Bx_spansLine : Cond.selects R_Bx y_Bx_spansLine y_Bx_spansLine ∈ wW := wW_s (by decide +kernel) (by decide +kernel)
theorem hd_Mt_abs : hdOf y_Mt_abs 1 := by decide +kernel
theorem hd_Bx_nearest : hdOf y_Bx_nearest 3 := by decide +kernel
theorem sel_Bx_nearest : Cond.selects R_Bx y_Bx_nearest y_Bx_nearest ∈ wW := wW_s (by decide +kernel) (by decide +kernel)
theorem hd_Bx_farthest : hdOf y_Bx_farthest 3 := by decide +kernel
theorem sel_Bx_farthest : Cond.selects R_Bx y_Bx_farthest y_Bx_farthest ∈ wW := wW_s (by decide +kernel) (by decide +kernel)
theorem hd_Bx_floorOver : hdOf y_Bx_floorOver 2 := by decide +kernel
theorem hd_Mt_floorDiv : hdOf y_Mt_floorDiv 2 := by decide +kernel
theorem hd_Ss_cellsBetween : hdOf y_Ss_cellsBetween 2 := by decide +kernel
theorem hd_Ss_hasCell : hdOf y_Ss_hasCell 2 := by decide +kernel
theorem hd_Lw_shadows : hdOf y_Lw_shadows 4 := by decide +kernel
theorem hd_Ss_shadows : hdOf y_Ss_shadows 2 := by decide +kernel
theorem sel_Ss_shadows : Cond.selects R_Ss y_Ss_shadows y_Ss_shadows ∈ wW := w_353
theorem hd_Lo_bitCount : hdOf y_Lo_bitCount 1 := by decide +kernel
theorem hd_Lw_dark : hdOf y_Lw_dark 4 := by decide +kernel
theorem hd_Ss_dark : hdOf y_Ss_dark 2 := by decide +kernel
theorem sel_Ss_dark : Cond.selects R_Ss y_Ss_dark y_Ss_dark ∈ wW := w_366
theorem hd_Ss_knownWindow : hdOf y_Ss_knownWindow 1 := by decide +kernel
theorem sel_Ss_knownWindow : Cond.selects R_Ss y_Ss_knownWindow y_Ss_knownWindow ∈ wW := wW_s (by decide +kernel) (by decide +kernel)
theorem hd_Ss_darkCells : hdOf y_Ss_darkCells 3 := by decide +kernel
theorem sel_Ss_darkCells : Cond.selects R_Ss y_Ss_darkCells y_Ss_darkCells ∈ wW := wW_s (by decide +kernel) (by decide +kernel)
theorem hd_Wn_columns : hdOf y_Wn_columns 0 := by decide +kernel
theorem sel_Wn_columns : Cond.selects R_Wn y_Wn_columns y_Wn_columns ∈ wW := w_379
theorem hd_Lw_cell_c : hdOf y_Lw_cell_c 4 := by decide +kernel
theorem hd_Ss_cell : hdOf y_Ss_cell 2 := by decide +kernel
theorem sel_Ss_cell : Cond.selects R_Ss y_Ss_cell y_Ss_cell ∈ wW := w_387
theorem hd_Ss_cellWithBefore : hdOf y_Ss_cellWithBefore 2 := by decide +kernel
theorem hd_Lw_lit : hdOf y_Lw_lit 4 := by decide +kernel
theorem hd_Ss_lit : hdOf y_Ss_lit 2 := by decide +kernel
theorem sel_Ss_lit : Cond.selects R_Ss y_Ss_lit y_Ss_lit ∈ wW := w_398
theorem hd_Ss_lightOfHour : hdOf y_Ss_lightOfHour 2 := by decide +kernel
theorem sel_Ss_lightOfHour : Cond.selects R_Ss y_Ss_lightOfHour y_Ss_lightOfHour ∈ wW := wW_s (by decide +kernel) (by decide +kernel)
theorem hd_Wn_cellCount : hdOf y_Wn_cellCount 0 := by decide +kernel
theorem sel_Wn_cellCount : Cond.selects R_Wn y_Wn_cellCount y_Wn_cellCount ∈ wW := w_406
theorem hd_Lw_brightest : hdOf y_Lw_brightest 3 := by decide +kernel
theorem hd_Ss_brightest : hdOf y_Ss_brightest 1 := by decide +kernel
theorem sel_Ss_brightest : Cond.selects R_Ss y_Ss_brightest y_Ss_brightest ∈ wW := w_413
theorem hd_Lw_ledge : hdOf y_Lw_ledge 5 := by decide +kernel
theorem hd_Ss_ledge : hdOf y_Ss_ledge 3 := by decide +kernel
theorem sel_Ss_ledge : Cond.selects R_Ss y_Ss_ledge y_Ss_ledge ∈ wW := w_420
theorem hd_Wn_ledgeOf : hdOf y_Wn_ledgeOf 1 := by decide +kernel
theorem sel_Wn_ledgeOf : Cond.selects R_Wn y_Wn_ledgeOf y_Wn_ledgeOf ∈ wW := w_425
theorem hd_Lw_deep : hdOf y_Lw_deep 5 := by decide +kernel
theorem hd_Ss_deep : hdOf y_Ss_deep 3 := by decide +kernel
theorem sel_Ss_deep : Cond.selects R_Ss y_Ss_deep y_Ss_deep ∈ wW := w_434
theorem hd_Ss_deepestTooLittle : hdOf y_Ss_deepestTooLittle 3 := by decide +kernel
theorem sel_Ss_deepestTooLittle : Cond.selects R_Ss y_Ss_deepestTooLittle y_Ss_deepestTooLittle ∈ wW := wW_s (by decide +kernel) (by decide +kernel)
theorem hd_Lw_worst : hdOf y_Lw_worst 3 := by decide +kernel
theorem hd_Ss_worst : hdOf y_Ss_worst 1 := by decide +kernel
theorem sel_Ss_worst : Cond.selects R_Ss y_Ss_worst y_Ss_worst ∈ wW := w_446
theorem hd_Ss_addTaken : hdOf y_Ss_addTaken 2 := by decide +kernel
theorem sel_Ss_addTaken : Cond.selects R_Ss y_Ss_addTaken y_Ss_addTaken ∈ wW := wW_s (by decide +kernel) (by decide +kernel)
theorem hd_Ss_shadeOfOneBoxOnly : hdOf y_Ss_shadeOfOneBoxOnly 2 := by decide +kernel
theorem sel_Ss_shadeOfOneBoxOnly : Cond.selects R_Ss y_Ss_shadeOfOneBoxOnly y_Ss_shadeOfOneBoxOnly ∈ wW := wW_s (by decide +kernel) (by decide +kernel)
theorem hd_Md_init : hdOf y_Md_init 2 := by decide +kernel
theorem hd_Md_thrown : hdOf y_Md_thrown 0 := by decide +kernel
theorem sel_Md_thrown : Cond.selects R_Md y_Md_thrown y_Md_thrown ∈ wW := w_509
theorem hd_Md_box : hdOf y_Md_box 6 := by decide +kernel
theorem sel_Md_box : Cond.selects R_Md y_Md_box y_Md_box ∈ wW := w_513
theorem hd_Md_isBox : hdOf y_Md_isBox 6 := by decide +kernel
theorem hd_Md_isIn : hdOf y_Md_isIn 3 := by decide +kernel
theorem hd_Md_lay : hdOf y_Md_lay 7 := by decide +kernel
theorem sel_Md_lay : Cond.selects R_Md y_Md_lay y_Md_lay ∈ wW := wW_s (by decide +kernel) (by decide +kernel)
theorem hd_Md_move : hdOf y_Md_move 4 := by decide +kernel
theorem sel_Md_move : Cond.selects R_Md y_Md_move y_Md_move ∈ wW := w_527
theorem hd_Md_noBox : hdOf y_Md_noBox 1 := by decide +kernel
theorem sel_Md_noBox : Cond.selects R_Md y_Md_noBox y_Md_noBox ∈ wW := wW_s (by decide +kernel) (by decide +kernel)
theorem hd_Md_there : hdOf y_Md_there 2 := by decide +kernel
theorem sel_Md_there : Cond.selects R_Md y_Md_there y_Md_there ∈ wW := w_535
theorem hd_Md_sun : hdOf y_Md_sun 4 := by decide +kernel
theorem sel_Md_sun : Cond.selects R_Md y_Md_sun y_Md_sun ∈ wW := w_539
theorem hd_Md_noHour : hdOf y_Md_noHour 1 := by decide +kernel
theorem hd_Md_light : hdOf y_Md_light 2 := by decide +kernel
theorem sel_Md_light : Cond.selects R_Md y_Md_light y_Md_light ∈ wW := w_546
theorem hd_Md_window : hdOf y_Md_window 4 := by decide +kernel
theorem sel_Md_window : Cond.selects R_Md y_Md_window y_Md_window ∈ wW := w_550
theorem hd_Md_shadow : hdOf y_Md_shadow 3 := by decide +kernel
theorem sel_Md_shadow : Cond.selects R_Md y_Md_shadow y_Md_shadow ∈ wW := w_554
theorem hd_Md_check : hdOf y_Md_check 2 := by decide +kernel
theorem sel_Md_check : Cond.selects R_Md y_Md_check y_Md_check ∈ wW := wW_s (by decide +kernel) (by decide +kernel)
theorem hd_Md_isDark : hdOf y_Md_isDark 5 := by decide +kernel
theorem sel_Md_isDark : Cond.selects R_Md y_Md_isDark y_Md_isDark ∈ wW := wW_s (by decide +kernel) (by decide +kernel)
theorem hd_Md_throwsOn : hdOf y_Md_throwsOn 4 := by decide +kernel
theorem sel_Md_throwsOn : Cond.selects R_Md y_Md_throwsOn y_Md_throwsOn ∈ wW := wW_s (by decide +kernel) (by decide +kernel)
theorem hd_Md_may : hdOf y_Md_may 4 := by decide +kernel
theorem sel_Md_may : Cond.selects R_Md y_Md_may y_Md_may ∈ wW := wW_s (by decide +kernel) (by decide +kernel)
theorem hd_Md_atLeast : hdOf y_Md_atLeast 2 := by decide +kernel
theorem sel_Md_atLeast : Cond.selects R_Md y_Md_atLeast y_Md_atLeast ∈ wW := wW_s (by decide +kernel) (by decide +kernel)
theorem hd_Md_atMost : hdOf y_Md_atMost 2 := by decide +kernel
theorem sel_Md_atMost : Cond.selects R_Md y_Md_atMost y_Md_atMost ∈ wW := wW_s (by decide +kernel) (by decide +kernel)
theorem hd_Md_shadows : hdOf y_Md_shadows 2 := by decide +kernel
theorem sel_Md_shadows : Cond.selects R_Md y_Md_shadows y_Md_shadows ∈ wW := w_583
theorem hd_Md_dark : hdOf y_Md_dark 2 := by decide +kernel
theorem sel_Md_dark : Cond.selects R_Md y_Md_dark y_Md_dark ∈ wW := w_587
theorem hd_Md_noWindow : hdOf y_Md_noWindow 1 := by decide +kernel
theorem sel_Md_noWindow : Cond.selects R_Md y_Md_noWindow y_Md_noWindow ∈ wW := wW_s (by decide +kernel) (by decide +kernel)
theorem hd_Md_darkOf : hdOf y_Md_darkOf 4 := by decide +kernel
theorem sel_Md_darkOf : Cond.selects R_Md y_Md_darkOf y_Md_darkOf ∈ wW := wW_s (by decide +kernel) (by decide +kernel)
theorem hd_Md_cell : hdOf y_Md_cell 2 := by decide +kernel
theorem sel_Md_cell : Cond.selects R_Md y_Md_cell y_Md_cell ∈ wW := w_599
theorem hd_Md_lit : hdOf y_Md_lit 2 := by decide +kernel
theorem sel_Md_lit : Cond.selects R_Md y_Md_lit y_Md_lit ∈ wW := w_603
theorem hd_Md_day : hdOf y_Md_day 2 := by decide +kernel
theorem sel_Md_day : Cond.selects R_Md y_Md_day y_Md_day ∈ wW := wW_s (by decide +kernel) (by decide +kernel)
theorem hd_Md_litIn : hdOf y_Md_litIn 3 := by decide +kernel
theorem sel_Md_litIn : Cond.selects R_Md y_Md_litIn y_Md_litIn ∈ wW := wW_s (by decide +kernel) (by decide +kernel)
theorem hd_Md_brightest : hdOf y_Md_brightest 1 := by decide +kernel
theorem sel_Md_brightest : Cond.selects R_Md y_Md_brightest y_Md_brightest ∈ wW := w_615
theorem hd_Md_ledge : hdOf y_Md_ledge 3 := by decide +kernel
theorem sel_Md_ledge : Cond.selects R_Md y_Md_ledge y_Md_ledge ∈ wW := w_619
theorem hd_Md_ledged : hdOf y_Md_ledged 3 := by decide +kernel
theorem sel_Md_ledged : Cond.selects R_Md y_Md_ledged y_Md_ledged ∈ wW := wW_s (by decide +kernel) (by decide +kernel)
theorem hd_Md_deep : hdOf y_Md_deep 3 := by decide +kernel
theorem sel_Md_deep : Cond.selects R_Md y_Md_deep y_Md_deep ∈ wW := w_627
theorem hd_Md_worst : hdOf y_Md_worst 1 := by decide +kernel
theorem sel_Md_worst : Cond.selects R_Md y_Md_worst y_Md_worst ∈ wW := w_631
theorem hd_Lw_law : hdOf y_Lw_law 1 := by decide +kernel
end
section
/-! contracts of the leaves, by program -/
set_option maxHeartbeats 4000000 in
set_option maxRecDepth 100000 in
theorem k_Bx_isAllowed (l : Launch) (D : va_G) (k : Nat → ClassId) (zb : Nat) (G : Nat → Option va_E) (x0 y0 z0 x1 y1 z1 : Int32) : Met l y_Bx_isAllowed (wM y_Bx_isAllowed c_Bx_isAllowed 6 (some .boolean)) ({ frames := 0, cells := 0, slots := 0, locals := 0 }) (gs_P D k zb G [.int x0, .int y0, .int z0, .int x1, .int y1, .int z1]) (gs_Q D zb (fun v G1 => v = some (.int (jc_allowed x0 y0 z0 x1 y1 z1)) ∧ G1 = G)) 0 0 (fun q : Nat => zb ≤ q) := by
  refine Met.ofW (cc := c_Bx_isAllowed) (maxL := 6) (ret := (some .boolean)) (by decide) rfl ?_
  intro p e s m args below meth c s₁ B hml hv
  obtain ⟨rfl, hG, hK, hX⟩ := hv
  have hx := B.exec
  have hb := B.bytes
  have hr := B.returns
  have hts := atoms_spec (ws := wM y_Bx_isAllowed c_Bx_isAllowed 6 (some .boolean)) B.pre
  have hw : ∀ w9 ∈ wW, w9.before ([.int x0, .int y0, .int z0, .int x1, .int y1, .int z1] : List Value).toArray s = true := fun w9 h9 => hts w9 (gi_in w9 h9)
  have hown : s.vm.findClass R_Bx = some m.cls := findClass_of_methodNamed B.named
  have hlocks := B.notSynchronized
  have E : gs_E p s m ([.int x0, .int y0, .int z0, .int x1, .int y1, .int z1] : List Value).toArray c c_Bx_isAllowed wW R_Bx := ⟨hx, hb, hw, hown⟩
  have hS : gs_S zb s.heap s.heap [] := va_S.rf
  have hl := lv_entry ([.int x0, .int y0, .int z0, .int x1, .int y1, .int z1]) (n := 6) (Nat.le_of_ble_eq_true rfl)
  rw [lg_entry_eq]
  generalize (lg_sl ([.int x0, .int y0, .int z0, .int x1, .int y1, .int z1]) ++ List.replicate (6 - (lg_sl ([.int x0, .int y0, .int z0, .int x1, .int y1, .int z1])).length) Slot.unset).toArray = ls at hl ⊢
  have hl : lv_has ls 6 [(0, .int x0), (1, .int y0), (2, .int z0), (3, .int x1), (4, .int y1), (5, .int z1)] := hl
  refine lv_bipush (v := (-100)) hx hb d_Bx_isAllowed_0 (by decide) ?_
  refine lv_iload_n hx hb d_Bx_isAllowed_2 rfl (lv_at hl 0 rfl) ?_
  refine lv_icmp_gt (tgt := 60) hx hb d_Bx_isAllowed_3 (by decide) (fun c_1 => ?_) (fun c_1 => ?_)
  · refine lv_iconst (v := 0) hx hb d_Bx_isAllowed_60 (by decide) ?_
    refine W.zret (v := 0) hx hb hr (by decide) (gs_end ⟨?_, rfl⟩ hG hS) hS.2.2 d_Bx_isAllowed_61
    simp only [jc_allowed, if_pos c_1]
  · refine lv_iload_n hx hb d_Bx_isAllowed_6 rfl (lv_at hl 0 rfl) ?_
    refine lv_iload_n hx hb d_Bx_isAllowed_7 rfl (lv_at hl 3 rfl) ?_
    refine lv_icmp_ge (tgt := 60) hx hb d_Bx_isAllowed_8 (by decide) (fun c_2 => ?_) (fun c_2 => ?_)
    · refine lv_iconst (v := 0) hx hb d_Bx_isAllowed_60 (by decide) ?_
      refine W.zret (v := 0) hx hb hr (by decide) (gs_end ⟨?_, rfl⟩ hG hS) hS.2.2 d_Bx_isAllowed_61
      simp only [jc_allowed, if_neg c_1, if_pos c_2]
    · refine lv_iload_n hx hb d_Bx_isAllowed_11 rfl (lv_at hl 3 rfl) ?_
      refine lv_sipush (v := 200) hx hb d_Bx_isAllowed_12 (by decide) ?_
      refine lv_icmp_gt (tgt := 60) hx hb d_Bx_isAllowed_15 (by decide) (fun c_3 => ?_) (fun c_3 => ?_)
      · refine lv_iconst (v := 0) hx hb d_Bx_isAllowed_60 (by decide) ?_
        refine W.zret (v := 0) hx hb hr (by decide) (gs_end ⟨?_, rfl⟩ hG hS) hS.2.2 d_Bx_isAllowed_61
        simp only [jc_allowed, if_neg c_1, if_neg c_2, if_pos c_3]
      · refine lv_bipush (v := (-100)) hx hb d_Bx_isAllowed_18 (by decide) ?_
        refine lv_iload_n hx hb d_Bx_isAllowed_20 rfl (lv_at hl 1 rfl) ?_
        refine lv_icmp_gt (tgt := 60) hx hb d_Bx_isAllowed_21 (by decide) (fun c_4 => ?_) (fun c_4 => ?_)
        · refine lv_iconst (v := 0) hx hb d_Bx_isAllowed_60 (by decide) ?_
          refine W.zret (v := 0) hx hb hr (by decide) (gs_end ⟨?_, rfl⟩ hG hS) hS.2.2 d_Bx_isAllowed_61
          simp only [jc_allowed, if_neg c_1, if_neg c_2, if_neg c_3, if_pos c_4]
        · refine lv_iload_n hx hb d_Bx_isAllowed_24 rfl (lv_at hl 1 rfl) ?_
          refine lv_iload hx hb d_Bx_isAllowed_25 (lv_at hl 4 rfl) ?_
          refine lv_icmp_ge (tgt := 60) hx hb d_Bx_isAllowed_27 (by decide) (fun c_5 => ?_) (fun c_5 => ?_)
          · refine lv_iconst (v := 0) hx hb d_Bx_isAllowed_60 (by decide) ?_
            refine W.zret (v := 0) hx hb hr (by decide) (gs_end ⟨?_, rfl⟩ hG hS) hS.2.2 d_Bx_isAllowed_61
            simp only [jc_allowed, if_neg c_1, if_neg c_2, if_neg c_3, if_neg c_4, if_pos c_5]
          · refine lv_iload hx hb d_Bx_isAllowed_30 (lv_at hl 4 rfl) ?_
            refine lv_sipush (v := 200) hx hb d_Bx_isAllowed_32 (by decide) ?_
            refine lv_icmp_gt (tgt := 60) hx hb d_Bx_isAllowed_35 (by decide) (fun c_6 => ?_) (fun c_6 => ?_)
            · refine lv_iconst (v := 0) hx hb d_Bx_isAllowed_60 (by decide) ?_
              refine W.zret (v := 0) hx hb hr (by decide) (gs_end ⟨?_, rfl⟩ hG hS) hS.2.2 d_Bx_isAllowed_61
              simp only [jc_allowed, if_neg c_1, if_neg c_2, if_neg c_3, if_neg c_4, if_neg c_5, if_pos c_6]
            · refine lv_iconst (v := 0) hx hb d_Bx_isAllowed_38 (by decide) ?_
              refine lv_iload_n hx hb d_Bx_isAllowed_39 rfl (lv_at hl 2 rfl) ?_
              refine lv_icmp_gt (tgt := 60) hx hb d_Bx_isAllowed_40 (by decide) (fun c_7 => ?_) (fun c_7 => ?_)
              · refine lv_iconst (v := 0) hx hb d_Bx_isAllowed_60 (by decide) ?_
                refine W.zret (v := 0) hx hb hr (by decide) (gs_end ⟨?_, rfl⟩ hG hS) hS.2.2 d_Bx_isAllowed_61
                simp only [jc_allowed, if_neg c_1, if_neg c_2, if_neg c_3, if_neg c_4, if_neg c_5, if_neg c_6, if_pos c_7]
              · refine lv_iload_n hx hb d_Bx_isAllowed_43 rfl (lv_at hl 2 rfl) ?_
                refine lv_iload hx hb d_Bx_isAllowed_44 (lv_at hl 5 rfl) ?_
                refine lv_icmp_gt (tgt := 60) hx hb d_Bx_isAllowed_46 (by decide) (fun c_8 => ?_) (fun c_8 => ?_)
                · refine lv_iconst (v := 0) hx hb d_Bx_isAllowed_60 (by decide) ?_
                  refine W.zret (v := 0) hx hb hr (by decide) (gs_end ⟨?_, rfl⟩ hG hS) hS.2.2 d_Bx_isAllowed_61
                  simp only [jc_allowed, if_neg c_1, if_neg c_2, if_neg c_3, if_neg c_4, if_neg c_5, if_neg c_6, if_neg c_7, if_pos c_8]
                · refine lv_iload hx hb d_Bx_isAllowed_49 (lv_at hl 5 rfl) ?_
                  refine lv_bipush (v := 100) hx hb d_Bx_isAllowed_51 (by decide) ?_
                  refine lv_icmp_gt (tgt := 60) hx hb d_Bx_isAllowed_53 (by decide) (fun c_9 => ?_) (fun c_9 => ?_)
                  · refine lv_iconst (v := 0) hx hb d_Bx_isAllowed_60 (by decide) ?_
                    refine W.zret (v := 0) hx hb hr (by decide) (gs_end ⟨?_, rfl⟩ hG hS) hS.2.2 d_Bx_isAllowed_61
                    simp only [jc_allowed, if_neg c_1, if_neg c_2, if_neg c_3, if_neg c_4, if_neg c_5, if_neg c_6, if_neg c_7, if_neg c_8, if_pos c_9]
                  · refine lv_iconst (v := 1) hx hb d_Bx_isAllowed_56 (by decide) ?_
                    refine lv_goto (tgt := 61) hx hb d_Bx_isAllowed_57 (by decide) ?_
                    refine W.zret (v := 1) hx hb hr (by decide) (gs_end ⟨?_, rfl⟩ hG hS) hS.2.2 d_Bx_isAllowed_61
                    simp only [jc_allowed, if_neg c_1, if_neg c_2, if_neg c_3, if_neg c_4, if_neg c_5, if_neg c_6, if_neg c_7, if_neg c_8, if_neg c_9]
set_option maxHeartbeats 4000000 in
set_option maxRecDepth 100000 in
theorem k_Hr_hasSun (l : Launch) (D : va_G) (k : Nat → ClassId) (zb : Nat) (G : Nat → Option va_E) (a1 : Nat) (X Y Z am : Int32) (hb1 : G a1 = some (.inr (1, [.int X, .int Y, .int Z, .int am]))) : Met l y_Hr_hasSun (wM y_Hr_hasSun c_Hr_hasSun 1 (some .boolean)) ({ frames := 0, cells := 0, slots := 0, locals := 0 }) (gs_P D k zb G [.ref a1]) (gs_Q D zb (fun v G1 => v = some (.int (jc_hasSun Z)) ∧ G1 = G)) 0 0 (fun q : Nat => zb ≤ q) := by
  refine Met.ofW (cc := c_Hr_hasSun) (maxL := 1) (ret := (some .boolean)) (by decide) rfl ?_
  intro p e s m args below meth c s₁ B hml hv
  obtain ⟨rfl, hG, hK, hX⟩ := hv
  have hx := B.exec
  have hb := B.bytes
  have hr := B.returns
  have hts := atoms_spec (ws := wM y_Hr_hasSun c_Hr_hasSun 1 (some .boolean)) B.pre
  have hw : ∀ w9 ∈ wW, w9.before ([.ref a1] : List Value).toArray s = true := fun w9 h9 => hts w9 (gi_in w9 h9)
  have hown : s.vm.findClass R_Hr = some m.cls := findClass_of_methodNamed B.named
  have hlocks := B.notSynchronized
  have E : gs_E p s m ([.ref a1] : List Value).toArray c c_Hr_hasSun wW R_Hr := ⟨hx, hb, hw, hown⟩
  have hS : gs_S zb s.heap s.heap [] := va_S.rf
  have hl := lv_entry ([.ref a1]) (n := 1) (Nat.le_of_ble_eq_true rfl)
  rw [lg_entry_eq]
  generalize (lg_sl ([.ref a1]) ++ List.replicate (1 - (lg_sl ([.ref a1])).length) Slot.unset).toArray = ls at hl ⊢
  have hl : lv_has ls 1 [(0, .ref a1)] := hl
  refine lv_aload_n hx hb d_Hr_hasSun_0 rfl (lv_at hl 0 rfl) ?_
  refine gs_get E hK.1 hG hb1 (C := R_Hr) (T := F_Hr) (N := 4) rfl i_Hr 2 (by decide) w_44 (v := .int Z) rfl d_Hr_hasSun_1 ?_
  refine lv_if_le (tgt := 11) hx hb d_Hr_hasSun_4 (by decide) (fun c_1 => ?_) (fun c_1 => ?_)
  · refine lv_iconst (v := 0) hx hb d_Hr_hasSun_11 (by decide) ?_
    refine W.zret (v := 0) hx hb hr (by decide) (gs_end ⟨?_, rfl⟩ hG hS) hS.2.2 d_Hr_hasSun_12
    simp only [jc_hasSun, if_pos c_1]
  · refine lv_iconst (v := 1) hx hb d_Hr_hasSun_7 (by decide) ?_
    refine lv_goto (tgt := 12) hx hb d_Hr_hasSun_8 (by decide) ?_
    refine W.zret (v := 1) hx hb hr (by decide) (gs_end ⟨?_, rfl⟩ hG hS) hS.2.2 d_Hr_hasSun_12
    simp only [jc_hasSun, if_neg c_1]
set_option maxHeartbeats 4000000 in
set_option maxRecDepth 100000 in
theorem k_Mt_floorDiv (l : Launch) (D : va_G) (k : Nat → ClassId) (zb : Nat) (G : Nat → Option va_E) (n d : Int32) (hd : ¬ d = 0) : Met l y_Mt_floorDiv (wM y_Mt_floorDiv c_Mt_floorDiv 3 (some .int)) ({ frames := 0, cells := 0, slots := 0, locals := 0 }) (gs_P D k zb G [.int n, .int d]) (gs_Q D zb (fun v G1 => v = some (.int (jc_fdiv n d)) ∧ G1 = G)) 0 0 (fun q : Nat => zb ≤ q) := by
  refine gs_ofWF (cc := c_Mt_floorDiv) (maxL := 3) (ret := (some .int)) (by decide +kernel) rfl ?_
  intro p e s m args below meth c s₁ B hml hv
  obtain ⟨rfl, hG, hK, hX⟩ := hv
  have hx := B.exec
  have hb := B.bytes
  have hr := B.returns
  have hts := atoms_spec (ws := wM y_Mt_floorDiv c_Mt_floorDiv 3 (some .int)) B.pre
  have hw : ∀ w9 ∈ wW, w9.before ([.int n, .int d] : List Value).toArray s = true := fun w9 h9 => hts w9 (gi_in w9 h9)
  have hown : s.vm.findClass R_Mt = some m.cls := findClass_of_methodNamed B.named
  have hlocks := B.notSynchronized
  have E : gs_E p s m ([.int n, .int d] : List Value).toArray c c_Mt_floorDiv wW R_Mt := ⟨hx, hb, hw, hown⟩
  have hS : gs_S zb s.heap s.heap [] := va_S.rf
  have hl := lv_entry ([.int n, .int d]) (n := 3) (Nat.le_of_ble_eq_true rfl)
  rw [lg_entry_eq]
  generalize (lg_sl ([.int n, .int d]) ++ List.replicate (3 - (lg_sl ([.int n, .int d])).length) Slot.unset).toArray = ls at hl ⊢
  have hl : lv_has ls 3 [(0, .int n), (1, .int d)] := hl
  refine lv_iload_n hx hb d_Mt_floorDiv_0 rfl (lv_at hl 0 rfl) ?_
  refine lv_iload_n hx hb d_Mt_floorDiv_1 rfl (lv_at hl 1 rfl) ?_
  refine lv_idiv hx hb d_Mt_floorDiv_2 (hd) ?_
  refine lv_topi (fun v_1 ev_1 => ?_)
  refine lv_istore_n (lv' := [(2, .int v_1), (0, .int n), (1, .int d)]) hx hb d_Mt_floorDiv_3 rfl hl (by decide) rfl (fun ls hl => ?_)
  refine lv_iload_n hx hb d_Mt_floorDiv_4 rfl (lv_at hl 1 rfl) ?_
  refine lv_iload_n hx hb d_Mt_floorDiv_5 rfl (lv_at hl 2 rfl) ?_
  refine lv_ixor hx hb d_Mt_floorDiv_6 ?_
  refine lv_if_ge (tgt := 21) hx hb d_Mt_floorDiv_7 (by decide) (fun c_2 => ?_) (fun c_2 => ?_)
  · refine lv_iload_n hx hb d_Mt_floorDiv_21 rfl (lv_at hl 0 rfl) ?_
    refine W.iret (v := v_1) hx hb hr (gs_end ⟨?_, rfl⟩ hG hS) hS.2.2 d_Mt_floorDiv_22
    subst ev_1
    simp only [jc_fdiv, if_pos c_2]
  · refine lv_iload_n hx hb d_Mt_floorDiv_10 rfl (lv_at hl 0 rfl) ?_
    refine lv_iload_n hx hb d_Mt_floorDiv_11 rfl (lv_at hl 2 rfl) ?_
    refine lv_imul hx hb d_Mt_floorDiv_12 ?_
    refine lv_iload_n hx hb d_Mt_floorDiv_13 rfl (lv_at hl 1 rfl) ?_
    refine lv_icmp_eq (tgt := 21) hx hb d_Mt_floorDiv_14 (by decide) (fun c_3 => ?_) (fun c_3 => ?_)
    · refine lv_iload_n hx hb d_Mt_floorDiv_21 rfl (lv_at hl 0 rfl) ?_
      refine W.iret (v := v_1) hx hb hr (gs_end ⟨?_, rfl⟩ hG hS) hS.2.2 d_Mt_floorDiv_22
      subst ev_1
      simp only [jc_fdiv, if_neg c_2, if_pos c_3]
    · refine lv_iload_n hx hb d_Mt_floorDiv_17 rfl (lv_at hl 0 rfl) ?_
      refine lv_iconst (v := 1) hx hb d_Mt_floorDiv_18 (by decide) ?_
      refine lv_isub hx hb d_Mt_floorDiv_19 ?_
      refine W.iret (v := (v_1 - 1)) hx hb hr (gs_end ⟨?_, rfl⟩ hG hS) hS.2.2 d_Mt_floorDiv_20
      subst ev_1
      simp only [jc_fdiv, if_neg c_2, if_neg c_3]
set_option maxHeartbeats 4000000 in
set_option maxRecDepth 100000 in
theorem k_Bx_floorOver (l : Launch) (D : va_G) (k : Nat → ClassId) (zb : Nat) (G : Nat → Option va_E) (n d : Int32) : Met l y_Bx_floorOver (wM y_Bx_floorOver c_Bx_floorOver 2 (some .int)) ({ frames := 1, cells := 0, slots := 0, locals := 22 }) (gs_P D k zb G [.int n, .int d]) (gs_Q D zb (fun v G1 => v = some (.int (jc_fover n d)) ∧ G1 = G)) 0 0 (fun q : Nat => zb ≤ q) := by
  refine Met.ofW (cc := c_Bx_floorOver) (maxL := 2) (ret := (some .int)) (by decide) rfl ?_
  intro p e s m args below meth c s₁ B hml hv
  obtain ⟨rfl, hG, hK, hX⟩ := hv
  have hx := B.exec
  have hb := B.bytes
  have hr := B.returns
  have hts := atoms_spec (ws := wM y_Bx_floorOver c_Bx_floorOver 2 (some .int)) B.pre
  have hw : ∀ w9 ∈ wW, w9.before ([.int n, .int d] : List Value).toArray s = true := fun w9 h9 => hts w9 (gi_in w9 h9)
  have hown : s.vm.findClass R_Bx = some m.cls := findClass_of_methodNamed B.named
  have hlocks := B.notSynchronized
  have E : gs_E p s m ([.int n, .int d] : List Value).toArray c c_Bx_floorOver wW R_Bx := ⟨hx, hb, hw, hown⟩
  have hS : gs_S zb s.heap s.heap [] := va_S.rf
  have hl := lv_entry ([.int n, .int d]) (n := 2) (Nat.le_of_ble_eq_true rfl)
  rw [lg_entry_eq]
  generalize (lg_sl ([.int n, .int d]) ++ List.replicate (2 - (lg_sl ([.int n, .int d])).length) Slot.unset).toArray = ls at hl ⊢
  have hl : lv_has ls 2 [(0, .int n), (1, .int d)] := hl
  refine lv_iload_n hx hb d_Bx_floorOver_0 rfl (lv_at hl 1 rfl) ?_
  refine lv_if_le (tgt := 12) hx hb d_Bx_floorOver_1 (by decide) (fun c_1 => ?_) (fun c_1 => ?_)
  · refine lv_iconst (v := 0) hx hb d_Bx_floorOver_12 (by decide) ?_
    refine W.iret (v := 0) hx hb hr (gs_end ⟨?_, rfl⟩ hG hS) hS.2.2 d_Bx_floorOver_13
    simp only [jc_fover, if_pos c_1]
  · refine lv_iload_n hx hb d_Bx_floorOver_4 rfl (lv_at hl 0 rfl) ?_
    refine lv_iload_n hx hb d_Bx_floorOver_5 rfl (lv_at hl 1 rfl) ?_
    refine gs_St (As := [.int n, .int d]) (rest := []) (k_Mt_floorDiv l D k zb G n d (fun h => c_1 (by rw [h]; decide))) E hml hl.1 (cg_S hw w_341 w_339 w_2 w_340 hd_Mt_floorDiv ⟨by exact Nat.le_of_ble_eq_true rfl, by exact Nat.le_of_ble_eq_true rfl⟩) hG hK hX hS rfl rfl (by exact Nat.le_of_ble_eq_true rfl) d_Bx_floorOver_6 ⟨by exact Nat.le_of_ble_eq_true rfl, by exact Nat.le_of_ble_eq_true rfl⟩ (fun v G1 H locs hp hG hS => ?_)
    obtain ⟨hv1, hG1⟩ := hp
    subst hv1
    rw [hG1] at hG
    refine W.eq (g2 := F0 m 9 ls [.int (jc_fdiv n d)]) rfl ?_
    refine lv_goto (tgt := 13) hx hb d_Bx_floorOver_9 (by decide) ?_
    refine W.iret (v := (jc_fdiv n d)) hx hb hr (gs_end ⟨?_, rfl⟩ hG hS) hS.2.2 d_Bx_floorOver_13
    simp only [jc_fover, if_neg c_1]
set_option maxHeartbeats 4000000 in
set_option maxRecDepth 100000 in
theorem k_Bx_spansLine (l : Launch) (D : va_G) (k : Nat → ClassId) (zb : Nat) (G : Nat → Option va_E) (a0 : Nat) (x0 y0 z0 x1 y1 z1 pr : Int32) (tm : Int32) (hb0 : G a0 = some (.inr (0, [.int x0, .int y0, .int z0, .int x1, .int y1, .int z1, .int pr]))) : Met l y_Bx_spansLine (wM y_Bx_spansLine c_Bx_spansLine 2 (some .boolean)) ({ frames := 0, cells := 0, slots := 0, locals := 0 }) (gs_P D k zb G [.ref a0, .int tm]) (gs_Q D zb (fun v G1 => v = some (.int (jc_spans y0 y1 tm)) ∧ G1 = G)) 0 0 (fun q : Nat => zb ≤ q) := by
  refine Met.ofW (cc := c_Bx_spansLine) (maxL := 2) (ret := (some .boolean)) (by decide) rfl ?_
  intro p e s m args below meth c s₁ B hml hv
  obtain ⟨rfl, hG, hK, hX⟩ := hv
  have hx := B.exec
  have hb := B.bytes
  have hr := B.returns
  have hts := atoms_spec (ws := wM y_Bx_spansLine c_Bx_spansLine 2 (some .boolean)) B.pre
  have hw : ∀ w9 ∈ wW, w9.before ([.ref a0, .int tm] : List Value).toArray s = true := fun w9 h9 => hts w9 (gi_in w9 h9)
  have hown : s.vm.findClass R_Bx = some m.cls := findClass_of_methodNamed B.named
  have hlocks := B.notSynchronized
  have E : gs_E p s m ([.ref a0, .int tm] : List Value).toArray c c_Bx_spansLine wW R_Bx := ⟨hx, hb, hw, hown⟩
  have hS : gs_S zb s.heap s.heap [] := va_S.rf
  have hl := lv_entry ([.ref a0, .int tm]) (n := 2) (Nat.le_of_ble_eq_true rfl)
  rw [lg_entry_eq]
  generalize (lg_sl ([.ref a0, .int tm]) ++ List.replicate (2 - (lg_sl ([.ref a0, .int tm])).length) Slot.unset).toArray = ls at hl ⊢
  have hl : lv_has ls 2 [(0, .ref a0), (1, .int tm)] := hl
  refine lv_iconst (v := 2) hx hb d_Bx_spansLine_0 (by decide) ?_
  refine lv_aload_n hx hb d_Bx_spansLine_1 rfl (lv_at hl 0 rfl) ?_
  refine gs_get E hK.1 hG hb0 (C := R_Bx) (T := F_Bx) (N := 7) rfl i_Bx 1 (by decide) w_192 (v := .int y0) rfl d_Bx_spansLine_2 ?_
  refine lv_imul hx hb d_Bx_spansLine_5 ?_
  refine lv_iload_n hx hb d_Bx_spansLine_6 rfl (lv_at hl 1 rfl) ?_
  refine lv_icmp_gt (tgt := 24) hx hb d_Bx_spansLine_7 (by decide) (fun c_1 => ?_) (fun c_1 => ?_)
  · refine lv_iconst (v := 0) hx hb d_Bx_spansLine_24 (by decide) ?_
    refine W.zret (v := 0) hx hb hr (by decide) (gs_end ⟨?_, rfl⟩ hG hS) hS.2.2 d_Bx_spansLine_25
    simp only [jc_spans, if_pos c_1]
  · refine lv_iload_n hx hb d_Bx_spansLine_10 rfl (lv_at hl 1 rfl) ?_
    refine lv_iconst (v := 2) hx hb d_Bx_spansLine_11 (by decide) ?_
    refine lv_aload_n hx hb d_Bx_spansLine_12 rfl (lv_at hl 0 rfl) ?_
    refine gs_get E hK.1 hG hb0 (C := R_Bx) (T := F_Bx) (N := 7) rfl i_Bx 4 (by decide) w_195 (v := .int y1) rfl d_Bx_spansLine_13 ?_
    refine lv_imul hx hb d_Bx_spansLine_16 ?_
    refine lv_icmp_gt (tgt := 24) hx hb d_Bx_spansLine_17 (by decide) (fun c_2 => ?_) (fun c_2 => ?_)
    · refine lv_iconst (v := 0) hx hb d_Bx_spansLine_24 (by decide) ?_
      refine W.zret (v := 0) hx hb hr (by decide) (gs_end ⟨?_, rfl⟩ hG hS) hS.2.2 d_Bx_spansLine_25
      simp only [jc_spans, if_neg c_1, if_pos c_2]
    · refine lv_iconst (v := 1) hx hb d_Bx_spansLine_20 (by decide) ?_
      refine lv_goto (tgt := 25) hx hb d_Bx_spansLine_21 (by decide) ?_
      refine W.zret (v := 1) hx hb hr (by decide) (gs_end ⟨?_, rfl⟩ hG hS) hS.2.2 d_Bx_spansLine_25
      simp only [jc_spans, if_neg c_1, if_neg c_2]
set_option maxHeartbeats 4000000 in
set_option maxRecDepth 100000 in
theorem k_Bx_nearest (l : Launch) (D : va_G) (k : Nat → ClassId) (zb : Nat) (G : Nat → Option va_E) (a0 : Nat) (x0 y0 z0 x1 y1 z1 pr : Int32) (a1 : Nat) (X Y Z am : Int32) (tm sc : Int32) (hb0 : G a0 = some (.inr (0, [.int x0, .int y0, .int z0, .int x1, .int y1, .int z1, .int pr]))) (hb1 : G a1 = some (.inr (1, [.int X, .int Y, .int Z, .int am]))) : Met l y_Bx_nearest (wM y_Bx_nearest c_Bx_nearest 5 (some .int)) ({ frames := 1, cells := 0, slots := 0, locals := 21 }) (gs_P D k zb G [.ref a0, .int tm, .ref a1, .int sc]) (gs_Q D zb (fun v G1 => v = some (.int (jc_near y0 z0 y1 Y Z tm sc)) ∧ G1 = G)) 0 0 (fun q : Nat => zb ≤ q) := by
  refine Met.ofW (cc := c_Bx_nearest) (maxL := 5) (ret := (some .int)) (by decide) rfl ?_
  intro p e s m args below meth c s₁ B hml hv
  obtain ⟨rfl, hG, hK, hX⟩ := hv
  have hx := B.exec
  have hb := B.bytes
  have hr := B.returns
  have hts := atoms_spec (ws := wM y_Bx_nearest c_Bx_nearest 5 (some .int)) B.pre
  have hw : ∀ w9 ∈ wW, w9.before ([.ref a0, .int tm, .ref a1, .int sc] : List Value).toArray s = true := fun w9 h9 => hts w9 (gi_in w9 h9)
  have hown : s.vm.findClass R_Bx = some m.cls := findClass_of_methodNamed B.named
  have hlocks := B.notSynchronized
  have E : gs_E p s m ([.ref a0, .int tm, .ref a1, .int sc] : List Value).toArray c c_Bx_nearest wW R_Bx := ⟨hx, hb, hw, hown⟩
  have hS : gs_S zb s.heap s.heap [] := va_S.rf
  have hl := lv_entry ([.ref a0, .int tm, .ref a1, .int sc]) (n := 5) (Nat.le_of_ble_eq_true rfl)
  rw [lg_entry_eq]
  generalize (lg_sl ([.ref a0, .int tm, .ref a1, .int sc]) ++ List.replicate (5 - (lg_sl ([.ref a0, .int tm, .ref a1, .int sc])).length) Slot.unset).toArray = ls at hl ⊢
  have hl : lv_has ls 5 [(0, .ref a0), (1, .int tm), (2, .ref a1), (3, .int sc)] := hl
  refine lv_aload_n hx hb d_Bx_nearest_0 rfl (lv_at hl 0 rfl) ?_
  refine gs_get E hK.1 hG hb0 (C := R_Bx) (T := F_Bx) (N := 7) rfl i_Bx 2 (by decide) w_193 (v := .int z0) rfl d_Bx_nearest_1 ?_
  refine lv_iload_n hx hb d_Bx_nearest_4 rfl (lv_at hl 3 rfl) ?_
  refine lv_imul hx hb d_Bx_nearest_5 ?_
  refine lv_topi (fun v_1 ev_1 => ?_)
  refine lv_istore (lv' := [(4, .int v_1), (0, .ref a0), (1, .int tm), (2, .ref a1), (3, .int sc)]) hx hb d_Bx_nearest_6 hl (by decide) rfl (fun ls hl => ?_)
  refine lv_aload_n hx hb d_Bx_nearest_8 rfl (lv_at hl 3 rfl) ?_
  refine gs_get E hK.1 hG hb1 (C := R_Hr) (T := F_Hr) (N := 4) rfl i_Hr 1 (by decide) w_42 (v := .int Y) rfl d_Bx_nearest_9 ?_
  refine lv_if_le (tgt := 38) hx hb d_Bx_nearest_12 (by decide) (fun c_2 => ?_) (fun c_2 => ?_)
  · refine lv_aload_n hx hb d_Bx_nearest_38 rfl (lv_at hl 3 rfl) ?_
    refine gs_get E hK.1 hG hb1 (C := R_Hr) (T := F_Hr) (N := 4) rfl i_Hr 1 (by decide) w_42 (v := .int Y) rfl d_Bx_nearest_39 ?_
    refine lv_if_ge (tgt := 65) hx hb d_Bx_nearest_42 (by decide) (fun c_3 => ?_) (fun c_3 => ?_)
    · refine lv_iload hx hb d_Bx_nearest_65 (lv_at hl 0 rfl) ?_
      refine W.iret (v := v_1) hx hb hr (gs_end ⟨?_, rfl⟩ hG hS) hS.2.2 d_Bx_nearest_67
      subst ev_1
      simp only [jc_near, if_pos c_2, if_pos c_3]
    · refine lv_iload hx hb d_Bx_nearest_45 (lv_at hl 0 rfl) ?_
      refine lv_iconst (v := 2) hx hb d_Bx_nearest_47 (by decide) ?_
      refine lv_aload_n hx hb d_Bx_nearest_48 rfl (lv_at hl 1 rfl) ?_
      refine gs_get E hK.1 hG hb0 (C := R_Bx) (T := F_Bx) (N := 7) rfl i_Bx 1 (by decide) w_192 (v := .int y0) rfl d_Bx_nearest_49 ?_
      refine lv_imul hx hb d_Bx_nearest_52 ?_
      refine lv_iload_n hx hb d_Bx_nearest_53 rfl (lv_at hl 2 rfl) ?_
      refine lv_isub hx hb d_Bx_nearest_54 ?_
      refine lv_aload_n hx hb d_Bx_nearest_55 rfl (lv_at hl 3 rfl) ?_
      refine gs_get E hK.1 hG hb1 (C := R_Hr) (T := F_Hr) (N := 4) rfl i_Hr 2 (by decide) w_45 (v := .int Z) rfl d_Bx_nearest_56 ?_
      refine lv_imul hx hb d_Bx_nearest_59 ?_
      refine va_mmax hx hb (hml.trans hl.1.symm) hown (hw _ w_330) (hw _ w_31) (hw _ w_2) (hw _ w_32) (by exact Nat.le_of_ble_eq_true rfl) (by exact Nat.le_of_ble_eq_true rfl) (by exact Nat.zero_le _) (by exact Nat.zero_le _) d_Bx_nearest_60 ?_
      refine W.eq (g2 := F0 m 63 ls [.int (jc_max v_1 (((2 * y0) - tm) * Z))]) rfl ?_
      refine lv_topi (fun v_4 ev_4 => ?_)
      refine lv_istore (lv' := [(4, .int v_4), (0, .ref a0), (1, .int tm), (2, .ref a1), (3, .int sc)]) hx hb d_Bx_nearest_63 hl (by decide) rfl (fun ls hl => ?_)
      refine lv_iload hx hb d_Bx_nearest_65 (lv_at hl 0 rfl) ?_
      refine W.iret (v := v_4) hx hb hr (gs_end ⟨?_, rfl⟩ hG hS) hS.2.2 d_Bx_nearest_67
      subst ev_4
      subst ev_1
      simp only [jc_near, if_pos c_2, if_neg c_3]
  · refine lv_iload hx hb d_Bx_nearest_15 (lv_at hl 0 rfl) ?_
    refine lv_iload_n hx hb d_Bx_nearest_17 rfl (lv_at hl 2 rfl) ?_
    refine lv_iconst (v := 2) hx hb d_Bx_nearest_18 (by decide) ?_
    refine lv_aload_n hx hb d_Bx_nearest_19 rfl (lv_at hl 1 rfl) ?_
    refine gs_get E hK.1 hG hb0 (C := R_Bx) (T := F_Bx) (N := 7) rfl i_Bx 4 (by decide) w_195 (v := .int y1) rfl d_Bx_nearest_20 ?_
    refine lv_imul hx hb d_Bx_nearest_23 ?_
    refine lv_isub hx hb d_Bx_nearest_24 ?_
    refine lv_aload_n hx hb d_Bx_nearest_25 rfl (lv_at hl 3 rfl) ?_
    refine gs_get E hK.1 hG hb1 (C := R_Hr) (T := F_Hr) (N := 4) rfl i_Hr 2 (by decide) w_45 (v := .int Z) rfl d_Bx_nearest_26 ?_
    refine lv_imul hx hb d_Bx_nearest_29 ?_
    refine va_mmax hx hb (hml.trans hl.1.symm) hown (hw _ w_330) (hw _ w_31) (hw _ w_2) (hw _ w_32) (by exact Nat.le_of_ble_eq_true rfl) (by exact Nat.le_of_ble_eq_true rfl) (by exact Nat.zero_le _) (by exact Nat.zero_le _) d_Bx_nearest_30 ?_
    refine W.eq (g2 := F0 m 33 ls [.int (jc_max v_1 ((tm - (2 * y1)) * Z))]) rfl ?_
    refine lv_topi (fun v_5 ev_5 => ?_)
    refine lv_istore (lv' := [(4, .int v_5), (0, .ref a0), (1, .int tm), (2, .ref a1), (3, .int sc)]) hx hb d_Bx_nearest_33 hl (by decide) rfl (fun ls hl => ?_)
    refine lv_goto (tgt := 65) hx hb d_Bx_nearest_35 (by decide) ?_
    refine lv_iload hx hb d_Bx_nearest_65 (lv_at hl 0 rfl) ?_
    refine W.iret (v := v_5) hx hb hr (gs_end ⟨?_, rfl⟩ hG hS) hS.2.2 d_Bx_nearest_67
    subst ev_5
    subst ev_1
    simp only [jc_near, if_neg c_2]
set_option maxHeartbeats 4000000 in
set_option maxRecDepth 100000 in
theorem k_Bx_farthest (l : Launch) (D : va_G) (k : Nat → ClassId) (zb : Nat) (G : Nat → Option va_E) (a0 : Nat) (x0 y0 z0 x1 y1 z1 pr : Int32) (a1 : Nat) (X Y Z am : Int32) (tm sc : Int32) (hb0 : G a0 = some (.inr (0, [.int x0, .int y0, .int z0, .int x1, .int y1, .int z1, .int pr]))) (hb1 : G a1 = some (.inr (1, [.int X, .int Y, .int Z, .int am]))) : Met l y_Bx_farthest (wM y_Bx_farthest c_Bx_farthest 5 (some .int)) ({ frames := 1, cells := 0, slots := 0, locals := 21 }) (gs_P D k zb G [.ref a0, .int tm, .ref a1, .int sc]) (gs_Q D zb (fun v G1 => v = some (.int (jc_far y0 y1 z1 Y Z tm sc)) ∧ G1 = G)) 0 0 (fun q : Nat => zb ≤ q) := by
  refine Met.ofW (cc := c_Bx_farthest) (maxL := 5) (ret := (some .int)) (by decide) rfl ?_
  intro p e s m args below meth c s₁ B hml hv
  obtain ⟨rfl, hG, hK, hX⟩ := hv
  have hx := B.exec
  have hb := B.bytes
  have hr := B.returns
  have hts := atoms_spec (ws := wM y_Bx_farthest c_Bx_farthest 5 (some .int)) B.pre
  have hw : ∀ w9 ∈ wW, w9.before ([.ref a0, .int tm, .ref a1, .int sc] : List Value).toArray s = true := fun w9 h9 => hts w9 (gi_in w9 h9)
  have hown : s.vm.findClass R_Bx = some m.cls := findClass_of_methodNamed B.named
  have hlocks := B.notSynchronized
  have E : gs_E p s m ([.ref a0, .int tm, .ref a1, .int sc] : List Value).toArray c c_Bx_farthest wW R_Bx := ⟨hx, hb, hw, hown⟩
  have hS : gs_S zb s.heap s.heap [] := va_S.rf
  have hl := lv_entry ([.ref a0, .int tm, .ref a1, .int sc]) (n := 5) (Nat.le_of_ble_eq_true rfl)
  rw [lg_entry_eq]
  generalize (lg_sl ([.ref a0, .int tm, .ref a1, .int sc]) ++ List.replicate (5 - (lg_sl ([.ref a0, .int tm, .ref a1, .int sc])).length) Slot.unset).toArray = ls at hl ⊢
  have hl : lv_has ls 5 [(0, .ref a0), (1, .int tm), (2, .ref a1), (3, .int sc)] := hl
  refine lv_aload_n hx hb d_Bx_farthest_0 rfl (lv_at hl 0 rfl) ?_
  refine gs_get E hK.1 hG hb0 (C := R_Bx) (T := F_Bx) (N := 7) rfl i_Bx 5 (by decide) w_196 (v := .int z1) rfl d_Bx_farthest_1 ?_
  refine lv_iload_n hx hb d_Bx_farthest_4 rfl (lv_at hl 3 rfl) ?_
  refine lv_imul hx hb d_Bx_farthest_5 ?_
  refine lv_topi (fun v_1 ev_1 => ?_)
  refine lv_istore (lv' := [(4, .int v_1), (0, .ref a0), (1, .int tm), (2, .ref a1), (3, .int sc)]) hx hb d_Bx_farthest_6 hl (by decide) rfl (fun ls hl => ?_)
  refine lv_aload_n hx hb d_Bx_farthest_8 rfl (lv_at hl 3 rfl) ?_
  refine gs_get E hK.1 hG hb1 (C := R_Hr) (T := F_Hr) (N := 4) rfl i_Hr 1 (by decide) w_42 (v := .int Y) rfl d_Bx_farthest_9 ?_
  refine lv_if_le (tgt := 38) hx hb d_Bx_farthest_12 (by decide) (fun c_2 => ?_) (fun c_2 => ?_)
  · refine lv_aload_n hx hb d_Bx_farthest_38 rfl (lv_at hl 3 rfl) ?_
    refine gs_get E hK.1 hG hb1 (C := R_Hr) (T := F_Hr) (N := 4) rfl i_Hr 1 (by decide) w_42 (v := .int Y) rfl d_Bx_farthest_39 ?_
    refine lv_if_ge (tgt := 65) hx hb d_Bx_farthest_42 (by decide) (fun c_3 => ?_) (fun c_3 => ?_)
    · refine lv_iload hx hb d_Bx_farthest_65 (lv_at hl 0 rfl) ?_
      refine W.iret (v := v_1) hx hb hr (gs_end ⟨?_, rfl⟩ hG hS) hS.2.2 d_Bx_farthest_67
      subst ev_1
      simp only [jc_far, if_pos c_2, if_pos c_3]
    · refine lv_iload hx hb d_Bx_farthest_45 (lv_at hl 0 rfl) ?_
      refine lv_iconst (v := 2) hx hb d_Bx_farthest_47 (by decide) ?_
      refine lv_aload_n hx hb d_Bx_farthest_48 rfl (lv_at hl 1 rfl) ?_
      refine gs_get E hK.1 hG hb0 (C := R_Bx) (T := F_Bx) (N := 7) rfl i_Bx 4 (by decide) w_195 (v := .int y1) rfl d_Bx_farthest_49 ?_
      refine lv_imul hx hb d_Bx_farthest_52 ?_
      refine lv_iload_n hx hb d_Bx_farthest_53 rfl (lv_at hl 2 rfl) ?_
      refine lv_isub hx hb d_Bx_farthest_54 ?_
      refine lv_aload_n hx hb d_Bx_farthest_55 rfl (lv_at hl 3 rfl) ?_
      refine gs_get E hK.1 hG hb1 (C := R_Hr) (T := F_Hr) (N := 4) rfl i_Hr 2 (by decide) w_45 (v := .int Z) rfl d_Bx_farthest_56 ?_
      refine lv_imul hx hb d_Bx_farthest_59 ?_
      refine va_mmin hx hb (hml.trans hl.1.symm) hown (hw _ w_335) (hw _ w_28) (hw _ w_2) (hw _ w_29) (by exact Nat.le_of_ble_eq_true rfl) (by exact Nat.le_of_ble_eq_true rfl) (by exact Nat.zero_le _) (by exact Nat.zero_le _) d_Bx_farthest_60 ?_
      refine W.eq (g2 := F0 m 63 ls [.int (jc_min v_1 (((2 * y1) - tm) * Z))]) rfl ?_
      refine lv_topi (fun v_4 ev_4 => ?_)
      refine lv_istore (lv' := [(4, .int v_4), (0, .ref a0), (1, .int tm), (2, .ref a1), (3, .int sc)]) hx hb d_Bx_farthest_63 hl (by decide) rfl (fun ls hl => ?_)
      refine lv_iload hx hb d_Bx_farthest_65 (lv_at hl 0 rfl) ?_
      refine W.iret (v := v_4) hx hb hr (gs_end ⟨?_, rfl⟩ hG hS) hS.2.2 d_Bx_farthest_67
      subst ev_4
      subst ev_1
      simp only [jc_far, if_pos c_2, if_neg c_3]
  · refine lv_iload hx hb d_Bx_farthest_15 (lv_at hl 0 rfl) ?_
    refine lv_iload_n hx hb d_Bx_farthest_17 rfl (lv_at hl 2 rfl) ?_
    refine lv_iconst (v := 2) hx hb d_Bx_farthest_18 (by decide) ?_
    refine lv_aload_n hx hb d_Bx_farthest_19 rfl (lv_at hl 1 rfl) ?_
    refine gs_get E hK.1 hG hb0 (C := R_Bx) (T := F_Bx) (N := 7) rfl i_Bx 1 (by decide) w_192 (v := .int y0) rfl d_Bx_farthest_20 ?_
    refine lv_imul hx hb d_Bx_farthest_23 ?_
    refine lv_isub hx hb d_Bx_farthest_24 ?_
    refine lv_aload_n hx hb d_Bx_farthest_25 rfl (lv_at hl 3 rfl) ?_
    refine gs_get E hK.1 hG hb1 (C := R_Hr) (T := F_Hr) (N := 4) rfl i_Hr 2 (by decide) w_45 (v := .int Z) rfl d_Bx_farthest_26 ?_
    refine lv_imul hx hb d_Bx_farthest_29 ?_
    refine va_mmin hx hb (hml.trans hl.1.symm) hown (hw _ w_335) (hw _ w_28) (hw _ w_2) (hw _ w_29) (by exact Nat.le_of_ble_eq_true rfl) (by exact Nat.le_of_ble_eq_true rfl) (by exact Nat.zero_le _) (by exact Nat.zero_le _) d_Bx_farthest_30 ?_
    refine W.eq (g2 := F0 m 33 ls [.int (jc_min v_1 ((tm - (2 * y0)) * Z))]) rfl ?_
    refine lv_topi (fun v_5 ev_5 => ?_)
    refine lv_istore (lv' := [(4, .int v_5), (0, .ref a0), (1, .int tm), (2, .ref a1), (3, .int sc)]) hx hb d_Bx_farthest_33 hl (by decide) rfl (fun ls hl => ?_)
    refine lv_goto (tgt := 65) hx hb d_Bx_farthest_35 (by decide) ?_
    refine lv_iload hx hb d_Bx_farthest_65 (lv_at hl 0 rfl) ?_
    refine W.iret (v := v_5) hx hb hr (gs_end ⟨?_, rfl⟩ hG hS) hS.2.2 d_Bx_farthest_67
    subst ev_5
    subst ev_1
    simp only [jc_far, if_neg c_2]
set_option maxHeartbeats 4000000 in
set_option maxRecDepth 100000 in
theorem k_Ss_cellsBetween (l : Launch) (D : va_G) (k : Nat → ClassId) (zb : Nat) (G : Nat → Option va_E) (f t : Int32) : Met l y_Ss_cellsBetween (wM y_Ss_cellsBetween c_Ss_cellsBetween 2 (some .long)) ({ frames := 0, cells := 0, slots := 0, locals := 0 }) (gs_P D k zb G [.int f, .int t]) (gs_Q D zb (fun v G1 => v = some (.long (jc_cells f t)) ∧ G1 = G)) 0 0 (fun q : Nat => zb ≤ q) := by
  refine Met.ofW (cc := c_Ss_cellsBetween) (maxL := 2) (ret := (some .long)) (by decide) rfl ?_
  intro p e s m args below meth c s₁ B hml hv
  obtain ⟨rfl, hG, hK, hX⟩ := hv
  have hx := B.exec
  have hb := B.bytes
  have hr := B.returns
  have hts := atoms_spec (ws := wM y_Ss_cellsBetween c_Ss_cellsBetween 2 (some .long)) B.pre
  have hw : ∀ w9 ∈ wW, w9.before ([.int f, .int t] : List Value).toArray s = true := fun w9 h9 => hts w9 (gi_in w9 h9)
  have hown : s.vm.findClass R_Ss = some m.cls := findClass_of_methodNamed B.named
  have hlocks := B.notSynchronized
  have E : gs_E p s m ([.int f, .int t] : List Value).toArray c c_Ss_cellsBetween wW R_Ss := ⟨hx, hb, hw, hown⟩
  have hS : gs_S zb s.heap s.heap [] := va_S.rf
  have hl := lv_entry ([.int f, .int t]) (n := 2) (Nat.le_of_ble_eq_true rfl)
  rw [lg_entry_eq]
  generalize (lg_sl ([.int f, .int t]) ++ List.replicate (2 - (lg_sl ([.int f, .int t])).length) Slot.unset).toArray = ls at hl ⊢
  have hl : lv_has ls 2 [(0, .int f), (1, .int t)] := hl
  refine lv_iload_n hx hb d_Ss_cellsBetween_0 rfl (lv_at hl 0 rfl) ?_
  refine lv_iload_n hx hb d_Ss_cellsBetween_1 rfl (lv_at hl 1 rfl) ?_
  refine lv_icmp_le (tgt := 7) hx hb d_Ss_cellsBetween_2 (by decide) (fun c_1 => ?_) (fun c_1 => ?_)
  · refine lv_lconst (v := 1) hx hb d_Ss_cellsBetween_7 (by decide) ?_
    refine lv_iload_n hx hb d_Ss_cellsBetween_8 rfl (lv_at hl 1 rfl) ?_
    refine lv_iload_n hx hb d_Ss_cellsBetween_9 rfl (lv_at hl 0 rfl) ?_
    refine lv_isub hx hb d_Ss_cellsBetween_10 ?_
    refine lv_iconst (v := 1) hx hb d_Ss_cellsBetween_11 (by decide) ?_
    refine lv_iadd hx hb d_Ss_cellsBetween_12 ?_
    refine lv_lshl hx hb d_Ss_cellsBetween_13 rfl ?_
    refine lv_lconst (v := 1) hx hb d_Ss_cellsBetween_14 (by decide) ?_
    refine lv_lsub hx hb d_Ss_cellsBetween_15 ?_
    refine lv_iload_n hx hb d_Ss_cellsBetween_16 rfl (lv_at hl 0 rfl) ?_
    refine lv_lshl hx hb d_Ss_cellsBetween_17 rfl ?_
    refine W.lret (v := (((1 <<< (((t - f) + 1).toInt64 &&& 63)) - 1) <<< (f.toInt64 &&& 63))) hx hb hr (gs_end ⟨?_, rfl⟩ hG hS) hS.2.2 d_Ss_cellsBetween_18
    simp only [jc_cells, if_pos c_1]
  · refine lv_lconst (v := 0) hx hb d_Ss_cellsBetween_5 (by decide) ?_
    refine W.lret (v := 0) hx hb hr (gs_end ⟨?_, rfl⟩ hG hS) hS.2.2 d_Ss_cellsBetween_6
    simp only [jc_cells, if_neg c_1]
set_option maxHeartbeats 4000000 in
set_option maxRecDepth 100000 in
theorem k_Ss_isWithin (l : Launch) (D : va_G) (k : Nat → ClassId) (zb : Nat) (G : Nat → Option va_E) (n a b : Int32) : Met l y_Ss_isWithin (wM y_Ss_isWithin c_Ss_isWithin 3 (some .boolean)) ({ frames := 0, cells := 0, slots := 0, locals := 0 }) (gs_P D k zb G [.int n, .int a, .int b]) (gs_Q D zb (fun v G1 => v = some (.int (jc_within n a b)) ∧ G1 = G)) 0 0 (fun q : Nat => zb ≤ q) := by
  refine Met.ofW (cc := c_Ss_isWithin) (maxL := 3) (ret := (some .boolean)) (by decide) rfl ?_
  intro p e s m args below meth c s₁ B hml hv
  obtain ⟨rfl, hG, hK, hX⟩ := hv
  have hx := B.exec
  have hb := B.bytes
  have hr := B.returns
  have hts := atoms_spec (ws := wM y_Ss_isWithin c_Ss_isWithin 3 (some .boolean)) B.pre
  have hw : ∀ w9 ∈ wW, w9.before ([.int n, .int a, .int b] : List Value).toArray s = true := fun w9 h9 => hts w9 (gi_in w9 h9)
  have hown : s.vm.findClass R_Ss = some m.cls := findClass_of_methodNamed B.named
  have hlocks := B.notSynchronized
  have E : gs_E p s m ([.int n, .int a, .int b] : List Value).toArray c c_Ss_isWithin wW R_Ss := ⟨hx, hb, hw, hown⟩
  have hS : gs_S zb s.heap s.heap [] := va_S.rf
  have hl := lv_entry ([.int n, .int a, .int b]) (n := 3) (Nat.le_of_ble_eq_true rfl)
  rw [lg_entry_eq]
  generalize (lg_sl ([.int n, .int a, .int b]) ++ List.replicate (3 - (lg_sl ([.int n, .int a, .int b])).length) Slot.unset).toArray = ls at hl ⊢
  have hl : lv_has ls 3 [(0, .int n), (1, .int a), (2, .int b)] := hl
  refine lv_iload_n hx hb d_Ss_isWithin_0 rfl (lv_at hl 0 rfl) ?_
  refine lv_iload_n hx hb d_Ss_isWithin_1 rfl (lv_at hl 1 rfl) ?_
  refine lv_icmp_lt (tgt := 14) hx hb d_Ss_isWithin_2 (by decide) (fun c_1 => ?_) (fun c_1 => ?_)
  · refine lv_iconst (v := 0) hx hb d_Ss_isWithin_14 (by decide) ?_
    refine W.zret (v := 0) hx hb hr (by decide) (gs_end ⟨?_, rfl⟩ hG hS) hS.2.2 d_Ss_isWithin_15
    simp only [jc_within, if_pos c_1]
  · refine lv_iload_n hx hb d_Ss_isWithin_5 rfl (lv_at hl 0 rfl) ?_
    refine lv_iload_n hx hb d_Ss_isWithin_6 rfl (lv_at hl 2 rfl) ?_
    refine lv_icmp_gt (tgt := 14) hx hb d_Ss_isWithin_7 (by decide) (fun c_2 => ?_) (fun c_2 => ?_)
    · refine lv_iconst (v := 0) hx hb d_Ss_isWithin_14 (by decide) ?_
      refine W.zret (v := 0) hx hb hr (by decide) (gs_end ⟨?_, rfl⟩ hG hS) hS.2.2 d_Ss_isWithin_15
      simp only [jc_within, if_neg c_1, if_pos c_2]
    · refine lv_iconst (v := 1) hx hb d_Ss_isWithin_10 (by decide) ?_
      refine lv_goto (tgt := 15) hx hb d_Ss_isWithin_11 (by decide) ?_
      refine W.zret (v := 1) hx hb hr (by decide) (gs_end ⟨?_, rfl⟩ hG hS) hS.2.2 d_Ss_isWithin_15
      simp only [jc_within, if_neg c_1, if_neg c_2]
set_option maxHeartbeats 4000000 in
set_option maxRecDepth 100000 in
theorem k_Ss_hasCell (l : Launch) (D : va_G) (k : Nat → ClassId) (zb : Nat) (G : Nat → Option va_E) (cs : Int64) (x : Int32) : Met l y_Ss_hasCell (wM y_Ss_hasCell c_Ss_hasCell 3 (some .boolean)) ({ frames := 0, cells := 0, slots := 0, locals := 0 }) (gs_P D k zb G [.long cs, .int x]) (gs_Q D zb (fun v G1 => v = some (.int (jc_hasCell cs x)) ∧ G1 = G)) 0 0 (fun q : Nat => zb ≤ q) := by
  refine Met.ofW (cc := c_Ss_hasCell) (maxL := 3) (ret := (some .boolean)) (by decide) rfl ?_
  intro p e s m args below meth c s₁ B hml hv
  obtain ⟨rfl, hG, hK, hX⟩ := hv
  have hx := B.exec
  have hb := B.bytes
  have hr := B.returns
  have hts := atoms_spec (ws := wM y_Ss_hasCell c_Ss_hasCell 3 (some .boolean)) B.pre
  have hw : ∀ w9 ∈ wW, w9.before ([.long cs, .int x] : List Value).toArray s = true := fun w9 h9 => hts w9 (gi_in w9 h9)
  have hown : s.vm.findClass R_Ss = some m.cls := findClass_of_methodNamed B.named
  have hlocks := B.notSynchronized
  have E : gs_E p s m ([.long cs, .int x] : List Value).toArray c c_Ss_hasCell wW R_Ss := ⟨hx, hb, hw, hown⟩
  have hS : gs_S zb s.heap s.heap [] := va_S.rf
  have hl := lv_entry ([.long cs, .int x]) (n := 3) (Nat.le_of_ble_eq_true rfl)
  rw [lg_entry_eq]
  generalize (lg_sl ([.long cs, .int x]) ++ List.replicate (3 - (lg_sl ([.long cs, .int x])).length) Slot.unset).toArray = ls at hl ⊢
  have hl : lv_has ls 3 [(0, .long cs), (2, .int x)] := hl
  refine lv_lload_n hx hb d_Ss_hasCell_0 rfl (lv_at hl 0 rfl) ?_
  refine lv_iload_n hx hb d_Ss_hasCell_1 rfl (lv_at hl 1 rfl) ?_
  refine lv_lushr hx hb d_Ss_hasCell_2 rfl ?_
  refine lv_lconst (v := 1) hx hb d_Ss_hasCell_3 (by decide) ?_
  refine lv_land hx hb d_Ss_hasCell_4 ?_
  refine lv_lconst (v := 0) hx hb d_Ss_hasCell_5 (by decide) ?_
  refine W.lcmp hx hb d_Ss_hasCell_6 ?_
  refine lv_if_eq (tgt := 14) hx hb d_Ss_hasCell_7 (by decide) (fun c_1 => ?_) (fun c_1 => ?_)
  · rw [lg_cmp_eq] at c_1
    refine lv_iconst (v := 0) hx hb d_Ss_hasCell_14 (by decide) ?_
    refine W.zret (v := 0) hx hb hr (by decide) (gs_end ⟨?_, rfl⟩ hG hS) hS.2.2 d_Ss_hasCell_15
    simp only [jc_hasCell, lg_cmp_eq, if_pos c_1]
  · rw [lg_cmp_eq] at c_1
    refine lv_iconst (v := 1) hx hb d_Ss_hasCell_10 (by decide) ?_
    refine lv_goto (tgt := 15) hx hb d_Ss_hasCell_11 (by decide) ?_
    refine W.zret (v := 1) hx hb hr (by decide) (gs_end ⟨?_, rfl⟩ hG hS) hS.2.2 d_Ss_hasCell_15
    simp only [jc_hasCell, lg_cmp_eq, if_neg c_1]
set_option maxHeartbeats 4000000 in
set_option maxRecDepth 100000 in
theorem k_Lo_bitCount (l : Launch) (D : va_G) (k : Nat → ClassId) (zb : Nat) (G : Nat → Option va_E) (i : Int64) : Met l y_Lo_bitCount (wM y_Lo_bitCount c_Lo_bitCount 2 (some .int)) ({ frames := 0, cells := 0, slots := 0, locals := 0 }) (gs_P D k zb G [.long i]) (gs_Q D zb (fun v G1 => v = some (.int (jc_bits i)) ∧ G1 = G)) 0 0 (fun q : Nat => zb ≤ q) := by
  refine Met.ofW (cc := c_Lo_bitCount) (maxL := 2) (ret := (some .int)) (by decide) rfl ?_
  intro p e s m args below meth c s₁ B hml hv
  obtain ⟨rfl, hG, hK, hX⟩ := hv
  have hx := B.exec
  have hb := B.bytes
  have hr := B.returns
  have hts := atoms_spec (ws := wM y_Lo_bitCount c_Lo_bitCount 2 (some .int)) B.pre
  have hw : ∀ w9 ∈ wW, w9.before ([.long i] : List Value).toArray s = true := fun w9 h9 => hts w9 (gi_in w9 h9)
  have hown : s.vm.findClass R_Lo = some m.cls := findClass_of_methodNamed B.named
  have hlocks := B.notSynchronized
  have E : gs_E p s m ([.long i] : List Value).toArray c c_Lo_bitCount wW R_Lo := ⟨hx, hb, hw, hown⟩
  have hS : gs_S zb s.heap s.heap [] := va_S.rf
  have hl := lv_entry ([.long i]) (n := 2) (Nat.le_of_ble_eq_true rfl)
  rw [lg_entry_eq]
  generalize (lg_sl ([.long i]) ++ List.replicate (2 - (lg_sl ([.long i])).length) Slot.unset).toArray = ls at hl ⊢
  have hl : lv_has ls 2 [(0, .long i)] := hl
  refine lv_lload_n hx hb d_Lo_bitCount_0 rfl (lv_at hl 0 rfl) ?_
  refine lv_lload_n hx hb d_Lo_bitCount_1 rfl (lv_at hl 0 rfl) ?_
  refine lv_iconst (v := 1) hx hb d_Lo_bitCount_2 (by decide) ?_
  refine lv_lushr hx hb d_Lo_bitCount_3 rfl ?_
  refine lv_ldc2 hx hb hown (v := 6148914691236517205) (hw _ w_358) d_Lo_bitCount_4 ?_
  refine lv_land hx hb d_Lo_bitCount_7 ?_
  refine lv_lsub hx hb d_Lo_bitCount_8 ?_
  refine lv_topl (fun v_1 ev_1 => ?_)
  refine lv_lstore_n (lv' := [(0, .long v_1)]) hx hb d_Lo_bitCount_9 rfl hl (by decide) rfl (fun ls hl => ?_)
  refine lv_lload_n hx hb d_Lo_bitCount_10 rfl (lv_at hl 0 rfl) ?_
  refine lv_ldc2 hx hb hown (v := 3689348814741910323) (hw _ w_359) d_Lo_bitCount_11 ?_
  refine lv_land hx hb d_Lo_bitCount_14 ?_
  refine lv_lload_n hx hb d_Lo_bitCount_15 rfl (lv_at hl 0 rfl) ?_
  refine lv_iconst (v := 2) hx hb d_Lo_bitCount_16 (by decide) ?_
  refine lv_lushr hx hb d_Lo_bitCount_17 rfl ?_
  refine lv_ldc2 hx hb hown (v := 3689348814741910323) (hw _ w_359) d_Lo_bitCount_18 ?_
  refine lv_land hx hb d_Lo_bitCount_21 ?_
  refine lv_ladd hx hb d_Lo_bitCount_22 ?_
  refine lv_topl (fun v_2 ev_2 => ?_)
  refine lv_lstore_n (lv' := [(0, .long v_2)]) hx hb d_Lo_bitCount_23 rfl hl (by decide) rfl (fun ls hl => ?_)
  refine lv_lload_n hx hb d_Lo_bitCount_24 rfl (lv_at hl 0 rfl) ?_
  refine lv_lload_n hx hb d_Lo_bitCount_25 rfl (lv_at hl 0 rfl) ?_
  refine lv_iconst (v := 4) hx hb d_Lo_bitCount_26 (by decide) ?_
  refine lv_lushr hx hb d_Lo_bitCount_27 rfl ?_
  refine lv_ladd hx hb d_Lo_bitCount_28 ?_
  refine lv_ldc2 hx hb hown (v := 1085102592571150095) (hw _ w_360) d_Lo_bitCount_29 ?_
  refine lv_land hx hb d_Lo_bitCount_32 ?_
  refine lv_topl (fun v_3 ev_3 => ?_)
  refine lv_lstore_n (lv' := [(0, .long v_3)]) hx hb d_Lo_bitCount_33 rfl hl (by decide) rfl (fun ls hl => ?_)
  refine lv_lload_n hx hb d_Lo_bitCount_34 rfl (lv_at hl 0 rfl) ?_
  refine lv_lload_n hx hb d_Lo_bitCount_35 rfl (lv_at hl 0 rfl) ?_
  refine lv_bipush (v := 8) hx hb d_Lo_bitCount_36 (by decide) ?_
  refine lv_lushr hx hb d_Lo_bitCount_38 rfl ?_
  refine lv_ladd hx hb d_Lo_bitCount_39 ?_
  refine lv_topl (fun v_4 ev_4 => ?_)
  refine lv_lstore_n (lv' := [(0, .long v_4)]) hx hb d_Lo_bitCount_40 rfl hl (by decide) rfl (fun ls hl => ?_)
  refine lv_lload_n hx hb d_Lo_bitCount_41 rfl (lv_at hl 0 rfl) ?_
  refine lv_lload_n hx hb d_Lo_bitCount_42 rfl (lv_at hl 0 rfl) ?_
  refine lv_bipush (v := 16) hx hb d_Lo_bitCount_43 (by decide) ?_
  refine lv_lushr hx hb d_Lo_bitCount_45 rfl ?_
  refine lv_ladd hx hb d_Lo_bitCount_46 ?_
  refine lv_topl (fun v_5 ev_5 => ?_)
  refine lv_lstore_n (lv' := [(0, .long v_5)]) hx hb d_Lo_bitCount_47 rfl hl (by decide) rfl (fun ls hl => ?_)
  refine lv_lload_n hx hb d_Lo_bitCount_48 rfl (lv_at hl 0 rfl) ?_
  refine lv_lload_n hx hb d_Lo_bitCount_49 rfl (lv_at hl 0 rfl) ?_
  refine lv_bipush (v := 32) hx hb d_Lo_bitCount_50 (by decide) ?_
  refine lv_lushr hx hb d_Lo_bitCount_52 rfl ?_
  refine lv_ladd hx hb d_Lo_bitCount_53 ?_
  refine lv_topl (fun v_6 ev_6 => ?_)
  refine lv_lstore_n (lv' := [(0, .long v_6)]) hx hb d_Lo_bitCount_54 rfl hl (by decide) rfl (fun ls hl => ?_)
  refine lv_lload_n hx hb d_Lo_bitCount_55 rfl (lv_at hl 0 rfl) ?_
  refine lv_l2i hx hb d_Lo_bitCount_56 rfl ?_
  refine lv_bipush (v := 127) hx hb d_Lo_bitCount_57 (by decide) ?_
  refine lv_iand hx hb d_Lo_bitCount_59 ?_
  refine W.iret (v := (v_6.toInt32 &&& 127)) hx hb hr (gs_end ⟨?_, rfl⟩ hG hS) hS.2.2 d_Lo_bitCount_60
  subst ev_6
  subst ev_5
  subst ev_4
  subst ev_3
  subst ev_2
  subst ev_1
  simp only [jc_bits, jc_b1, jc_b2, jc_b3, jc_b4, jc_b5, jc_b6, jc_ush]
set_option maxHeartbeats 4000000 in
set_option maxRecDepth 100000 in
theorem k_Bx_shadeThrownOnRow (l : Launch) (D : va_G) (k : Nat → ClassId) (zb : Nat) (G : Nat → Option va_E) (a0 : Nat) (x0 y0 z0 x1 y1 z1 pr : Int32) (a1 : Nat) (X Y Z am : Int32) (y w : Int32) (hb0 : G a0 = some (.inr (0, [.int x0, .int y0, .int z0, .int x1, .int y1, .int z1, .int pr]))) (hb1 : G a1 = some (.inr (1, [.int X, .int Y, .int Z, .int am]))) : Met l y_Bx_shadeThrownOnRow (wM y_Bx_shadeThrownOnRow c_Bx_shadeThrownOnRow 13 (some .long)) ({ frames := 2, cells := 0, slots := 0, locals := 45 }) (gs_P D k zb G [.ref a0, .int y, .ref a1, .int w]) (gs_Q D zb (fun v G1 => v = some (.long (jc_shade pr x0 y0 z0 x1 y1 z1 X Y Z y w)) ∧ G1 = G)) 0 0 (fun q : Nat => zb ≤ q) := by
  refine Met.ofW (cc := c_Bx_shadeThrownOnRow) (maxL := 13) (ret := (some .long)) (by decide) rfl ?_
  intro p e s m args below meth c s₁ B hml hv
  obtain ⟨rfl, hG, hK, hX⟩ := hv
  have hx := B.exec
  have hb := B.bytes
  have hr := B.returns
  have hts := atoms_spec (ws := wM y_Bx_shadeThrownOnRow c_Bx_shadeThrownOnRow 13 (some .long)) B.pre
  have hw : ∀ w9 ∈ wW, w9.before ([.ref a0, .int y, .ref a1, .int w] : List Value).toArray s = true := fun w9 h9 => hts w9 (gi_in w9 h9)
  have hown : s.vm.findClass R_Bx = some m.cls := findClass_of_methodNamed B.named
  have hlocks := B.notSynchronized
  have E : gs_E p s m ([.ref a0, .int y, .ref a1, .int w] : List Value).toArray c c_Bx_shadeThrownOnRow wW R_Bx := ⟨hx, hb, hw, hown⟩
  have hS : gs_S zb s.heap s.heap [] := va_S.rf
  have hl := lv_entry ([.ref a0, .int y, .ref a1, .int w]) (n := 13) (Nat.le_of_ble_eq_true rfl)
  rw [lg_entry_eq]
  generalize (lg_sl ([.ref a0, .int y, .ref a1, .int w]) ++ List.replicate (13 - (lg_sl ([.ref a0, .int y, .ref a1, .int w])).length) Slot.unset).toArray = ls at hl ⊢
  have hl : lv_has ls 13 [(0, .ref a0), (1, .int y), (2, .ref a1), (3, .int w)] := hl
  refine lv_iconst (v := 2) hx hb d_Bx_shadeThrownOnRow_0 (by decide) ?_
  refine lv_iload_n hx hb d_Bx_shadeThrownOnRow_1 rfl (lv_at hl 1 rfl) ?_
  refine lv_imul hx hb d_Bx_shadeThrownOnRow_2 ?_
  refine lv_iconst (v := 1) hx hb d_Bx_shadeThrownOnRow_3 (by decide) ?_
  refine lv_iadd hx hb d_Bx_shadeThrownOnRow_4 ?_
  refine lv_topi (fun v_1 ev_1 => ?_)
  refine lv_istore (lv' := [(4, .int v_1), (0, .ref a0), (1, .int y), (2, .ref a1), (3, .int w)]) hx hb d_Bx_shadeThrownOnRow_5 hl (by decide) rfl (fun ls hl => ?_)
  refine lv_aload_n hx hb d_Bx_shadeThrownOnRow_7 rfl (lv_at hl 1 rfl) ?_
  refine gs_get E hK.1 hG hb0 (C := R_Bx) (T := F_Bx) (N := 7) rfl i_Bx 6 (by decide) w_198 (v := .int pr) rfl d_Bx_shadeThrownOnRow_8 ?_
  refine lv_if_eq (tgt := 37) hx hb d_Bx_shadeThrownOnRow_11 (by decide) (fun c_2 => ?_) (fun c_2 => ?_)
  · refine lv_lconst (v := 0) hx hb d_Bx_shadeThrownOnRow_37 (by decide) ?_
    refine W.lret (v := 0) hx hb hr (gs_end ⟨?_, rfl⟩ hG hS) hS.2.2 d_Bx_shadeThrownOnRow_38
    subst ev_1
    simp only [jc_shade, jc_go, jc_body, jc_scale, jc_first, jc_last, if_pos c_2]
  · refine lv_aload_n hx hb d_Bx_shadeThrownOnRow_14 rfl (lv_at hl 3 rfl) ?_
    refine gs_V (As := []) (rest := []) (k_Hr_hasSun l D k zb G a1 X Y Z am hb1) E hml hl.1 (cg_V (C := R_Hr) hw w_308 w_318 w_3 w_306 sel_Hr_hasSun hd_Hr_hasSun ⟨by exact Nat.le_of_ble_eq_true rfl, by exact Nat.le_of_ble_eq_true rfl⟩) hG hK hX hS hb1 rfl rfl rfl rfl (by exact Nat.le_of_ble_eq_true rfl) d_Bx_shadeThrownOnRow_15 ⟨by exact Nat.le_of_ble_eq_true rfl, by exact Nat.le_of_ble_eq_true rfl⟩ (fun v G1 H locs hp hG hS => ?_)
    obtain ⟨hv1, hG1⟩ := hp
    subst hv1
    rw [hG1] at hG
    refine W.eq (g2 := F0 m 18 ls [.int (jc_hasSun Z)]) rfl ?_
    refine lv_if_eq (tgt := 37) hx hb d_Bx_shadeThrownOnRow_18 (by decide) (fun c_3 => ?_) (fun c_3 => ?_)
    · refine lv_lconst (v := 0) hx hb d_Bx_shadeThrownOnRow_37 (by decide) ?_
      refine W.lret (v := 0) hx hb hr (gs_end ⟨?_, rfl⟩ hG hS) hS.2.2 d_Bx_shadeThrownOnRow_38
      subst ev_1
      simp only [jc_shade, jc_go, jc_body, jc_scale, jc_first, jc_last, if_neg c_2, if_pos c_3]
    · refine lv_aload_n hx hb d_Bx_shadeThrownOnRow_21 rfl (lv_at hl 3 rfl) ?_
      refine gs_get E hK.1 hG hb1 (C := R_Hr) (T := F_Hr) (N := 4) rfl i_Hr 1 (by decide) w_42 (v := .int Y) rfl d_Bx_shadeThrownOnRow_22 ?_
      refine lv_if_ne (tgt := 39) hx hb d_Bx_shadeThrownOnRow_25 (by decide) (fun c_4 => ?_) (fun c_4 => ?_)
      · refine lv_aload_n hx hb d_Bx_shadeThrownOnRow_39 rfl (lv_at hl 3 rfl) ?_
        refine gs_get E hK.1 hG hb1 (C := R_Hr) (T := F_Hr) (N := 4) rfl i_Hr 1 (by decide) w_42 (v := .int Y) rfl d_Bx_shadeThrownOnRow_40 ?_
        refine lv_if_ne (tgt := 50) hx hb d_Bx_shadeThrownOnRow_43 (by decide) (fun c_5 => ?_) (fun c_5 => ?_)
        · refine lv_iconst (v := 2) hx hb d_Bx_shadeThrownOnRow_50 (by decide) ?_
          refine lv_aload_n hx hb d_Bx_shadeThrownOnRow_51 rfl (lv_at hl 3 rfl) ?_
          refine gs_get E hK.1 hG hb1 (C := R_Hr) (T := F_Hr) (N := 4) rfl i_Hr 1 (by decide) w_42 (v := .int Y) rfl d_Bx_shadeThrownOnRow_52 ?_
          refine va_mabs hx hb (hml.trans hl.1.symm) hown (hw _ w_323) (hw _ w_324) (hw _ w_2) (hw _ w_325) (by exact Nat.le_of_ble_eq_true rfl) (by exact Nat.le_of_ble_eq_true rfl) (by exact Nat.zero_le _) (by exact Nat.zero_le _) d_Bx_shadeThrownOnRow_55 ?_
          refine W.eq (g2 := F0 m 58 ls [.int (jc_abs Y), .int 2]) rfl ?_
          refine lv_imul hx hb d_Bx_shadeThrownOnRow_58 ?_
          refine lv_topi (fun v_6 ev_6 => ?_)
          refine lv_istore (lv' := [(5, .int v_6), (4, .int v_1), (0, .ref a0), (1, .int y), (2, .ref a1), (3, .int w)]) hx hb d_Bx_shadeThrownOnRow_59 hl (by decide) rfl (fun ls hl => ?_)
          refine lv_aload_n hx hb d_Bx_shadeThrownOnRow_61 rfl (lv_at hl 2 rfl) ?_
          refine lv_iload hx hb d_Bx_shadeThrownOnRow_62 (lv_at hl 1 rfl) ?_
          refine lv_aload_n hx hb d_Bx_shadeThrownOnRow_64 rfl (lv_at hl 4 rfl) ?_
          refine lv_iload hx hb d_Bx_shadeThrownOnRow_65 (lv_at hl 0 rfl) ?_
          refine gs_V (As := [.int v_1, .ref a1, .int v_6]) (rest := []) (k_Bx_nearest l D k zb G a0 x0 y0 z0 x1 y1 z1 pr a1 X Y Z am v_1 v_6 hb0 hb1) E hml hl.1 (cg_V (C := R_Bx) hw w_329 w_326 w_5 w_328 sel_Bx_nearest hd_Bx_nearest ⟨by exact Nat.le_of_ble_eq_true rfl, by exact Nat.le_of_ble_eq_true rfl⟩) hG hK hX hS hb0 rfl rfl rfl rfl (by exact Nat.le_of_ble_eq_true rfl) d_Bx_shadeThrownOnRow_67 ⟨by exact Nat.le_of_ble_eq_true rfl, by exact Nat.le_of_ble_eq_true rfl⟩ (fun v G1 H locs hp hG hS => ?_)
          obtain ⟨hv1, hG1⟩ := hp
          subst hv1
          rw [hG1] at hG
          refine W.eq (g2 := F0 m 70 ls [.int (jc_near y0 z0 y1 Y Z v_1 v_6)]) rfl ?_
          refine lv_topi (fun v_7 ev_7 => ?_)
          refine lv_istore (lv' := [(6, .int v_7), (5, .int v_6), (4, .int v_1), (0, .ref a0), (1, .int y), (2, .ref a1), (3, .int w)]) hx hb d_Bx_shadeThrownOnRow_70 hl (by decide) rfl (fun ls hl => ?_)
          refine lv_aload_n hx hb d_Bx_shadeThrownOnRow_72 rfl (lv_at hl 3 rfl) ?_
          refine lv_iload hx hb d_Bx_shadeThrownOnRow_73 (lv_at hl 2 rfl) ?_
          refine lv_aload_n hx hb d_Bx_shadeThrownOnRow_75 rfl (lv_at hl 5 rfl) ?_
          refine lv_iload hx hb d_Bx_shadeThrownOnRow_76 (lv_at hl 1 rfl) ?_
          refine gs_V (As := [.int v_1, .ref a1, .int v_6]) (rest := []) (k_Bx_farthest l D k zb G a0 x0 y0 z0 x1 y1 z1 pr a1 X Y Z am v_1 v_6 hb0 hb1) E hml hl.1 (cg_V (C := R_Bx) hw w_334 w_331 w_5 w_333 sel_Bx_farthest hd_Bx_farthest ⟨by exact Nat.le_of_ble_eq_true rfl, by exact Nat.le_of_ble_eq_true rfl⟩) hG hK hX hS hb0 rfl rfl rfl rfl (by exact Nat.le_of_ble_eq_true rfl) d_Bx_shadeThrownOnRow_78 ⟨by exact Nat.le_of_ble_eq_true rfl, by exact Nat.le_of_ble_eq_true rfl⟩ (fun v G1 H locs hp hG hS => ?_)
          obtain ⟨hv1, hG1⟩ := hp
          subst hv1
          rw [hG1] at hG
          refine W.eq (g2 := F0 m 81 ls [.int (jc_far y0 y1 z1 Y Z v_1 v_6)]) rfl ?_
          refine lv_topi (fun v_8 ev_8 => ?_)
          refine lv_istore (lv' := [(7, .int v_8), (6, .int v_7), (5, .int v_6), (4, .int v_1), (0, .ref a0), (1, .int y), (2, .ref a1), (3, .int w)]) hx hb d_Bx_shadeThrownOnRow_81 hl (by decide) rfl (fun ls hl => ?_)
          refine lv_iload hx hb d_Bx_shadeThrownOnRow_83 (lv_at hl 1 rfl) ?_
          refine lv_iload hx hb d_Bx_shadeThrownOnRow_85 (lv_at hl 0 rfl) ?_
          refine lv_icmp_le (tgt := 92) hx hb d_Bx_shadeThrownOnRow_87 (by decide) (fun c_9 => ?_) (fun c_9 => ?_)
          · refine lv_iload hx hb d_Bx_shadeThrownOnRow_92 (lv_at hl 2 rfl) ?_
            refine lv_aload_n hx hb d_Bx_shadeThrownOnRow_94 rfl (lv_at hl 6 rfl) ?_
            refine gs_get E hK.1 hG hb1 (C := R_Hr) (T := F_Hr) (N := 4) rfl i_Hr 2 (by decide) w_45 (v := .int Z) rfl d_Bx_shadeThrownOnRow_95 ?_
            refine lv_imul hx hb d_Bx_shadeThrownOnRow_98 ?_
            refine lv_topi (fun v_10 ev_10 => ?_)
            refine lv_istore (lv' := [(8, .int v_10), (7, .int v_8), (6, .int v_7), (5, .int v_6), (4, .int v_1), (0, .ref a0), (1, .int y), (2, .ref a1), (3, .int w)]) hx hb d_Bx_shadeThrownOnRow_99 hl (by decide) rfl (fun ls hl => ?_)
            refine lv_iload hx hb d_Bx_shadeThrownOnRow_101 (lv_at hl 2 rfl) ?_
            refine lv_aload_n hx hb d_Bx_shadeThrownOnRow_103 rfl (lv_at hl 7 rfl) ?_
            refine gs_get E hK.1 hG hb1 (C := R_Hr) (T := F_Hr) (N := 4) rfl i_Hr 0 (by decide) w_39 (v := .int X) rfl d_Bx_shadeThrownOnRow_104 ?_
            refine lv_imul hx hb d_Bx_shadeThrownOnRow_107 ?_
            refine lv_iload hx hb d_Bx_shadeThrownOnRow_108 (lv_at hl 1 rfl) ?_
            refine lv_aload_n hx hb d_Bx_shadeThrownOnRow_110 rfl (lv_at hl 7 rfl) ?_
            refine gs_get E hK.1 hG hb1 (C := R_Hr) (T := F_Hr) (N := 4) rfl i_Hr 0 (by decide) w_39 (v := .int X) rfl d_Bx_shadeThrownOnRow_111 ?_
            refine lv_imul hx hb d_Bx_shadeThrownOnRow_114 ?_
            refine va_mmin hx hb (hml.trans hl.1.symm) hown (hw _ w_335) (hw _ w_28) (hw _ w_2) (hw _ w_29) (by exact Nat.le_of_ble_eq_true rfl) (by exact Nat.le_of_ble_eq_true rfl) (by exact Nat.zero_le _) (by exact Nat.zero_le _) d_Bx_shadeThrownOnRow_115 ?_
            refine W.eq (g2 := F0 m 118 ls [.int (jc_min (v_7 * X) (v_8 * X))]) rfl ?_
            refine lv_topi (fun v_11 ev_11 => ?_)
            refine lv_istore (lv' := [(9, .int v_11), (8, .int v_10), (7, .int v_8), (6, .int v_7), (5, .int v_6), (4, .int v_1), (0, .ref a0), (1, .int y), (2, .ref a1), (3, .int w)]) hx hb d_Bx_shadeThrownOnRow_118 hl (by decide) rfl (fun ls hl => ?_)
            refine lv_iload hx hb d_Bx_shadeThrownOnRow_120 (lv_at hl 3 rfl) ?_
            refine lv_aload_n hx hb d_Bx_shadeThrownOnRow_122 rfl (lv_at hl 8 rfl) ?_
            refine gs_get E hK.1 hG hb1 (C := R_Hr) (T := F_Hr) (N := 4) rfl i_Hr 0 (by decide) w_39 (v := .int X) rfl d_Bx_shadeThrownOnRow_123 ?_
            refine lv_imul hx hb d_Bx_shadeThrownOnRow_126 ?_
            refine lv_iload hx hb d_Bx_shadeThrownOnRow_127 (lv_at hl 2 rfl) ?_
            refine lv_aload_n hx hb d_Bx_shadeThrownOnRow_129 rfl (lv_at hl 8 rfl) ?_
            refine gs_get E hK.1 hG hb1 (C := R_Hr) (T := F_Hr) (N := 4) rfl i_Hr 0 (by decide) w_39 (v := .int X) rfl d_Bx_shadeThrownOnRow_130 ?_
            refine lv_imul hx hb d_Bx_shadeThrownOnRow_133 ?_
            refine va_mmax hx hb (hml.trans hl.1.symm) hown (hw _ w_330) (hw _ w_31) (hw _ w_2) (hw _ w_32) (by exact Nat.le_of_ble_eq_true rfl) (by exact Nat.le_of_ble_eq_true rfl) (by exact Nat.zero_le _) (by exact Nat.zero_le _) d_Bx_shadeThrownOnRow_134 ?_
            refine W.eq (g2 := F0 m 137 ls [.int (jc_max (v_7 * X) (v_8 * X))]) rfl ?_
            refine lv_topi (fun v_12 ev_12 => ?_)
            refine lv_istore (lv' := [(10, .int v_12), (9, .int v_11), (8, .int v_10), (7, .int v_8), (6, .int v_7), (5, .int v_6), (4, .int v_1), (0, .ref a0), (1, .int y), (2, .ref a1), (3, .int w)]) hx hb d_Bx_shadeThrownOnRow_137 hl (by decide) rfl (fun ls hl => ?_)
            refine lv_iload hx hb d_Bx_shadeThrownOnRow_139 (lv_at hl 2 rfl) ?_
            refine lv_iconst (v := 2) hx hb d_Bx_shadeThrownOnRow_141 (by decide) ?_
            refine lv_aload_n hx hb d_Bx_shadeThrownOnRow_142 rfl (lv_at hl 7 rfl) ?_
            refine gs_get E hK.1 hG hb0 (C := R_Bx) (T := F_Bx) (N := 7) rfl i_Bx 0 (by decide) w_191 (v := .int x0) rfl d_Bx_shadeThrownOnRow_143 ?_
            refine lv_iload hx hb d_Bx_shadeThrownOnRow_146 (lv_at hl 2 rfl) ?_
            refine lv_imul hx hb d_Bx_shadeThrownOnRow_148 ?_
            refine lv_iload hx hb d_Bx_shadeThrownOnRow_149 (lv_at hl 1 rfl) ?_
            refine lv_iadd hx hb d_Bx_shadeThrownOnRow_151 ?_
            refine lv_imul hx hb d_Bx_shadeThrownOnRow_152 ?_
            refine lv_isub hx hb d_Bx_shadeThrownOnRow_153 ?_
            refine lv_iconst (v := 2) hx hb d_Bx_shadeThrownOnRow_154 (by decide) ?_
            refine lv_iload hx hb d_Bx_shadeThrownOnRow_155 (lv_at hl 2 rfl) ?_
            refine lv_imul hx hb d_Bx_shadeThrownOnRow_157 ?_
            refine gs_St (As := [.int (v_10 - (2 * ((x0 * v_10) + v_11))), .int (2 * v_10)]) (rest := []) (k_Bx_floorOver l D k zb G (v_10 - (2 * ((x0 * v_10) + v_11))) (2 * v_10)) E hml hl.1 (cg_S hw w_338 w_336 w_5 w_337 hd_Bx_floorOver ⟨by exact Nat.le_of_ble_eq_true rfl, by exact Nat.le_of_ble_eq_true rfl⟩) hG hK hX hS rfl rfl (by exact Nat.le_of_ble_eq_true rfl) d_Bx_shadeThrownOnRow_158 ⟨by exact Nat.le_of_ble_eq_true rfl, by exact Nat.le_of_ble_eq_true rfl⟩ (fun v G1 H locs hp hG hS => ?_)
            obtain ⟨hv1, hG1⟩ := hp
            subst hv1
            rw [hG1] at hG
            refine W.eq (g2 := F0 m 161 ls [.int (jc_fover (v_10 - (2 * ((x0 * v_10) + v_11))) (2 * v_10))]) rfl ?_
            refine lv_ineg hx hb d_Bx_shadeThrownOnRow_161 ?_
            refine lv_topi (fun v_13 ev_13 => ?_)
            refine lv_istore (lv' := [(11, .int v_13), (10, .int v_12), (9, .int v_11), (8, .int v_10), (7, .int v_8), (6, .int v_7), (5, .int v_6), (4, .int v_1), (0, .ref a0), (1, .int y), (2, .ref a1), (3, .int w)]) hx hb d_Bx_shadeThrownOnRow_162 hl (by decide) rfl (fun ls hl => ?_)
            refine lv_iconst (v := 2) hx hb d_Bx_shadeThrownOnRow_164 (by decide) ?_
            refine lv_aload_n hx hb d_Bx_shadeThrownOnRow_165 rfl (lv_at hl 8 rfl) ?_
            refine gs_get E hK.1 hG hb0 (C := R_Bx) (T := F_Bx) (N := 7) rfl i_Bx 3 (by decide) w_194 (v := .int x1) rfl d_Bx_shadeThrownOnRow_166 ?_
            refine lv_iload hx hb d_Bx_shadeThrownOnRow_169 (lv_at hl 3 rfl) ?_
            refine lv_imul hx hb d_Bx_shadeThrownOnRow_171 ?_
            refine lv_iload hx hb d_Bx_shadeThrownOnRow_172 (lv_at hl 1 rfl) ?_
            refine lv_iadd hx hb d_Bx_shadeThrownOnRow_174 ?_
            refine lv_imul hx hb d_Bx_shadeThrownOnRow_175 ?_
            refine lv_iload hx hb d_Bx_shadeThrownOnRow_176 (lv_at hl 3 rfl) ?_
            refine lv_isub hx hb d_Bx_shadeThrownOnRow_178 ?_
            refine lv_iconst (v := 2) hx hb d_Bx_shadeThrownOnRow_179 (by decide) ?_
            refine lv_iload hx hb d_Bx_shadeThrownOnRow_180 (lv_at hl 3 rfl) ?_
            refine lv_imul hx hb d_Bx_shadeThrownOnRow_182 ?_
            refine gs_St (As := [.int ((2 * ((x1 * v_10) + v_12)) - v_10), .int (2 * v_10)]) (rest := []) (k_Bx_floorOver l D k zb G ((2 * ((x1 * v_10) + v_12)) - v_10) (2 * v_10)) E hml hl.1 (cg_S hw w_338 w_336 w_5 w_337 hd_Bx_floorOver ⟨by exact Nat.le_of_ble_eq_true rfl, by exact Nat.le_of_ble_eq_true rfl⟩) hG hK hX hS rfl rfl (by exact Nat.le_of_ble_eq_true rfl) d_Bx_shadeThrownOnRow_183 ⟨by exact Nat.le_of_ble_eq_true rfl, by exact Nat.le_of_ble_eq_true rfl⟩ (fun v G1 H locs hp hG hS => ?_)
            obtain ⟨hv1, hG1⟩ := hp
            subst hv1
            rw [hG1] at hG
            refine W.eq (g2 := F0 m 186 ls [.int (jc_fover ((2 * ((x1 * v_10) + v_12)) - v_10) (2 * v_10))]) rfl ?_
            refine lv_topi (fun v_14 ev_14 => ?_)
            refine lv_istore (lv' := [(12, .int v_14), (11, .int v_13), (10, .int v_12), (9, .int v_11), (8, .int v_10), (7, .int v_8), (6, .int v_7), (5, .int v_6), (4, .int v_1), (0, .ref a0), (1, .int y), (2, .ref a1), (3, .int w)]) hx hb d_Bx_shadeThrownOnRow_186 hl (by decide) rfl (fun ls hl => ?_)
            refine lv_iload hx hb d_Bx_shadeThrownOnRow_188 (lv_at hl 1 rfl) ?_
            refine lv_iconst (v := 0) hx hb d_Bx_shadeThrownOnRow_190 (by decide) ?_
            refine va_mmax hx hb (hml.trans hl.1.symm) hown (hw _ w_330) (hw _ w_31) (hw _ w_2) (hw _ w_32) (by exact Nat.le_of_ble_eq_true rfl) (by exact Nat.le_of_ble_eq_true rfl) (by exact Nat.zero_le _) (by exact Nat.zero_le _) d_Bx_shadeThrownOnRow_191 ?_
            refine W.eq (g2 := F0 m 194 ls [.int (jc_max v_13 0)]) rfl ?_
            refine lv_iload hx hb d_Bx_shadeThrownOnRow_194 (lv_at hl 0 rfl) ?_
            refine lv_iload_n hx hb d_Bx_shadeThrownOnRow_196 rfl (lv_at hl 12 rfl) ?_
            refine lv_iconst (v := 1) hx hb d_Bx_shadeThrownOnRow_197 (by decide) ?_
            refine lv_isub hx hb d_Bx_shadeThrownOnRow_198 ?_
            refine va_mmin hx hb (hml.trans hl.1.symm) hown (hw _ w_335) (hw _ w_28) (hw _ w_2) (hw _ w_29) (by exact Nat.le_of_ble_eq_true rfl) (by exact Nat.le_of_ble_eq_true rfl) (by exact Nat.zero_le _) (by exact Nat.zero_le _) d_Bx_shadeThrownOnRow_199 ?_
            refine W.eq (g2 := F0 m 202 ls [.int (jc_min v_14 (w - 1)), .int (jc_max v_13 0)]) rfl ?_
            refine gs_SN (As := [.int (jc_max v_13 0), .int (jc_min v_14 (w - 1))]) (rest := []) (k_Ss_cellsBetween l D k zb G (jc_max v_13 0) (jc_min v_14 (w - 1))) E hml hl.1 (cg_N hw w_344 hK.2.1.2.1 w_1 hd_Ss_cellsBetween ⟨by exact Nat.le_of_ble_eq_true rfl, by exact Nat.le_of_ble_eq_true rfl⟩) w_343 hG hK hX hS rfl rfl (by exact Nat.le_of_ble_eq_true rfl) d_Bx_shadeThrownOnRow_202 ⟨by exact Nat.le_of_ble_eq_true rfl, by exact Nat.le_of_ble_eq_true rfl⟩ (fun v G1 H locs hp hG hS => ?_)
            obtain ⟨hv1, hG1⟩ := hp
            subst hv1
            rw [hG1] at hG
            refine W.eq (g2 := F0 m 205 ls [.long (jc_cells (jc_max v_13 0) (jc_min v_14 (w - 1)))]) rfl ?_
            refine W.lret (v := (jc_cells (jc_max v_13 0) (jc_min v_14 (w - 1)))) hx hb hr (gs_end ⟨?_, rfl⟩ hG hS) hS.2.2 d_Bx_shadeThrownOnRow_205
            subst ev_14
            subst ev_13
            subst ev_12
            subst ev_11
            subst ev_10
            subst ev_8
            subst ev_7
            subst ev_6
            subst ev_1
            simp only [jc_shade, jc_go, jc_body, jc_scale, jc_first, jc_last, if_neg c_2, if_neg c_3, if_neg c_4, if_neg c_5, if_pos c_9]
          · refine lv_lconst (v := 0) hx hb d_Bx_shadeThrownOnRow_90 (by decide) ?_
            refine W.lret (v := 0) hx hb hr (gs_end ⟨?_, rfl⟩ hG hS) hS.2.2 d_Bx_shadeThrownOnRow_91
            subst ev_8
            subst ev_7
            subst ev_6
            subst ev_1
            simp only [jc_shade, jc_go, jc_body, jc_scale, jc_first, jc_last, if_neg c_2, if_neg c_3, if_neg c_4, if_neg c_5, if_neg c_9]
        · exact absurd c_5 c_4
      · refine lv_aload_n hx hb d_Bx_shadeThrownOnRow_28 rfl (lv_at hl 1 rfl) ?_
        refine lv_iload hx hb d_Bx_shadeThrownOnRow_29 (lv_at hl 0 rfl) ?_
        refine gs_V (As := [.int v_1]) (rest := []) (k_Bx_spansLine l D k zb G a0 x0 y0 z0 x1 y1 z1 pr v_1 hb0) E hml hl.1 (cg_V (C := R_Bx) hw w_322 w_319 w_5 w_321 sel_Bx_spansLine hd_Bx_spansLine ⟨by exact Nat.le_of_ble_eq_true rfl, by exact Nat.le_of_ble_eq_true rfl⟩) hG hK hX hS hb0 rfl rfl rfl rfl (by exact Nat.le_of_ble_eq_true rfl) d_Bx_shadeThrownOnRow_31 ⟨by exact Nat.le_of_ble_eq_true rfl, by exact Nat.le_of_ble_eq_true rfl⟩ (fun v G1 H locs hp hG hS => ?_)
        obtain ⟨hv1, hG1⟩ := hp
        subst hv1
        rw [hG1] at hG
        refine W.eq (g2 := F0 m 34 ls [.int (jc_spans y0 y1 v_1)]) rfl ?_
        refine lv_if_ne (tgt := 39) hx hb d_Bx_shadeThrownOnRow_34 (by decide) (fun c_15 => ?_) (fun c_15 => ?_)
        · refine lv_aload_n hx hb d_Bx_shadeThrownOnRow_39 rfl (lv_at hl 3 rfl) ?_
          refine gs_get E hK.1 hG hb1 (C := R_Hr) (T := F_Hr) (N := 4) rfl i_Hr 1 (by decide) w_42 (v := .int Y) rfl d_Bx_shadeThrownOnRow_40 ?_
          refine lv_if_ne (tgt := 50) hx hb d_Bx_shadeThrownOnRow_43 (by decide) (fun c_16 => ?_) (fun c_16 => ?_)
          · exact absurd c_4 c_16
          · refine lv_iconst (v := 1) hx hb d_Bx_shadeThrownOnRow_46 (by decide) ?_
            refine lv_goto (tgt := 59) hx hb d_Bx_shadeThrownOnRow_47 (by decide) ?_
            refine lv_istore (lv' := [(5, .int 1), (4, .int v_1), (0, .ref a0), (1, .int y), (2, .ref a1), (3, .int w)]) hx hb d_Bx_shadeThrownOnRow_59 hl (by decide) rfl (fun ls hl => ?_)
            refine lv_aload_n hx hb d_Bx_shadeThrownOnRow_61 rfl (lv_at hl 2 rfl) ?_
            refine lv_iload hx hb d_Bx_shadeThrownOnRow_62 (lv_at hl 1 rfl) ?_
            refine lv_aload_n hx hb d_Bx_shadeThrownOnRow_64 rfl (lv_at hl 4 rfl) ?_
            refine lv_iload hx hb d_Bx_shadeThrownOnRow_65 (lv_at hl 0 rfl) ?_
            refine gs_V (As := [.int v_1, .ref a1, .int 1]) (rest := []) (k_Bx_nearest l D k zb G a0 x0 y0 z0 x1 y1 z1 pr a1 X Y Z am v_1 1 hb0 hb1) E hml hl.1 (cg_V (C := R_Bx) hw w_329 w_326 w_5 w_328 sel_Bx_nearest hd_Bx_nearest ⟨by exact Nat.le_of_ble_eq_true rfl, by exact Nat.le_of_ble_eq_true rfl⟩) hG hK hX hS hb0 rfl rfl rfl rfl (by exact Nat.le_of_ble_eq_true rfl) d_Bx_shadeThrownOnRow_67 ⟨by exact Nat.le_of_ble_eq_true rfl, by exact Nat.le_of_ble_eq_true rfl⟩ (fun v G1 H locs hp hG hS => ?_)
            obtain ⟨hv1, hG1⟩ := hp
            subst hv1
            rw [hG1] at hG
            refine W.eq (g2 := F0 m 70 ls [.int (jc_near y0 z0 y1 Y Z v_1 1)]) rfl ?_
            refine lv_topi (fun v_17 ev_17 => ?_)
            refine lv_istore (lv' := [(6, .int v_17), (5, .int 1), (4, .int v_1), (0, .ref a0), (1, .int y), (2, .ref a1), (3, .int w)]) hx hb d_Bx_shadeThrownOnRow_70 hl (by decide) rfl (fun ls hl => ?_)
            refine lv_aload_n hx hb d_Bx_shadeThrownOnRow_72 rfl (lv_at hl 3 rfl) ?_
            refine lv_iload hx hb d_Bx_shadeThrownOnRow_73 (lv_at hl 2 rfl) ?_
            refine lv_aload_n hx hb d_Bx_shadeThrownOnRow_75 rfl (lv_at hl 5 rfl) ?_
            refine lv_iload hx hb d_Bx_shadeThrownOnRow_76 (lv_at hl 1 rfl) ?_
            refine gs_V (As := [.int v_1, .ref a1, .int 1]) (rest := []) (k_Bx_farthest l D k zb G a0 x0 y0 z0 x1 y1 z1 pr a1 X Y Z am v_1 1 hb0 hb1) E hml hl.1 (cg_V (C := R_Bx) hw w_334 w_331 w_5 w_333 sel_Bx_farthest hd_Bx_farthest ⟨by exact Nat.le_of_ble_eq_true rfl, by exact Nat.le_of_ble_eq_true rfl⟩) hG hK hX hS hb0 rfl rfl rfl rfl (by exact Nat.le_of_ble_eq_true rfl) d_Bx_shadeThrownOnRow_78 ⟨by exact Nat.le_of_ble_eq_true rfl, by exact Nat.le_of_ble_eq_true rfl⟩ (fun v G1 H locs hp hG hS => ?_)
            obtain ⟨hv1, hG1⟩ := hp
            subst hv1
            rw [hG1] at hG
            refine W.eq (g2 := F0 m 81 ls [.int (jc_far y0 y1 z1 Y Z v_1 1)]) rfl ?_
            refine lv_topi (fun v_18 ev_18 => ?_)
            refine lv_istore (lv' := [(7, .int v_18), (6, .int v_17), (5, .int 1), (4, .int v_1), (0, .ref a0), (1, .int y), (2, .ref a1), (3, .int w)]) hx hb d_Bx_shadeThrownOnRow_81 hl (by decide) rfl (fun ls hl => ?_)
            refine lv_iload hx hb d_Bx_shadeThrownOnRow_83 (lv_at hl 1 rfl) ?_
            refine lv_iload hx hb d_Bx_shadeThrownOnRow_85 (lv_at hl 0 rfl) ?_
            refine lv_icmp_le (tgt := 92) hx hb d_Bx_shadeThrownOnRow_87 (by decide) (fun c_19 => ?_) (fun c_19 => ?_)
            · refine lv_iload hx hb d_Bx_shadeThrownOnRow_92 (lv_at hl 2 rfl) ?_
              refine lv_aload_n hx hb d_Bx_shadeThrownOnRow_94 rfl (lv_at hl 6 rfl) ?_
              refine gs_get E hK.1 hG hb1 (C := R_Hr) (T := F_Hr) (N := 4) rfl i_Hr 2 (by decide) w_45 (v := .int Z) rfl d_Bx_shadeThrownOnRow_95 ?_
              refine lv_imul hx hb d_Bx_shadeThrownOnRow_98 ?_
              refine lv_topi (fun v_20 ev_20 => ?_)
              refine lv_istore (lv' := [(8, .int v_20), (7, .int v_18), (6, .int v_17), (5, .int 1), (4, .int v_1), (0, .ref a0), (1, .int y), (2, .ref a1), (3, .int w)]) hx hb d_Bx_shadeThrownOnRow_99 hl (by decide) rfl (fun ls hl => ?_)
              refine lv_iload hx hb d_Bx_shadeThrownOnRow_101 (lv_at hl 2 rfl) ?_
              refine lv_aload_n hx hb d_Bx_shadeThrownOnRow_103 rfl (lv_at hl 7 rfl) ?_
              refine gs_get E hK.1 hG hb1 (C := R_Hr) (T := F_Hr) (N := 4) rfl i_Hr 0 (by decide) w_39 (v := .int X) rfl d_Bx_shadeThrownOnRow_104 ?_
              refine lv_imul hx hb d_Bx_shadeThrownOnRow_107 ?_
              refine lv_iload hx hb d_Bx_shadeThrownOnRow_108 (lv_at hl 1 rfl) ?_
              refine lv_aload_n hx hb d_Bx_shadeThrownOnRow_110 rfl (lv_at hl 7 rfl) ?_
              refine gs_get E hK.1 hG hb1 (C := R_Hr) (T := F_Hr) (N := 4) rfl i_Hr 0 (by decide) w_39 (v := .int X) rfl d_Bx_shadeThrownOnRow_111 ?_
              refine lv_imul hx hb d_Bx_shadeThrownOnRow_114 ?_
              refine va_mmin hx hb (hml.trans hl.1.symm) hown (hw _ w_335) (hw _ w_28) (hw _ w_2) (hw _ w_29) (by exact Nat.le_of_ble_eq_true rfl) (by exact Nat.le_of_ble_eq_true rfl) (by exact Nat.zero_le _) (by exact Nat.zero_le _) d_Bx_shadeThrownOnRow_115 ?_
              refine W.eq (g2 := F0 m 118 ls [.int (jc_min (v_17 * X) (v_18 * X))]) rfl ?_
              refine lv_topi (fun v_21 ev_21 => ?_)
              refine lv_istore (lv' := [(9, .int v_21), (8, .int v_20), (7, .int v_18), (6, .int v_17), (5, .int 1), (4, .int v_1), (0, .ref a0), (1, .int y), (2, .ref a1), (3, .int w)]) hx hb d_Bx_shadeThrownOnRow_118 hl (by decide) rfl (fun ls hl => ?_)
              refine lv_iload hx hb d_Bx_shadeThrownOnRow_120 (lv_at hl 3 rfl) ?_
              refine lv_aload_n hx hb d_Bx_shadeThrownOnRow_122 rfl (lv_at hl 8 rfl) ?_
              refine gs_get E hK.1 hG hb1 (C := R_Hr) (T := F_Hr) (N := 4) rfl i_Hr 0 (by decide) w_39 (v := .int X) rfl d_Bx_shadeThrownOnRow_123 ?_
              refine lv_imul hx hb d_Bx_shadeThrownOnRow_126 ?_
              refine lv_iload hx hb d_Bx_shadeThrownOnRow_127 (lv_at hl 2 rfl) ?_
              refine lv_aload_n hx hb d_Bx_shadeThrownOnRow_129 rfl (lv_at hl 8 rfl) ?_
              refine gs_get E hK.1 hG hb1 (C := R_Hr) (T := F_Hr) (N := 4) rfl i_Hr 0 (by decide) w_39 (v := .int X) rfl d_Bx_shadeThrownOnRow_130 ?_
              refine lv_imul hx hb d_Bx_shadeThrownOnRow_133 ?_
              refine va_mmax hx hb (hml.trans hl.1.symm) hown (hw _ w_330) (hw _ w_31) (hw _ w_2) (hw _ w_32) (by exact Nat.le_of_ble_eq_true rfl) (by exact Nat.le_of_ble_eq_true rfl) (by exact Nat.zero_le _) (by exact Nat.zero_le _) d_Bx_shadeThrownOnRow_134 ?_
              refine W.eq (g2 := F0 m 137 ls [.int (jc_max (v_17 * X) (v_18 * X))]) rfl ?_
              refine lv_topi (fun v_22 ev_22 => ?_)
              refine lv_istore (lv' := [(10, .int v_22), (9, .int v_21), (8, .int v_20), (7, .int v_18), (6, .int v_17), (5, .int 1), (4, .int v_1), (0, .ref a0), (1, .int y), (2, .ref a1), (3, .int w)]) hx hb d_Bx_shadeThrownOnRow_137 hl (by decide) rfl (fun ls hl => ?_)
              refine lv_iload hx hb d_Bx_shadeThrownOnRow_139 (lv_at hl 2 rfl) ?_
              refine lv_iconst (v := 2) hx hb d_Bx_shadeThrownOnRow_141 (by decide) ?_
              refine lv_aload_n hx hb d_Bx_shadeThrownOnRow_142 rfl (lv_at hl 7 rfl) ?_
              refine gs_get E hK.1 hG hb0 (C := R_Bx) (T := F_Bx) (N := 7) rfl i_Bx 0 (by decide) w_191 (v := .int x0) rfl d_Bx_shadeThrownOnRow_143 ?_
              refine lv_iload hx hb d_Bx_shadeThrownOnRow_146 (lv_at hl 2 rfl) ?_
              refine lv_imul hx hb d_Bx_shadeThrownOnRow_148 ?_
              refine lv_iload hx hb d_Bx_shadeThrownOnRow_149 (lv_at hl 1 rfl) ?_
              refine lv_iadd hx hb d_Bx_shadeThrownOnRow_151 ?_
              refine lv_imul hx hb d_Bx_shadeThrownOnRow_152 ?_
              refine lv_isub hx hb d_Bx_shadeThrownOnRow_153 ?_
              refine lv_iconst (v := 2) hx hb d_Bx_shadeThrownOnRow_154 (by decide) ?_
              refine lv_iload hx hb d_Bx_shadeThrownOnRow_155 (lv_at hl 2 rfl) ?_
              refine lv_imul hx hb d_Bx_shadeThrownOnRow_157 ?_
              refine gs_St (As := [.int (v_20 - (2 * ((x0 * v_20) + v_21))), .int (2 * v_20)]) (rest := []) (k_Bx_floorOver l D k zb G (v_20 - (2 * ((x0 * v_20) + v_21))) (2 * v_20)) E hml hl.1 (cg_S hw w_338 w_336 w_5 w_337 hd_Bx_floorOver ⟨by exact Nat.le_of_ble_eq_true rfl, by exact Nat.le_of_ble_eq_true rfl⟩) hG hK hX hS rfl rfl (by exact Nat.le_of_ble_eq_true rfl) d_Bx_shadeThrownOnRow_158 ⟨by exact Nat.le_of_ble_eq_true rfl, by exact Nat.le_of_ble_eq_true rfl⟩ (fun v G1 H locs hp hG hS => ?_)
              obtain ⟨hv1, hG1⟩ := hp
              subst hv1
              rw [hG1] at hG
              refine W.eq (g2 := F0 m 161 ls [.int (jc_fover (v_20 - (2 * ((x0 * v_20) + v_21))) (2 * v_20))]) rfl ?_
              refine lv_ineg hx hb d_Bx_shadeThrownOnRow_161 ?_
              refine lv_topi (fun v_23 ev_23 => ?_)
              refine lv_istore (lv' := [(11, .int v_23), (10, .int v_22), (9, .int v_21), (8, .int v_20), (7, .int v_18), (6, .int v_17), (5, .int 1), (4, .int v_1), (0, .ref a0), (1, .int y), (2, .ref a1), (3, .int w)]) hx hb d_Bx_shadeThrownOnRow_162 hl (by decide) rfl (fun ls hl => ?_)
              refine lv_iconst (v := 2) hx hb d_Bx_shadeThrownOnRow_164 (by decide) ?_
              refine lv_aload_n hx hb d_Bx_shadeThrownOnRow_165 rfl (lv_at hl 8 rfl) ?_
              refine gs_get E hK.1 hG hb0 (C := R_Bx) (T := F_Bx) (N := 7) rfl i_Bx 3 (by decide) w_194 (v := .int x1) rfl d_Bx_shadeThrownOnRow_166 ?_
              refine lv_iload hx hb d_Bx_shadeThrownOnRow_169 (lv_at hl 3 rfl) ?_
              refine lv_imul hx hb d_Bx_shadeThrownOnRow_171 ?_
              refine lv_iload hx hb d_Bx_shadeThrownOnRow_172 (lv_at hl 1 rfl) ?_
              refine lv_iadd hx hb d_Bx_shadeThrownOnRow_174 ?_
              refine lv_imul hx hb d_Bx_shadeThrownOnRow_175 ?_
              refine lv_iload hx hb d_Bx_shadeThrownOnRow_176 (lv_at hl 3 rfl) ?_
              refine lv_isub hx hb d_Bx_shadeThrownOnRow_178 ?_
              refine lv_iconst (v := 2) hx hb d_Bx_shadeThrownOnRow_179 (by decide) ?_
              refine lv_iload hx hb d_Bx_shadeThrownOnRow_180 (lv_at hl 3 rfl) ?_
              refine lv_imul hx hb d_Bx_shadeThrownOnRow_182 ?_
              refine gs_St (As := [.int ((2 * ((x1 * v_20) + v_22)) - v_20), .int (2 * v_20)]) (rest := []) (k_Bx_floorOver l D k zb G ((2 * ((x1 * v_20) + v_22)) - v_20) (2 * v_20)) E hml hl.1 (cg_S hw w_338 w_336 w_5 w_337 hd_Bx_floorOver ⟨by exact Nat.le_of_ble_eq_true rfl, by exact Nat.le_of_ble_eq_true rfl⟩) hG hK hX hS rfl rfl (by exact Nat.le_of_ble_eq_true rfl) d_Bx_shadeThrownOnRow_183 ⟨by exact Nat.le_of_ble_eq_true rfl, by exact Nat.le_of_ble_eq_true rfl⟩ (fun v G1 H locs hp hG hS => ?_)
              obtain ⟨hv1, hG1⟩ := hp
              subst hv1
              rw [hG1] at hG
              refine W.eq (g2 := F0 m 186 ls [.int (jc_fover ((2 * ((x1 * v_20) + v_22)) - v_20) (2 * v_20))]) rfl ?_
              refine lv_topi (fun v_24 ev_24 => ?_)
              refine lv_istore (lv' := [(12, .int v_24), (11, .int v_23), (10, .int v_22), (9, .int v_21), (8, .int v_20), (7, .int v_18), (6, .int v_17), (5, .int 1), (4, .int v_1), (0, .ref a0), (1, .int y), (2, .ref a1), (3, .int w)]) hx hb d_Bx_shadeThrownOnRow_186 hl (by decide) rfl (fun ls hl => ?_)
              refine lv_iload hx hb d_Bx_shadeThrownOnRow_188 (lv_at hl 1 rfl) ?_
              refine lv_iconst (v := 0) hx hb d_Bx_shadeThrownOnRow_190 (by decide) ?_
              refine va_mmax hx hb (hml.trans hl.1.symm) hown (hw _ w_330) (hw _ w_31) (hw _ w_2) (hw _ w_32) (by exact Nat.le_of_ble_eq_true rfl) (by exact Nat.le_of_ble_eq_true rfl) (by exact Nat.zero_le _) (by exact Nat.zero_le _) d_Bx_shadeThrownOnRow_191 ?_
              refine W.eq (g2 := F0 m 194 ls [.int (jc_max v_23 0)]) rfl ?_
              refine lv_iload hx hb d_Bx_shadeThrownOnRow_194 (lv_at hl 0 rfl) ?_
              refine lv_iload_n hx hb d_Bx_shadeThrownOnRow_196 rfl (lv_at hl 12 rfl) ?_
              refine lv_iconst (v := 1) hx hb d_Bx_shadeThrownOnRow_197 (by decide) ?_
              refine lv_isub hx hb d_Bx_shadeThrownOnRow_198 ?_
              refine va_mmin hx hb (hml.trans hl.1.symm) hown (hw _ w_335) (hw _ w_28) (hw _ w_2) (hw _ w_29) (by exact Nat.le_of_ble_eq_true rfl) (by exact Nat.le_of_ble_eq_true rfl) (by exact Nat.zero_le _) (by exact Nat.zero_le _) d_Bx_shadeThrownOnRow_199 ?_
              refine W.eq (g2 := F0 m 202 ls [.int (jc_min v_24 (w - 1)), .int (jc_max v_23 0)]) rfl ?_
              refine gs_SN (As := [.int (jc_max v_23 0), .int (jc_min v_24 (w - 1))]) (rest := []) (k_Ss_cellsBetween l D k zb G (jc_max v_23 0) (jc_min v_24 (w - 1))) E hml hl.1 (cg_N hw w_344 hK.2.1.2.1 w_1 hd_Ss_cellsBetween ⟨by exact Nat.le_of_ble_eq_true rfl, by exact Nat.le_of_ble_eq_true rfl⟩) w_343 hG hK hX hS rfl rfl (by exact Nat.le_of_ble_eq_true rfl) d_Bx_shadeThrownOnRow_202 ⟨by exact Nat.le_of_ble_eq_true rfl, by exact Nat.le_of_ble_eq_true rfl⟩ (fun v G1 H locs hp hG hS => ?_)
              obtain ⟨hv1, hG1⟩ := hp
              subst hv1
              rw [hG1] at hG
              refine W.eq (g2 := F0 m 205 ls [.long (jc_cells (jc_max v_23 0) (jc_min v_24 (w - 1)))]) rfl ?_
              refine W.lret (v := (jc_cells (jc_max v_23 0) (jc_min v_24 (w - 1)))) hx hb hr (gs_end ⟨?_, rfl⟩ hG hS) hS.2.2 d_Bx_shadeThrownOnRow_205
              subst ev_24
              subst ev_23
              subst ev_22
              subst ev_21
              subst ev_20
              subst ev_18
              subst ev_17
              subst ev_1
              simp only [jc_shade, jc_go, jc_body, jc_scale, jc_first, jc_last, if_neg c_2, if_neg c_3, if_pos c_4, if_neg c_15, if_pos c_16, if_pos c_19]
            · refine lv_lconst (v := 0) hx hb d_Bx_shadeThrownOnRow_90 (by decide) ?_
              refine W.lret (v := 0) hx hb hr (gs_end ⟨?_, rfl⟩ hG hS) hS.2.2 d_Bx_shadeThrownOnRow_91
              subst ev_18
              subst ev_17
              subst ev_1
              simp only [jc_shade, jc_go, jc_body, jc_scale, jc_first, jc_last, if_neg c_2, if_neg c_3, if_pos c_4, if_neg c_15, if_pos c_16, if_neg c_19]
        · refine lv_lconst (v := 0) hx hb d_Bx_shadeThrownOnRow_37 (by decide) ?_
          refine W.lret (v := 0) hx hb hr (gs_end ⟨?_, rfl⟩ hG hS) hS.2.2 d_Bx_shadeThrownOnRow_38
          subst ev_1
          simp only [jc_shade, jc_go, jc_body, jc_scale, jc_first, jc_last, if_neg c_2, if_neg c_3, if_pos c_4, if_pos c_15]
end
section
/-! What lies in the heap for an object of ours: the map G, read -/
abbrev oBx (f : Nat → Int32) : va_E := .inr (0, [.int (f 0), .int (f 1), .int (f 2), .int (f 3), .int (f 4), .int (f 5), .int (f 6)])
abbrev oHr (f : Nat → Int32) : va_E := .inr (1, [.int (f 0), .int (f 1), .int (f 2), .int (f 3)])
abbrev oWn (f : Nat → Nat) : va_E := .inr (2, [.int (nI (f 0)), .int (nI (f 1)), .int (nI (f 2)), .int (nI (f 3))])
abbrev aRef (c : ClassId) (n : Nat) (f : Nat → Option Nat) : va_E := .inl (c, n, .inr (.inr (.inr (.inr f))))
abbrev aInt (c : ClassId) (n : Nat) (f : Nat → Int32) : va_E := .inl (c, n, .inl f)
abbrev aLong (c : ClassId) (n : Nat) (f : Nat → Int64) : va_E := .inl (c, n, .inr (.inl f))
abbrev oSs (wn hn : Nat) (aB aW aH aS aT : Nat) (nb nw : Nat) : va_E := .inr (3, [.int (nI wn), .int (nI hn), .ref aB, .ref aW, .ref aH, .ref aS, .ref aT, .int (nI nb), .int (nI nw)])
def upTo (n : Nat) (a : Nat → Nat) : Nat → Option Nat := fun i => if i < n then some (a i) else none
def sC (k : Nat → ClassId) (G : Nat → Option va_E) (o aB aW aH aS aT : Nat) (wn hn nb nw : Nat) (ba wa ha : Nat → Nat) (bf hf : Nat → Nat → Int32) (wf : Nat → Nat → Nat) (sh : Nat → Int64) (tk : Nat → Int32) : Prop :=
  (G o = some (oSs wn hn aB aW aH aS aT nb nw) ∧ G aB = some (aRef (k 3) 10 (upTo nb ba)) ∧ G aW = some (aRef (k 4) 10 (upTo nw wa)) ∧ G aH = some (aRef (k 5) 24 (upTo 24 ha)) ∧ G aS = some (aLong (k 1) 10 sh) ∧ G aT = some (aInt (k 0) 10 tk)) ∧
  (nb ≤ 10 ∧ nw ≤ 10 ∧ 1 ≤ wn ∧ wn ≤ 60 ∧ 1 ≤ hn ∧ hn ≤ 60) ∧ (∀ i, i < nb → G (ba i) = some (oBx (bf i))) ∧ (∀ i, i < nw → G (wa i) = some (oWn (wf i))) ∧ (∀ i, i < 24 → G (ha i) = some (oHr (hf i))) ∧
  (∀ i j, i < nb → j < nb → ba i = ba j → i = j) ∧ (∀ i j, i < 24 → j < 24 → ha i = ha j → i = j) ∧ ∀ i, i < nw → wf i 0 < wf i 2 ∧ wf i 2 ≤ wn ∧ wf i 1 < wf i 3 ∧ wf i 3 ≤ hn
theorem upTo_in {n i : Nat} {a : Nat → Nat} (h : i < n) : upTo n a i = some (a i) := by unfold upTo; rw [if_pos h]
theorem upTo_out {n i : Nat} {a : Nat → Nat} (h : ¬ i < n) : upTo n a i = none := by unfold upTo; rw [if_neg h]
theorem ix_of {x : Int32} {n : Nat} (hn : n < 2 ^ 31) (h0 : ¬ x < 0) (h : ¬ nI n ≤ x) : ∃ j : Nat, j < n ∧ x = nI j := by
  rcases pk_ix x hn with q | q | q
  · exact absurd q h0
  · exact absurd q h
  · exact q
section GN
variable {p : Program} {l : Launch} {e : Env} {R : Room} {s : State} {m : MethodId} {args : Array Value} {below : List Frame} {meth : Method} {c : Code} {H : Heap} {locs : List Loc} {cells slots : Nat} {Q : State → Prop}
variable {cc : ByteArray} {pc : Nat} {ls : Array Slot} {rest : List Value} {D : va_G} {cl : List vw_C} {a j n : Nat} {tys : List (ClassId × FieldType)} {H0 : Heap} {z0 : Nat} {G : Nat → Option va_E} {Ts : List Cond} {own : String}
theorem gn_iald (E : gs_E p s m args c cc Ts own) (hK : va_K D cl tys s) (hG : gs_W D cl z0 G H) {cA : ClassId} {f : Nat → Int32} (ha : G a = some (aInt cA n f)) (t0 : Nat) (ht : tys[t0]? = some (cA, .int)) (hj : j < n) (hn : n < 2 ^ 31) (hdg : decode cc pc = .ok (.iaload, 1))
    (kk : W p l e R s m args below meth c H locs cells slots Q (F0 m (pc + 1) ls (.int (f j) :: rest))) : W p l e R s m args below meth c H locs cells slots Q (F0 m pc ls (.int (nI j) :: .ref a :: rest)) :=
  gs_iald E hK hG ha t0 ht (vp_in_nI hj hn) hdg (by rw [nI_clamp (Nat.lt_trans hj hn)]; exact kk)
theorem gn_zald (E : gs_E p s m args c cc Ts own) (hK : va_K D cl tys s) (hG : gs_W D cl z0 G H) {cA : ClassId} {f : Nat → Int32} (ha : G a = some (aInt cA n f)) (t0 : Nat) (ht : tys[t0]? = some (cA, .boolean)) (hj : j < n) (hn : n < 2 ^ 31) (hdg : decode cc pc = .ok (.baload, 1))
    (kk : W p l e R s m args below meth c H locs cells slots Q (F0 m (pc + 1) ls (.int (f j) :: rest))) : W p l e R s m args below meth c H locs cells slots Q (F0 m pc ls (.int (nI j) :: .ref a :: rest)) :=
  gs_zald E hK hG ha t0 ht (vp_in_nI hj hn) hdg (by rw [nI_clamp (Nat.lt_trans hj hn)]; exact kk)
theorem gn_lald (E : gs_E p s m args c cc Ts own) (hK : va_K D cl tys s) (hG : gs_W D cl z0 G H) {cA : ClassId} {f : Nat → Int64} (ha : G a = some (aLong cA n f)) (t0 : Nat) (ht : tys[t0]? = some (cA, .long)) (hj : j < n) (hn : n < 2 ^ 31) (hdg : decode cc pc = .ok (.laload, 1))
    (kk : W p l e R s m args below meth c H locs cells slots Q (F0 m (pc + 1) ls (.long (f j) :: rest))) : W p l e R s m args below meth c H locs cells slots Q (F0 m pc ls (.int (nI j) :: .ref a :: rest)) :=
  gs_lald E hK hG ha t0 ht (vp_in_nI hj hn) hdg (by rw [nI_clamp (Nat.lt_trans hj hn)]; exact kk)
theorem gn_aldS (E : gs_E p s m args c cc Ts own) (hK : va_K D cl tys s) (hG : gs_W D cl z0 G H) {cA : ClassId} {C : String} {f : Nat → Option Nat} (ha : G a = some (aRef cA n f)) (t0 : Nat) (ht : tys[t0]? = some (cA, .object C)) (hj : j < n) (hn : n < 2 ^ 31) {b : Nat} (hf : f j = some b) (hdg : decode cc pc = .ok (.aaload, 1))
    (kk : W p l e R s m args below meth c H locs cells slots Q (F0 m (pc + 1) ls (.ref b :: rest))) : W p l e R s m args below meth c H locs cells slots Q (F0 m pc ls (.int (nI j) :: .ref a :: rest)) :=
  gs_aldq E hK hG ha t0 ht (vp_in_nI hj hn) hdg (by rw [nI_clamp (Nat.lt_trans hj hn), hf]; exact kk)
theorem gn_aldN (E : gs_E p s m args c cc Ts own) (hK : va_K D cl tys s) (hG : gs_W D cl z0 G H) {cA : ClassId} {C : String} {f : Nat → Option Nat} (ha : G a = some (aRef cA n f)) (t0 : Nat) (ht : tys[t0]? = some (cA, .object C)) (hj : j < n) (hn : n < 2 ^ 31) (hf : f j = none) (hdg : decode cc pc = .ok (.aaload, 1))
    (kk : W p l e R s m args below meth c H locs cells slots Q (F0 m (pc + 1) ls (.null :: rest))) : W p l e R s m args below meth c H locs cells slots Q (F0 m pc ls (.int (nI j) :: .ref a :: rest)) :=
  gs_aldq E hK hG ha t0 ht (vp_in_nI hj hn) hdg (by rw [nI_clamp (Nat.lt_trans hj hn), hf]; exact kk)
theorem gn_iast (E : gs_E p s m args c cc Ts own) (hK : va_K D cl tys s) (hG : gs_W D cl z0 G H) (hS : gs_S z0 H0 H locs) {cA : ClassId} {f : Nat → Int32} (ha : G a = some (aInt cA n f)) (t0 : Nat) (ht : tys[t0]? = some (cA, .int)) {x : Int32} (hj : j < n) (hn : n < 2 ^ 31) (hdg : decode cc pc = .ok (.iastore, 1))
    (kk : ∀ (H1 : Heap) (locs1 : List Loc), gs_W D cl z0 (gs_u G a (aInt cA n (upd f j x))) H1 → gs_S z0 H0 H1 locs1 → W p l e R s m args below meth c H1 locs1 cells slots Q (F0 m (pc + 1) ls rest)) : W p l e R s m args below meth c H locs cells slots Q (F0 m pc ls (.int x :: .int (nI j) :: .ref a :: rest)) :=
  gs_iast E hK hG hS ha t0 ht (vp_in_nI hj hn) hdg (by rw [nI_clamp (Nat.lt_trans hj hn)]; exact kk)
theorem gn_zast (E : gs_E p s m args c cc Ts own) (hK : va_K D cl tys s) (hG : gs_W D cl z0 G H) (hS : gs_S z0 H0 H locs) {cA : ClassId} {f : Nat → Int32} (ha : G a = some (aInt cA n f)) (t0 : Nat) (ht : tys[t0]? = some (cA, .boolean)) {x : Int32} (hx : vp_nar .boolean x = x) (hj : j < n) (hn : n < 2 ^ 31) (hdg : decode cc pc = .ok (.bastore, 1))
    (kk : ∀ (H1 : Heap) (locs1 : List Loc), gs_W D cl z0 (gs_u G a (aInt cA n (upd f j x))) H1 → gs_S z0 H0 H1 locs1 → W p l e R s m args below meth c H1 locs1 cells slots Q (F0 m (pc + 1) ls rest)) : W p l e R s m args below meth c H locs cells slots Q (F0 m pc ls (.int x :: .int (nI j) :: .ref a :: rest)) :=
  gs_zast E hK hG hS ha t0 ht (vp_in_nI hj hn) hdg (by rw [nI_clamp (Nat.lt_trans hj hn), hx]; exact kk)
theorem gn_last (E : gs_E p s m args c cc Ts own) (hK : va_K D cl tys s) (hG : gs_W D cl z0 G H) (hS : gs_S z0 H0 H locs) {cA : ClassId} {f : Nat → Int64} (ha : G a = some (aLong cA n f)) (t0 : Nat) (ht : tys[t0]? = some (cA, .long)) {x : Int64} (hj : j < n) (hn : n < 2 ^ 31) (hdg : decode cc pc = .ok (.lastore, 1))
    (kk : ∀ (H1 : Heap) (locs1 : List Loc), gs_W D cl z0 (gs_u G a (aLong cA n (vp_updL f j x))) H1 → gs_S z0 H0 H1 locs1 → W p l e R s m args below meth c H1 locs1 cells slots Q (F0 m (pc + 1) ls rest)) : W p l e R s m args below meth c H locs cells slots Q (F0 m pc ls (.long x :: .int (nI j) :: .ref a :: rest)) :=
  gs_last E hK hG hS ha t0 ht (vp_in_nI hj hn) hdg (by rw [nI_clamp (Nat.lt_trans hj hn)]; exact kk)
theorem gn_astq (E : gs_E p s m args c cc Ts own) (hK : va_K D cl tys s) (hG : gs_W D cl z0 G H) (hS : gs_S z0 H0 H locs) {cA : ClassId} {r : vw_C} {v ci : Nat} {vs : List Value} {f : Nat → Option Nat} (ha : G a = some (aRef cA n f)) (t0 : Nat) (ht : tys[t0]? = some (cA, .object r.1)) (hv : G v = some (.inr (ci, vs))) (hc : cl[ci]? = some r) (hj : j < n) (hn : n < 2 ^ 31) (hdg : decode cc pc = .ok (.aastore, 1))
    (kk : ∀ (H1 : Heap) (locs1 : List Loc), gs_W D cl z0 (gs_u G a (aRef cA n (va_up f j (some v)))) H1 → gs_S z0 H0 H1 locs1 → W p l e R s m args below meth c H1 locs1 cells slots Q (F0 m (pc + 1) ls rest)) : W p l e R s m args below meth c H locs cells slots Q (F0 m pc ls (.ref v :: .int (nI j) :: .ref a :: rest)) :=
  gs_astq E hK hG hS ha t0 ht hv hc (vp_in_nI hj hn) hdg (by rw [nI_clamp (Nat.lt_trans hj hn)]; exact kk)
end GN
end
section
/-! small rows on counters -/
theorem kb_no1 {n : Int32} {N : Nat} (hN : N ≤ 1000) (h : n < 0) : ¬ ∃ i : Nat, i < N ∧ n = nI i := by
  rintro ⟨i, hi, rfl⟩
  exact nI_pos (by omega) h
theorem kb_no2 {n : Int32} {N M : Nat} (hN : N ≤ M) (hM : M < 2 ^ 31) (h : nI M ≤ n) : ¬ ∃ i : Nat, i < N ∧ n = nI i := by
  rintro ⟨i, hi, rfl⟩
  exact nI_ge (by omega) hM h
theorem kb_no3 {j N : Nat} (hN : N ≤ 1000) (hj : j < 2 ^ 31) (h : ¬ j < N) : ¬ ∃ i : Nat, i < N ∧ nI j = nI i := by
  rintro ⟨i, hi, e⟩
  have := (nI_eq hj (by omega)).mp e
  omega
theorem cl_eq {i N : Nat} (hN : N < 2 ^ 31) (hi : i ≤ N) (c : nI N ≤ nI i) : i = N := by
  rcases Nat.lt_or_ge i N with q | q
  · exact absurd c (nI_ge q hN)
  · omega
theorem cl_lt {i N : Nat} (hN : N < 2 ^ 31) (hi : i ≤ N) (c : ¬ nI N ≤ nI i) : i < N := by
  rcases Nat.lt_or_ge i N with q | q
  · exact q
  · exact absurd (nI_le q (by omega)) c
/-- the rows of shadow that the first i boxes throw on row y -/
def jc_row (nb : Nat) (bf : Nat → Nat → Int32) (X Y Z y w : Int32) : Nat → Int64
  | 0 => 0
  | i + 1 => if i < nb then jc_row nb bf X Y Z y w i ||| jc_shade (bf i 6) (bf i 0) (bf i 1) (bf i 2) (bf i 3) (bf i 4) (bf i 5) X Y Z y w else jc_row nb bf X Y Z y w i
theorem jc_row_in {nb : Nat} {bf : Nat → Nat → Int32} {X Y Z y w : Int32} {i : Nat} (h : i < nb) : jc_row nb bf X Y Z y w (i + 1) = jc_row nb bf X Y Z y w i ||| jc_shade (bf i 6) (bf i 0) (bf i 1) (bf i 2) (bf i 3) (bf i 4) (bf i 5) X Y Z y w := by rw [jc_row, if_pos h]
theorem jc_row_out {nb : Nat} {bf : Nat → Nat → Int32} {X Y Z y w : Int32} {i : Nat} (h : ¬ i < nb) : jc_row nb bf X Y Z y w (i + 1) = jc_row nb bf X Y Z y w i := by rw [jc_row, if_neg h]
def jc_sum (g : Nat → Int32) : Nat → Int32
  | 0 => 0
  | j + 1 => jc_sum g j + g j
def ld_no : Int32 → Int64 → Int64 := fun _ r => r
def ld_box (pr x0 y0 z0 x1 y1 z1 X Y Z w : Int32) : Int32 → Int64 → Int64 := fun y r => r ||| jc_shade pr x0 y0 z0 x1 y1 z1 X Y Z y w
def jc_dk (nb : Nat) (bf : Nat → Nat → Int32) (X Y Z w : Int32) (ld : Int32 → Int64 → Int64) (cols : Int64) (m1 j : Nat) : Int32 := jc_bits (ld (nI (m1 + j)) (jc_row nb bf X Y Z (nI (m1 + j)) w 10) &&& cols)
def jc_dark (nb : Nat) (bf : Nat → Nat → Int32) (X Y Z w : Int32) (ld : Int32 → Int64 → Int64) (m0 m1 m2 m3 : Nat) : Int32 := jc_sum (jc_dk nb bf X Y Z w ld (jc_cells (nI m0) (nI m2 - 1)) m1) (m3 - m1)
def jc_lightOf (nb : Nat) (bf : Nat → Nat → Int32) (X Y Z am w : Int32) (m0 m1 m2 m3 : Nat) : Int32 := if jc_hasSun Z = 0 then 0 else if am = 0 then 0 else am * ((nI m2 - nI m0) * (nI m3 - nI m1) - jc_dark nb bf X Y Z w ld_no m0 m1 m2 m3)
def jc_with (cs : Int64) : Nat → Nat → Int32 → Int32
  | 0, _, _ => (-1)
  | n + 1, x, l => if jc_hasCell cs (nI x) = 0 then jc_with cs n (x + 1) l else if l = 0 then nI x else jc_with cs n (x + 1) (l + (-1))
def jc_cell (row : Nat → Int64) : Nat → Nat → Int32 → Int32
  | 0, _, _ => (-1)
  | n + 1, y, b => if jc_bits (row y) ≤ b then jc_cell row n (y + 1) (b - jc_bits (row y)) else 100 * nI y + jc_with (row y) 60 0 b
def jc_best (g : Nat → Int32) : Nat → Int32 × Int32
  | 0 => ((-1), 0)
  | i + 1 => if g i ≤ (jc_best g i).2 then jc_best g i else (nI i, g i)
theorem jc_with_s (cs : Int64) (n x : Nat) (l : Int32) : jc_with cs (n + 1) x l = if jc_hasCell cs (nI x) = 0 then jc_with cs n (x + 1) l else if l = 0 then nI x else jc_with cs n (x + 1) (l + (-1)) := rfl
theorem jc_cell_s (row : Nat → Int64) (n y : Nat) (b : Int32) : jc_cell row (n + 1) y b = if jc_bits (row y) ≤ b then jc_cell row n (y + 1) (b - jc_bits (row y)) else 100 * nI y + jc_with (row y) 60 0 b := rfl
theorem jc_best_s (g : Nat → Int32) (i : Nat) : jc_best g (i + 1) = if g i ≤ (jc_best g i).2 then jc_best g i else (nI i, g i) := rfl
theorem jc_sum_s (g : Nat → Int32) (i : Nat) : jc_sum g (i + 1) = jc_sum g i + g i := rfl
end
section
/-! contracts, by program -/
set_option maxHeartbeats 4000000 in
set_option maxRecDepth 100000 in
theorem k_Ss_knownBox (l : Launch) (hnt : l.stackTraces = false) (D : va_G) (k : Nat → ClassId) (zb : Nat) (G : Nat → Option va_E) (o aB aW aH aS aT : Nat) (wn hn nb nw : Nat) (ba wa ha : Nat → Nat) (bf hf : Nat → Nat → Int32) (wf : Nat → Nat → Nat) (sh : Nat → Int64) (tk : Nat → Int32) (n : Int32) (hC : sC k G o aB aW aH aS aT wn hn nb nw ba wa ha bf hf wf sh tk) : vx_Met l y_Ss_knownBox (wM y_Ss_knownBox c_Ss_knownBox 3 (some (.object "SunShadows$Box"))) ({ frames := 6, cells := 1, slots := 6, locals := 90 }) (gs_P D k zb G [.ref o, .int n]) (gs_Q D zb (fun v G1 => ∃ i : Nat, i < nb ∧ n = nI i ∧ v = some (.ref (ba i)) ∧ G1 = G)) (gs_T D zb G (fun E => E = e_IA ∧ ¬ ∃ i : Nat, i < nb ∧ n = nI i)) 1 6 (fun q : Nat => zb ≤ q) := by
  refine vx_ofW (cc := c_Ss_knownBox) (maxL := 3) (ret := (some (.object "SunShadows$Box"))) (by decide) rfl ?_
  intro p e s m args below meth c s₁ B hml ht hv
  obtain ⟨rfl, hG, hK, hX⟩ := hv
  have hx := B.exec
  have hb := B.bytes
  have hr := B.returns
  have hts := atoms_spec (ws := wM y_Ss_knownBox c_Ss_knownBox 3 (some (.object "SunShadows$Box"))) B.pre
  have hw : ∀ w9 ∈ wW, w9.before ([.ref o, .int n] : List Value).toArray s = true := fun w9 h9 => hts w9 (gi_in w9 h9)
  have hown : s.vm.findClass R_Ss = some m.cls := findClass_of_methodNamed B.named
  have hlocks := B.notSynchronized
  have E : gs_E p s m ([.ref o, .int n] : List Value).toArray c c_Ss_knownBox wW R_Ss := ⟨hx, hb, hw, hown⟩
  have hS : gs_S zb s.heap s.heap [] := va_S.rf
  have hl := lv_entry ([.ref o, .int n]) (n := 3) (Nat.le_of_ble_eq_true rfl)
  rw [lg_entry_eq]
  generalize (lg_sl ([.ref o, .int n]) ++ List.replicate (3 - (lg_sl ([.ref o, .int n])).length) Slot.unset).toArray = ls at hl ⊢
  have hl : lv_has ls 3 [(0, .ref o), (1, .int n)] := hl
  refine lv_iload_n hx hb d_Ss_knownBox_0 rfl (lv_at hl 1 rfl) ?_
  refine lv_if_lt (tgt := 22) hx hb d_Ss_knownBox_1 (by decide) (fun c_1 => ?_) (fun c_1 => ?_)
  · refine lv_null hx hb d_Ss_knownBox_22 ?_
    refine lv_astore_nN (lv' := [(2, .null), (0, .ref o), (1, .int n)]) hx hb d_Ss_knownBox_23 rfl hl (by decide) rfl (fun ls hl => ?_)
    refine lv_aload_nN hx hb d_Ss_knownBox_24 rfl (lv_at hl 0 rfl) ?_
    refine lv_ifnonnullN hx hb d_Ss_knownBox_25 ?_
    exact gs_throwIA (text := "no such box") hnt E hG hK hX hS ht (hl.1.trans hml.symm) w_103 w_9 (by decide) (⟨rfl, kb_no1 (by have := hC.2.1; omega) c_1⟩) d_Ss_knownBox_28 d_Ss_knownBox_31 d_Ss_knownBox_32 d_Ss_knownBox_34 d_Ss_knownBox_37 (by exact Nat.le_of_ble_eq_true rfl) (by exact Nat.le_of_ble_eq_true rfl) (by exact Nat.le_of_ble_eq_true rfl) (by exact Nat.le_of_ble_eq_true rfl) hlocks (by decide) (by decide)
  · refine lv_iload_n hx hb d_Ss_knownBox_4 rfl (lv_at hl 1 rfl) ?_
    refine lv_aload_n hx hb d_Ss_knownBox_5 rfl (lv_at hl 0 rfl) ?_
    refine gs_get E hK.1 hG hC.1.1 (C := R_Ss) (T := F_Ss) (N := 9) rfl i_Ss 2 (by decide) w_62 (v := .ref aB) rfl d_Ss_knownBox_6 ?_
    refine gs_alen E hK.1 hG hC.1.2.1 3 rfl (v := 10) rfl d_Ss_knownBox_9 ?_
    refine lv_icmp_ge (tgt := 22) hx hb d_Ss_knownBox_10 (by decide) (fun c_2 => ?_) (fun c_2 => ?_)
    · refine lv_null hx hb d_Ss_knownBox_22 ?_
      refine lv_astore_nN (lv' := [(2, .null), (0, .ref o), (1, .int n)]) hx hb d_Ss_knownBox_23 rfl hl (by decide) rfl (fun ls hl => ?_)
      refine lv_aload_nN hx hb d_Ss_knownBox_24 rfl (lv_at hl 0 rfl) ?_
      refine lv_ifnonnullN hx hb d_Ss_knownBox_25 ?_
      exact gs_throwIA (text := "no such box") hnt E hG hK hX hS ht (hl.1.trans hml.symm) w_103 w_9 (by decide) (⟨rfl, kb_no2 (M := 10) (by have := hC.2.1; omega) (by decide) c_2⟩) d_Ss_knownBox_28 d_Ss_knownBox_31 d_Ss_knownBox_32 d_Ss_knownBox_34 d_Ss_knownBox_37 (by exact Nat.le_of_ble_eq_true rfl) (by exact Nat.le_of_ble_eq_true rfl) (by exact Nat.le_of_ble_eq_true rfl) (by exact Nat.le_of_ble_eq_true rfl) hlocks (by decide) (by decide)
    · refine lv_aload_n hx hb d_Ss_knownBox_13 rfl (lv_at hl 0 rfl) ?_
      refine gs_get E hK.1 hG hC.1.1 (C := R_Ss) (T := F_Ss) (N := 9) rfl i_Ss 2 (by decide) w_62 (v := .ref aB) rfl d_Ss_knownBox_14 ?_
      refine lv_iload_n hx hb d_Ss_knownBox_17 rfl (lv_at hl 1 rfl) ?_
      obtain ⟨j, hj, rfl⟩ := ix_of (n := 10) (by decide) c_1 c_2
      by_cases hq_3 : j < nb
      · refine gn_aldS E hK.1 hG hC.1.2.1 3 rfl (j := j) hj (by decide) (upTo_in hq_3) d_Ss_knownBox_18 ?_
        refine lv_goto (tgt := 23) hx hb d_Ss_knownBox_19 (by decide) ?_
        refine lv_astore_n (lv' := [(2, .ref (ba j)), (0, .ref o), (1, .int (nI j))]) hx hb d_Ss_knownBox_23 rfl hl (by decide) rfl (fun ls hl => ?_)
        refine lv_aload_n hx hb d_Ss_knownBox_24 rfl (lv_at hl 0 rfl) ?_
        refine lv_ifnonnull (tgt := 38) hx hb d_Ss_knownBox_25 (by decide) ?_
        refine lv_aload_n hx hb d_Ss_knownBox_38 rfl (lv_at hl 0 rfl) ?_
        refine W.widen (k := 1) (n := 6) (by decide) (by decide) ?_
        refine vx_ret ?_
        exact W.aret (v := .ref (ba j)) hx hb hr (Or.inl ⟨_, rfl⟩) (Or.inr ⟨_, rfl⟩) (gs_end ⟨j, hq_3, rfl, rfl, rfl⟩ hG hS) hS.2.2 d_Ss_knownBox_39
      · refine gn_aldN E hK.1 hG hC.1.2.1 3 rfl (j := j) hj (by decide) (upTo_out hq_3) d_Ss_knownBox_18 ?_
        refine lv_goto (tgt := 23) hx hb d_Ss_knownBox_19 (by decide) ?_
        refine lv_astore_nN (lv' := [(2, .null), (0, .ref o), (1, .int (nI j))]) hx hb d_Ss_knownBox_23 rfl hl (by decide) rfl (fun ls hl => ?_)
        refine lv_aload_nN hx hb d_Ss_knownBox_24 rfl (lv_at hl 0 rfl) ?_
        refine lv_ifnonnullN hx hb d_Ss_knownBox_25 ?_
        exact gs_throwIA (text := "no such box") hnt E hG hK hX hS ht (hl.1.trans hml.symm) w_103 w_9 (by decide) (⟨rfl, kb_no3 (by have := hC.2.1; omega) (by omega) hq_3⟩) d_Ss_knownBox_28 d_Ss_knownBox_31 d_Ss_knownBox_32 d_Ss_knownBox_34 d_Ss_knownBox_37 (by exact Nat.le_of_ble_eq_true rfl) (by exact Nat.le_of_ble_eq_true rfl) (by exact Nat.le_of_ble_eq_true rfl) (by exact Nat.le_of_ble_eq_true rfl) hlocks (by decide) (by decide)
set_option maxHeartbeats 4000000 in
set_option maxRecDepth 100000 in
theorem k_Ss_knownWindow (l : Launch) (hnt : l.stackTraces = false) (D : va_G) (k : Nat → ClassId) (zb : Nat) (G : Nat → Option va_E) (o aB aW aH aS aT : Nat) (wn hn nb nw : Nat) (ba wa ha : Nat → Nat) (bf hf : Nat → Nat → Int32) (wf : Nat → Nat → Nat) (sh : Nat → Int64) (tk : Nat → Int32) (n : Int32) (hC : sC k G o aB aW aH aS aT wn hn nb nw ba wa ha bf hf wf sh tk) : vx_Met l y_Ss_knownWindow (wM y_Ss_knownWindow c_Ss_knownWindow 3 (some (.object "SunShadows$Window"))) ({ frames := 6, cells := 1, slots := 6, locals := 90 }) (gs_P D k zb G [.ref o, .int n]) (gs_Q D zb (fun v G1 => ∃ i : Nat, i < nw ∧ n = nI i ∧ v = some (.ref (wa i)) ∧ G1 = G)) (gs_T D zb G (fun E => E = e_IA ∧ ¬ ∃ i : Nat, i < nw ∧ n = nI i)) 1 6 (fun q : Nat => zb ≤ q) := by
  refine vx_ofW (cc := c_Ss_knownWindow) (maxL := 3) (ret := (some (.object "SunShadows$Window"))) (by decide) rfl ?_
  intro p e s m args below meth c s₁ B hml ht hv
  obtain ⟨rfl, hG, hK, hX⟩ := hv
  have hx := B.exec
  have hb := B.bytes
  have hr := B.returns
  have hts := atoms_spec (ws := wM y_Ss_knownWindow c_Ss_knownWindow 3 (some (.object "SunShadows$Window"))) B.pre
  have hw : ∀ w9 ∈ wW, w9.before ([.ref o, .int n] : List Value).toArray s = true := fun w9 h9 => hts w9 (gi_in w9 h9)
  have hown : s.vm.findClass R_Ss = some m.cls := findClass_of_methodNamed B.named
  have hlocks := B.notSynchronized
  have E : gs_E p s m ([.ref o, .int n] : List Value).toArray c c_Ss_knownWindow wW R_Ss := ⟨hx, hb, hw, hown⟩
  have hS : gs_S zb s.heap s.heap [] := va_S.rf
  have hl := lv_entry ([.ref o, .int n]) (n := 3) (Nat.le_of_ble_eq_true rfl)
  rw [lg_entry_eq]
  generalize (lg_sl ([.ref o, .int n]) ++ List.replicate (3 - (lg_sl ([.ref o, .int n])).length) Slot.unset).toArray = ls at hl ⊢
  have hl : lv_has ls 3 [(0, .ref o), (1, .int n)] := hl
  refine lv_iload_n hx hb d_Ss_knownWindow_0 rfl (lv_at hl 1 rfl) ?_
  refine lv_if_lt (tgt := 22) hx hb d_Ss_knownWindow_1 (by decide) (fun c_1 => ?_) (fun c_1 => ?_)
  · refine lv_null hx hb d_Ss_knownWindow_22 ?_
    refine lv_astore_nN (lv' := [(2, .null), (0, .ref o), (1, .int n)]) hx hb d_Ss_knownWindow_23 rfl hl (by decide) rfl (fun ls hl => ?_)
    refine lv_aload_nN hx hb d_Ss_knownWindow_24 rfl (lv_at hl 0 rfl) ?_
    refine lv_ifnonnullN hx hb d_Ss_knownWindow_25 ?_
    exact gs_throwIA (text := "no such window") hnt E hG hK hX hS ht (hl.1.trans hml.symm) w_103 w_9 (by decide) (⟨rfl, kb_no1 (by have := hC.2.1; omega) c_1⟩) d_Ss_knownWindow_28 d_Ss_knownWindow_31 d_Ss_knownWindow_32 d_Ss_knownWindow_34 d_Ss_knownWindow_37 (by exact Nat.le_of_ble_eq_true rfl) (by exact Nat.le_of_ble_eq_true rfl) (by exact Nat.le_of_ble_eq_true rfl) (by exact Nat.le_of_ble_eq_true rfl) hlocks (by decide) (by decide)
  · refine lv_iload_n hx hb d_Ss_knownWindow_4 rfl (lv_at hl 1 rfl) ?_
    refine lv_aload_n hx hb d_Ss_knownWindow_5 rfl (lv_at hl 0 rfl) ?_
    refine gs_get E hK.1 hG hC.1.1 (C := R_Ss) (T := F_Ss) (N := 9) rfl i_Ss 3 (by decide) w_63 (v := .ref aW) rfl d_Ss_knownWindow_6 ?_
    refine gs_alen E hK.1 hG hC.1.2.2.1 4 rfl (v := 10) rfl d_Ss_knownWindow_9 ?_
    refine lv_icmp_ge (tgt := 22) hx hb d_Ss_knownWindow_10 (by decide) (fun c_2 => ?_) (fun c_2 => ?_)
    · refine lv_null hx hb d_Ss_knownWindow_22 ?_
      refine lv_astore_nN (lv' := [(2, .null), (0, .ref o), (1, .int n)]) hx hb d_Ss_knownWindow_23 rfl hl (by decide) rfl (fun ls hl => ?_)
      refine lv_aload_nN hx hb d_Ss_knownWindow_24 rfl (lv_at hl 0 rfl) ?_
      refine lv_ifnonnullN hx hb d_Ss_knownWindow_25 ?_
      exact gs_throwIA (text := "no such window") hnt E hG hK hX hS ht (hl.1.trans hml.symm) w_103 w_9 (by decide) (⟨rfl, kb_no2 (M := 10) (by have := hC.2.1; omega) (by decide) c_2⟩) d_Ss_knownWindow_28 d_Ss_knownWindow_31 d_Ss_knownWindow_32 d_Ss_knownWindow_34 d_Ss_knownWindow_37 (by exact Nat.le_of_ble_eq_true rfl) (by exact Nat.le_of_ble_eq_true rfl) (by exact Nat.le_of_ble_eq_true rfl) (by exact Nat.le_of_ble_eq_true rfl) hlocks (by decide) (by decide)
    · refine lv_aload_n hx hb d_Ss_knownWindow_13 rfl (lv_at hl 0 rfl) ?_
      refine gs_get E hK.1 hG hC.1.1 (C := R_Ss) (T := F_Ss) (N := 9) rfl i_Ss 3 (by decide) w_63 (v := .ref aW) rfl d_Ss_knownWindow_14 ?_
      refine lv_iload_n hx hb d_Ss_knownWindow_17 rfl (lv_at hl 1 rfl) ?_
      obtain ⟨j, hj, rfl⟩ := ix_of (n := 10) (by decide) c_1 c_2
      by_cases hq_3 : j < nw
      · refine gn_aldS E hK.1 hG hC.1.2.2.1 4 rfl (j := j) hj (by decide) (upTo_in hq_3) d_Ss_knownWindow_18 ?_
        refine lv_goto (tgt := 23) hx hb d_Ss_knownWindow_19 (by decide) ?_
        refine lv_astore_n (lv' := [(2, .ref (wa j)), (0, .ref o), (1, .int (nI j))]) hx hb d_Ss_knownWindow_23 rfl hl (by decide) rfl (fun ls hl => ?_)
        refine lv_aload_n hx hb d_Ss_knownWindow_24 rfl (lv_at hl 0 rfl) ?_
        refine lv_ifnonnull (tgt := 38) hx hb d_Ss_knownWindow_25 (by decide) ?_
        refine lv_aload_n hx hb d_Ss_knownWindow_38 rfl (lv_at hl 0 rfl) ?_
        refine W.widen (k := 1) (n := 6) (by decide) (by decide) ?_
        refine vx_ret ?_
        exact W.aret (v := .ref (wa j)) hx hb hr (Or.inl ⟨_, rfl⟩) (Or.inr ⟨_, rfl⟩) (gs_end ⟨j, hq_3, rfl, rfl, rfl⟩ hG hS) hS.2.2 d_Ss_knownWindow_39
      · refine gn_aldN E hK.1 hG hC.1.2.2.1 4 rfl (j := j) hj (by decide) (upTo_out hq_3) d_Ss_knownWindow_18 ?_
        refine lv_goto (tgt := 23) hx hb d_Ss_knownWindow_19 (by decide) ?_
        refine lv_astore_nN (lv' := [(2, .null), (0, .ref o), (1, .int (nI j))]) hx hb d_Ss_knownWindow_23 rfl hl (by decide) rfl (fun ls hl => ?_)
        refine lv_aload_nN hx hb d_Ss_knownWindow_24 rfl (lv_at hl 0 rfl) ?_
        refine lv_ifnonnullN hx hb d_Ss_knownWindow_25 ?_
        exact gs_throwIA (text := "no such window") hnt E hG hK hX hS ht (hl.1.trans hml.symm) w_103 w_9 (by decide) (⟨rfl, kb_no3 (by have := hC.2.1; omega) (by omega) hq_3⟩) d_Ss_knownWindow_28 d_Ss_knownWindow_31 d_Ss_knownWindow_32 d_Ss_knownWindow_34 d_Ss_knownWindow_37 (by exact Nat.le_of_ble_eq_true rfl) (by exact Nat.le_of_ble_eq_true rfl) (by exact Nat.le_of_ble_eq_true rfl) (by exact Nat.le_of_ble_eq_true rfl) hlocks (by decide) (by decide)
set_option maxHeartbeats 4000000 in
set_option maxRecDepth 100000 in
theorem k_Ss_knownHour (l : Launch) (hnt : l.stackTraces = false) (D : va_G) (k : Nat → ClassId) (zb : Nat) (G : Nat → Option va_E) (o aB aW aH aS aT : Nat) (wn hn nb nw : Nat) (ba wa ha : Nat → Nat) (bf hf : Nat → Nat → Int32) (wf : Nat → Nat → Nat) (sh : Nat → Int64) (tk : Nat → Int32) (n : Int32) (hC : sC k G o aB aW aH aS aT wn hn nb nw ba wa ha bf hf wf sh tk) : vx_Met l y_Ss_knownHour (wM y_Ss_knownHour c_Ss_knownHour 3 (some (.object "SunShadows$Hour"))) ({ frames := 6, cells := 1, slots := 6, locals := 90 }) (gs_P D k zb G [.ref o, .int n]) (gs_Q D zb (fun v G1 => ∃ i : Nat, i < 24 ∧ n = nI i ∧ v = some (.ref (ha i)) ∧ G1 = G)) (gs_T D zb G (fun E => E = e_IA ∧ ¬ ∃ i : Nat, i < 24 ∧ n = nI i)) 1 6 (fun q : Nat => zb ≤ q) := by
  refine vx_ofW (cc := c_Ss_knownHour) (maxL := 3) (ret := (some (.object "SunShadows$Hour"))) (by decide) rfl ?_
  intro p e s m args below meth c s₁ B hml ht hv
  obtain ⟨rfl, hG, hK, hX⟩ := hv
  have hx := B.exec
  have hb := B.bytes
  have hr := B.returns
  have hts := atoms_spec (ws := wM y_Ss_knownHour c_Ss_knownHour 3 (some (.object "SunShadows$Hour"))) B.pre
  have hw : ∀ w9 ∈ wW, w9.before ([.ref o, .int n] : List Value).toArray s = true := fun w9 h9 => hts w9 (gi_in w9 h9)
  have hown : s.vm.findClass R_Ss = some m.cls := findClass_of_methodNamed B.named
  have hlocks := B.notSynchronized
  have E : gs_E p s m ([.ref o, .int n] : List Value).toArray c c_Ss_knownHour wW R_Ss := ⟨hx, hb, hw, hown⟩
  have hS : gs_S zb s.heap s.heap [] := va_S.rf
  have hl := lv_entry ([.ref o, .int n]) (n := 3) (Nat.le_of_ble_eq_true rfl)
  rw [lg_entry_eq]
  generalize (lg_sl ([.ref o, .int n]) ++ List.replicate (3 - (lg_sl ([.ref o, .int n])).length) Slot.unset).toArray = ls at hl ⊢
  have hl : lv_has ls 3 [(0, .ref o), (1, .int n)] := hl
  refine lv_iload_n hx hb d_Ss_knownHour_0 rfl (lv_at hl 1 rfl) ?_
  refine lv_if_lt (tgt := 22) hx hb d_Ss_knownHour_1 (by decide) (fun c_1 => ?_) (fun c_1 => ?_)
  · refine lv_null hx hb d_Ss_knownHour_22 ?_
    refine lv_astore_nN (lv' := [(2, .null), (0, .ref o), (1, .int n)]) hx hb d_Ss_knownHour_23 rfl hl (by decide) rfl (fun ls hl => ?_)
    refine lv_aload_nN hx hb d_Ss_knownHour_24 rfl (lv_at hl 0 rfl) ?_
    refine lv_ifnonnullN hx hb d_Ss_knownHour_25 ?_
    exact gs_throwIA (text := "no such hour") hnt E hG hK hX hS ht (hl.1.trans hml.symm) w_103 w_9 (by decide) (⟨rfl, kb_no1 (by decide) c_1⟩) d_Ss_knownHour_28 d_Ss_knownHour_31 d_Ss_knownHour_32 d_Ss_knownHour_34 d_Ss_knownHour_37 (by exact Nat.le_of_ble_eq_true rfl) (by exact Nat.le_of_ble_eq_true rfl) (by exact Nat.le_of_ble_eq_true rfl) (by exact Nat.le_of_ble_eq_true rfl) hlocks (by decide) (by decide)
  · refine lv_iload_n hx hb d_Ss_knownHour_4 rfl (lv_at hl 1 rfl) ?_
    refine lv_aload_n hx hb d_Ss_knownHour_5 rfl (lv_at hl 0 rfl) ?_
    refine gs_get E hK.1 hG hC.1.1 (C := R_Ss) (T := F_Ss) (N := 9) rfl i_Ss 4 (by decide) w_64 (v := .ref aH) rfl d_Ss_knownHour_6 ?_
    refine gs_alen E hK.1 hG hC.1.2.2.2.1 5 rfl (v := 24) rfl d_Ss_knownHour_9 ?_
    refine lv_icmp_ge (tgt := 22) hx hb d_Ss_knownHour_10 (by decide) (fun c_2 => ?_) (fun c_2 => ?_)
    · refine lv_null hx hb d_Ss_knownHour_22 ?_
      refine lv_astore_nN (lv' := [(2, .null), (0, .ref o), (1, .int n)]) hx hb d_Ss_knownHour_23 rfl hl (by decide) rfl (fun ls hl => ?_)
      refine lv_aload_nN hx hb d_Ss_knownHour_24 rfl (lv_at hl 0 rfl) ?_
      refine lv_ifnonnullN hx hb d_Ss_knownHour_25 ?_
      exact gs_throwIA (text := "no such hour") hnt E hG hK hX hS ht (hl.1.trans hml.symm) w_103 w_9 (by decide) (⟨rfl, kb_no2 (M := 24) (by decide) (by decide) c_2⟩) d_Ss_knownHour_28 d_Ss_knownHour_31 d_Ss_knownHour_32 d_Ss_knownHour_34 d_Ss_knownHour_37 (by exact Nat.le_of_ble_eq_true rfl) (by exact Nat.le_of_ble_eq_true rfl) (by exact Nat.le_of_ble_eq_true rfl) (by exact Nat.le_of_ble_eq_true rfl) hlocks (by decide) (by decide)
    · refine lv_aload_n hx hb d_Ss_knownHour_13 rfl (lv_at hl 0 rfl) ?_
      refine gs_get E hK.1 hG hC.1.1 (C := R_Ss) (T := F_Ss) (N := 9) rfl i_Ss 4 (by decide) w_64 (v := .ref aH) rfl d_Ss_knownHour_14 ?_
      refine lv_iload_n hx hb d_Ss_knownHour_17 rfl (lv_at hl 1 rfl) ?_
      obtain ⟨j, hj, rfl⟩ := ix_of (n := 24) (by decide) c_1 c_2
      refine gn_aldS E hK.1 hG hC.1.2.2.2.1 5 rfl (j := j) hj (by decide) (upTo_in hj) d_Ss_knownHour_18 ?_
      refine lv_goto (tgt := 23) hx hb d_Ss_knownHour_19 (by decide) ?_
      refine lv_astore_n (lv' := [(2, .ref (ha j)), (0, .ref o), (1, .int (nI j))]) hx hb d_Ss_knownHour_23 rfl hl (by decide) rfl (fun ls hl => ?_)
      refine lv_aload_n hx hb d_Ss_knownHour_24 rfl (lv_at hl 0 rfl) ?_
      refine lv_ifnonnull (tgt := 38) hx hb d_Ss_knownHour_25 (by decide) ?_
      refine lv_aload_n hx hb d_Ss_knownHour_38 rfl (lv_at hl 0 rfl) ?_
      refine W.widen (k := 1) (n := 6) (by decide) (by decide) ?_
      refine vx_ret ?_
      exact W.aret (v := .ref (ha j)) hx hb hr (Or.inl ⟨_, rfl⟩) (Or.inr ⟨_, rfl⟩) (gs_end ⟨j, hj, rfl, rfl, rfl⟩ hG hS) hS.2.2 d_Ss_knownHour_39
set_option maxHeartbeats 4000000 in
set_option maxRecDepth 100000 in
theorem k_Ss_sunnyHour (l : Launch) (hnt : l.stackTraces = false) (D : va_G) (k : Nat → ClassId) (zb : Nat) (G : Nat → Option va_E) (o aB aW aH aS aT : Nat) (wn hn nb nw : Nat) (ba wa ha : Nat → Nat) (bf hf : Nat → Nat → Int32) (wf : Nat → Nat → Nat) (sh : Nat → Int64) (tk : Nat → Int32) (n : Int32) (hC : sC k G o aB aW aH aS aT wn hn nb nw ba wa ha bf hf wf sh tk) : vx_Met l y_Ss_sunnyHour (wM y_Ss_sunnyHour c_Ss_sunnyHour 3 (some (.object "SunShadows$Hour"))) ({ frames := 7, cells := 2, slots := 12, locals := 112 }) (gs_P D k zb G [.ref o, .int n]) (gs_Q D zb (fun v G1 => ∃ i : Nat, i < 24 ∧ n = nI i ∧ ¬ jc_hasSun (hf i 2) = 0 ∧ v = some (.ref (ha i)) ∧ G1 = G)) (gs_T D zb G (fun E => (E = e_IA ∧ ¬ ∃ i : Nat, i < 24 ∧ n = nI i) ∨ (E = e_IS ∧ ∃ i : Nat, i < 24 ∧ n = nI i ∧ jc_hasSun (hf i 2) = 0))) 2 12 (fun q : Nat => zb ≤ q) := by
  refine vx_ofW (cc := c_Ss_sunnyHour) (maxL := 3) (ret := (some (.object "SunShadows$Hour"))) (by decide) rfl ?_
  intro p e s m args below meth c s₁ B hml ht hv
  obtain ⟨rfl, hG, hK, hX⟩ := hv
  have hx := B.exec
  have hb := B.bytes
  have hr := B.returns
  have hts := atoms_spec (ws := wM y_Ss_sunnyHour c_Ss_sunnyHour 3 (some (.object "SunShadows$Hour"))) B.pre
  have hw : ∀ w9 ∈ wW, w9.before ([.ref o, .int n] : List Value).toArray s = true := fun w9 h9 => hts w9 (gi_in w9 h9)
  have hown : s.vm.findClass R_Ss = some m.cls := findClass_of_methodNamed B.named
  have hlocks := B.notSynchronized
  have E : gs_E p s m ([.ref o, .int n] : List Value).toArray c c_Ss_sunnyHour wW R_Ss := ⟨hx, hb, hw, hown⟩
  have hS : gs_S zb s.heap s.heap [] := va_S.rf
  have hl := lv_entry ([.ref o, .int n]) (n := 3) (Nat.le_of_ble_eq_true rfl)
  rw [lg_entry_eq]
  generalize (lg_sl ([.ref o, .int n]) ++ List.replicate (3 - (lg_sl ([.ref o, .int n])).length) Slot.unset).toArray = ls at hl ⊢
  have hl : lv_has ls 3 [(0, .ref o), (1, .int n)] := hl
  refine lv_aload_n hx hb d_Ss_sunnyHour_0 rfl (lv_at hl 0 rfl) ?_
  refine lv_iload_n hx hb d_Ss_sunnyHour_1 rfl (lv_at hl 1 rfl) ?_
  refine gs_VX (As := [.int n]) (rest := []) (k_Ss_knownHour l hnt D k zb G o aB aW aH aS aT wn hn nb nw ba wa ha bf hf wf sh tk n hC) E hml hl.1 (cg_V (C := R_Ss) hw w_253 w_250 w_1 w_252 sel_Ss_knownHour hd_Ss_knownHour ⟨by exact Nat.le_of_ble_eq_true rfl, by exact Nat.le_of_ble_eq_true rfl⟩) hG hK hX hS hC.1.1 rfl rfl rfl rfl (by exact Nat.le_of_ble_eq_true rfl) d_Ss_sunnyHour_2 ⟨by exact Nat.le_of_ble_eq_true rfl, by exact Nat.le_of_ble_eq_true rfl⟩ (fun E9 ce q9 H locs hp hG hS hq1 hq2 hq3 => ?_) (fun v G1 H locs hp hG hS => ?_)
  · exact gs_on ht hlocks (Or.inl hp) hG hS hq1 hq2 hq3 (by decide) (by decide)
  obtain ⟨i, hi, ei, hv1, hG1⟩ := hp
  subst hv1
  rw [hG1] at hG
  refine W.eq (g2 := F0 m 5 ls [.ref (ha i)]) rfl ?_
  refine lv_astore_n (lv' := [(2, .ref (ha i)), (0, .ref o), (1, .int n)]) hx hb d_Ss_sunnyHour_5 rfl hl (by decide) rfl (fun ls hl => ?_)
  refine lv_aload_n hx hb d_Ss_sunnyHour_6 rfl (lv_at hl 0 rfl) ?_
  refine gs_V (As := []) (rest := []) (k_Hr_hasSun l D k zb G (ha i) (hf i 0) (hf i 1) (hf i 2) (hf i 3) (hC.2.2.2.2.1 i hi)) E hml hl.1 (cg_V (C := R_Hr) hw w_308 w_305 w_3 w_306 sel_Hr_hasSun hd_Hr_hasSun ⟨by exact Nat.le_of_ble_eq_true rfl, by exact Nat.le_of_ble_eq_true rfl⟩) hG hK hX hS (hC.2.2.2.2.1 i hi) rfl rfl rfl rfl (by exact Nat.le_of_ble_eq_true rfl) d_Ss_sunnyHour_7 ⟨by exact Nat.le_of_ble_eq_true rfl, by exact Nat.le_of_ble_eq_true rfl⟩ (fun v G1 H locs hp hG hS => ?_)
  obtain ⟨hv1, hG1⟩ := hp
  subst hv1
  rw [hG1] at hG
  refine W.eq (g2 := F0 m 10 ls [.int (jc_hasSun (hf i 2))]) rfl ?_
  refine lv_if_ne (tgt := 23) hx hb d_Ss_sunnyHour_10 (by decide) (fun c_1 => ?_) (fun c_1 => ?_)
  · refine lv_aload_n hx hb d_Ss_sunnyHour_23 rfl (lv_at hl 0 rfl) ?_
    refine W.widen (k := 2) (n := 12) (by decide) (by decide) ?_
    refine vx_ret ?_
    exact W.aret (v := .ref (ha i)) hx hb hr (Or.inl ⟨_, rfl⟩) (Or.inr ⟨_, rfl⟩) (gs_end ⟨i, hi, ei, c_1, rfl, rfl⟩ hG hS) hS.2.2 d_Ss_sunnyHour_24
  · exact gs_throwIS (text := "the hour has no sun") hnt E hG hK hX hS ht (hl.1.trans hml.symm) w_170 w_10 (by decide) (Or.inr ⟨rfl, i, hi, ei, c_1⟩) d_Ss_sunnyHour_13 d_Ss_sunnyHour_16 d_Ss_sunnyHour_17 d_Ss_sunnyHour_19 d_Ss_sunnyHour_22 (by exact Nat.le_of_ble_eq_true rfl) (by exact Nat.le_of_ble_eq_true rfl) (by exact Nat.le_of_ble_eq_true rfl) (by exact Nat.le_of_ble_eq_true rfl) hlocks (by decide) (by decide)
set_option maxHeartbeats 4000000 in
set_option maxRecDepth 100000 in
theorem k_Ss_shadeOfRow (l : Launch) (D : va_G) (k : Nat → ClassId) (zb : Nat) (G : Nat → Option va_E) (o aB aW aH aS aT : Nat) (wn hn nb nw : Nat) (ba wa ha : Nat → Nat) (bf hf : Nat → Nat → Int32) (wf : Nat → Nat → Nat) (sh : Nat → Int64) (tk : Nat → Int32) (a1 : Nat) (X Y Z am : Int32) (y : Int32) (hC : sC k G o aB aW aH aS aT wn hn nb nw ba wa ha bf hf wf sh tk) (hb1 : G a1 = some (.inr (1, [.int X, .int Y, .int Z, .int am]))) : Met l y_Ss_shadeOfRow (wM y_Ss_shadeOfRow c_Ss_shadeOfRow 9 (some .long)) ({ frames := 3, cells := 0, slots := 0, locals := 77 }) (gs_P D k zb G [.ref o, .int y, .ref a1]) (gs_Q D zb (fun v G1 => v = some (.long (jc_row nb bf X Y Z y (nI wn) 10)) ∧ G1 = G)) 0 0 (fun q : Nat => zb ≤ q) := by
  refine Met.ofW (cc := c_Ss_shadeOfRow) (maxL := 9) (ret := (some .long)) (by decide) rfl ?_
  intro p e s m args below meth c s₁ B hml hv
  obtain ⟨rfl, hG, hK, hX⟩ := hv
  have hx := B.exec
  have hb := B.bytes
  have hr := B.returns
  have hts := atoms_spec (ws := wM y_Ss_shadeOfRow c_Ss_shadeOfRow 9 (some .long)) B.pre
  have hw : ∀ w9 ∈ wW, w9.before ([.ref o, .int y, .ref a1] : List Value).toArray s = true := fun w9 h9 => hts w9 (gi_in w9 h9)
  have hown : s.vm.findClass R_Ss = some m.cls := findClass_of_methodNamed B.named
  have hlocks := B.notSynchronized
  have E : gs_E p s m ([.ref o, .int y, .ref a1] : List Value).toArray c c_Ss_shadeOfRow wW R_Ss := ⟨hx, hb, hw, hown⟩
  have hS : gs_S zb s.heap s.heap [] := va_S.rf
  have hl := lv_entry ([.ref o, .int y, .ref a1]) (n := 9) (Nat.le_of_ble_eq_true rfl)
  rw [lg_entry_eq]
  generalize (lg_sl ([.ref o, .int y, .ref a1]) ++ List.replicate (9 - (lg_sl ([.ref o, .int y, .ref a1])).length) Slot.unset).toArray = ls at hl ⊢
  have hl : lv_has ls 9 [(0, .ref o), (1, .int y), (2, .ref a1)] := hl
  refine lv_lconst (v := 0) hx hb d_Ss_shadeOfRow_0 (by decide) ?_
  refine lv_lstore_n (lv' := [(3, .long 0), (0, .ref o), (1, .int y), (2, .ref a1)]) hx hb d_Ss_shadeOfRow_1 rfl hl (by decide) rfl (fun ls hl => ?_)
  refine lv_aload_n hx hb d_Ss_shadeOfRow_2 rfl (lv_at hl 1 rfl) ?_
  refine gs_get E hK.1 hG hC.1.1 (C := R_Ss) (T := F_Ss) (N := 9) rfl i_Ss 2 (by decide) w_62 (v := .ref aB) rfl d_Ss_shadeOfRow_3 ?_
  refine lv_astore (lv' := [(5, .ref aB), (3, .long 0), (0, .ref o), (1, .int y), (2, .ref a1)]) hx hb d_Ss_shadeOfRow_6 hl (by decide) rfl (fun ls hl => ?_)
  refine lv_aload hx hb d_Ss_shadeOfRow_8 (lv_at hl 0 rfl) ?_
  refine gs_alen E hK.1 hG hC.1.2.1 3 rfl (v := 10) rfl d_Ss_shadeOfRow_10 ?_
  refine lv_istore (lv' := [(6, .int 10), (5, .ref aB), (3, .long 0), (0, .ref o), (1, .int y), (2, .ref a1)]) hx hb d_Ss_shadeOfRow_11 hl (by decide) rfl (fun ls hl => ?_)
  refine lv_iconst (v := 0) hx hb d_Ss_shadeOfRow_13 (by decide) ?_
  refine lv_istore (lv' := [(7, .int 0), (6, .int 10), (5, .ref aB), (3, .long 0), (0, .ref o), (1, .int y), (2, .ref a1)]) hx hb d_Ss_shadeOfRow_14 hl (by decide) rfl (fun ls hl => ?_)
  have lp : ∀ (fu : Nat) (i : Nat) (acc : Int64), i ≤ 10 → 10 + 1 ≤ i + fu → (hacc : acc = jc_row nb bf X Y Z y (nI wn) i) → ∀ (H : Heap) (locs : List Loc), gs_W D classes zb G H → gs_S zb s.heap H locs → ∀ (ls : Array Slot), lv_has ls 9 [(0, .ref o), (1, .int y), (2, .ref a1), (3, .long acc), (5, .ref aB), (6, .int 10), (7, .int (nI i))] → W p l e (headSpec (wM y_Ss_shadeOfRow c_Ss_shadeOfRow 9 (some .long)) ({ frames := 3, cells := 0, slots := 0, locals := 77 })).room s m ([.ref o, .int y, .ref a1] : List Value).toArray below meth c H locs 0 0 (MQ below (gs_Q D zb (fun v G1 => v = some (.long (jc_row nb bf X Y Z y (nI wn) 10)) ∧ G1 = G)) ([.ref o, .int y, .ref a1] : List Value).toArray s 0 0 (fun q : Nat => zb ≤ q)) (F0 m 16 ls []) := by
    intro fu
    induction fu with
    | zero => intro i acc hle hfu; exact absurd hfu (by omega)
    | succ fu IH =>
      intro i acc hle hfu hacc H locs hG hS ls hl
      refine lv_iload hx hb d_Ss_shadeOfRow_16 (lv_at hl 6 rfl) ?_
      refine lv_iload hx hb d_Ss_shadeOfRow_18 (lv_at hl 5 rfl) ?_
      refine lv_icmp_ge (tgt := 55) hx hb d_Ss_shadeOfRow_20 (by decide) (fun c_1 => ?_) (fun c_1 => ?_)
      · have hi : i = 10 := cl_eq (N := 10) (by decide) hle c_1
        subst hi
        refine lv_lload_n hx hb d_Ss_shadeOfRow_55 rfl (lv_at hl 3 rfl) ?_
        refine W.lret (v := acc) hx hb hr (gs_end ⟨?_, rfl⟩ hG hS) hS.2.2 d_Ss_shadeOfRow_56
        rw [hacc]
      · have hi : i < 10 := cl_lt (N := 10) (by decide) hle c_1
        refine lv_aload hx hb d_Ss_shadeOfRow_23 (lv_at hl 4 rfl) ?_
        refine lv_iload hx hb d_Ss_shadeOfRow_25 (lv_at hl 6 rfl) ?_
        by_cases hq_2 : i < nb
        · refine gn_aldS E hK.1 hG hC.1.2.1 3 rfl (j := i) hi (by decide) (upTo_in hq_2) d_Ss_shadeOfRow_27 ?_
          refine lv_astore (lv' := [(8, .ref (ba i)), (0, .ref o), (1, .int y), (2, .ref a1), (3, .long acc), (5, .ref aB), (6, .int 10), (7, .int (nI i))]) hx hb d_Ss_shadeOfRow_28 hl (by decide) rfl (fun ls hl => ?_)
          refine lv_aload hx hb d_Ss_shadeOfRow_30 (lv_at hl 0 rfl) ?_
          refine lv_ifnull hx hb d_Ss_shadeOfRow_32 ?_
          refine lv_lload_n hx hb d_Ss_shadeOfRow_35 rfl (lv_at hl 4 rfl) ?_
          refine lv_aload hx hb d_Ss_shadeOfRow_36 (lv_at hl 0 rfl) ?_
          refine lv_iload_n hx hb d_Ss_shadeOfRow_38 rfl (lv_at hl 2 rfl) ?_
          refine lv_aload_n hx hb d_Ss_shadeOfRow_39 rfl (lv_at hl 3 rfl) ?_
          refine lv_aload_n hx hb d_Ss_shadeOfRow_40 rfl (lv_at hl 1 rfl) ?_
          refine gs_get E hK.1 hG hC.1.1 (C := R_Ss) (T := F_Ss) (N := 9) rfl i_Ss 0 (by decide) w_60 (v := .int (nI wn)) rfl d_Ss_shadeOfRow_41 ?_
          refine gs_V (As := [.int y, .ref a1, .int (nI wn)]) (rest := [.long acc]) (k_Bx_shadeThrownOnRow l D k zb G (ba i) (bf i 0) (bf i 1) (bf i 2) (bf i 3) (bf i 4) (bf i 5) (bf i 6) a1 X Y Z am y (nI wn) (hC.2.2.1 i hq_2) hb1) E hml hl.1 (cg_V (C := R_Bx) hw w_317 w_314 w_5 w_315 sel_Bx_shadeThrownOnRow hd_Bx_shadeThrownOnRow ⟨by exact Nat.le_of_ble_eq_true rfl, by exact Nat.le_of_ble_eq_true rfl⟩) hG hK hX hS (hC.2.2.1 i hq_2) rfl rfl rfl rfl (by exact Nat.le_of_ble_eq_true rfl) d_Ss_shadeOfRow_44 ⟨by exact Nat.le_of_ble_eq_true rfl, by exact Nat.le_of_ble_eq_true rfl⟩ (fun v G1 H locs hp hG hS => ?_)
          obtain ⟨hv1, hG1⟩ := hp
          subst hv1
          rw [hG1] at hG
          refine W.eq (g2 := F0 m 47 ls [.long (jc_shade (bf i 6) (bf i 0) (bf i 1) (bf i 2) (bf i 3) (bf i 4) (bf i 5) X Y Z y (nI wn)), .long acc]) rfl ?_
          refine lv_lor hx hb d_Ss_shadeOfRow_47 ?_
          refine lv_topl (fun v_3 ev_3 => ?_)
          refine lv_lstore_n (lv' := [(3, .long v_3), (8, .ref (ba i)), (0, .ref o), (1, .int y), (2, .ref a1), (5, .ref aB), (6, .int 10), (7, .int (nI i))]) hx hb d_Ss_shadeOfRow_48 rfl hl (by decide) rfl (fun ls hl => ?_)
          refine lv_iinc (v := nI (i + 1)) (lv' := [(7, .int (nI (i + 1))), (3, .long v_3), (8, .ref (ba i)), (0, .ref o), (1, .int y), (2, .ref a1), (5, .ref aB), (6, .int 10)]) hx hb d_Ss_shadeOfRow_49 hl (k := 7) rfl (nI_1 _) (by decide) rfl (fun ls hl => ?_)
          refine lv_goto (tgt := 16) hx hb d_Ss_shadeOfRow_52 (by decide) ?_
          exact IH (i + 1) v_3 (by omega) (by omega) (by rw [ev_3, hacc, jc_row_in hq_2]) _ _ hG hS ls (lv_sub hl [3, 4, 5, 1, 6, 7, 0] rfl)
        · refine gn_aldN E hK.1 hG hC.1.2.1 3 rfl (j := i) hi (by decide) (upTo_out hq_2) d_Ss_shadeOfRow_27 ?_
          refine lv_astoreN (lv' := [(8, .null), (0, .ref o), (1, .int y), (2, .ref a1), (3, .long acc), (5, .ref aB), (6, .int 10), (7, .int (nI i))]) hx hb d_Ss_shadeOfRow_28 hl (by decide) rfl (fun ls hl => ?_)
          refine lv_aloadN hx hb d_Ss_shadeOfRow_30 (lv_at hl 0 rfl) ?_
          refine lv_ifnullN (tgt := 49) hx hb d_Ss_shadeOfRow_32 (by decide) ?_
          refine lv_iinc (v := nI (i + 1)) (lv' := [(7, .int (nI (i + 1))), (8, .null), (0, .ref o), (1, .int y), (2, .ref a1), (3, .long acc), (5, .ref aB), (6, .int 10)]) hx hb d_Ss_shadeOfRow_49 hl (k := 7) rfl (nI_1 _) (by decide) rfl (fun ls hl => ?_)
          refine lv_goto (tgt := 16) hx hb d_Ss_shadeOfRow_52 (by decide) ?_
          exact IH (i + 1) acc (by omega) (by omega) (by rw [hacc, jc_row_out hq_2]) _ _ hG hS ls (lv_sub hl [2, 3, 4, 5, 6, 7, 0] rfl)
  exact lp (10 + 1) 0 0 (by omega) (by omega) rfl _ _ hG hS ls (lv_sub hl [4, 5, 6, 3, 2, 1, 0] rfl)
end
section
/-! contracts, by program -/
set_option maxHeartbeats 4000000 in
set_option maxRecDepth 100000 in
theorem k_Wn_columns (l : Launch) (D : va_G) (k : Nat → ClassId) (zb : Nat) (G : Nat → Option va_E) (a2 : Nat) (u0 v0 u1 v1 : Int32) (hb2 : G a2 = some (.inr (2, [.int u0, .int v0, .int u1, .int v1]))) : Met l y_Wn_columns (wM y_Wn_columns c_Wn_columns 1 (some .long)) ({ frames := 1, cells := 0, slots := 0, locals := 21 }) (gs_P D k zb G [.ref a2]) (gs_Q D zb (fun v G1 => v = some (.long (jc_cells u0 (u1 - 1))) ∧ G1 = G)) 0 0 (fun q : Nat => zb ≤ q) := by
  refine Met.ofW (cc := c_Wn_columns) (maxL := 1) (ret := (some .long)) (by decide) rfl ?_
  intro p e s m args below meth c s₁ B hml hv
  obtain ⟨rfl, hG, hK, hX⟩ := hv
  have hx := B.exec
  have hb := B.bytes
  have hr := B.returns
  have hts := atoms_spec (ws := wM y_Wn_columns c_Wn_columns 1 (some .long)) B.pre
  have hw : ∀ w9 ∈ wW, w9.before ([.ref a2] : List Value).toArray s = true := fun w9 h9 => hts w9 (gi_in w9 h9)
  have hown : s.vm.findClass R_Wn = some m.cls := findClass_of_methodNamed B.named
  have hlocks := B.notSynchronized
  have E : gs_E p s m ([.ref a2] : List Value).toArray c c_Wn_columns wW R_Wn := ⟨hx, hb, hw, hown⟩
  have hS : gs_S zb s.heap s.heap [] := va_S.rf
  have hl := lv_entry ([.ref a2]) (n := 1) (Nat.le_of_ble_eq_true rfl)
  rw [lg_entry_eq]
  generalize (lg_sl ([.ref a2]) ++ List.replicate (1 - (lg_sl ([.ref a2])).length) Slot.unset).toArray = ls at hl ⊢
  have hl : lv_has ls 1 [(0, .ref a2)] := hl
  refine lv_aload_n hx hb d_Wn_columns_0 rfl (lv_at hl 0 rfl) ?_
  refine gs_get E hK.1 hG hb2 (C := R_Wn) (T := F_Wn) (N := 4) rfl i_Wn 0 (by decide) w_278 (v := .int u0) rfl d_Wn_columns_1 ?_
  refine lv_aload_n hx hb d_Wn_columns_4 rfl (lv_at hl 0 rfl) ?_
  refine gs_get E hK.1 hG hb2 (C := R_Wn) (T := F_Wn) (N := 4) rfl i_Wn 2 (by decide) w_281 (v := .int u1) rfl d_Wn_columns_5 ?_
  refine lv_iconst (v := 1) hx hb d_Wn_columns_8 (by decide) ?_
  refine lv_isub hx hb d_Wn_columns_9 ?_
  refine gs_SN (As := [.int u0, .int (u1 - 1)]) (rest := []) (k_Ss_cellsBetween l D k zb G u0 (u1 - 1)) E hml hl.1 (cg_N hw w_344 hK.2.1.2.2 w_1 hd_Ss_cellsBetween ⟨by exact Nat.le_of_ble_eq_true rfl, by exact Nat.le_of_ble_eq_true rfl⟩) w_343 hG hK hX hS rfl rfl (by exact Nat.le_of_ble_eq_true rfl) d_Wn_columns_10 ⟨by exact Nat.le_of_ble_eq_true rfl, by exact Nat.le_of_ble_eq_true rfl⟩ (fun v G1 H locs hp hG hS => ?_)
  obtain ⟨hv1, hG1⟩ := hp
  subst hv1
  rw [hG1] at hG
  refine W.eq (g2 := F0 m 13 ls [.long (jc_cells u0 (u1 - 1))]) rfl ?_
  refine W.lret (v := (jc_cells u0 (u1 - 1))) hx hb hr (gs_end ⟨?_, rfl⟩ hG hS) hS.2.2 d_Wn_columns_13
  rfl
set_option maxHeartbeats 4000000 in
set_option maxRecDepth 100000 in
theorem k_Wn_cellCount (l : Launch) (D : va_G) (k : Nat → ClassId) (zb : Nat) (G : Nat → Option va_E) (a2 : Nat) (u0 v0 u1 v1 : Int32) (hb2 : G a2 = some (.inr (2, [.int u0, .int v0, .int u1, .int v1]))) : Met l y_Wn_cellCount (wM y_Wn_cellCount c_Wn_cellCount 1 (some .int)) ({ frames := 0, cells := 0, slots := 0, locals := 0 }) (gs_P D k zb G [.ref a2]) (gs_Q D zb (fun v G1 => v = some (.int ((u1 - u0) * (v1 - v0))) ∧ G1 = G)) 0 0 (fun q : Nat => zb ≤ q) := by
  refine Met.ofW (cc := c_Wn_cellCount) (maxL := 1) (ret := (some .int)) (by decide) rfl ?_
  intro p e s m args below meth c s₁ B hml hv
  obtain ⟨rfl, hG, hK, hX⟩ := hv
  have hx := B.exec
  have hb := B.bytes
  have hr := B.returns
  have hts := atoms_spec (ws := wM y_Wn_cellCount c_Wn_cellCount 1 (some .int)) B.pre
  have hw : ∀ w9 ∈ wW, w9.before ([.ref a2] : List Value).toArray s = true := fun w9 h9 => hts w9 (gi_in w9 h9)
  have hown : s.vm.findClass R_Wn = some m.cls := findClass_of_methodNamed B.named
  have hlocks := B.notSynchronized
  have E : gs_E p s m ([.ref a2] : List Value).toArray c c_Wn_cellCount wW R_Wn := ⟨hx, hb, hw, hown⟩
  have hS : gs_S zb s.heap s.heap [] := va_S.rf
  have hl := lv_entry ([.ref a2]) (n := 1) (Nat.le_of_ble_eq_true rfl)
  rw [lg_entry_eq]
  generalize (lg_sl ([.ref a2]) ++ List.replicate (1 - (lg_sl ([.ref a2])).length) Slot.unset).toArray = ls at hl ⊢
  have hl : lv_has ls 1 [(0, .ref a2)] := hl
  refine lv_aload_n hx hb d_Wn_cellCount_0 rfl (lv_at hl 0 rfl) ?_
  refine gs_get E hK.1 hG hb2 (C := R_Wn) (T := F_Wn) (N := 4) rfl i_Wn 2 (by decide) w_281 (v := .int u1) rfl d_Wn_cellCount_1 ?_
  refine lv_aload_n hx hb d_Wn_cellCount_4 rfl (lv_at hl 0 rfl) ?_
  refine gs_get E hK.1 hG hb2 (C := R_Wn) (T := F_Wn) (N := 4) rfl i_Wn 0 (by decide) w_278 (v := .int u0) rfl d_Wn_cellCount_5 ?_
  refine lv_isub hx hb d_Wn_cellCount_8 ?_
  refine lv_aload_n hx hb d_Wn_cellCount_9 rfl (lv_at hl 0 rfl) ?_
  refine gs_get E hK.1 hG hb2 (C := R_Wn) (T := F_Wn) (N := 4) rfl i_Wn 3 (by decide) w_282 (v := .int v1) rfl d_Wn_cellCount_10 ?_
  refine lv_aload_n hx hb d_Wn_cellCount_13 rfl (lv_at hl 0 rfl) ?_
  refine gs_get E hK.1 hG hb2 (C := R_Wn) (T := F_Wn) (N := 4) rfl i_Wn 1 (by decide) w_279 (v := .int v0) rfl d_Wn_cellCount_14 ?_
  refine lv_isub hx hb d_Wn_cellCount_17 ?_
  refine lv_imul hx hb d_Wn_cellCount_18 ?_
  refine W.iret (v := ((u1 - u0) * (v1 - v0))) hx hb hr (gs_end ⟨?_, rfl⟩ hG hS) hS.2.2 d_Wn_cellCount_19
  rfl
set_option maxHeartbeats 4000000 in
set_option maxRecDepth 100000 in
theorem k_dark0 (l : Launch) (D : va_G) (k : Nat → ClassId) (zb : Nat) (G : Nat → Option va_E) (o aB aW aH aS aT : Nat) (wn hn nb nw : Nat) (ba wa ha : Nat → Nat) (bf hf : Nat → Nat → Int32) (wf : Nat → Nat → Nat) (sh : Nat → Int64) (tk : Nat → Int32) (a2 m0 m1 m2 m3 : Nat) (a1 : Nat) (X Y Z am : Int32) (hC : sC k G o aB aW aH aS aT wn hn nb nw ba wa ha bf hf wf sh tk) (hb2 : G a2 = some (.inr (2, [.int (nI m0), .int (nI m1), .int (nI m2), .int (nI m3)]))) (hm : m1 ≤ m3) (hm3 : m3 ≤ 60) (hb1 : G a1 = some (.inr (1, [.int X, .int Y, .int Z, .int am]))) : Met l y_Ss_darkCells (wM y_Ss_darkCells c_Ss_darkCells 10 (some .int)) ({ frames := 4, cells := 0, slots := 0, locals := 105 }) (gs_P D k zb G [.ref o, .ref a2, .ref a1, .null]) (gs_Q D zb (fun v G1 => v = some (.int (jc_dark nb bf X Y Z (nI wn) ld_no m0 m1 m2 m3)) ∧ G1 = G)) 0 0 (fun q : Nat => zb ≤ q) := by
  refine Met.ofW (cc := c_Ss_darkCells) (maxL := 10) (ret := (some .int)) (by decide) rfl ?_
  intro p e s m args below meth c s₁ B hml hv
  obtain ⟨rfl, hG, hK, hX⟩ := hv
  have hx := B.exec
  have hb := B.bytes
  have hr := B.returns
  have hts := atoms_spec (ws := wM y_Ss_darkCells c_Ss_darkCells 10 (some .int)) B.pre
  have hw : ∀ w9 ∈ wW, w9.before ([.ref o, .ref a2, .ref a1, .null] : List Value).toArray s = true := fun w9 h9 => hts w9 (gi_in w9 h9)
  have hown : s.vm.findClass R_Ss = some m.cls := findClass_of_methodNamed B.named
  have hlocks := B.notSynchronized
  have E : gs_E p s m ([.ref o, .ref a2, .ref a1, .null] : List Value).toArray c c_Ss_darkCells wW R_Ss := ⟨hx, hb, hw, hown⟩
  have hS : gs_S zb s.heap s.heap [] := va_S.rf
  have hl := lv_entry ([.ref o, .ref a2, .ref a1, .null]) (n := 10) (Nat.le_of_ble_eq_true rfl)
  rw [lg_entry_eq]
  generalize (lg_sl ([.ref o, .ref a2, .ref a1, .null]) ++ List.replicate (10 - (lg_sl ([.ref o, .ref a2, .ref a1, .null])).length) Slot.unset).toArray = ls at hl ⊢
  have hl : lv_has ls 10 [(0, .ref o), (1, .ref a2), (2, .ref a1), (3, .null)] := hl
  refine lv_aload_n hx hb d_Ss_darkCells_0 rfl (lv_at hl 1 rfl) ?_
  refine gs_V (As := []) (rest := []) (k_Wn_columns l D k zb G a2 (nI m0) (nI m1) (nI m2) (nI m3) hb2) E hml hl.1 (cg_V (C := R_Wn) hw w_380 w_377 w_11 w_378 sel_Wn_columns hd_Wn_columns ⟨by exact Nat.le_of_ble_eq_true rfl, by exact Nat.le_of_ble_eq_true rfl⟩) hG hK hX hS hb2 rfl rfl rfl rfl (by exact Nat.le_of_ble_eq_true rfl) d_Ss_darkCells_1 ⟨by exact Nat.le_of_ble_eq_true rfl, by exact Nat.le_of_ble_eq_true rfl⟩ (fun v G1 H locs hp hG hS => ?_)
  obtain ⟨hv1, hG1⟩ := hp
  subst hv1
  rw [hG1] at hG
  refine W.eq (g2 := F0 m 4 ls [.long (jc_cells (nI m0) ((nI m2) - 1))]) rfl ?_
  refine lv_topl (fun v_1 ev_1 => ?_)
  refine lv_lstore (lv' := [(4, .long v_1), (0, .ref o), (1, .ref a2), (2, .ref a1), (3, .null)]) hx hb d_Ss_darkCells_4 hl (by decide) rfl (fun ls hl => ?_)
  refine lv_iconst (v := 0) hx hb d_Ss_darkCells_6 (by decide) ?_
  refine lv_istore (lv' := [(6, .int 0), (4, .long v_1), (0, .ref o), (1, .ref a2), (2, .ref a1), (3, .null)]) hx hb d_Ss_darkCells_7 hl (by decide) rfl (fun ls hl => ?_)
  refine lv_aload_n hx hb d_Ss_darkCells_9 rfl (lv_at hl 3 rfl) ?_
  refine gs_get E hK.1 hG hb2 (C := R_Wn) (T := F_Wn) (N := 4) rfl i_Wn 1 (by decide) w_280 (v := .int (nI m1)) rfl d_Ss_darkCells_10 ?_
  refine lv_topi (fun v_2 ev_2 => ?_)
  refine lv_istore (lv' := [(7, .int v_2), (6, .int 0), (4, .long v_1), (0, .ref o), (1, .ref a2), (2, .ref a1), (3, .null)]) hx hb d_Ss_darkCells_13 hl (by decide) rfl (fun ls hl => ?_)
  subst ev_2
  subst ev_1
  have lp : ∀ (fu : Nat) (j : Nat) (acc : Int32), m1 + j ≤ m3 → m3 + 1 ≤ m1 + j + fu → (hacc : acc = jc_sum (jc_dk nb bf X Y Z (nI wn) ld_no (jc_cells (nI m0) (nI m2 - 1)) m1) j) → ∀ (H : Heap) (locs : List Loc), gs_W D classes zb G H → gs_S zb s.heap H locs → ∀ (ls : Array Slot), lv_has ls 10 [(0, .ref o), (1, .ref a2), (2, .ref a1), (3, .null), (4, .long (jc_cells (nI m0) (nI m2 - 1))), (6, .int acc), (7, .int (nI (m1 + j)))] → W p l e (headSpec (wM y_Ss_darkCells c_Ss_darkCells 10 (some .int)) ({ frames := 4, cells := 0, slots := 0, locals := 105 })).room s m ([.ref o, .ref a2, .ref a1, .null] : List Value).toArray below meth c H locs 0 0 (MQ below (gs_Q D zb (fun v G1 => v = some (.int (jc_dark nb bf X Y Z (nI wn) ld_no m0 m1 m2 m3)) ∧ G1 = G)) ([.ref o, .ref a2, .ref a1, .null] : List Value).toArray s 0 0 (fun q : Nat => zb ≤ q)) (F0 m 15 ls []) := by
    intro fu
    induction fu with
    | zero => intro j acc hle hfu; exact absurd hfu (by omega)
    | succ fu IH =>
      intro j acc hle hfu hacc H locs hG hS ls hl
      refine lv_iload hx hb d_Ss_darkCells_15 (lv_at hl 6 rfl) ?_
      refine lv_aload_n hx hb d_Ss_darkCells_17 rfl (lv_at hl 1 rfl) ?_
      refine gs_get E hK.1 hG hb2 (C := R_Wn) (T := F_Wn) (N := 4) rfl i_Wn 3 (by decide) w_283 (v := .int (nI m3)) rfl d_Ss_darkCells_18 ?_
      refine lv_icmp_ge (tgt := 72) hx hb d_Ss_darkCells_21 (by decide) (fun c_3 => ?_) (fun c_3 => ?_)
      · have hend : (m1 + j) = m3 := cl_eq (by have := hC.2.1; omega) hle c_3
        refine lv_iload hx hb d_Ss_darkCells_72 (lv_at hl 5 rfl) ?_
        refine W.iret (v := acc) hx hb hr (gs_end ⟨?_, rfl⟩ hG hS) hS.2.2 d_Ss_darkCells_74
        rw [hacc, jc_dark, ← hend, Nat.add_sub_cancel_left]
      · have hlt : (m1 + j) < m3 := cl_lt (by have := hC.2.1; omega) hle c_3
        refine lv_aload_n hx hb d_Ss_darkCells_24 rfl (lv_at hl 0 rfl) ?_
        refine lv_iload hx hb d_Ss_darkCells_25 (lv_at hl 6 rfl) ?_
        refine lv_aload_n hx hb d_Ss_darkCells_27 rfl (lv_at hl 2 rfl) ?_
        refine gs_V (As := [.int (nI (m1 + j)), .ref a1]) (rest := []) (k_Ss_shadeOfRow l D k zb G o aB aW aH aS aT wn hn nb nw ba wa ha bf hf wf sh tk a1 X Y Z am (nI (m1 + j)) hC hb1) E hml hl.1 (cg_V (C := R_Ss) hw w_313 w_310 w_1 w_312 sel_Ss_shadeOfRow hd_Ss_shadeOfRow ⟨by exact Nat.le_of_ble_eq_true rfl, by exact Nat.le_of_ble_eq_true rfl⟩) hG hK hX hS hC.1.1 rfl rfl rfl rfl (by exact Nat.le_of_ble_eq_true rfl) d_Ss_darkCells_28 ⟨by exact Nat.le_of_ble_eq_true rfl, by exact Nat.le_of_ble_eq_true rfl⟩ (fun v G1 H locs hp hG hS => ?_)
        obtain ⟨hv1, hG1⟩ := hp
        subst hv1
        rw [hG1] at hG
        refine W.eq (g2 := F0 m 31 ls [.long (jc_row nb bf X Y Z (nI (m1 + j)) (nI wn) 10)]) rfl ?_
        refine lv_topl (fun v_4 ev_4 => ?_)
        refine lv_lstore (lv' := [(8, .long v_4), (0, .ref o), (1, .ref a2), (2, .ref a1), (3, .null), (4, .long (jc_cells (nI m0) (nI m2 - 1))), (6, .int acc), (7, .int (nI (m1 + j)))]) hx hb d_Ss_darkCells_31 hl (by decide) rfl (fun ls hl => ?_)
        refine lv_aload_nN hx hb d_Ss_darkCells_33 rfl (lv_at hl 4 rfl) ?_
        refine lv_ifnullN (tgt := 53) hx hb d_Ss_darkCells_34 (by decide) ?_
        refine lv_iload hx hb d_Ss_darkCells_53 (lv_at hl 6 rfl) ?_
        refine lv_lload hx hb d_Ss_darkCells_55 (lv_at hl 0 rfl) ?_
        refine lv_lload hx hb d_Ss_darkCells_57 (lv_at hl 5 rfl) ?_
        refine lv_land hx hb d_Ss_darkCells_59 ?_
        refine gs_St (As := [.long (v_4 &&& (jc_cells (nI m0) (nI m2 - 1)))]) (rest := [.int acc]) (k_Lo_bitCount l D k zb G (v_4 &&& (jc_cells (nI m0) (nI m2 - 1)))) E hml hl.1 (cg_S hw w_357 w_355 w_12 w_356 hd_Lo_bitCount ⟨by exact Nat.le_of_ble_eq_true rfl, by exact Nat.le_of_ble_eq_true rfl⟩) hG hK hX hS rfl rfl (by exact Nat.le_of_ble_eq_true rfl) d_Ss_darkCells_60 ⟨by exact Nat.le_of_ble_eq_true rfl, by exact Nat.le_of_ble_eq_true rfl⟩ (fun v G1 H locs hp hG hS => ?_)
        obtain ⟨hv1, hG1⟩ := hp
        subst hv1
        rw [hG1] at hG
        refine W.eq (g2 := F0 m 63 ls [.int (jc_bits (v_4 &&& (jc_cells (nI m0) (nI m2 - 1)))), .int acc]) rfl ?_
        refine lv_iadd hx hb d_Ss_darkCells_63 ?_
        refine lv_topi (fun v_5 ev_5 => ?_)
        refine lv_istore (lv' := [(6, .int v_5), (8, .long v_4), (0, .ref o), (1, .ref a2), (2, .ref a1), (3, .null), (4, .long (jc_cells (nI m0) (nI m2 - 1))), (7, .int (nI (m1 + j)))]) hx hb d_Ss_darkCells_64 hl (by decide) rfl (fun ls hl => ?_)
        refine lv_iinc (v := nI ((m1 + j) + 1)) (lv' := [(7, .int (nI ((m1 + j) + 1))), (6, .int v_5), (8, .long v_4), (0, .ref o), (1, .ref a2), (2, .ref a1), (3, .null), (4, .long (jc_cells (nI m0) (nI m2 - 1)))]) hx hb d_Ss_darkCells_66 hl (k := 7) rfl (nI_1 _) (by decide) rfl (fun ls hl => ?_)
        refine lv_goto (tgt := 15) hx hb d_Ss_darkCells_69 (by decide) ?_
        exact IH (j + 1) v_5 (by omega) (by omega) (by subst ev_5 ev_4; rw [hacc]; rfl) _ _ hG hS ls (lv_sub hl [3, 4, 5, 6, 7, 1, 0] rfl)
  exact lp (m3 + 1) 0 0 (by omega) (by omega) rfl _ _ hG hS ls (lv_sub hl [3, 4, 5, 6, 2, 1, 0] rfl)
set_option maxHeartbeats 4000000 in
set_option maxRecDepth 100000 in
theorem k_dark1 (l : Launch) (D : va_G) (k : Nat → ClassId) (zb : Nat) (G : Nat → Option va_E) (o aB aW aH aS aT : Nat) (wn hn nb nw : Nat) (ba wa ha : Nat → Nat) (bf hf : Nat → Nat → Int32) (wf : Nat → Nat → Nat) (sh : Nat → Int64) (tk : Nat → Int32) (a2 m0 m1 m2 m3 : Nat) (a1 : Nat) (X Y Z am : Int32) (a0 : Nat) (x0 y0 z0 x1 y1 z1 pr : Int32) (hC : sC k G o aB aW aH aS aT wn hn nb nw ba wa ha bf hf wf sh tk) (hb2 : G a2 = some (.inr (2, [.int (nI m0), .int (nI m1), .int (nI m2), .int (nI m3)]))) (hm : m1 ≤ m3) (hm3 : m3 ≤ 60) (hb1 : G a1 = some (.inr (1, [.int X, .int Y, .int Z, .int am]))) (hb0 : G a0 = some (.inr (0, [.int x0, .int y0, .int z0, .int x1, .int y1, .int z1, .int pr]))) : Met l y_Ss_darkCells (wM y_Ss_darkCells c_Ss_darkCells 10 (some .int)) ({ frames := 4, cells := 0, slots := 0, locals := 105 }) (gs_P D k zb G [.ref o, .ref a2, .ref a1, .ref a0]) (gs_Q D zb (fun v G1 => v = some (.int (jc_dark nb bf X Y Z (nI wn) (ld_box pr x0 y0 z0 x1 y1 z1 X Y Z (nI wn)) m0 m1 m2 m3)) ∧ G1 = G)) 0 0 (fun q : Nat => zb ≤ q) := by
  refine Met.ofW (cc := c_Ss_darkCells) (maxL := 10) (ret := (some .int)) (by decide) rfl ?_
  intro p e s m args below meth c s₁ B hml hv
  obtain ⟨rfl, hG, hK, hX⟩ := hv
  have hx := B.exec
  have hb := B.bytes
  have hr := B.returns
  have hts := atoms_spec (ws := wM y_Ss_darkCells c_Ss_darkCells 10 (some .int)) B.pre
  have hw : ∀ w9 ∈ wW, w9.before ([.ref o, .ref a2, .ref a1, .ref a0] : List Value).toArray s = true := fun w9 h9 => hts w9 (gi_in w9 h9)
  have hown : s.vm.findClass R_Ss = some m.cls := findClass_of_methodNamed B.named
  have hlocks := B.notSynchronized
  have E : gs_E p s m ([.ref o, .ref a2, .ref a1, .ref a0] : List Value).toArray c c_Ss_darkCells wW R_Ss := ⟨hx, hb, hw, hown⟩
  have hS : gs_S zb s.heap s.heap [] := va_S.rf
  have hl := lv_entry ([.ref o, .ref a2, .ref a1, .ref a0]) (n := 10) (Nat.le_of_ble_eq_true rfl)
  rw [lg_entry_eq]
  generalize (lg_sl ([.ref o, .ref a2, .ref a1, .ref a0]) ++ List.replicate (10 - (lg_sl ([.ref o, .ref a2, .ref a1, .ref a0])).length) Slot.unset).toArray = ls at hl ⊢
  have hl : lv_has ls 10 [(0, .ref o), (1, .ref a2), (2, .ref a1), (3, .ref a0)] := hl
  refine lv_aload_n hx hb d_Ss_darkCells_0 rfl (lv_at hl 1 rfl) ?_
  refine gs_V (As := []) (rest := []) (k_Wn_columns l D k zb G a2 (nI m0) (nI m1) (nI m2) (nI m3) hb2) E hml hl.1 (cg_V (C := R_Wn) hw w_380 w_377 w_11 w_378 sel_Wn_columns hd_Wn_columns ⟨by exact Nat.le_of_ble_eq_true rfl, by exact Nat.le_of_ble_eq_true rfl⟩) hG hK hX hS hb2 rfl rfl rfl rfl (by exact Nat.le_of_ble_eq_true rfl) d_Ss_darkCells_1 ⟨by exact Nat.le_of_ble_eq_true rfl, by exact Nat.le_of_ble_eq_true rfl⟩ (fun v G1 H locs hp hG hS => ?_)
  obtain ⟨hv1, hG1⟩ := hp
  subst hv1
  rw [hG1] at hG
  refine W.eq (g2 := F0 m 4 ls [.long (jc_cells (nI m0) ((nI m2) - 1))]) rfl ?_
  refine lv_topl (fun v_1 ev_1 => ?_)
  refine lv_lstore (lv' := [(4, .long v_1), (0, .ref o), (1, .ref a2), (2, .ref a1), (3, .ref a0)]) hx hb d_Ss_darkCells_4 hl (by decide) rfl (fun ls hl => ?_)
  refine lv_iconst (v := 0) hx hb d_Ss_darkCells_6 (by decide) ?_
  refine lv_istore (lv' := [(6, .int 0), (4, .long v_1), (0, .ref o), (1, .ref a2), (2, .ref a1), (3, .ref a0)]) hx hb d_Ss_darkCells_7 hl (by decide) rfl (fun ls hl => ?_)
  refine lv_aload_n hx hb d_Ss_darkCells_9 rfl (lv_at hl 3 rfl) ?_
  refine gs_get E hK.1 hG hb2 (C := R_Wn) (T := F_Wn) (N := 4) rfl i_Wn 1 (by decide) w_280 (v := .int (nI m1)) rfl d_Ss_darkCells_10 ?_
  refine lv_topi (fun v_2 ev_2 => ?_)
  refine lv_istore (lv' := [(7, .int v_2), (6, .int 0), (4, .long v_1), (0, .ref o), (1, .ref a2), (2, .ref a1), (3, .ref a0)]) hx hb d_Ss_darkCells_13 hl (by decide) rfl (fun ls hl => ?_)
  subst ev_2
  subst ev_1
  have lp : ∀ (fu : Nat) (j : Nat) (acc : Int32), m1 + j ≤ m3 → m3 + 1 ≤ m1 + j + fu → (hacc : acc = jc_sum (jc_dk nb bf X Y Z (nI wn) (ld_box pr x0 y0 z0 x1 y1 z1 X Y Z (nI wn)) (jc_cells (nI m0) (nI m2 - 1)) m1) j) → ∀ (H : Heap) (locs : List Loc), gs_W D classes zb G H → gs_S zb s.heap H locs → ∀ (ls : Array Slot), lv_has ls 10 [(0, .ref o), (1, .ref a2), (2, .ref a1), (3, .ref a0), (4, .long (jc_cells (nI m0) (nI m2 - 1))), (6, .int acc), (7, .int (nI (m1 + j)))] → W p l e (headSpec (wM y_Ss_darkCells c_Ss_darkCells 10 (some .int)) ({ frames := 4, cells := 0, slots := 0, locals := 105 })).room s m ([.ref o, .ref a2, .ref a1, .ref a0] : List Value).toArray below meth c H locs 0 0 (MQ below (gs_Q D zb (fun v G1 => v = some (.int (jc_dark nb bf X Y Z (nI wn) (ld_box pr x0 y0 z0 x1 y1 z1 X Y Z (nI wn)) m0 m1 m2 m3)) ∧ G1 = G)) ([.ref o, .ref a2, .ref a1, .ref a0] : List Value).toArray s 0 0 (fun q : Nat => zb ≤ q)) (F0 m 15 ls []) := by
    intro fu
    induction fu with
    | zero => intro j acc hle hfu; exact absurd hfu (by omega)
    | succ fu IH =>
      intro j acc hle hfu hacc H locs hG hS ls hl
      refine lv_iload hx hb d_Ss_darkCells_15 (lv_at hl 6 rfl) ?_
      refine lv_aload_n hx hb d_Ss_darkCells_17 rfl (lv_at hl 1 rfl) ?_
      refine gs_get E hK.1 hG hb2 (C := R_Wn) (T := F_Wn) (N := 4) rfl i_Wn 3 (by decide) w_283 (v := .int (nI m3)) rfl d_Ss_darkCells_18 ?_
      refine lv_icmp_ge (tgt := 72) hx hb d_Ss_darkCells_21 (by decide) (fun c_3 => ?_) (fun c_3 => ?_)
      · have hend : (m1 + j) = m3 := cl_eq (by have := hC.2.1; omega) hle c_3
        refine lv_iload hx hb d_Ss_darkCells_72 (lv_at hl 5 rfl) ?_
        refine W.iret (v := acc) hx hb hr (gs_end ⟨?_, rfl⟩ hG hS) hS.2.2 d_Ss_darkCells_74
        rw [hacc, jc_dark, ← hend, Nat.add_sub_cancel_left]
      · have hlt : (m1 + j) < m3 := cl_lt (by have := hC.2.1; omega) hle c_3
        refine lv_aload_n hx hb d_Ss_darkCells_24 rfl (lv_at hl 0 rfl) ?_
        refine lv_iload hx hb d_Ss_darkCells_25 (lv_at hl 6 rfl) ?_
        refine lv_aload_n hx hb d_Ss_darkCells_27 rfl (lv_at hl 2 rfl) ?_
        refine gs_V (As := [.int (nI (m1 + j)), .ref a1]) (rest := []) (k_Ss_shadeOfRow l D k zb G o aB aW aH aS aT wn hn nb nw ba wa ha bf hf wf sh tk a1 X Y Z am (nI (m1 + j)) hC hb1) E hml hl.1 (cg_V (C := R_Ss) hw w_313 w_310 w_1 w_312 sel_Ss_shadeOfRow hd_Ss_shadeOfRow ⟨by exact Nat.le_of_ble_eq_true rfl, by exact Nat.le_of_ble_eq_true rfl⟩) hG hK hX hS hC.1.1 rfl rfl rfl rfl (by exact Nat.le_of_ble_eq_true rfl) d_Ss_darkCells_28 ⟨by exact Nat.le_of_ble_eq_true rfl, by exact Nat.le_of_ble_eq_true rfl⟩ (fun v G1 H locs hp hG hS => ?_)
        obtain ⟨hv1, hG1⟩ := hp
        subst hv1
        rw [hG1] at hG
        refine W.eq (g2 := F0 m 31 ls [.long (jc_row nb bf X Y Z (nI (m1 + j)) (nI wn) 10)]) rfl ?_
        refine lv_topl (fun v_4 ev_4 => ?_)
        refine lv_lstore (lv' := [(8, .long v_4), (0, .ref o), (1, .ref a2), (2, .ref a1), (3, .ref a0), (4, .long (jc_cells (nI m0) (nI m2 - 1))), (6, .int acc), (7, .int (nI (m1 + j)))]) hx hb d_Ss_darkCells_31 hl (by decide) rfl (fun ls hl => ?_)
        refine lv_aload_n hx hb d_Ss_darkCells_33 rfl (lv_at hl 4 rfl) ?_
        refine lv_ifnull hx hb d_Ss_darkCells_34 ?_
        refine lv_lload hx hb d_Ss_darkCells_37 (lv_at hl 0 rfl) ?_
        refine lv_aload_n hx hb d_Ss_darkCells_39 rfl (lv_at hl 4 rfl) ?_
        refine lv_iload hx hb d_Ss_darkCells_40 (lv_at hl 7 rfl) ?_
        refine lv_aload_n hx hb d_Ss_darkCells_42 rfl (lv_at hl 3 rfl) ?_
        refine lv_aload_n hx hb d_Ss_darkCells_43 rfl (lv_at hl 1 rfl) ?_
        refine gs_get E hK.1 hG hC.1.1 (C := R_Ss) (T := F_Ss) (N := 9) rfl i_Ss 0 (by decide) w_60 (v := .int (nI wn)) rfl d_Ss_darkCells_44 ?_
        refine gs_V (As := [.int (nI (m1 + j)), .ref a1, .int (nI wn)]) (rest := [.long v_4]) (k_Bx_shadeThrownOnRow l D k zb G a0 x0 y0 z0 x1 y1 z1 pr a1 X Y Z am (nI (m1 + j)) (nI wn) hb0 hb1) E hml hl.1 (cg_V (C := R_Bx) hw w_317 w_314 w_5 w_315 sel_Bx_shadeThrownOnRow hd_Bx_shadeThrownOnRow ⟨by exact Nat.le_of_ble_eq_true rfl, by exact Nat.le_of_ble_eq_true rfl⟩) hG hK hX hS hb0 rfl rfl rfl rfl (by exact Nat.le_of_ble_eq_true rfl) d_Ss_darkCells_47 ⟨by exact Nat.le_of_ble_eq_true rfl, by exact Nat.le_of_ble_eq_true rfl⟩ (fun v G1 H locs hp hG hS => ?_)
        obtain ⟨hv1, hG1⟩ := hp
        subst hv1
        rw [hG1] at hG
        refine W.eq (g2 := F0 m 50 ls [.long (jc_shade pr x0 y0 z0 x1 y1 z1 X Y Z (nI (m1 + j)) (nI wn)), .long v_4]) rfl ?_
        refine lv_lor hx hb d_Ss_darkCells_50 ?_
        refine lv_topl (fun v_5 ev_5 => ?_)
        refine lv_lstore (lv' := [(8, .long v_5), (0, .ref o), (1, .ref a2), (2, .ref a1), (3, .ref a0), (4, .long (jc_cells (nI m0) (nI m2 - 1))), (6, .int acc), (7, .int (nI (m1 + j)))]) hx hb d_Ss_darkCells_51 hl (by decide) rfl (fun ls hl => ?_)
        refine lv_iload hx hb d_Ss_darkCells_53 (lv_at hl 6 rfl) ?_
        refine lv_lload hx hb d_Ss_darkCells_55 (lv_at hl 0 rfl) ?_
        refine lv_lload hx hb d_Ss_darkCells_57 (lv_at hl 5 rfl) ?_
        refine lv_land hx hb d_Ss_darkCells_59 ?_
        refine gs_St (As := [.long (v_5 &&& (jc_cells (nI m0) (nI m2 - 1)))]) (rest := [.int acc]) (k_Lo_bitCount l D k zb G (v_5 &&& (jc_cells (nI m0) (nI m2 - 1)))) E hml hl.1 (cg_S hw w_357 w_355 w_12 w_356 hd_Lo_bitCount ⟨by exact Nat.le_of_ble_eq_true rfl, by exact Nat.le_of_ble_eq_true rfl⟩) hG hK hX hS rfl rfl (by exact Nat.le_of_ble_eq_true rfl) d_Ss_darkCells_60 ⟨by exact Nat.le_of_ble_eq_true rfl, by exact Nat.le_of_ble_eq_true rfl⟩ (fun v G1 H locs hp hG hS => ?_)
        obtain ⟨hv1, hG1⟩ := hp
        subst hv1
        rw [hG1] at hG
        refine W.eq (g2 := F0 m 63 ls [.int (jc_bits (v_5 &&& (jc_cells (nI m0) (nI m2 - 1)))), .int acc]) rfl ?_
        refine lv_iadd hx hb d_Ss_darkCells_63 ?_
        refine lv_topi (fun v_6 ev_6 => ?_)
        refine lv_istore (lv' := [(6, .int v_6), (8, .long v_5), (0, .ref o), (1, .ref a2), (2, .ref a1), (3, .ref a0), (4, .long (jc_cells (nI m0) (nI m2 - 1))), (7, .int (nI (m1 + j)))]) hx hb d_Ss_darkCells_64 hl (by decide) rfl (fun ls hl => ?_)
        refine lv_iinc (v := nI ((m1 + j) + 1)) (lv' := [(7, .int (nI ((m1 + j) + 1))), (6, .int v_6), (8, .long v_5), (0, .ref o), (1, .ref a2), (2, .ref a1), (3, .ref a0), (4, .long (jc_cells (nI m0) (nI m2 - 1)))]) hx hb d_Ss_darkCells_66 hl (k := 7) rfl (nI_1 _) (by decide) rfl (fun ls hl => ?_)
        refine lv_goto (tgt := 15) hx hb d_Ss_darkCells_69 (by decide) ?_
        exact IH (j + 1) v_6 (by omega) (by omega) (by subst ev_6 ev_5 ev_4; rw [hacc]; rfl) _ _ hG hS ls (lv_sub hl [3, 4, 5, 6, 7, 1, 0] rfl)
  exact lp (m3 + 1) 0 0 (by omega) (by omega) rfl _ _ hG hS ls (lv_sub hl [3, 4, 5, 6, 2, 1, 0] rfl)
set_option maxHeartbeats 4000000 in
set_option maxRecDepth 100000 in
theorem k_Ss_lightOfHour (l : Launch) (D : va_G) (k : Nat → ClassId) (zb : Nat) (G : Nat → Option va_E) (o aB aW aH aS aT : Nat) (wn hn nb nw : Nat) (ba wa ha : Nat → Nat) (bf hf : Nat → Nat → Int32) (wf : Nat → Nat → Nat) (sh : Nat → Int64) (tk : Nat → Int32) (a2 m0 m1 m2 m3 : Nat) (a1 : Nat) (X Y Z am : Int32) (hC : sC k G o aB aW aH aS aT wn hn nb nw ba wa ha bf hf wf sh tk) (hb2 : G a2 = some (.inr (2, [.int (nI m0), .int (nI m1), .int (nI m2), .int (nI m3)]))) (hm : m1 ≤ m3) (hm3 : m3 ≤ 60) (hb1 : G a1 = some (.inr (1, [.int X, .int Y, .int Z, .int am]))) : Met l y_Ss_lightOfHour (wM y_Ss_lightOfHour c_Ss_lightOfHour 3 (some .int)) ({ frames := 5, cells := 0, slots := 0, locals := 134 }) (gs_P D k zb G [.ref o, .ref a2, .ref a1]) (gs_Q D zb (fun v G1 => v = some (.int (jc_lightOf nb bf X Y Z am (nI wn) m0 m1 m2 m3)) ∧ G1 = G)) 0 0 (fun q : Nat => zb ≤ q) := by
  refine Met.ofW (cc := c_Ss_lightOfHour) (maxL := 3) (ret := (some .int)) (by decide) rfl ?_
  intro p e s m args below meth c s₁ B hml hv
  obtain ⟨rfl, hG, hK, hX⟩ := hv
  have hx := B.exec
  have hb := B.bytes
  have hr := B.returns
  have hts := atoms_spec (ws := wM y_Ss_lightOfHour c_Ss_lightOfHour 3 (some .int)) B.pre
  have hw : ∀ w9 ∈ wW, w9.before ([.ref o, .ref a2, .ref a1] : List Value).toArray s = true := fun w9 h9 => hts w9 (gi_in w9 h9)
  have hown : s.vm.findClass R_Ss = some m.cls := findClass_of_methodNamed B.named
  have hlocks := B.notSynchronized
  have E : gs_E p s m ([.ref o, .ref a2, .ref a1] : List Value).toArray c c_Ss_lightOfHour wW R_Ss := ⟨hx, hb, hw, hown⟩
  have hS : gs_S zb s.heap s.heap [] := va_S.rf
  have hl := lv_entry ([.ref o, .ref a2, .ref a1]) (n := 3) (Nat.le_of_ble_eq_true rfl)
  rw [lg_entry_eq]
  generalize (lg_sl ([.ref o, .ref a2, .ref a1]) ++ List.replicate (3 - (lg_sl ([.ref o, .ref a2, .ref a1])).length) Slot.unset).toArray = ls at hl ⊢
  have hl : lv_has ls 3 [(0, .ref o), (1, .ref a2), (2, .ref a1)] := hl
  refine lv_aload_n hx hb d_Ss_lightOfHour_0 rfl (lv_at hl 2 rfl) ?_
  refine lv_ifnull hx hb d_Ss_lightOfHour_1 ?_
  refine lv_aload_n hx hb d_Ss_lightOfHour_4 rfl (lv_at hl 2 rfl) ?_
  refine gs_V (As := []) (rest := []) (k_Hr_hasSun l D k zb G a1 X Y Z am hb1) E hml hl.1 (cg_V (C := R_Hr) hw w_308 w_305 w_3 w_306 sel_Hr_hasSun hd_Hr_hasSun ⟨by exact Nat.le_of_ble_eq_true rfl, by exact Nat.le_of_ble_eq_true rfl⟩) hG hK hX hS hb1 rfl rfl rfl rfl (by exact Nat.le_of_ble_eq_true rfl) d_Ss_lightOfHour_5 ⟨by exact Nat.le_of_ble_eq_true rfl, by exact Nat.le_of_ble_eq_true rfl⟩ (fun v G1 H locs hp hG hS => ?_)
  obtain ⟨hv1, hG1⟩ := hp
  subst hv1
  rw [hG1] at hG
  refine W.eq (g2 := F0 m 8 ls [.int (jc_hasSun Z)]) rfl ?_
  refine lv_if_eq (tgt := 18) hx hb d_Ss_lightOfHour_8 (by decide) (fun c_1 => ?_) (fun c_1 => ?_)
  · refine lv_iconst (v := 0) hx hb d_Ss_lightOfHour_18 (by decide) ?_
    refine W.iret (v := 0) hx hb hr (gs_end ⟨?_, rfl⟩ hG hS) hS.2.2 d_Ss_lightOfHour_19
    simp only [jc_lightOf, if_pos c_1]
  · refine lv_aload_n hx hb d_Ss_lightOfHour_11 rfl (lv_at hl 2 rfl) ?_
    refine gs_get E hK.1 hG hb1 (C := R_Hr) (T := F_Hr) (N := 4) rfl i_Hr 3 (by decide) w_48 (v := .int am) rfl d_Ss_lightOfHour_12 ?_
    refine lv_if_ne (tgt := 20) hx hb d_Ss_lightOfHour_15 (by decide) (fun c_2 => ?_) (fun c_2 => ?_)
    · refine lv_aload_n hx hb d_Ss_lightOfHour_20 rfl (lv_at hl 2 rfl) ?_
      refine gs_get E hK.1 hG hb1 (C := R_Hr) (T := F_Hr) (N := 4) rfl i_Hr 3 (by decide) w_48 (v := .int am) rfl d_Ss_lightOfHour_21 ?_
      refine lv_aload_n hx hb d_Ss_lightOfHour_24 rfl (lv_at hl 1 rfl) ?_
      refine gs_V (As := []) (rest := [.int am]) (k_Wn_cellCount l D k zb G a2 (nI m0) (nI m1) (nI m2) (nI m3) hb2) E hml hl.1 (cg_V (C := R_Wn) hw w_407 w_404 w_11 w_405 sel_Wn_cellCount hd_Wn_cellCount ⟨by exact Nat.le_of_ble_eq_true rfl, by exact Nat.le_of_ble_eq_true rfl⟩) hG hK hX hS hb2 rfl rfl rfl rfl (by exact Nat.le_of_ble_eq_true rfl) d_Ss_lightOfHour_25 ⟨by exact Nat.le_of_ble_eq_true rfl, by exact Nat.le_of_ble_eq_true rfl⟩ (fun v G1 H locs hp hG hS => ?_)
      obtain ⟨hv1, hG1⟩ := hp
      subst hv1
      rw [hG1] at hG
      refine W.eq (g2 := F0 m 28 ls [.int (((nI m2) - (nI m0)) * ((nI m3) - (nI m1))), .int am]) rfl ?_
      refine lv_aload_n hx hb d_Ss_lightOfHour_28 rfl (lv_at hl 0 rfl) ?_
      refine lv_aload_n hx hb d_Ss_lightOfHour_29 rfl (lv_at hl 1 rfl) ?_
      refine lv_aload_n hx hb d_Ss_lightOfHour_30 rfl (lv_at hl 2 rfl) ?_
      refine lv_null hx hb d_Ss_lightOfHour_31 ?_
      refine gs_V (As := [.ref a2, .ref a1, .null]) (rest := [.int (((nI m2) - (nI m0)) * ((nI m3) - (nI m1))), .int am]) (k_dark0 l D k zb G o aB aW aH aS aT wn hn nb nw ba wa ha bf hf wf sh tk a2 m0 m1 m2 m3 a1 X Y Z am hC hb2 hm hm3 hb1) E hml hl.1 (cg_V (C := R_Ss) hw w_376 w_373 w_1 w_375 sel_Ss_darkCells hd_Ss_darkCells ⟨by exact Nat.le_of_ble_eq_true rfl, by exact Nat.le_of_ble_eq_true rfl⟩) hG hK hX hS hC.1.1 rfl rfl rfl rfl (by exact Nat.le_of_ble_eq_true rfl) d_Ss_lightOfHour_32 ⟨by exact Nat.le_of_ble_eq_true rfl, by exact Nat.le_of_ble_eq_true rfl⟩ (fun v G1 H locs hp hG hS => ?_)
      obtain ⟨hv1, hG1⟩ := hp
      subst hv1
      rw [hG1] at hG
      refine W.eq (g2 := F0 m 35 ls [.int (jc_dark nb bf X Y Z (nI wn) ld_no m0 m1 m2 m3), .int (((nI m2) - (nI m0)) * ((nI m3) - (nI m1))), .int am]) rfl ?_
      refine lv_isub hx hb d_Ss_lightOfHour_35 ?_
      refine lv_imul hx hb d_Ss_lightOfHour_36 ?_
      refine W.iret (v := (am * ((((nI m2) - (nI m0)) * ((nI m3) - (nI m1))) - (jc_dark nb bf X Y Z (nI wn) ld_no m0 m1 m2 m3)))) hx hb hr (gs_end ⟨?_, rfl⟩ hG hS) hS.2.2 d_Ss_lightOfHour_37
      simp only [jc_lightOf, if_neg c_1, if_neg c_2]
    · refine lv_iconst (v := 0) hx hb d_Ss_lightOfHour_18 (by decide) ?_
      refine W.iret (v := 0) hx hb hr (gs_end ⟨?_, rfl⟩ hG hS) hS.2.2 d_Ss_lightOfHour_19
      simp only [jc_lightOf, if_neg c_1, if_pos c_2]
set_option maxHeartbeats 4000000 in
set_option maxRecDepth 100000 in
theorem k_Ss_cellWithBefore (l : Launch) (D : va_G) (k : Nat → ClassId) (zb : Nat) (G : Nat → Option va_E) (cs : Int64) (b : Int32) : Met l y_Ss_cellWithBefore (wM y_Ss_cellWithBefore c_Ss_cellWithBefore 5 (some .int)) ({ frames := 1, cells := 0, slots := 0, locals := 22 }) (gs_P D k zb G [.long cs, .int b]) (gs_Q D zb (fun v G1 => v = some (.int (jc_with cs 60 0 b)) ∧ G1 = G)) 0 0 (fun q : Nat => zb ≤ q) := by
  refine Met.ofW (cc := c_Ss_cellWithBefore) (maxL := 5) (ret := (some .int)) (by decide) rfl ?_
  intro p e s m args below meth c s₁ B hml hv
  obtain ⟨rfl, hG, hK, hX⟩ := hv
  have hx := B.exec
  have hb := B.bytes
  have hr := B.returns
  have hts := atoms_spec (ws := wM y_Ss_cellWithBefore c_Ss_cellWithBefore 5 (some .int)) B.pre
  have hw : ∀ w9 ∈ wW, w9.before ([.long cs, .int b] : List Value).toArray s = true := fun w9 h9 => hts w9 (gi_in w9 h9)
  have hown : s.vm.findClass R_Ss = some m.cls := findClass_of_methodNamed B.named
  have hlocks := B.notSynchronized
  have E : gs_E p s m ([.long cs, .int b] : List Value).toArray c c_Ss_cellWithBefore wW R_Ss := ⟨hx, hb, hw, hown⟩
  have hS : gs_S zb s.heap s.heap [] := va_S.rf
  have hl := lv_entry ([.long cs, .int b]) (n := 5) (Nat.le_of_ble_eq_true rfl)
  rw [lg_entry_eq]
  generalize (lg_sl ([.long cs, .int b]) ++ List.replicate (5 - (lg_sl ([.long cs, .int b])).length) Slot.unset).toArray = ls at hl ⊢
  have hl : lv_has ls 5 [(0, .long cs), (2, .int b)] := hl
  refine lv_iload_n hx hb d_Ss_cellWithBefore_0 rfl (lv_at hl 1 rfl) ?_
  refine lv_istore_n (lv' := [(3, .int b), (0, .long cs), (2, .int b)]) hx hb d_Ss_cellWithBefore_1 rfl hl (by decide) rfl (fun ls hl => ?_)
  refine lv_iconst (v := 0) hx hb d_Ss_cellWithBefore_2 (by decide) ?_
  refine lv_istore (lv' := [(4, .int 0), (3, .int b), (0, .long cs), (2, .int b)]) hx hb d_Ss_cellWithBefore_3 hl (by decide) rfl (fun ls hl => ?_)
  have lp : ∀ (fu : Nat) (x : Nat) (n : Nat) (l9 : Int32), x ≤ 60 → 60 + 1 ≤ x + fu → (hn : x + n = 60) → (hinv : jc_with cs 60 0 b = jc_with cs n x l9) → ∀ (H : Heap) (locs : List Loc), gs_W D classes zb G H → gs_S zb s.heap H locs → ∀ (ls : Array Slot), lv_has ls 5 [(0, .long cs), (2, .int b), (3, .int l9), (4, .int (nI x))] → W p l e (headSpec (wM y_Ss_cellWithBefore c_Ss_cellWithBefore 5 (some .int)) ({ frames := 1, cells := 0, slots := 0, locals := 22 })).room s m ([.long cs, .int b] : List Value).toArray below meth c H locs 0 0 (MQ below (gs_Q D zb (fun v G1 => v = some (.int (jc_with cs 60 0 b)) ∧ G1 = G)) ([.long cs, .int b] : List Value).toArray s 0 0 (fun q : Nat => zb ≤ q)) (F0 m 5 ls []) := by
    intro fu
    induction fu with
    | zero => intro x n l9 hle hfu; exact absurd hfu (by omega)
    | succ fu IH =>
      intro x n l9 hle hfu hn hinv H locs hG hS ls hl
      refine lv_iload hx hb d_Ss_cellWithBefore_5 (lv_at hl 3 rfl) ?_
      refine lv_bipush (v := 60) hx hb d_Ss_cellWithBefore_7 (by decide) ?_
      refine lv_icmp_ge (tgt := 37) hx hb d_Ss_cellWithBefore_9 (by decide) (fun c_1 => ?_) (fun c_1 => ?_)
      · have hend : x = 60 := cl_eq (N := 60) (by decide) hle c_1
        refine lv_iconst (v := (-1)) hx hb d_Ss_cellWithBefore_37 (by decide) ?_
        refine W.iret (v := (-1)) hx hb hr (gs_end ⟨?_, rfl⟩ hG hS) hS.2.2 d_Ss_cellWithBefore_38
        have h0 : n = 0 := by omega
        rw [hinv, h0]; rfl
      · have hlt : x < 60 := cl_lt (N := 60) (by decide) hle c_1
        obtain ⟨n9, hn9⟩ : ∃ z, n = z + 1 := ⟨n - 1, by omega⟩
        subst hn9
        refine lv_lload_n hx hb d_Ss_cellWithBefore_12 rfl (lv_at hl 0 rfl) ?_
        refine lv_iload hx hb d_Ss_cellWithBefore_13 (lv_at hl 3 rfl) ?_
        refine gs_St (As := [.long cs, .int (nI x)]) (rest := []) (k_Ss_hasCell l D k zb G cs (nI x)) E hml hl.1 (cg_S hw w_347 w_345 w_1 w_346 hd_Ss_hasCell ⟨by exact Nat.le_of_ble_eq_true rfl, by exact Nat.le_of_ble_eq_true rfl⟩) hG hK hX hS rfl rfl (by exact Nat.le_of_ble_eq_true rfl) d_Ss_cellWithBefore_15 ⟨by exact Nat.le_of_ble_eq_true rfl, by exact Nat.le_of_ble_eq_true rfl⟩ (fun v G1 H locs hp hG hS => ?_)
        obtain ⟨hv1, hG1⟩ := hp
        subst hv1
        rw [hG1] at hG
        refine W.eq (g2 := F0 m 18 ls [.int (jc_hasCell cs (nI x))]) rfl ?_
        refine lv_if_eq (tgt := 31) hx hb d_Ss_cellWithBefore_18 (by decide) (fun c_2 => ?_) (fun c_2 => ?_)
        · refine lv_iinc (v := nI (x + 1)) (lv' := [(4, .int (nI (x + 1))), (0, .long cs), (2, .int b), (3, .int l9)]) hx hb d_Ss_cellWithBefore_31 hl (k := 3) rfl (nI_1 _) (by decide) rfl (fun ls hl => ?_)
          refine lv_goto (tgt := 5) hx hb d_Ss_cellWithBefore_34 (by decide) ?_
          exact IH (x + 1) n9 l9 (by omega) (by omega) (by omega) (by rw [hinv, jc_with_s, if_pos c_2]) _ _ hG hS ls (lv_sub hl [1, 2, 3, 0] rfl)
        · refine lv_iload_n hx hb d_Ss_cellWithBefore_21 rfl (lv_at hl 2 rfl) ?_
          refine lv_if_ne (tgt := 28) hx hb d_Ss_cellWithBefore_22 (by decide) (fun c_3 => ?_) (fun c_3 => ?_)
          · obtain ⟨x_4, ex_4⟩ : ∃ y : Int32, y = l9 + (-1) := ⟨_, rfl⟩
            refine lv_iinc (v := x_4) (lv' := [(3, .int x_4), (0, .long cs), (2, .int b), (4, .int (nI x))]) hx hb d_Ss_cellWithBefore_28 hl (k := 2) rfl (by rw [ex_4]; rfl) (by decide) rfl (fun ls hl => ?_)
            refine lv_iinc (v := nI (x + 1)) (lv' := [(4, .int (nI (x + 1))), (3, .int x_4), (0, .long cs), (2, .int b)]) hx hb d_Ss_cellWithBefore_31 hl (k := 3) rfl (nI_1 _) (by decide) rfl (fun ls hl => ?_)
            refine lv_goto (tgt := 5) hx hb d_Ss_cellWithBefore_34 (by decide) ?_
            exact IH (x + 1) n9 x_4 (by omega) (by omega) (by omega) (by rw [hinv, jc_with_s, if_neg c_2, if_neg c_3, ex_4]) _ _ hG hS ls (lv_sub hl [2, 3, 1, 0] rfl)
          · refine lv_iload hx hb d_Ss_cellWithBefore_25 (lv_at hl 3 rfl) ?_
            refine W.iret (v := (nI x)) hx hb hr (gs_end ⟨?_, rfl⟩ hG hS) hS.2.2 d_Ss_cellWithBefore_27
            rw [hinv, jc_with_s, if_neg c_2, if_pos c_3]
  exact lp (60 + 1) 0 60 b (by omega) (by omega) rfl rfl _ _ hG hS ls (lv_sub hl [2, 3, 1, 0] rfl)
end
section
/-! contracts, by program -/
set_option maxHeartbeats 4000000 in
set_option maxRecDepth 100000 in
theorem k_Ss_shadow (l : Launch) (hnt : l.stackTraces = false) (D : va_G) (k : Nat → ClassId) (zb : Nat) (G : Nat → Option va_E) (o aB aW aH aS aT : Nat) (wn hn nb nw : Nat) (ba wa ha : Nat → Nat) (bf hf : Nat → Nat → Int32) (wf : Nat → Nat → Nat) (sh : Nat → Int64) (tk : Nat → Int32) (x y t : Int32) (hC : sC k G o aB aW aH aS aT wn hn nb nw ba wa ha bf hf wf sh tk) : vx_Met l y_Ss_shadow (wM y_Ss_shadow c_Ss_shadow 4 (some .boolean)) ({ frames := 8, cells := 2, slots := 12, locals := 134 }) (gs_P D k zb G [.ref o, .int x, .int y, .int t]) (gs_Q D zb (fun v G1 => ∃ i : Nat, i < 24 ∧ t = nI i ∧ ¬ jc_hasSun (hf i 2) = 0 ∧ ¬ jc_within x 0 (nI wn - 1) = 0 ∧ ¬ jc_within y 0 (nI hn - 1) = 0 ∧ v = some (.int (jc_hasCell (jc_row nb bf (hf i 0) (hf i 1) (hf i 2) y (nI wn) 10) x)) ∧ G1 = G)) (gs_T D zb G (fun E => (E = e_IA ∧ (jc_within x 0 (nI wn - 1) = 0 ∨ jc_within y 0 (nI hn - 1) = 0 ∨ (¬ ∃ i : Nat, i < 24 ∧ t = nI i))) ∨ (E = e_IS ∧ ¬ jc_within x 0 (nI wn - 1) = 0 ∧ ¬ jc_within y 0 (nI hn - 1) = 0 ∧ (∃ i : Nat, i < 24 ∧ t = nI i ∧ jc_hasSun (hf i 2) = 0)))) 2 12 (fun q : Nat => zb ≤ q) := by
  refine vx_ofW (cc := c_Ss_shadow) (maxL := 4) (ret := (some .boolean)) (by decide) rfl ?_
  intro p e s m args below meth c s₁ B hml ht hv
  obtain ⟨rfl, hG, hK, hX⟩ := hv
  have hx := B.exec
  have hb := B.bytes
  have hr := B.returns
  have hts := atoms_spec (ws := wM y_Ss_shadow c_Ss_shadow 4 (some .boolean)) B.pre
  have hw : ∀ w9 ∈ wW, w9.before ([.ref o, .int x, .int y, .int t] : List Value).toArray s = true := fun w9 h9 => hts w9 (gi_in w9 h9)
  have hown : s.vm.findClass R_Ss = some m.cls := findClass_of_methodNamed B.named
  have hlocks := B.notSynchronized
  have E : gs_E p s m ([.ref o, .int x, .int y, .int t] : List Value).toArray c c_Ss_shadow wW R_Ss := ⟨hx, hb, hw, hown⟩
  have hS : gs_S zb s.heap s.heap [] := va_S.rf
  have hl := lv_entry ([.ref o, .int x, .int y, .int t]) (n := 4) (Nat.le_of_ble_eq_true rfl)
  rw [lg_entry_eq]
  generalize (lg_sl ([.ref o, .int x, .int y, .int t]) ++ List.replicate (4 - (lg_sl ([.ref o, .int x, .int y, .int t])).length) Slot.unset).toArray = ls at hl ⊢
  have hl : lv_has ls 4 [(0, .ref o), (1, .int x), (2, .int y), (3, .int t)] := hl
  refine lv_iload_n hx hb d_Ss_shadow_0 rfl (lv_at hl 1 rfl) ?_
  refine lv_iconst (v := 0) hx hb d_Ss_shadow_1 (by decide) ?_
  refine lv_aload_n hx hb d_Ss_shadow_2 rfl (lv_at hl 0 rfl) ?_
  refine gs_get E hK.1 hG hC.1.1 (C := R_Ss) (T := F_Ss) (N := 9) rfl i_Ss 0 (by decide) w_60 (v := .int (nI wn)) rfl d_Ss_shadow_3 ?_
  refine lv_iconst (v := 1) hx hb d_Ss_shadow_6 (by decide) ?_
  refine lv_isub hx hb d_Ss_shadow_7 ?_
  refine gs_St (As := [.int x, .int 0, .int ((nI wn) - 1)]) (rest := []) (k_Ss_isWithin l D k zb G x 0 ((nI wn) - 1)) E hml hl.1 (cg_S hw w_229 w_227 w_1 w_228 hd_Ss_isWithin ⟨by exact Nat.le_of_ble_eq_true rfl, by exact Nat.le_of_ble_eq_true rfl⟩) hG hK hX hS rfl rfl (by exact Nat.le_of_ble_eq_true rfl) d_Ss_shadow_8 ⟨by exact Nat.le_of_ble_eq_true rfl, by exact Nat.le_of_ble_eq_true rfl⟩ (fun v G1 H locs hp hG hS => ?_)
  obtain ⟨hv1, hG1⟩ := hp
  subst hv1
  rw [hG1] at hG
  refine W.eq (g2 := F0 m 11 ls [.int (jc_within x 0 ((nI wn) - 1))]) rfl ?_
  refine lv_if_eq (tgt := 28) hx hb d_Ss_shadow_11 (by decide) (fun c_1 => ?_) (fun c_1 => ?_)
  · exact gs_throwIA (text := "no such cell") hnt E hG hK hX hS ht (hl.1.trans hml.symm) w_103 w_9 (by decide) (Or.inl ⟨rfl, Or.inl c_1⟩) d_Ss_shadow_28 d_Ss_shadow_31 d_Ss_shadow_32 d_Ss_shadow_34 d_Ss_shadow_37 (by exact Nat.le_of_ble_eq_true rfl) (by exact Nat.le_of_ble_eq_true rfl) (by exact Nat.le_of_ble_eq_true rfl) (by exact Nat.le_of_ble_eq_true rfl) hlocks (by decide) (by decide)
  · refine lv_iload_n hx hb d_Ss_shadow_14 rfl (lv_at hl 2 rfl) ?_
    refine lv_iconst (v := 0) hx hb d_Ss_shadow_15 (by decide) ?_
    refine lv_aload_n hx hb d_Ss_shadow_16 rfl (lv_at hl 0 rfl) ?_
    refine gs_get E hK.1 hG hC.1.1 (C := R_Ss) (T := F_Ss) (N := 9) rfl i_Ss 1 (by decide) w_61 (v := .int (nI hn)) rfl d_Ss_shadow_17 ?_
    refine lv_iconst (v := 1) hx hb d_Ss_shadow_20 (by decide) ?_
    refine lv_isub hx hb d_Ss_shadow_21 ?_
    refine gs_St (As := [.int y, .int 0, .int ((nI hn) - 1)]) (rest := []) (k_Ss_isWithin l D k zb G y 0 ((nI hn) - 1)) E hml hl.1 (cg_S hw w_229 w_227 w_1 w_228 hd_Ss_isWithin ⟨by exact Nat.le_of_ble_eq_true rfl, by exact Nat.le_of_ble_eq_true rfl⟩) hG hK hX hS rfl rfl (by exact Nat.le_of_ble_eq_true rfl) d_Ss_shadow_22 ⟨by exact Nat.le_of_ble_eq_true rfl, by exact Nat.le_of_ble_eq_true rfl⟩ (fun v G1 H locs hp hG hS => ?_)
    obtain ⟨hv1, hG1⟩ := hp
    subst hv1
    rw [hG1] at hG
    refine W.eq (g2 := F0 m 25 ls [.int (jc_within y 0 ((nI hn) - 1))]) rfl ?_
    refine lv_if_ne (tgt := 38) hx hb d_Ss_shadow_25 (by decide) (fun c_2 => ?_) (fun c_2 => ?_)
    · refine lv_aload_n hx hb d_Ss_shadow_38 rfl (lv_at hl 0 rfl) ?_
      refine lv_iload_n hx hb d_Ss_shadow_39 rfl (lv_at hl 2 rfl) ?_
      refine lv_aload_n hx hb d_Ss_shadow_40 rfl (lv_at hl 0 rfl) ?_
      refine lv_iload_n hx hb d_Ss_shadow_41 rfl (lv_at hl 3 rfl) ?_
      refine gs_VX (As := [.int t]) (rest := [.int y, .ref o]) (k_Ss_sunnyHour l hnt D k zb G o aB aW aH aS aT wn hn nb nw ba wa ha bf hf wf sh tk t hC) E hml hl.1 (cg_V (C := R_Ss) hw w_304 w_301 w_1 w_303 sel_Ss_sunnyHour hd_Ss_sunnyHour ⟨by exact Nat.le_of_ble_eq_true rfl, by exact Nat.le_of_ble_eq_true rfl⟩) hG hK hX hS hC.1.1 rfl rfl rfl rfl (by exact Nat.le_of_ble_eq_true rfl) d_Ss_shadow_42 ⟨by exact Nat.le_of_ble_eq_true rfl, by exact Nat.le_of_ble_eq_true rfl⟩ (fun E9 ce q9 H locs hp hG hS hq1 hq2 hq3 => ?_) (fun v G1 H locs hp hG hS => ?_)
      · exact gs_on ht hlocks (hp.elim (fun q => Or.inl ⟨q.1, Or.inr (Or.inr q.2)⟩) (fun q => Or.inr ⟨q.1, c_1, c_2, q.2⟩)) hG hS hq1 hq2 hq3 (by decide) (by decide)
      obtain ⟨ih, hih, eih, hsun, hv1, hG1⟩ := hp
      subst hv1
      rw [hG1] at hG
      refine W.eq (g2 := F0 m 45 ls [.ref (ha ih), .int y, .ref o]) rfl ?_
      refine gs_V (As := [.int y, .ref (ha ih)]) (rest := []) (k_Ss_shadeOfRow l D k zb G o aB aW aH aS aT wn hn nb nw ba wa ha bf hf wf sh tk (ha ih) (hf ih 0) (hf ih 1) (hf ih 2) (hf ih 3) y hC (hC.2.2.2.2.1 ih hih)) E hml hl.1 (cg_V (C := R_Ss) hw w_313 w_310 w_1 w_312 sel_Ss_shadeOfRow hd_Ss_shadeOfRow ⟨by exact Nat.le_of_ble_eq_true rfl, by exact Nat.le_of_ble_eq_true rfl⟩) hG hK hX hS hC.1.1 rfl rfl rfl rfl (by exact Nat.le_of_ble_eq_true rfl) d_Ss_shadow_45 ⟨by exact Nat.le_of_ble_eq_true rfl, by exact Nat.le_of_ble_eq_true rfl⟩ (fun v G1 H locs hp hG hS => ?_)
      obtain ⟨hv1, hG1⟩ := hp
      subst hv1
      rw [hG1] at hG
      refine W.eq (g2 := F0 m 48 ls [.long (jc_row nb bf (hf ih 0) (hf ih 1) (hf ih 2) y (nI wn) 10)]) rfl ?_
      refine lv_iload_n hx hb d_Ss_shadow_48 rfl (lv_at hl 1 rfl) ?_
      refine gs_St (As := [.long (jc_row nb bf (hf ih 0) (hf ih 1) (hf ih 2) y (nI wn) 10), .int x]) (rest := []) (k_Ss_hasCell l D k zb G (jc_row nb bf (hf ih 0) (hf ih 1) (hf ih 2) y (nI wn) 10) x) E hml hl.1 (cg_S hw w_347 w_345 w_1 w_346 hd_Ss_hasCell ⟨by exact Nat.le_of_ble_eq_true rfl, by exact Nat.le_of_ble_eq_true rfl⟩) hG hK hX hS rfl rfl (by exact Nat.le_of_ble_eq_true rfl) d_Ss_shadow_49 ⟨by exact Nat.le_of_ble_eq_true rfl, by exact Nat.le_of_ble_eq_true rfl⟩ (fun v G1 H locs hp hG hS => ?_)
      obtain ⟨hv1, hG1⟩ := hp
      subst hv1
      rw [hG1] at hG
      refine W.eq (g2 := F0 m 52 ls [.int (jc_hasCell (jc_row nb bf (hf ih 0) (hf ih 1) (hf ih 2) y (nI wn) 10) x)]) rfl ?_
      refine vx_ret ?_
      refine W.zret (v := (jc_hasCell (jc_row nb bf (hf ih 0) (hf ih 1) (hf ih 2) y (nI wn) 10) x)) hx hb hr (by unfold jc_hasCell; split <;> rfl) (gs_end ?_ hG hS) hS.2.2 d_Ss_shadow_52
      exact ⟨ih, hih, eih, hsun, c_1, c_2, rfl, rfl⟩
    · exact gs_throwIA (text := "no such cell") hnt E hG hK hX hS ht (hl.1.trans hml.symm) w_103 w_9 (by decide) (Or.inl ⟨rfl, Or.inr (Or.inl c_2)⟩) d_Ss_shadow_28 d_Ss_shadow_31 d_Ss_shadow_32 d_Ss_shadow_34 d_Ss_shadow_37 (by exact Nat.le_of_ble_eq_true rfl) (by exact Nat.le_of_ble_eq_true rfl) (by exact Nat.le_of_ble_eq_true rfl) (by exact Nat.le_of_ble_eq_true rfl) hlocks (by decide) (by decide)
set_option maxHeartbeats 4000000 in
set_option maxRecDepth 100000 in
theorem k_Ss_shadows (l : Launch) (hnt : l.stackTraces = false) (D : va_G) (k : Nat → ClassId) (zb : Nat) (G : Nat → Option va_E) (o aB aW aH aS aT : Nat) (wn hn nb nw : Nat) (ba wa ha : Nat → Nat) (bf hf : Nat → Nat → Int32) (wf : Nat → Nat → Nat) (sh : Nat → Int64) (tk : Nat → Int32) (b t : Int32) (hC : sC k G o aB aW aH aS aT wn hn nb nw ba wa ha bf hf wf sh tk) : vx_Met l y_Ss_shadows (wM y_Ss_shadows c_Ss_shadows 9 (some .int)) ({ frames := 8, cells := 3, slots := 18, locals := 134 }) (gs_P D k zb G [.ref o, .int b, .int t]) (gs_Q D zb (fun v G1 => ∃ i : Nat, i < 24 ∧ t = nI i ∧ ¬ jc_hasSun (hf i 2) = 0 ∧ ((b = (-1) ∧ v = some (.int (jc_sum (fun y => jc_bits (jc_row nb bf (hf i 0) (hf i 1) (hf i 2) (nI y) (nI wn) 10)) hn))) ∨ (¬ b = (-1) ∧ ∃ j : Nat, j < nb ∧ b = nI j ∧ v = some (.int (jc_sum (fun y => jc_bits (jc_shade (bf j 6) (bf j 0) (bf j 1) (bf j 2) (bf j 3) (bf j 4) (bf j 5) (hf i 0) (hf i 1) (hf i 2) (nI y) (nI wn))) hn)))) ∧ G1 = G)) (gs_T D zb G (fun E => (E = e_IA ∧ ((¬ b = (-1) ∧ (¬ ∃ i : Nat, i < nb ∧ b = nI i)) ∨ (¬ ∃ i : Nat, i < 24 ∧ t = nI i))) ∨ (E = e_IS ∧ (b = (-1) ∨ ∃ i : Nat, i < nb ∧ b = nI i) ∧ (∃ i : Nat, i < 24 ∧ t = nI i ∧ jc_hasSun (hf i 2) = 0)))) 3 18 (fun q : Nat => zb ≤ q) := by
  refine vx_ofW (cc := c_Ss_shadows) (maxL := 9) (ret := (some .int)) (by decide) rfl ?_
  intro p e s m args below meth c s₁ B hml ht hv
  obtain ⟨rfl, hG, hK, hX⟩ := hv
  have hx := B.exec
  have hb := B.bytes
  have hr := B.returns
  have hts := atoms_spec (ws := wM y_Ss_shadows c_Ss_shadows 9 (some .int)) B.pre
  have hw : ∀ w9 ∈ wW, w9.before ([.ref o, .int b, .int t] : List Value).toArray s = true := fun w9 h9 => hts w9 (gi_in w9 h9)
  have hown : s.vm.findClass R_Ss = some m.cls := findClass_of_methodNamed B.named
  have hlocks := B.notSynchronized
  have E : gs_E p s m ([.ref o, .int b, .int t] : List Value).toArray c c_Ss_shadows wW R_Ss := ⟨hx, hb, hw, hown⟩
  have hS : gs_S zb s.heap s.heap [] := va_S.rf
  have hl := lv_entry ([.ref o, .int b, .int t]) (n := 9) (Nat.le_of_ble_eq_true rfl)
  rw [lg_entry_eq]
  generalize (lg_sl ([.ref o, .int b, .int t]) ++ List.replicate (9 - (lg_sl ([.ref o, .int b, .int t])).length) Slot.unset).toArray = ls at hl ⊢
  have hl : lv_has ls 9 [(0, .ref o), (1, .int b), (2, .int t)] := hl
  refine lv_iload_n hx hb d_Ss_shadows_0 rfl (lv_at hl 1 rfl) ?_
  refine lv_iconst (v := (-1)) hx hb d_Ss_shadows_1 (by decide) ?_
  refine lv_icmp_ne (tgt := 9) hx hb d_Ss_shadows_2 (by decide) (fun c_1 => ?_) (fun c_1 => ?_)
  · refine lv_aload_n hx hb d_Ss_shadows_9 rfl (lv_at hl 0 rfl) ?_
    refine lv_iload_n hx hb d_Ss_shadows_10 rfl (lv_at hl 1 rfl) ?_
    refine gs_VX (As := [.int b]) (rest := []) (k_Ss_knownBox l hnt D k zb G o aB aW aH aS aT wn hn nb nw ba wa ha bf hf wf sh tk b hC) E hml hl.1 (cg_V (C := R_Ss) hw w_225 w_222 w_1 w_224 sel_Ss_knownBox hd_Ss_knownBox ⟨by exact Nat.le_of_ble_eq_true rfl, by exact Nat.le_of_ble_eq_true rfl⟩) hG hK hX hS hC.1.1 rfl rfl rfl rfl (by exact Nat.le_of_ble_eq_true rfl) d_Ss_shadows_11 ⟨by exact Nat.le_of_ble_eq_true rfl, by exact Nat.le_of_ble_eq_true rfl⟩ (fun E9 ce q9 H locs hp hG hS hq1 hq2 hq3 => ?_) (fun v G1 H locs hp hG hS => ?_)
    · exact gs_on ht hlocks (Or.inl ⟨hp.1, Or.inl ⟨c_1, hp.2⟩⟩) hG hS hq1 hq2 hq3 (by decide) (by decide)
    obtain ⟨ib, hib, eib, hv1, hG1⟩ := hp
    subst hv1
    rw [hG1] at hG
    refine W.eq (g2 := F0 m 14 ls [.ref (ba ib)]) rfl ?_
    refine lv_astore_n (lv' := [(3, .ref (ba ib)), (0, .ref o), (1, .int b), (2, .int t)]) hx hb d_Ss_shadows_14 rfl hl (by decide) rfl (fun ls hl => ?_)
    refine lv_aload_n hx hb d_Ss_shadows_15 rfl (lv_at hl 1 rfl) ?_
    refine lv_iload_n hx hb d_Ss_shadows_16 rfl (lv_at hl 3 rfl) ?_
    refine gs_VX (As := [.int t]) (rest := []) (k_Ss_sunnyHour l hnt D k zb G o aB aW aH aS aT wn hn nb nw ba wa ha bf hf wf sh tk t hC) E hml hl.1 (cg_V (C := R_Ss) hw w_304 w_301 w_1 w_303 sel_Ss_sunnyHour hd_Ss_sunnyHour ⟨by exact Nat.le_of_ble_eq_true rfl, by exact Nat.le_of_ble_eq_true rfl⟩) hG hK hX hS hC.1.1 rfl rfl rfl rfl (by exact Nat.le_of_ble_eq_true rfl) d_Ss_shadows_17 ⟨by exact Nat.le_of_ble_eq_true rfl, by exact Nat.le_of_ble_eq_true rfl⟩ (fun E9 ce q9 H locs hp hG hS hq1 hq2 hq3 => ?_) (fun v G1 H locs hp hG hS => ?_)
    · exact gs_on ht hlocks (hp.elim (fun q => Or.inl ⟨q.1, Or.inr q.2⟩) (fun q => Or.inr ⟨q.1, Or.inr ⟨ib, hib, eib⟩, q.2⟩)) hG hS hq1 hq2 hq3 (by decide) (by decide)
    obtain ⟨ih, hih, eih, hsun, hv1, hG1⟩ := hp
    subst hv1
    rw [hG1] at hG
    refine W.eq (g2 := F0 m 20 ls [.ref (ha ih)]) rfl ?_
    refine lv_astore (lv' := [(4, .ref (ha ih)), (3, .ref (ba ib)), (0, .ref o), (1, .int b), (2, .int t)]) hx hb d_Ss_shadows_20 hl (by decide) rfl (fun ls hl => ?_)
    refine lv_iconst (v := 0) hx hb d_Ss_shadows_22 (by decide) ?_
    refine lv_istore (lv' := [(5, .int 0), (4, .ref (ha ih)), (3, .ref (ba ib)), (0, .ref o), (1, .int b), (2, .int t)]) hx hb d_Ss_shadows_23 hl (by decide) rfl (fun ls hl => ?_)
    refine lv_iconst (v := 0) hx hb d_Ss_shadows_25 (by decide) ?_
    refine lv_istore (lv' := [(6, .int 0), (5, .int 0), (4, .ref (ha ih)), (3, .ref (ba ib)), (0, .ref o), (1, .int b), (2, .int t)]) hx hb d_Ss_shadows_26 hl (by decide) rfl (fun ls hl => ?_)
    have lp : ∀ (fu : Nat) (y : Nat) (acc : Int32), y ≤ hn → hn + 1 ≤ y + fu → (hacc : acc = jc_sum (fun y => jc_bits (jc_shade (bf ib 6) (bf ib 0) (bf ib 1) (bf ib 2) (bf ib 3) (bf ib 4) (bf ib 5) (hf ih 0) (hf ih 1) (hf ih 2) (nI y) (nI wn))) y) → ∀ (H : Heap) (locs : List Loc), gs_W D classes zb G H → gs_S zb s.heap H locs → ∀ (ls : Array Slot), lv_has ls 9 [(0, .ref o), (1, .int b), (2, .int t), (3, .ref (ba ib)), (4, .ref (ha ih)), (5, .int acc), (6, .int (nI y))] → W p l e (headSpec (wM y_Ss_shadows c_Ss_shadows 9 (some .int)) ({ frames := 8, cells := 3, slots := 18, locals := 134 })).room s m ([.ref o, .int b, .int t] : List Value).toArray below meth c H locs 3 18 (vx_MQ below (gs_Q D zb (fun v G1 => ∃ i : Nat, i < 24 ∧ t = nI i ∧ ¬ jc_hasSun (hf i 2) = 0 ∧ ((b = (-1) ∧ v = some (.int (jc_sum (fun y => jc_bits (jc_row nb bf (hf i 0) (hf i 1) (hf i 2) (nI y) (nI wn) 10)) hn))) ∨ (¬ b = (-1) ∧ ∃ j : Nat, j < nb ∧ b = nI j ∧ v = some (.int (jc_sum (fun y => jc_bits (jc_shade (bf j 6) (bf j 0) (bf j 1) (bf j 2) (bf j 3) (bf j 4) (bf j 5) (hf i 0) (hf i 1) (hf i 2) (nI y) (nI wn))) hn)))) ∧ G1 = G)) (gs_T D zb G (fun E => (E = e_IA ∧ ((¬ b = (-1) ∧ (¬ ∃ i : Nat, i < nb ∧ b = nI i)) ∨ (¬ ∃ i : Nat, i < 24 ∧ t = nI i))) ∨ (E = e_IS ∧ (b = (-1) ∨ ∃ i : Nat, i < nb ∧ b = nI i) ∧ (∃ i : Nat, i < 24 ∧ t = nI i ∧ jc_hasSun (hf i 2) = 0)))) ([.ref o, .int b, .int t] : List Value).toArray s 3 18 (fun q : Nat => zb ≤ q)) (F0 m 28 ls []) := by
      intro fu
      induction fu with
      | zero => intro y acc hle hfu; exact absurd hfu (by omega)
      | succ fu IH =>
        intro y acc hle hfu hacc H locs hG hS ls hl
        refine lv_iload hx hb d_Ss_shadows_28 (lv_at hl 6 rfl) ?_
        refine lv_aload_n hx hb d_Ss_shadows_30 rfl (lv_at hl 0 rfl) ?_
        refine gs_get E hK.1 hG hC.1.1 (C := R_Ss) (T := F_Ss) (N := 9) rfl i_Ss 1 (by decide) w_61 (v := .int (nI hn)) rfl d_Ss_shadows_31 ?_
        refine lv_icmp_ge (tgt := 82) hx hb d_Ss_shadows_34 (by decide) (fun c_2 => ?_) (fun c_2 => ?_)
        · have hend : y = hn := cl_eq (by have := hC.2.1; omega) hle c_2
          refine lv_iload hx hb d_Ss_shadows_82 (lv_at hl 5 rfl) ?_
          refine vx_ret ?_
          refine W.iret (v := acc) hx hb hr (gs_end ?_ hG hS) hS.2.2 d_Ss_shadows_84
          exact ⟨ih, hih, eih, hsun, Or.inr ⟨c_1, ib, hib, eib, by rw [hacc, hend]⟩, rfl⟩
        · have hlt : y < hn := cl_lt (by have := hC.2.1; omega) hle c_2
          refine lv_aload_n hx hb d_Ss_shadows_37 rfl (lv_at hl 3 rfl) ?_
          refine lv_ifnonnull (tgt := 52) hx hb d_Ss_shadows_38 (by decide) ?_
          refine lv_aload_n hx hb d_Ss_shadows_52 rfl (lv_at hl 3 rfl) ?_
          refine lv_iload hx hb d_Ss_shadows_53 (lv_at hl 6 rfl) ?_
          refine lv_aload hx hb d_Ss_shadows_55 (lv_at hl 4 rfl) ?_
          refine lv_aload_n hx hb d_Ss_shadows_57 rfl (lv_at hl 0 rfl) ?_
          refine gs_get E hK.1 hG hC.1.1 (C := R_Ss) (T := F_Ss) (N := 9) rfl i_Ss 0 (by decide) w_60 (v := .int (nI wn)) rfl d_Ss_shadows_58 ?_
          refine gs_V (As := [.int (nI y), .ref (ha ih), .int (nI wn)]) (rest := []) (k_Bx_shadeThrownOnRow l D k zb G (ba ib) (bf ib 0) (bf ib 1) (bf ib 2) (bf ib 3) (bf ib 4) (bf ib 5) (bf ib 6) (ha ih) (hf ih 0) (hf ih 1) (hf ih 2) (hf ih 3) (nI y) (nI wn) (hC.2.2.1 ib hib) (hC.2.2.2.2.1 ih hih)) E hml hl.1 (cg_V (C := R_Bx) hw w_317 w_314 w_5 w_315 sel_Bx_shadeThrownOnRow hd_Bx_shadeThrownOnRow ⟨by exact Nat.le_of_ble_eq_true rfl, by exact Nat.le_of_ble_eq_true rfl⟩) hG hK hX hS (hC.2.2.1 ib hib) rfl rfl rfl rfl (by exact Nat.le_of_ble_eq_true rfl) d_Ss_shadows_61 ⟨by exact Nat.le_of_ble_eq_true rfl, by exact Nat.le_of_ble_eq_true rfl⟩ (fun v G1 H locs hp hG hS => ?_)
          obtain ⟨hv1, hG1⟩ := hp
          subst hv1
          rw [hG1] at hG
          refine W.eq (g2 := F0 m 64 ls [.long (jc_shade (bf ib 6) (bf ib 0) (bf ib 1) (bf ib 2) (bf ib 3) (bf ib 4) (bf ib 5) (hf ih 0) (hf ih 1) (hf ih 2) (nI y) (nI wn))]) rfl ?_
          refine lv_topl (fun v_3 ev_3 => ?_)
          refine lv_lstore (lv' := [(7, .long v_3), (0, .ref o), (1, .int b), (2, .int t), (3, .ref (ba ib)), (4, .ref (ha ih)), (5, .int acc), (6, .int (nI y))]) hx hb d_Ss_shadows_64 hl (by decide) rfl (fun ls hl => ?_)
          refine lv_iload hx hb d_Ss_shadows_66 (lv_at hl 6 rfl) ?_
          refine lv_lload hx hb d_Ss_shadows_68 (lv_at hl 0 rfl) ?_
          refine gs_St (As := [.long v_3]) (rest := [.int acc]) (k_Lo_bitCount l D k zb G v_3) E hml hl.1 (cg_S hw w_357 w_355 w_12 w_356 hd_Lo_bitCount ⟨by exact Nat.le_of_ble_eq_true rfl, by exact Nat.le_of_ble_eq_true rfl⟩) hG hK hX hS rfl rfl (by exact Nat.le_of_ble_eq_true rfl) d_Ss_shadows_70 ⟨by exact Nat.le_of_ble_eq_true rfl, by exact Nat.le_of_ble_eq_true rfl⟩ (fun v G1 H locs hp hG hS => ?_)
          obtain ⟨hv1, hG1⟩ := hp
          subst hv1
          rw [hG1] at hG
          refine W.eq (g2 := F0 m 73 ls [.int (jc_bits v_3), .int acc]) rfl ?_
          refine lv_iadd hx hb d_Ss_shadows_73 ?_
          refine lv_topi (fun v_4 ev_4 => ?_)
          refine lv_istore (lv' := [(5, .int v_4), (7, .long v_3), (0, .ref o), (1, .int b), (2, .int t), (3, .ref (ba ib)), (4, .ref (ha ih)), (6, .int (nI y))]) hx hb d_Ss_shadows_74 hl (by decide) rfl (fun ls hl => ?_)
          refine lv_iinc (v := nI (y + 1)) (lv' := [(6, .int (nI (y + 1))), (5, .int v_4), (7, .long v_3), (0, .ref o), (1, .int b), (2, .int t), (3, .ref (ba ib)), (4, .ref (ha ih))]) hx hb d_Ss_shadows_76 hl (k := 7) rfl (nI_1 _) (by decide) rfl (fun ls hl => ?_)
          refine lv_goto (tgt := 28) hx hb d_Ss_shadows_79 (by decide) ?_
          exact IH (y + 1) v_4 (by omega) (by omega) (by subst ev_4 ev_3; rw [hacc]; rfl) _ _ hG hS ls (lv_sub hl [3, 4, 5, 6, 7, 1, 0] rfl)
    exact lp (hn + 1) 0 0 (by omega) (by omega) rfl _ _ hG hS ls (lv_sub hl [4, 5, 6, 3, 2, 1, 0] rfl)
  · refine lv_null hx hb d_Ss_shadows_5 ?_
    refine lv_goto (tgt := 14) hx hb d_Ss_shadows_6 (by decide) ?_
    refine lv_astore_nN (lv' := [(3, .null), (0, .ref o), (1, .int b), (2, .int t)]) hx hb d_Ss_shadows_14 rfl hl (by decide) rfl (fun ls hl => ?_)
    refine lv_aload_n hx hb d_Ss_shadows_15 rfl (lv_at hl 1 rfl) ?_
    refine lv_iload_n hx hb d_Ss_shadows_16 rfl (lv_at hl 3 rfl) ?_
    refine gs_VX (As := [.int t]) (rest := []) (k_Ss_sunnyHour l hnt D k zb G o aB aW aH aS aT wn hn nb nw ba wa ha bf hf wf sh tk t hC) E hml hl.1 (cg_V (C := R_Ss) hw w_304 w_301 w_1 w_303 sel_Ss_sunnyHour hd_Ss_sunnyHour ⟨by exact Nat.le_of_ble_eq_true rfl, by exact Nat.le_of_ble_eq_true rfl⟩) hG hK hX hS hC.1.1 rfl rfl rfl rfl (by exact Nat.le_of_ble_eq_true rfl) d_Ss_shadows_17 ⟨by exact Nat.le_of_ble_eq_true rfl, by exact Nat.le_of_ble_eq_true rfl⟩ (fun E9 ce q9 H locs hp hG hS hq1 hq2 hq3 => ?_) (fun v G1 H locs hp hG hS => ?_)
    · exact gs_on ht hlocks (hp.elim (fun q => Or.inl ⟨q.1, Or.inr q.2⟩) (fun q => Or.inr ⟨q.1, Or.inl c_1, q.2⟩)) hG hS hq1 hq2 hq3 (by decide) (by decide)
    obtain ⟨ih, hih, eih, hsun, hv1, hG1⟩ := hp
    subst hv1
    rw [hG1] at hG
    refine W.eq (g2 := F0 m 20 ls [.ref (ha ih)]) rfl ?_
    refine lv_astore (lv' := [(4, .ref (ha ih)), (3, .null), (0, .ref o), (1, .int b), (2, .int t)]) hx hb d_Ss_shadows_20 hl (by decide) rfl (fun ls hl => ?_)
    refine lv_iconst (v := 0) hx hb d_Ss_shadows_22 (by decide) ?_
    refine lv_istore (lv' := [(5, .int 0), (4, .ref (ha ih)), (3, .null), (0, .ref o), (1, .int b), (2, .int t)]) hx hb d_Ss_shadows_23 hl (by decide) rfl (fun ls hl => ?_)
    refine lv_iconst (v := 0) hx hb d_Ss_shadows_25 (by decide) ?_
    refine lv_istore (lv' := [(6, .int 0), (5, .int 0), (4, .ref (ha ih)), (3, .null), (0, .ref o), (1, .int b), (2, .int t)]) hx hb d_Ss_shadows_26 hl (by decide) rfl (fun ls hl => ?_)
    have lp : ∀ (fu : Nat) (y : Nat) (acc : Int32), y ≤ hn → hn + 1 ≤ y + fu → (hacc : acc = jc_sum (fun y => jc_bits (jc_row nb bf (hf ih 0) (hf ih 1) (hf ih 2) (nI y) (nI wn) 10)) y) → ∀ (H : Heap) (locs : List Loc), gs_W D classes zb G H → gs_S zb s.heap H locs → ∀ (ls : Array Slot), lv_has ls 9 [(0, .ref o), (1, .int b), (2, .int t), (3, .null), (4, .ref (ha ih)), (5, .int acc), (6, .int (nI y))] → W p l e (headSpec (wM y_Ss_shadows c_Ss_shadows 9 (some .int)) ({ frames := 8, cells := 3, slots := 18, locals := 134 })).room s m ([.ref o, .int b, .int t] : List Value).toArray below meth c H locs 2 12 (vx_MQ below (gs_Q D zb (fun v G1 => ∃ i : Nat, i < 24 ∧ t = nI i ∧ ¬ jc_hasSun (hf i 2) = 0 ∧ ((b = (-1) ∧ v = some (.int (jc_sum (fun y => jc_bits (jc_row nb bf (hf i 0) (hf i 1) (hf i 2) (nI y) (nI wn) 10)) hn))) ∨ (¬ b = (-1) ∧ ∃ j : Nat, j < nb ∧ b = nI j ∧ v = some (.int (jc_sum (fun y => jc_bits (jc_shade (bf j 6) (bf j 0) (bf j 1) (bf j 2) (bf j 3) (bf j 4) (bf j 5) (hf i 0) (hf i 1) (hf i 2) (nI y) (nI wn))) hn)))) ∧ G1 = G)) (gs_T D zb G (fun E => (E = e_IA ∧ ((¬ b = (-1) ∧ (¬ ∃ i : Nat, i < nb ∧ b = nI i)) ∨ (¬ ∃ i : Nat, i < 24 ∧ t = nI i))) ∨ (E = e_IS ∧ (b = (-1) ∨ ∃ i : Nat, i < nb ∧ b = nI i) ∧ (∃ i : Nat, i < 24 ∧ t = nI i ∧ jc_hasSun (hf i 2) = 0)))) ([.ref o, .int b, .int t] : List Value).toArray s 3 18 (fun q : Nat => zb ≤ q)) (F0 m 28 ls []) := by
      intro fu
      induction fu with
      | zero => intro y acc hle hfu; exact absurd hfu (by omega)
      | succ fu IH =>
        intro y acc hle hfu hacc H locs hG hS ls hl
        refine lv_iload hx hb d_Ss_shadows_28 (lv_at hl 6 rfl) ?_
        refine lv_aload_n hx hb d_Ss_shadows_30 rfl (lv_at hl 0 rfl) ?_
        refine gs_get E hK.1 hG hC.1.1 (C := R_Ss) (T := F_Ss) (N := 9) rfl i_Ss 1 (by decide) w_61 (v := .int (nI hn)) rfl d_Ss_shadows_31 ?_
        refine lv_icmp_ge (tgt := 82) hx hb d_Ss_shadows_34 (by decide) (fun c_5 => ?_) (fun c_5 => ?_)
        · have hend : y = hn := cl_eq (by have := hC.2.1; omega) hle c_5
          refine lv_iload hx hb d_Ss_shadows_82 (lv_at hl 5 rfl) ?_
          refine W.widen (k := 3) (n := 18) (by decide) (by decide) ?_
          refine vx_ret ?_
          refine W.iret (v := acc) hx hb hr (gs_end ?_ hG hS) hS.2.2 d_Ss_shadows_84
          exact ⟨ih, hih, eih, hsun, Or.inl ⟨c_1, by rw [hacc, hend]⟩, rfl⟩
        · have hlt : y < hn := cl_lt (by have := hC.2.1; omega) hle c_5
          refine lv_aload_nN hx hb d_Ss_shadows_37 rfl (lv_at hl 3 rfl) ?_
          refine lv_ifnonnullN hx hb d_Ss_shadows_38 ?_
          refine lv_aload_n hx hb d_Ss_shadows_41 rfl (lv_at hl 0 rfl) ?_
          refine lv_iload hx hb d_Ss_shadows_42 (lv_at hl 6 rfl) ?_
          refine lv_aload hx hb d_Ss_shadows_44 (lv_at hl 4 rfl) ?_
          refine gs_V (As := [.int (nI y), .ref (ha ih)]) (rest := []) (k_Ss_shadeOfRow l D k zb G o aB aW aH aS aT wn hn nb nw ba wa ha bf hf wf sh tk (ha ih) (hf ih 0) (hf ih 1) (hf ih 2) (hf ih 3) (nI y) hC (hC.2.2.2.2.1 ih hih)) E hml hl.1 (cg_V (C := R_Ss) hw w_313 w_310 w_1 w_312 sel_Ss_shadeOfRow hd_Ss_shadeOfRow ⟨by exact Nat.le_of_ble_eq_true rfl, by exact Nat.le_of_ble_eq_true rfl⟩) hG hK hX hS hC.1.1 rfl rfl rfl rfl (by exact Nat.le_of_ble_eq_true rfl) d_Ss_shadows_46 ⟨by exact Nat.le_of_ble_eq_true rfl, by exact Nat.le_of_ble_eq_true rfl⟩ (fun v G1 H locs hp hG hS => ?_)
          obtain ⟨hv1, hG1⟩ := hp
          subst hv1
          rw [hG1] at hG
          refine W.eq (g2 := F0 m 49 ls [.long (jc_row nb bf (hf ih 0) (hf ih 1) (hf ih 2) (nI y) (nI wn) 10)]) rfl ?_
          refine lv_goto (tgt := 64) hx hb d_Ss_shadows_49 (by decide) ?_
          refine lv_topl (fun v_6 ev_6 => ?_)
          refine lv_lstore (lv' := [(7, .long v_6), (0, .ref o), (1, .int b), (2, .int t), (3, .null), (4, .ref (ha ih)), (5, .int acc), (6, .int (nI y))]) hx hb d_Ss_shadows_64 hl (by decide) rfl (fun ls hl => ?_)
          refine lv_iload hx hb d_Ss_shadows_66 (lv_at hl 6 rfl) ?_
          refine lv_lload hx hb d_Ss_shadows_68 (lv_at hl 0 rfl) ?_
          refine gs_St (As := [.long v_6]) (rest := [.int acc]) (k_Lo_bitCount l D k zb G v_6) E hml hl.1 (cg_S hw w_357 w_355 w_12 w_356 hd_Lo_bitCount ⟨by exact Nat.le_of_ble_eq_true rfl, by exact Nat.le_of_ble_eq_true rfl⟩) hG hK hX hS rfl rfl (by exact Nat.le_of_ble_eq_true rfl) d_Ss_shadows_70 ⟨by exact Nat.le_of_ble_eq_true rfl, by exact Nat.le_of_ble_eq_true rfl⟩ (fun v G1 H locs hp hG hS => ?_)
          obtain ⟨hv1, hG1⟩ := hp
          subst hv1
          rw [hG1] at hG
          refine W.eq (g2 := F0 m 73 ls [.int (jc_bits v_6), .int acc]) rfl ?_
          refine lv_iadd hx hb d_Ss_shadows_73 ?_
          refine lv_topi (fun v_7 ev_7 => ?_)
          refine lv_istore (lv' := [(5, .int v_7), (7, .long v_6), (0, .ref o), (1, .int b), (2, .int t), (3, .null), (4, .ref (ha ih)), (6, .int (nI y))]) hx hb d_Ss_shadows_74 hl (by decide) rfl (fun ls hl => ?_)
          refine lv_iinc (v := nI (y + 1)) (lv' := [(6, .int (nI (y + 1))), (5, .int v_7), (7, .long v_6), (0, .ref o), (1, .int b), (2, .int t), (3, .null), (4, .ref (ha ih))]) hx hb d_Ss_shadows_76 hl (k := 7) rfl (nI_1 _) (by decide) rfl (fun ls hl => ?_)
          refine lv_goto (tgt := 28) hx hb d_Ss_shadows_79 (by decide) ?_
          exact IH (y + 1) v_7 (by omega) (by omega) (by subst ev_7 ev_6; rw [hacc]; rfl) _ _ hG hS ls (lv_sub hl [3, 4, 5, 6, 7, 1, 0] rfl)
    exact lp (hn + 1) 0 0 (by omega) (by omega) rfl _ _ hG hS ls (lv_sub hl [4, 5, 6, 3, 2, 1, 0] rfl)
set_option maxHeartbeats 4000000 in
set_option maxRecDepth 100000 in
theorem k_Ss_dark (l : Launch) (hnt : l.stackTraces = false) (D : va_G) (k : Nat → ClassId) (zb : Nat) (G : Nat → Option va_E) (o aB aW aH aS aT : Nat) (wn hn nb nw : Nat) (ba wa ha : Nat → Nat) (bf hf : Nat → Nat → Int32) (wf : Nat → Nat → Nat) (sh : Nat → Int64) (tk : Nat → Int32) (q t : Int32) (hC : sC k G o aB aW aH aS aT wn hn nb nw ba wa ha bf hf wf sh tk) : vx_Met l y_Ss_dark (wM y_Ss_dark c_Ss_dark 4 (some .int)) ({ frames := 8, cells := 3, slots := 18, locals := 134 }) (gs_P D k zb G [.ref o, .int q, .int t]) (gs_Q D zb (fun v G1 => ∃ i j : Nat, i < 24 ∧ t = nI i ∧ ¬ jc_hasSun (hf i 2) = 0 ∧ j < nw ∧ q = nI j ∧ v = some (.int (jc_dark nb bf (hf i 0) (hf i 1) (hf i 2) (nI wn) ld_no (wf j 0) (wf j 1) (wf j 2) (wf j 3))) ∧ G1 = G)) (gs_T D zb G (fun E => (E = e_IA ∧ ((¬ ∃ i : Nat, i < nw ∧ q = nI i) ∨ (¬ ∃ i : Nat, i < 24 ∧ t = nI i))) ∨ (E = e_IS ∧ (∃ i : Nat, i < nw ∧ q = nI i) ∧ (∃ i : Nat, i < 24 ∧ t = nI i ∧ jc_hasSun (hf i 2) = 0)))) 3 18 (fun q : Nat => zb ≤ q) := by
  refine vx_ofW (cc := c_Ss_dark) (maxL := 4) (ret := (some .int)) (by decide) rfl ?_
  intro p e s m args below meth c s₁ B hml ht hv
  obtain ⟨rfl, hG, hK, hX⟩ := hv
  have hx := B.exec
  have hb := B.bytes
  have hr := B.returns
  have hts := atoms_spec (ws := wM y_Ss_dark c_Ss_dark 4 (some .int)) B.pre
  have hw : ∀ w9 ∈ wW, w9.before ([.ref o, .int q, .int t] : List Value).toArray s = true := fun w9 h9 => hts w9 (gi_in w9 h9)
  have hown : s.vm.findClass R_Ss = some m.cls := findClass_of_methodNamed B.named
  have hlocks := B.notSynchronized
  have E : gs_E p s m ([.ref o, .int q, .int t] : List Value).toArray c c_Ss_dark wW R_Ss := ⟨hx, hb, hw, hown⟩
  have hS : gs_S zb s.heap s.heap [] := va_S.rf
  have hl := lv_entry ([.ref o, .int q, .int t]) (n := 4) (Nat.le_of_ble_eq_true rfl)
  rw [lg_entry_eq]
  generalize (lg_sl ([.ref o, .int q, .int t]) ++ List.replicate (4 - (lg_sl ([.ref o, .int q, .int t])).length) Slot.unset).toArray = ls at hl ⊢
  have hl : lv_has ls 4 [(0, .ref o), (1, .int q), (2, .int t)] := hl
  refine lv_aload_n hx hb d_Ss_dark_0 rfl (lv_at hl 0 rfl) ?_
  refine lv_iload_n hx hb d_Ss_dark_1 rfl (lv_at hl 1 rfl) ?_
  refine gs_VX (As := [.int q]) (rest := []) (k_Ss_knownWindow l hnt D k zb G o aB aW aH aS aT wn hn nb nw ba wa ha bf hf wf sh tk q hC) E hml hl.1 (cg_V (C := R_Ss) hw w_371 w_368 w_1 w_370 sel_Ss_knownWindow hd_Ss_knownWindow ⟨by exact Nat.le_of_ble_eq_true rfl, by exact Nat.le_of_ble_eq_true rfl⟩) hG hK hX hS hC.1.1 rfl rfl rfl rfl (by exact Nat.le_of_ble_eq_true rfl) d_Ss_dark_2 ⟨by exact Nat.le_of_ble_eq_true rfl, by exact Nat.le_of_ble_eq_true rfl⟩ (fun E9 ce q9 H locs hp hG hS hq1 hq2 hq3 => ?_) (fun v G1 H locs hp hG hS => ?_)
  · exact gs_on ht hlocks (Or.inl ⟨hp.1, Or.inl hp.2⟩) hG hS hq1 hq2 hq3 (by decide) (by decide)
  obtain ⟨iw, hiw, eiw, hv1, hG1⟩ := hp
  subst hv1
  rw [hG1] at hG
  refine W.eq (g2 := F0 m 5 ls [.ref (wa iw)]) rfl ?_
  refine lv_astore_n (lv' := [(3, .ref (wa iw)), (0, .ref o), (1, .int q), (2, .int t)]) hx hb d_Ss_dark_5 rfl hl (by decide) rfl (fun ls hl => ?_)
  refine lv_aload_n hx hb d_Ss_dark_6 rfl (lv_at hl 1 rfl) ?_
  refine lv_aload_n hx hb d_Ss_dark_7 rfl (lv_at hl 0 rfl) ?_
  refine lv_aload_n hx hb d_Ss_dark_8 rfl (lv_at hl 1 rfl) ?_
  refine lv_iload_n hx hb d_Ss_dark_9 rfl (lv_at hl 3 rfl) ?_
  refine gs_VX (As := [.int t]) (rest := [.ref (wa iw), .ref o]) (k_Ss_sunnyHour l hnt D k zb G o aB aW aH aS aT wn hn nb nw ba wa ha bf hf wf sh tk t hC) E hml hl.1 (cg_V (C := R_Ss) hw w_304 w_301 w_1 w_303 sel_Ss_sunnyHour hd_Ss_sunnyHour ⟨by exact Nat.le_of_ble_eq_true rfl, by exact Nat.le_of_ble_eq_true rfl⟩) hG hK hX hS hC.1.1 rfl rfl rfl rfl (by exact Nat.le_of_ble_eq_true rfl) d_Ss_dark_10 ⟨by exact Nat.le_of_ble_eq_true rfl, by exact Nat.le_of_ble_eq_true rfl⟩ (fun E9 ce q9 H locs hp hG hS hq1 hq2 hq3 => ?_) (fun v G1 H locs hp hG hS => ?_)
  · exact gs_on ht hlocks (hp.elim (fun q => Or.inl ⟨q.1, Or.inr q.2⟩) (fun q => Or.inr ⟨q.1, ⟨iw, hiw, eiw⟩, q.2⟩)) hG hS hq1 hq2 hq3 (by decide) (by decide)
  obtain ⟨ih, hih, eih, hsun, hv1, hG1⟩ := hp
  subst hv1
  rw [hG1] at hG
  refine W.eq (g2 := F0 m 13 ls [.ref (ha ih), .ref (wa iw), .ref o]) rfl ?_
  refine lv_null hx hb d_Ss_dark_13 ?_
  refine gs_V (As := [.ref (wa iw), .ref (ha ih), .null]) (rest := []) (k_dark0 l D k zb G o aB aW aH aS aT wn hn nb nw ba wa ha bf hf wf sh tk (wa iw) (wf iw 0) (wf iw 1) (wf iw 2) (wf iw 3) (ha ih) (hf ih 0) (hf ih 1) (hf ih 2) (hf ih 3) hC (hC.2.2.2.1 iw hiw) (Nat.le_of_lt (hC.2.2.2.2.2.2.2 iw hiw).2.2.1) (Nat.le_trans (hC.2.2.2.2.2.2.2 iw hiw).2.2.2 hC.2.1.2.2.2.2.2) (hC.2.2.2.2.1 ih hih)) E hml hl.1 (cg_V (C := R_Ss) hw w_376 w_373 w_1 w_375 sel_Ss_darkCells hd_Ss_darkCells ⟨by exact Nat.le_of_ble_eq_true rfl, by exact Nat.le_of_ble_eq_true rfl⟩) hG hK hX hS hC.1.1 rfl rfl rfl rfl (by exact Nat.le_of_ble_eq_true rfl) d_Ss_dark_14 ⟨by exact Nat.le_of_ble_eq_true rfl, by exact Nat.le_of_ble_eq_true rfl⟩ (fun v G1 H locs hp hG hS => ?_)
  obtain ⟨hv1, hG1⟩ := hp
  subst hv1
  rw [hG1] at hG
  refine W.eq (g2 := F0 m 17 ls [.int (jc_dark nb bf (hf ih 0) (hf ih 1) (hf ih 2) (nI wn) ld_no (wf iw 0) (wf iw 1) (wf iw 2) (wf iw 3))]) rfl ?_
  refine vx_ret ?_
  refine W.iret (v := (jc_dark nb bf (hf ih 0) (hf ih 1) (hf ih 2) (nI wn) ld_no (wf iw 0) (wf iw 1) (wf iw 2) (wf iw 3))) hx hb hr (gs_end ?_ hG hS) hS.2.2 d_Ss_dark_17
  exact ⟨ih, iw, hih, eih, hsun, hiw, eiw, rfl, rfl⟩
set_option maxHeartbeats 4000000 in
set_option maxRecDepth 100000 in
theorem k_Ss_cell (l : Launch) (hnt : l.stackTraces = false) (D : va_G) (k : Nat → ClassId) (zb : Nat) (G : Nat → Option va_E) (o aB aW aH aS aT : Nat) (wn hn nb nw : Nat) (ba wa ha : Nat → Nat) (bf hf : Nat → Nat → Int32) (wf : Nat → Nat → Nat) (sh : Nat → Int64) (tk : Nat → Int32) (b t : Int32) (hC : sC k G o aB aW aH aS aT wn hn nb nw ba wa ha bf hf wf sh tk) : vx_Met l y_Ss_cell (wM y_Ss_cell c_Ss_cell 9 (some .int)) ({ frames := 8, cells := 2, slots := 12, locals := 134 }) (gs_P D k zb G [.ref o, .int b, .int t]) (gs_Q D zb (fun v G1 => ∃ i : Nat, i < 24 ∧ t = nI i ∧ ¬ jc_hasSun (hf i 2) = 0 ∧ ¬ b < 0 ∧ v = some (.int (jc_cell (fun y => jc_row nb bf (hf i 0) (hf i 1) (hf i 2) (nI y) (nI wn) 10) hn 0 b)) ∧ G1 = G)) (gs_T D zb G (fun E => (E = e_IA ∧ (b < 0 ∨ (¬ ∃ i : Nat, i < 24 ∧ t = nI i))) ∨ (E = e_IS ∧ ¬ b < 0 ∧ (∃ i : Nat, i < 24 ∧ t = nI i ∧ jc_hasSun (hf i 2) = 0)))) 2 12 (fun q : Nat => zb ≤ q) := by
  refine vx_ofW (cc := c_Ss_cell) (maxL := 9) (ret := (some .int)) (by decide) rfl ?_
  intro p e s m args below meth c s₁ B hml ht hv
  obtain ⟨rfl, hG, hK, hX⟩ := hv
  have hx := B.exec
  have hb := B.bytes
  have hr := B.returns
  have hts := atoms_spec (ws := wM y_Ss_cell c_Ss_cell 9 (some .int)) B.pre
  have hw : ∀ w9 ∈ wW, w9.before ([.ref o, .int b, .int t] : List Value).toArray s = true := fun w9 h9 => hts w9 (gi_in w9 h9)
  have hown : s.vm.findClass R_Ss = some m.cls := findClass_of_methodNamed B.named
  have hlocks := B.notSynchronized
  have E : gs_E p s m ([.ref o, .int b, .int t] : List Value).toArray c c_Ss_cell wW R_Ss := ⟨hx, hb, hw, hown⟩
  have hS : gs_S zb s.heap s.heap [] := va_S.rf
  have hl := lv_entry ([.ref o, .int b, .int t]) (n := 9) (Nat.le_of_ble_eq_true rfl)
  rw [lg_entry_eq]
  generalize (lg_sl ([.ref o, .int b, .int t]) ++ List.replicate (9 - (lg_sl ([.ref o, .int b, .int t])).length) Slot.unset).toArray = ls at hl ⊢
  have hl : lv_has ls 9 [(0, .ref o), (1, .int b), (2, .int t)] := hl
  refine lv_iload_n hx hb d_Ss_cell_0 rfl (lv_at hl 1 rfl) ?_
  refine lv_if_ge (tgt := 14) hx hb d_Ss_cell_1 (by decide) (fun c_1 => ?_) (fun c_1 => ?_)
  · have hnb : ¬ b < 0 := by rw [i_lt]; rw [i_le] at c_1; omega
    refine lv_aload_n hx hb d_Ss_cell_14 rfl (lv_at hl 0 rfl) ?_
    refine lv_iload_n hx hb d_Ss_cell_15 rfl (lv_at hl 2 rfl) ?_
    refine gs_VX (As := [.int t]) (rest := []) (k_Ss_sunnyHour l hnt D k zb G o aB aW aH aS aT wn hn nb nw ba wa ha bf hf wf sh tk t hC) E hml hl.1 (cg_V (C := R_Ss) hw w_304 w_301 w_1 w_303 sel_Ss_sunnyHour hd_Ss_sunnyHour ⟨by exact Nat.le_of_ble_eq_true rfl, by exact Nat.le_of_ble_eq_true rfl⟩) hG hK hX hS hC.1.1 rfl rfl rfl rfl (by exact Nat.le_of_ble_eq_true rfl) d_Ss_cell_16 ⟨by exact Nat.le_of_ble_eq_true rfl, by exact Nat.le_of_ble_eq_true rfl⟩ (fun E9 ce q9 H locs hp hG hS hq1 hq2 hq3 => ?_) (fun v G1 H locs hp hG hS => ?_)
    · exact gs_on ht hlocks (hp.elim (fun q => Or.inl ⟨q.1, Or.inr q.2⟩) (fun q => Or.inr ⟨q.1, hnb, q.2⟩)) hG hS hq1 hq2 hq3 (by decide) (by decide)
    obtain ⟨ih, hih, eih, hsun, hv1, hG1⟩ := hp
    subst hv1
    rw [hG1] at hG
    refine W.eq (g2 := F0 m 19 ls [.ref (ha ih)]) rfl ?_
    refine lv_astore_n (lv' := [(3, .ref (ha ih)), (0, .ref o), (1, .int b), (2, .int t)]) hx hb d_Ss_cell_19 rfl hl (by decide) rfl (fun ls hl => ?_)
    refine lv_iload_n hx hb d_Ss_cell_20 rfl (lv_at hl 2 rfl) ?_
    refine lv_istore (lv' := [(4, .int b), (3, .ref (ha ih)), (0, .ref o), (1, .int b), (2, .int t)]) hx hb d_Ss_cell_21 hl (by decide) rfl (fun ls hl => ?_)
    refine lv_iconst (v := 0) hx hb d_Ss_cell_23 (by decide) ?_
    refine lv_istore (lv' := [(5, .int 0), (4, .int b), (3, .ref (ha ih)), (0, .ref o), (1, .int b), (2, .int t)]) hx hb d_Ss_cell_24 hl (by decide) rfl (fun ls hl => ?_)
    have lp : ∀ (fu : Nat) (y : Nat) (n : Nat) (b9 : Int32), y ≤ hn → hn + 1 ≤ y + fu → (hn0 : y + n = hn) → (hinv : jc_cell (fun y => jc_row nb bf (hf ih 0) (hf ih 1) (hf ih 2) (nI y) (nI wn) 10) hn 0 b = jc_cell (fun y => jc_row nb bf (hf ih 0) (hf ih 1) (hf ih 2) (nI y) (nI wn) 10) n y b9) → ∀ (H : Heap) (locs : List Loc), gs_W D classes zb G H → gs_S zb s.heap H locs → ∀ (ls : Array Slot), lv_has ls 9 [(0, .ref o), (1, .int b), (2, .int t), (3, .ref (ha ih)), (4, .int b9), (5, .int (nI y))] → W p l e (headSpec (wM y_Ss_cell c_Ss_cell 9 (some .int)) ({ frames := 8, cells := 2, slots := 12, locals := 134 })).room s m ([.ref o, .int b, .int t] : List Value).toArray below meth c H locs 2 12 (vx_MQ below (gs_Q D zb (fun v G1 => ∃ i : Nat, i < 24 ∧ t = nI i ∧ ¬ jc_hasSun (hf i 2) = 0 ∧ ¬ b < 0 ∧ v = some (.int (jc_cell (fun y => jc_row nb bf (hf i 0) (hf i 1) (hf i 2) (nI y) (nI wn) 10) hn 0 b)) ∧ G1 = G)) (gs_T D zb G (fun E => (E = e_IA ∧ (b < 0 ∨ (¬ ∃ i : Nat, i < 24 ∧ t = nI i))) ∨ (E = e_IS ∧ ¬ b < 0 ∧ (∃ i : Nat, i < 24 ∧ t = nI i ∧ jc_hasSun (hf i 2) = 0)))) ([.ref o, .int b, .int t] : List Value).toArray s 2 12 (fun q : Nat => zb ≤ q)) (F0 m 26 ls []) := by
      intro fu
      induction fu with
      | zero => intro y n b9 hle hfu; exact absurd hfu (by omega)
      | succ fu IH =>
        intro y n b9 hle hfu hn0 hinv H locs hG hS ls hl
        refine lv_iload hx hb d_Ss_cell_26 (lv_at hl 5 rfl) ?_
        refine lv_aload_n hx hb d_Ss_cell_28 rfl (lv_at hl 0 rfl) ?_
        refine gs_get E hK.1 hG hC.1.1 (C := R_Ss) (T := F_Ss) (N := 9) rfl i_Ss 1 (by decide) w_61 (v := .int (nI hn)) rfl d_Ss_cell_29 ?_
        refine lv_icmp_ge (tgt := 85) hx hb d_Ss_cell_32 (by decide) (fun c_2 => ?_) (fun c_2 => ?_)
        · have hend : y = hn := cl_eq (by have := hC.2.1; omega) hle c_2
          refine lv_iconst (v := (-1)) hx hb d_Ss_cell_85 (by decide) ?_
          refine vx_ret ?_
          refine W.iret (v := (-1)) hx hb hr (gs_end ?_ hG hS) hS.2.2 d_Ss_cell_86
          have h0 : n = 0 := by omega
          exact ⟨ih, hih, eih, hsun, hnb, by rw [hinv, h0]; rfl, rfl⟩
        · have hlt : y < hn := cl_lt (by have := hC.2.1; omega) hle c_2
          obtain ⟨n9, hn9⟩ : ∃ z, n = z + 1 := ⟨n - 1, by omega⟩
          subst hn9
          refine lv_aload_n hx hb d_Ss_cell_35 rfl (lv_at hl 0 rfl) ?_
          refine lv_iload hx hb d_Ss_cell_36 (lv_at hl 5 rfl) ?_
          refine lv_aload_n hx hb d_Ss_cell_38 rfl (lv_at hl 3 rfl) ?_
          refine gs_V (As := [.int (nI y), .ref (ha ih)]) (rest := []) (k_Ss_shadeOfRow l D k zb G o aB aW aH aS aT wn hn nb nw ba wa ha bf hf wf sh tk (ha ih) (hf ih 0) (hf ih 1) (hf ih 2) (hf ih 3) (nI y) hC (hC.2.2.2.2.1 ih hih)) E hml hl.1 (cg_V (C := R_Ss) hw w_313 w_310 w_1 w_312 sel_Ss_shadeOfRow hd_Ss_shadeOfRow ⟨by exact Nat.le_of_ble_eq_true rfl, by exact Nat.le_of_ble_eq_true rfl⟩) hG hK hX hS hC.1.1 rfl rfl rfl rfl (by exact Nat.le_of_ble_eq_true rfl) d_Ss_cell_39 ⟨by exact Nat.le_of_ble_eq_true rfl, by exact Nat.le_of_ble_eq_true rfl⟩ (fun v G1 H locs hp hG hS => ?_)
          obtain ⟨hv1, hG1⟩ := hp
          subst hv1
          rw [hG1] at hG
          refine W.eq (g2 := F0 m 42 ls [.long (jc_row nb bf (hf ih 0) (hf ih 1) (hf ih 2) (nI y) (nI wn) 10)]) rfl ?_
          refine lv_topl (fun v_3 ev_3 => ?_)
          refine lv_lstore (lv' := [(6, .long v_3), (0, .ref o), (1, .int b), (2, .int t), (3, .ref (ha ih)), (4, .int b9), (5, .int (nI y))]) hx hb d_Ss_cell_42 hl (by decide) rfl (fun ls hl => ?_)
          refine lv_lload hx hb d_Ss_cell_44 (lv_at hl 0 rfl) ?_
          refine gs_St (As := [.long v_3]) (rest := []) (k_Lo_bitCount l D k zb G v_3) E hml hl.1 (cg_S hw w_357 w_355 w_12 w_356 hd_Lo_bitCount ⟨by exact Nat.le_of_ble_eq_true rfl, by exact Nat.le_of_ble_eq_true rfl⟩) hG hK hX hS rfl rfl (by exact Nat.le_of_ble_eq_true rfl) d_Ss_cell_46 ⟨by exact Nat.le_of_ble_eq_true rfl, by exact Nat.le_of_ble_eq_true rfl⟩ (fun v G1 H locs hp hG hS => ?_)
          obtain ⟨hv1, hG1⟩ := hp
          subst hv1
          rw [hG1] at hG
          refine W.eq (g2 := F0 m 49 ls [.int (jc_bits v_3)]) rfl ?_
          refine lv_topi (fun v_4 ev_4 => ?_)
          refine lv_istore (lv' := [(8, .int v_4), (6, .long v_3), (0, .ref o), (1, .int b), (2, .int t), (3, .ref (ha ih)), (4, .int b9), (5, .int (nI y))]) hx hb d_Ss_cell_49 hl (by decide) rfl (fun ls hl => ?_)
          refine lv_iload hx hb d_Ss_cell_51 (lv_at hl 6 rfl) ?_
          refine lv_iload hx hb d_Ss_cell_53 (lv_at hl 0 rfl) ?_
          refine lv_icmp_ge (tgt := 72) hx hb d_Ss_cell_55 (by decide) (fun c_5 => ?_) (fun c_5 => ?_)
          · refine lv_iload hx hb d_Ss_cell_72 (lv_at hl 6 rfl) ?_
            refine lv_iload hx hb d_Ss_cell_74 (lv_at hl 0 rfl) ?_
            refine lv_isub hx hb d_Ss_cell_76 ?_
            refine lv_topi (fun v_6 ev_6 => ?_)
            refine lv_istore (lv' := [(4, .int v_6), (8, .int v_4), (6, .long v_3), (0, .ref o), (1, .int b), (2, .int t), (3, .ref (ha ih)), (5, .int (nI y))]) hx hb d_Ss_cell_77 hl (by decide) rfl (fun ls hl => ?_)
            refine lv_iinc (v := nI (y + 1)) (lv' := [(5, .int (nI (y + 1))), (4, .int v_6), (8, .int v_4), (6, .long v_3), (0, .ref o), (1, .int b), (2, .int t), (3, .ref (ha ih))]) hx hb d_Ss_cell_79 hl (k := 7) rfl (nI_1 _) (by decide) rfl (fun ls hl => ?_)
            refine lv_goto (tgt := 26) hx hb d_Ss_cell_82 (by decide) ?_
            exact IH (y + 1) n9 v_6 (by omega) (by omega) (by omega) (by subst ev_6 ev_4 ev_3; rw [hinv, jc_cell_s, if_pos c_5]) _ _ hG hS ls (lv_sub hl [4, 5, 6, 7, 1, 0] rfl)
          · refine lv_bipush (v := 100) hx hb d_Ss_cell_58 (by decide) ?_
            refine lv_iload hx hb d_Ss_cell_60 (lv_at hl 7 rfl) ?_
            refine lv_imul hx hb d_Ss_cell_62 ?_
            refine lv_lload hx hb d_Ss_cell_63 (lv_at hl 1 rfl) ?_
            refine lv_iload hx hb d_Ss_cell_65 (lv_at hl 6 rfl) ?_
            refine gs_St (As := [.long v_3, .int b9]) (rest := [.int (100 * (nI y))]) (k_Ss_cellWithBefore l D k zb G v_3 b9) E hml hl.1 (cg_S hw w_392 w_390 w_1 w_391 hd_Ss_cellWithBefore ⟨by exact Nat.le_of_ble_eq_true rfl, by exact Nat.le_of_ble_eq_true rfl⟩) hG hK hX hS rfl rfl (by exact Nat.le_of_ble_eq_true rfl) d_Ss_cell_67 ⟨by exact Nat.le_of_ble_eq_true rfl, by exact Nat.le_of_ble_eq_true rfl⟩ (fun v G1 H locs hp hG hS => ?_)
            obtain ⟨hv1, hG1⟩ := hp
            subst hv1
            rw [hG1] at hG
            refine W.eq (g2 := F0 m 70 ls [.int (jc_with v_3 60 0 b9), .int (100 * (nI y))]) rfl ?_
            refine lv_iadd hx hb d_Ss_cell_70 ?_
            refine vx_ret ?_
            refine W.iret (v := ((100 * (nI y)) + (jc_with v_3 60 0 b9))) hx hb hr (gs_end ?_ hG hS) hS.2.2 d_Ss_cell_71
            exact ⟨ih, hih, eih, hsun, hnb, by subst ev_4 ev_3; rw [hinv, jc_cell_s, if_neg c_5], rfl⟩
    exact lp (hn + 1) 0 hn b (by omega) (by omega) (by omega) rfl _ _ hG hS ls (lv_sub hl [3, 4, 5, 2, 1, 0] rfl)
  · have hnb : b < 0 := by rw [i_le] at c_1; rw [i_lt]; omega
    exact gs_throwIA (text := "a place is not below 0") hnt E hG hK hX hS ht (hl.1.trans hml.symm) w_103 w_9 (by decide) (Or.inl ⟨rfl, Or.inl hnb⟩) d_Ss_cell_4 d_Ss_cell_7 d_Ss_cell_8 d_Ss_cell_10 d_Ss_cell_13 (by exact Nat.le_of_ble_eq_true rfl) (by exact Nat.le_of_ble_eq_true rfl) (by exact Nat.le_of_ble_eq_true rfl) (by exact Nat.le_of_ble_eq_true rfl) hlocks (by decide) (by decide)
set_option maxHeartbeats 4000000 in
set_option maxRecDepth 100000 in
theorem k_Ss_lit (l : Launch) (hnt : l.stackTraces = false) (D : va_G) (k : Nat → ClassId) (zb : Nat) (G : Nat → Option va_E) (o aB aW aH aS aT : Nat) (wn hn nb nw : Nat) (ba wa ha : Nat → Nat) (bf hf : Nat → Nat → Int32) (wf : Nat → Nat → Nat) (sh : Nat → Int64) (tk : Nat → Int32) (q t : Int32) (hC : sC k G o aB aW aH aS aT wn hn nb nw ba wa ha bf hf wf sh tk) : vx_Met l y_Ss_lit (wM y_Ss_lit c_Ss_lit 9 (some .int)) ({ frames := 7, cells := 2, slots := 12, locals := 156 }) (gs_P D k zb G [.ref o, .int q, .int t]) (gs_Q D zb (fun v G1 => ∃ j : Nat, j < nw ∧ q = nI j ∧ ((t = (-1) ∧ v = some (.int (jc_sum (fun i => jc_lightOf nb bf (hf i 0) (hf i 1) (hf i 2) (hf i 3) (nI wn) (wf j 0) (wf j 1) (wf j 2) (wf j 3)) 24))) ∨ (¬ t = (-1) ∧ ∃ i : Nat, i < 24 ∧ t = nI i ∧ v = some (.int (jc_lightOf nb bf (hf i 0) (hf i 1) (hf i 2) (hf i 3) (nI wn) (wf j 0) (wf j 1) (wf j 2) (wf j 3))))) ∧ G1 = G)) (gs_T D zb G (fun E => E = e_IA ∧ ((¬ ∃ i : Nat, i < nw ∧ q = nI i) ∨ (¬ t = (-1) ∧ (¬ ∃ i : Nat, i < 24 ∧ t = nI i))))) 2 12 (fun q : Nat => zb ≤ q) := by
  refine vx_ofW (cc := c_Ss_lit) (maxL := 9) (ret := (some .int)) (by decide) rfl ?_
  intro p e s m args below meth c s₁ B hml ht hv
  obtain ⟨rfl, hG, hK, hX⟩ := hv
  have hx := B.exec
  have hb := B.bytes
  have hr := B.returns
  have hts := atoms_spec (ws := wM y_Ss_lit c_Ss_lit 9 (some .int)) B.pre
  have hw : ∀ w9 ∈ wW, w9.before ([.ref o, .int q, .int t] : List Value).toArray s = true := fun w9 h9 => hts w9 (gi_in w9 h9)
  have hown : s.vm.findClass R_Ss = some m.cls := findClass_of_methodNamed B.named
  have hlocks := B.notSynchronized
  have E : gs_E p s m ([.ref o, .int q, .int t] : List Value).toArray c c_Ss_lit wW R_Ss := ⟨hx, hb, hw, hown⟩
  have hS : gs_S zb s.heap s.heap [] := va_S.rf
  have hl := lv_entry ([.ref o, .int q, .int t]) (n := 9) (Nat.le_of_ble_eq_true rfl)
  rw [lg_entry_eq]
  generalize (lg_sl ([.ref o, .int q, .int t]) ++ List.replicate (9 - (lg_sl ([.ref o, .int q, .int t])).length) Slot.unset).toArray = ls at hl ⊢
  have hl : lv_has ls 9 [(0, .ref o), (1, .int q), (2, .int t)] := hl
  refine lv_aload_n hx hb d_Ss_lit_0 rfl (lv_at hl 0 rfl) ?_
  refine lv_iload_n hx hb d_Ss_lit_1 rfl (lv_at hl 1 rfl) ?_
  refine gs_VX (As := [.int q]) (rest := []) (k_Ss_knownWindow l hnt D k zb G o aB aW aH aS aT wn hn nb nw ba wa ha bf hf wf sh tk q hC) E hml hl.1 (cg_V (C := R_Ss) hw w_371 w_368 w_1 w_370 sel_Ss_knownWindow hd_Ss_knownWindow ⟨by exact Nat.le_of_ble_eq_true rfl, by exact Nat.le_of_ble_eq_true rfl⟩) hG hK hX hS hC.1.1 rfl rfl rfl rfl (by exact Nat.le_of_ble_eq_true rfl) d_Ss_lit_2 ⟨by exact Nat.le_of_ble_eq_true rfl, by exact Nat.le_of_ble_eq_true rfl⟩ (fun E9 ce q9 H locs hp hG hS hq1 hq2 hq3 => ?_) (fun v G1 H locs hp hG hS => ?_)
  · exact gs_on ht hlocks (⟨hp.1, Or.inl hp.2⟩) hG hS hq1 hq2 hq3 (by decide) (by decide)
  obtain ⟨iw, hiw, eiw, hv1, hG1⟩ := hp
  subst hv1
  rw [hG1] at hG
  refine W.eq (g2 := F0 m 5 ls [.ref (wa iw)]) rfl ?_
  refine lv_astore_n (lv' := [(3, .ref (wa iw)), (0, .ref o), (1, .int q), (2, .int t)]) hx hb d_Ss_lit_5 rfl hl (by decide) rfl (fun ls hl => ?_)
  refine lv_iload_n hx hb d_Ss_lit_6 rfl (lv_at hl 3 rfl) ?_
  refine lv_iconst (v := (-1)) hx hb d_Ss_lit_7 (by decide) ?_
  refine lv_icmp_eq (tgt := 22) hx hb d_Ss_lit_8 (by decide) (fun c_1 => ?_) (fun c_1 => ?_)
  · refine lv_iconst (v := 0) hx hb d_Ss_lit_22 (by decide) ?_
    refine lv_istore (lv' := [(4, .int 0), (3, .ref (wa iw)), (0, .ref o), (1, .int q), (2, .int t)]) hx hb d_Ss_lit_23 hl (by decide) rfl (fun ls hl => ?_)
    refine lv_aload_n hx hb d_Ss_lit_25 rfl (lv_at hl 2 rfl) ?_
    refine gs_get E hK.1 hG hC.1.1 (C := R_Ss) (T := F_Ss) (N := 9) rfl i_Ss 4 (by decide) w_64 (v := .ref aH) rfl d_Ss_lit_26 ?_
    refine lv_astore (lv' := [(5, .ref aH), (4, .int 0), (3, .ref (wa iw)), (0, .ref o), (1, .int q), (2, .int t)]) hx hb d_Ss_lit_29 hl (by decide) rfl (fun ls hl => ?_)
    refine lv_aload hx hb d_Ss_lit_31 (lv_at hl 0 rfl) ?_
    refine gs_alen E hK.1 hG hC.1.2.2.2.1 5 rfl (v := 24) rfl d_Ss_lit_33 ?_
    refine lv_istore (lv' := [(6, .int 24), (5, .ref aH), (4, .int 0), (3, .ref (wa iw)), (0, .ref o), (1, .int q), (2, .int t)]) hx hb d_Ss_lit_34 hl (by decide) rfl (fun ls hl => ?_)
    refine lv_iconst (v := 0) hx hb d_Ss_lit_36 (by decide) ?_
    refine lv_istore (lv' := [(7, .int 0), (6, .int 24), (5, .ref aH), (4, .int 0), (3, .ref (wa iw)), (0, .ref o), (1, .int q), (2, .int t)]) hx hb d_Ss_lit_37 hl (by decide) rfl (fun ls hl => ?_)
    have lp : ∀ (fu : Nat) (i : Nat) (acc : Int32), i ≤ 24 → 24 + 1 ≤ i + fu → (hacc : acc = jc_sum (fun i => jc_lightOf nb bf (hf i 0) (hf i 1) (hf i 2) (hf i 3) (nI wn) (wf iw 0) (wf iw 1) (wf iw 2) (wf iw 3)) i) → ∀ (H : Heap) (locs : List Loc), gs_W D classes zb G H → gs_S zb s.heap H locs → ∀ (ls : Array Slot), lv_has ls 9 [(0, .ref o), (1, .int q), (2, .int t), (3, .ref (wa iw)), (4, .int acc), (5, .ref aH), (6, .int 24), (7, .int (nI i))] → W p l e (headSpec (wM y_Ss_lit c_Ss_lit 9 (some .int)) ({ frames := 7, cells := 2, slots := 12, locals := 156 })).room s m ([.ref o, .int q, .int t] : List Value).toArray below meth c H locs 1 6 (vx_MQ below (gs_Q D zb (fun v G1 => ∃ j : Nat, j < nw ∧ q = nI j ∧ ((t = (-1) ∧ v = some (.int (jc_sum (fun i => jc_lightOf nb bf (hf i 0) (hf i 1) (hf i 2) (hf i 3) (nI wn) (wf j 0) (wf j 1) (wf j 2) (wf j 3)) 24))) ∨ (¬ t = (-1) ∧ ∃ i : Nat, i < 24 ∧ t = nI i ∧ v = some (.int (jc_lightOf nb bf (hf i 0) (hf i 1) (hf i 2) (hf i 3) (nI wn) (wf j 0) (wf j 1) (wf j 2) (wf j 3))))) ∧ G1 = G)) (gs_T D zb G (fun E => E = e_IA ∧ ((¬ ∃ i : Nat, i < nw ∧ q = nI i) ∨ (¬ t = (-1) ∧ (¬ ∃ i : Nat, i < 24 ∧ t = nI i))))) ([.ref o, .int q, .int t] : List Value).toArray s 2 12 (fun q : Nat => zb ≤ q)) (F0 m 39 ls []) := by
      intro fu
      induction fu with
      | zero => intro i acc hle hfu; exact absurd hfu (by omega)
      | succ fu IH =>
        intro i acc hle hfu hacc H locs hG hS ls hl
        refine lv_iload hx hb d_Ss_lit_39 (lv_at hl 7 rfl) ?_
        refine lv_iload hx hb d_Ss_lit_41 (lv_at hl 6 rfl) ?_
        refine lv_icmp_ge (tgt := 71) hx hb d_Ss_lit_43 (by decide) (fun c_2 => ?_) (fun c_2 => ?_)
        · have hend : i = 24 := cl_eq (N := 24) (by decide) hle c_2
          refine lv_iload hx hb d_Ss_lit_71 (lv_at hl 4 rfl) ?_
          refine W.widen (k := 2) (n := 12) (by decide) (by decide) ?_
          refine vx_ret ?_
          refine W.iret (v := acc) hx hb hr (gs_end ?_ hG hS) hS.2.2 d_Ss_lit_73
          exact ⟨iw, hiw, eiw, Or.inl ⟨c_1, by rw [hacc, hend]⟩, rfl⟩
        · have hlt : i < 24 := cl_lt (N := 24) (by decide) hle c_2
          refine lv_aload hx hb d_Ss_lit_46 (lv_at hl 5 rfl) ?_
          refine lv_iload hx hb d_Ss_lit_48 (lv_at hl 7 rfl) ?_
          refine gn_aldS E hK.1 hG hC.1.2.2.2.1 5 rfl (j := i) hlt (by decide) (upTo_in hlt) d_Ss_lit_50 ?_
          refine lv_astore (lv' := [(8, .ref (ha i)), (0, .ref o), (1, .int q), (2, .int t), (3, .ref (wa iw)), (4, .int acc), (5, .ref aH), (6, .int 24), (7, .int (nI i))]) hx hb d_Ss_lit_51 hl (by decide) rfl (fun ls hl => ?_)
          refine lv_iload hx hb d_Ss_lit_53 (lv_at hl 5 rfl) ?_
          refine lv_aload_n hx hb d_Ss_lit_55 rfl (lv_at hl 1 rfl) ?_
          refine lv_aload_n hx hb d_Ss_lit_56 rfl (lv_at hl 4 rfl) ?_
          refine lv_aload hx hb d_Ss_lit_57 (lv_at hl 0 rfl) ?_
          refine gs_V (As := [.ref (wa iw), .ref (ha i)]) (rest := [.int acc]) (k_Ss_lightOfHour l D k zb G o aB aW aH aS aT wn hn nb nw ba wa ha bf hf wf sh tk (wa iw) (wf iw 0) (wf iw 1) (wf iw 2) (wf iw 3) (ha i) (hf i 0) (hf i 1) (hf i 2) (hf i 3) hC (hC.2.2.2.1 iw hiw) (Nat.le_of_lt (hC.2.2.2.2.2.2.2 iw hiw).2.2.1) (Nat.le_trans (hC.2.2.2.2.2.2.2 iw hiw).2.2.2 hC.2.1.2.2.2.2.2) (hC.2.2.2.2.1 i hlt)) E hml hl.1 (cg_V (C := R_Ss) hw w_403 w_400 w_1 w_402 sel_Ss_lightOfHour hd_Ss_lightOfHour ⟨by exact Nat.le_of_ble_eq_true rfl, by exact Nat.le_of_ble_eq_true rfl⟩) hG hK hX hS hC.1.1 rfl rfl rfl rfl (by exact Nat.le_of_ble_eq_true rfl) d_Ss_lit_59 ⟨by exact Nat.le_of_ble_eq_true rfl, by exact Nat.le_of_ble_eq_true rfl⟩ (fun v G1 H locs hp hG hS => ?_)
          obtain ⟨hv1, hG1⟩ := hp
          subst hv1
          rw [hG1] at hG
          refine W.eq (g2 := F0 m 62 ls [.int (jc_lightOf nb bf (hf i 0) (hf i 1) (hf i 2) (hf i 3) (nI wn) (wf iw 0) (wf iw 1) (wf iw 2) (wf iw 3)), .int acc]) rfl ?_
          refine lv_iadd hx hb d_Ss_lit_62 ?_
          refine lv_topi (fun v_3 ev_3 => ?_)
          refine lv_istore (lv' := [(4, .int v_3), (8, .ref (ha i)), (0, .ref o), (1, .int q), (2, .int t), (3, .ref (wa iw)), (5, .ref aH), (6, .int 24), (7, .int (nI i))]) hx hb d_Ss_lit_63 hl (by decide) rfl (fun ls hl => ?_)
          refine lv_iinc (v := nI (i + 1)) (lv' := [(7, .int (nI (i + 1))), (4, .int v_3), (8, .ref (ha i)), (0, .ref o), (1, .int q), (2, .int t), (3, .ref (wa iw)), (5, .ref aH), (6, .int 24)]) hx hb d_Ss_lit_65 hl (k := 8) rfl (nI_1 _) (by decide) rfl (fun ls hl => ?_)
          refine lv_goto (tgt := 39) hx hb d_Ss_lit_68 (by decide) ?_
          exact IH (i + 1) v_3 (by omega) (by omega) (by subst ev_3; rw [hacc]; rfl) _ _ hG hS ls (lv_sub hl [3, 4, 5, 6, 1, 7, 8, 0] rfl)
    exact lp (24 + 1) 0 0 (by omega) (by omega) rfl _ _ hG hS ls (lv_sub hl [5, 6, 7, 4, 3, 2, 1, 0] rfl)
  · refine lv_aload_n hx hb d_Ss_lit_11 rfl (lv_at hl 1 rfl) ?_
    refine lv_aload_n hx hb d_Ss_lit_12 rfl (lv_at hl 0 rfl) ?_
    refine lv_aload_n hx hb d_Ss_lit_13 rfl (lv_at hl 1 rfl) ?_
    refine lv_iload_n hx hb d_Ss_lit_14 rfl (lv_at hl 3 rfl) ?_
    refine gs_VX (As := [.int t]) (rest := [.ref (wa iw), .ref o]) (k_Ss_knownHour l hnt D k zb G o aB aW aH aS aT wn hn nb nw ba wa ha bf hf wf sh tk t hC) E hml hl.1 (cg_V (C := R_Ss) hw w_253 w_250 w_1 w_252 sel_Ss_knownHour hd_Ss_knownHour ⟨by exact Nat.le_of_ble_eq_true rfl, by exact Nat.le_of_ble_eq_true rfl⟩) hG hK hX hS hC.1.1 rfl rfl rfl rfl (by exact Nat.le_of_ble_eq_true rfl) d_Ss_lit_15 ⟨by exact Nat.le_of_ble_eq_true rfl, by exact Nat.le_of_ble_eq_true rfl⟩ (fun E9 ce q9 H locs hp hG hS hq1 hq2 hq3 => ?_) (fun v G1 H locs hp hG hS => ?_)
    · exact gs_on ht hlocks (⟨hp.1, Or.inr ⟨c_1, hp.2⟩⟩) hG hS hq1 hq2 hq3 (by decide) (by decide)
    obtain ⟨ih, hih, eih, hv1, hG1⟩ := hp
    subst hv1
    rw [hG1] at hG
    refine W.eq (g2 := F0 m 18 ls [.ref (ha ih), .ref (wa iw), .ref o]) rfl ?_
    refine gs_V (As := [.ref (wa iw), .ref (ha ih)]) (rest := []) (k_Ss_lightOfHour l D k zb G o aB aW aH aS aT wn hn nb nw ba wa ha bf hf wf sh tk (wa iw) (wf iw 0) (wf iw 1) (wf iw 2) (wf iw 3) (ha ih) (hf ih 0) (hf ih 1) (hf ih 2) (hf ih 3) hC (hC.2.2.2.1 iw hiw) (Nat.le_of_lt (hC.2.2.2.2.2.2.2 iw hiw).2.2.1) (Nat.le_trans (hC.2.2.2.2.2.2.2 iw hiw).2.2.2 hC.2.1.2.2.2.2.2) (hC.2.2.2.2.1 ih hih)) E hml hl.1 (cg_V (C := R_Ss) hw w_403 w_400 w_1 w_402 sel_Ss_lightOfHour hd_Ss_lightOfHour ⟨by exact Nat.le_of_ble_eq_true rfl, by exact Nat.le_of_ble_eq_true rfl⟩) hG hK hX hS hC.1.1 rfl rfl rfl rfl (by exact Nat.le_of_ble_eq_true rfl) d_Ss_lit_18 ⟨by exact Nat.le_of_ble_eq_true rfl, by exact Nat.le_of_ble_eq_true rfl⟩ (fun v G1 H locs hp hG hS => ?_)
    obtain ⟨hv1, hG1⟩ := hp
    subst hv1
    rw [hG1] at hG
    refine W.eq (g2 := F0 m 21 ls [.int (jc_lightOf nb bf (hf ih 0) (hf ih 1) (hf ih 2) (hf ih 3) (nI wn) (wf iw 0) (wf iw 1) (wf iw 2) (wf iw 3))]) rfl ?_
    refine vx_ret ?_
    refine W.iret (v := (jc_lightOf nb bf (hf ih 0) (hf ih 1) (hf ih 2) (hf ih 3) (nI wn) (wf iw 0) (wf iw 1) (wf iw 2) (wf iw 3))) hx hb hr (gs_end ?_ hG hS) hS.2.2 d_Ss_lit_21
    exact ⟨iw, hiw, eiw, Or.inr ⟨c_1, ih, hih, eih, rfl⟩, rfl⟩
set_option maxHeartbeats 4000000 in
set_option maxRecDepth 100000 in
theorem k_Ss_brightest (l : Launch) (hnt : l.stackTraces = false) (D : va_G) (k : Nat → ClassId) (zb : Nat) (G : Nat → Option va_E) (o aB aW aH aS aT : Nat) (wn hn nb nw : Nat) (ba wa ha : Nat → Nat) (bf hf : Nat → Nat → Int32) (wf : Nat → Nat → Nat) (sh : Nat → Int64) (tk : Nat → Int32) (q : Int32) (hC : sC k G o aB aW aH aS aT wn hn nb nw ba wa ha bf hf wf sh tk) : vx_Met l y_Ss_brightest (wM y_Ss_brightest c_Ss_brightest 7 (some .int)) ({ frames := 7, cells := 1, slots := 6, locals := 156 }) (gs_P D k zb G [.ref o, .int q]) (gs_Q D zb (fun v G1 => ∃ j : Nat, j < nw ∧ q = nI j ∧ v = some (.int (jc_best (fun i => jc_lightOf nb bf (hf i 0) (hf i 1) (hf i 2) (hf i 3) (nI wn) (wf j 0) (wf j 1) (wf j 2) (wf j 3)) 24).1) ∧ G1 = G)) (gs_T D zb G (fun E => E = e_IA ∧ (¬ ∃ i : Nat, i < nw ∧ q = nI i))) 1 6 (fun q : Nat => zb ≤ q) := by
  refine vx_ofW (cc := c_Ss_brightest) (maxL := 7) (ret := (some .int)) (by decide) rfl ?_
  intro p e s m args below meth c s₁ B hml ht hv
  obtain ⟨rfl, hG, hK, hX⟩ := hv
  have hx := B.exec
  have hb := B.bytes
  have hr := B.returns
  have hts := atoms_spec (ws := wM y_Ss_brightest c_Ss_brightest 7 (some .int)) B.pre
  have hw : ∀ w9 ∈ wW, w9.before ([.ref o, .int q] : List Value).toArray s = true := fun w9 h9 => hts w9 (gi_in w9 h9)
  have hown : s.vm.findClass R_Ss = some m.cls := findClass_of_methodNamed B.named
  have hlocks := B.notSynchronized
  have E : gs_E p s m ([.ref o, .int q] : List Value).toArray c c_Ss_brightest wW R_Ss := ⟨hx, hb, hw, hown⟩
  have hS : gs_S zb s.heap s.heap [] := va_S.rf
  have hl := lv_entry ([.ref o, .int q]) (n := 7) (Nat.le_of_ble_eq_true rfl)
  rw [lg_entry_eq]
  generalize (lg_sl ([.ref o, .int q]) ++ List.replicate (7 - (lg_sl ([.ref o, .int q])).length) Slot.unset).toArray = ls at hl ⊢
  have hl : lv_has ls 7 [(0, .ref o), (1, .int q)] := hl
  refine lv_aload_n hx hb d_Ss_brightest_0 rfl (lv_at hl 0 rfl) ?_
  refine lv_iload_n hx hb d_Ss_brightest_1 rfl (lv_at hl 1 rfl) ?_
  refine gs_VX (As := [.int q]) (rest := []) (k_Ss_knownWindow l hnt D k zb G o aB aW aH aS aT wn hn nb nw ba wa ha bf hf wf sh tk q hC) E hml hl.1 (cg_V (C := R_Ss) hw w_371 w_368 w_1 w_370 sel_Ss_knownWindow hd_Ss_knownWindow ⟨by exact Nat.le_of_ble_eq_true rfl, by exact Nat.le_of_ble_eq_true rfl⟩) hG hK hX hS hC.1.1 rfl rfl rfl rfl (by exact Nat.le_of_ble_eq_true rfl) d_Ss_brightest_2 ⟨by exact Nat.le_of_ble_eq_true rfl, by exact Nat.le_of_ble_eq_true rfl⟩ (fun E9 ce q9 H locs hp hG hS hq1 hq2 hq3 => ?_) (fun v G1 H locs hp hG hS => ?_)
  · exact gs_on ht hlocks (hp) hG hS hq1 hq2 hq3 (by decide) (by decide)
  obtain ⟨iw, hiw, eiw, hv1, hG1⟩ := hp
  subst hv1
  rw [hG1] at hG
  refine W.eq (g2 := F0 m 5 ls [.ref (wa iw)]) rfl ?_
  refine lv_astore_n (lv' := [(2, .ref (wa iw)), (0, .ref o), (1, .int q)]) hx hb d_Ss_brightest_5 rfl hl (by decide) rfl (fun ls hl => ?_)
  refine lv_iconst (v := (-1)) hx hb d_Ss_brightest_6 (by decide) ?_
  refine lv_topi (fun v_1 ev_1 => ?_)
  refine lv_istore_n (lv' := [(3, .int v_1), (2, .ref (wa iw)), (0, .ref o), (1, .int q)]) hx hb d_Ss_brightest_7 rfl hl (by decide) rfl (fun ls hl => ?_)
  refine lv_iconst (v := 0) hx hb d_Ss_brightest_8 (by decide) ?_
  refine lv_istore (lv' := [(4, .int 0), (3, .int v_1), (2, .ref (wa iw)), (0, .ref o), (1, .int q)]) hx hb d_Ss_brightest_9 hl (by decide) rfl (fun ls hl => ?_)
  refine lv_iconst (v := 0) hx hb d_Ss_brightest_11 (by decide) ?_
  refine lv_istore (lv' := [(5, .int 0), (4, .int 0), (3, .int v_1), (2, .ref (wa iw)), (0, .ref o), (1, .int q)]) hx hb d_Ss_brightest_12 hl (by decide) rfl (fun ls hl => ?_)
  subst ev_1
  have lp : ∀ (fu : Nat) (i : Nat) (be : Int32) (mo : Int32), i ≤ 24 → 24 + 1 ≤ i + fu → (hbm : (be, mo) = jc_best (fun i => jc_lightOf nb bf (hf i 0) (hf i 1) (hf i 2) (hf i 3) (nI wn) (wf iw 0) (wf iw 1) (wf iw 2) (wf iw 3)) i) → ∀ (H : Heap) (locs : List Loc), gs_W D classes zb G H → gs_S zb s.heap H locs → ∀ (ls : Array Slot), lv_has ls 7 [(0, .ref o), (1, .int q), (2, .ref (wa iw)), (3, .int be), (4, .int mo), (5, .int (nI i))] → W p l e (headSpec (wM y_Ss_brightest c_Ss_brightest 7 (some .int)) ({ frames := 7, cells := 1, slots := 6, locals := 156 })).room s m ([.ref o, .int q] : List Value).toArray below meth c H locs 1 6 (vx_MQ below (gs_Q D zb (fun v G1 => ∃ j : Nat, j < nw ∧ q = nI j ∧ v = some (.int (jc_best (fun i => jc_lightOf nb bf (hf i 0) (hf i 1) (hf i 2) (hf i 3) (nI wn) (wf j 0) (wf j 1) (wf j 2) (wf j 3)) 24).1) ∧ G1 = G)) (gs_T D zb G (fun E => E = e_IA ∧ (¬ ∃ i : Nat, i < nw ∧ q = nI i))) ([.ref o, .int q] : List Value).toArray s 1 6 (fun q : Nat => zb ≤ q)) (F0 m 14 ls []) := by
    intro fu
    induction fu with
    | zero => intro i be mo hle hfu; exact absurd hfu (by omega)
    | succ fu IH =>
      intro i be mo hle hfu hbm H locs hG hS ls hl
      refine lv_iload hx hb d_Ss_brightest_14 (lv_at hl 5 rfl) ?_
      refine lv_aload_n hx hb d_Ss_brightest_16 rfl (lv_at hl 0 rfl) ?_
      refine gs_get E hK.1 hG hC.1.1 (C := R_Ss) (T := F_Ss) (N := 9) rfl i_Ss 4 (by decide) w_64 (v := .ref aH) rfl d_Ss_brightest_17 ?_
      refine gs_alen E hK.1 hG hC.1.2.2.2.1 5 rfl (v := 24) rfl d_Ss_brightest_20 ?_
      refine lv_icmp_ge (tgt := 58) hx hb d_Ss_brightest_21 (by decide) (fun c_2 => ?_) (fun c_2 => ?_)
      · have hend : i = 24 := cl_eq (N := 24) (by decide) hle c_2
        refine lv_iload_n hx hb d_Ss_brightest_58 rfl (lv_at hl 3 rfl) ?_
        refine vx_ret ?_
        refine W.iret (v := be) hx hb hr (gs_end ?_ hG hS) hS.2.2 d_Ss_brightest_59
        exact ⟨iw, hiw, eiw, by rw [← hend, ← hbm], rfl⟩
      · have hlt : i < 24 := cl_lt (N := 24) (by decide) hle c_2
        refine lv_aload_n hx hb d_Ss_brightest_24 rfl (lv_at hl 0 rfl) ?_
        refine lv_aload_n hx hb d_Ss_brightest_25 rfl (lv_at hl 2 rfl) ?_
        refine lv_aload_n hx hb d_Ss_brightest_26 rfl (lv_at hl 0 rfl) ?_
        refine gs_get E hK.1 hG hC.1.1 (C := R_Ss) (T := F_Ss) (N := 9) rfl i_Ss 4 (by decide) w_64 (v := .ref aH) rfl d_Ss_brightest_27 ?_
        refine lv_iload hx hb d_Ss_brightest_30 (lv_at hl 5 rfl) ?_
        refine gn_aldS E hK.1 hG hC.1.2.2.2.1 5 rfl (j := i) hlt (by decide) (upTo_in hlt) d_Ss_brightest_32 ?_
        refine gs_V (As := [.ref (wa iw), .ref (ha i)]) (rest := []) (k_Ss_lightOfHour l D k zb G o aB aW aH aS aT wn hn nb nw ba wa ha bf hf wf sh tk (wa iw) (wf iw 0) (wf iw 1) (wf iw 2) (wf iw 3) (ha i) (hf i 0) (hf i 1) (hf i 2) (hf i 3) hC (hC.2.2.2.1 iw hiw) (Nat.le_of_lt (hC.2.2.2.2.2.2.2 iw hiw).2.2.1) (Nat.le_trans (hC.2.2.2.2.2.2.2 iw hiw).2.2.2 hC.2.1.2.2.2.2.2) (hC.2.2.2.2.1 i hlt)) E hml hl.1 (cg_V (C := R_Ss) hw w_403 w_400 w_1 w_402 sel_Ss_lightOfHour hd_Ss_lightOfHour ⟨by exact Nat.le_of_ble_eq_true rfl, by exact Nat.le_of_ble_eq_true rfl⟩) hG hK hX hS hC.1.1 rfl rfl rfl rfl (by exact Nat.le_of_ble_eq_true rfl) d_Ss_brightest_33 ⟨by exact Nat.le_of_ble_eq_true rfl, by exact Nat.le_of_ble_eq_true rfl⟩ (fun v G1 H locs hp hG hS => ?_)
        obtain ⟨hv1, hG1⟩ := hp
        subst hv1
        rw [hG1] at hG
        refine W.eq (g2 := F0 m 36 ls [.int (jc_lightOf nb bf (hf i 0) (hf i 1) (hf i 2) (hf i 3) (nI wn) (wf iw 0) (wf iw 1) (wf iw 2) (wf iw 3))]) rfl ?_
        refine lv_topi (fun v_3 ev_3 => ?_)
        refine lv_istore (lv' := [(6, .int v_3), (0, .ref o), (1, .int q), (2, .ref (wa iw)), (3, .int be), (4, .int mo), (5, .int (nI i))]) hx hb d_Ss_brightest_36 hl (by decide) rfl (fun ls hl => ?_)
        refine lv_iload hx hb d_Ss_brightest_38 (lv_at hl 0 rfl) ?_
        refine lv_iload hx hb d_Ss_brightest_40 (lv_at hl 5 rfl) ?_
        refine lv_icmp_le (tgt := 52) hx hb d_Ss_brightest_42 (by decide) (fun c_4 => ?_) (fun c_4 => ?_)
        · refine lv_iinc (v := nI (i + 1)) (lv' := [(5, .int (nI (i + 1))), (6, .int v_3), (0, .ref o), (1, .int q), (2, .ref (wa iw)), (3, .int be), (4, .int mo)]) hx hb d_Ss_brightest_52 hl (k := 6) rfl (nI_1 _) (by decide) rfl (fun ls hl => ?_)
          refine lv_goto (tgt := 14) hx hb d_Ss_brightest_55 (by decide) ?_
          exact IH (i + 1) be mo (by omega) (by omega) (by subst ev_3; rw [hbm, jc_best_s, if_pos (by rw [← hbm]; exact c_4)]) _ _ hG hS ls (lv_sub hl [2, 3, 4, 5, 6, 0] rfl)
        · refine lv_iload hx hb d_Ss_brightest_45 (lv_at hl 6 rfl) ?_
          refine lv_topi (fun v_5 ev_5 => ?_)
          refine lv_istore_n (lv' := [(3, .int v_5), (6, .int v_3), (0, .ref o), (1, .int q), (2, .ref (wa iw)), (4, .int mo), (5, .int (nI i))]) hx hb d_Ss_brightest_47 rfl hl (by decide) rfl (fun ls hl => ?_)
          refine lv_iload hx hb d_Ss_brightest_48 (lv_at hl 1 rfl) ?_
          refine lv_istore (lv' := [(4, .int v_3), (3, .int v_5), (6, .int v_3), (0, .ref o), (1, .int q), (2, .ref (wa iw)), (5, .int (nI i))]) hx hb d_Ss_brightest_50 hl (by decide) rfl (fun ls hl => ?_)
          refine lv_iinc (v := nI (i + 1)) (lv' := [(5, .int (nI (i + 1))), (4, .int v_3), (3, .int v_5), (6, .int v_3), (0, .ref o), (1, .int q), (2, .ref (wa iw))]) hx hb d_Ss_brightest_52 hl (k := 6) rfl (nI_1 _) (by decide) rfl (fun ls hl => ?_)
          refine lv_goto (tgt := 14) hx hb d_Ss_brightest_55 (by decide) ?_
          exact IH (i + 1) v_5 v_3 (by omega) (by omega) (by subst ev_5 ev_3; rw [jc_best_s, if_neg (by rw [← hbm]; exact c_4)]) _ _ hG hS ls (lv_sub hl [4, 5, 6, 2, 1, 0] rfl)
  exact lp (24 + 1) 0 (-1) 0 (by omega) (by omega) rfl _ _ hG hS ls (lv_sub hl [4, 5, 3, 2, 1, 0] rfl)
end
section
/-! maps: writes that fall together, cells that stay -/
theorem gs_uu (G : Nat → Option va_E) (a : Nat) (e f : va_E) : gs_u (gs_u G a e) a f = gs_u G a f := by
  funext q
  unfold gs_u
  split <;> rfl
theorem gs_comm {G : Nat → Option va_E} {a b : Nat} (h : a ≠ b) (e f : va_E) : gs_u (gs_u G a e) b f = gs_u (gs_u G b f) a e := by
  funext q
  unfold gs_u
  by_cases h1 : q = b
  · subst h1
    rw [if_pos rfl, if_neg (fun z => h z.symm), if_pos rfl]
  · rw [if_neg h1]
    split <;> rfl
theorem gs_id {G : Nat → Option va_E} {a : Nat} {e : va_E} (h : G a = some e) : gs_u G a e = G := by
  funext q
  unfold gs_u
  split
  · rename_i z; rw [z, h]
  · rfl
theorem gs_keepN {G : Nat → Option va_E} {q b : Nat} {e f : va_E} (hb : G b = some f) (hq : G q = none) : gs_u G q e b = some f := by
  have : b ≠ q := fun z => by rw [z, hq] at hb; cases hb
  rw [gs_un this, hb]
theorem sC.mono {k : Nat → ClassId} {G G2 : Nat → Option va_E} {o aB aW aH aS aT wn hn nb nw : Nat} {ba wa ha : Nat → Nat} {bf hf : Nat → Nat → Int32} {wf : Nat → Nat → Nat} {sh : Nat → Int64} {tk : Nat → Int32} (h : sC k G o aB aW aH aS aT wn hn nb nw ba wa ha bf hf wf sh tk) (hq : ∀ (b : Nat) (e : va_E), G b = some e → G2 b = some e) : sC k G2 o aB aW aH aS aT wn hn nb nw ba wa ha bf hf wf sh tk := by
  obtain ⟨⟨h1, h2, h3, h4, h5, h6⟩, h7, h8, h9, h10, h11⟩ := h
  exact ⟨⟨hq _ _ h1, hq _ _ h2, hq _ _ h3, hq _ _ h4, hq _ _ h5, hq _ _ h6⟩, h7, fun i hi => hq _ _ (h8 i hi), fun i hi => hq _ _ (h9 i hi), fun i hi => hq _ _ (h10 i hi), h11⟩
theorem sC_at {k : Nat → ClassId} {G : Nat → Option va_E} {o aB aW aH aS aT wn hn nb nw : Nat} {ba wa ha : Nat → Nat} {bf hf : Nat → Nat → Int32} {wf : Nat → Nat → Nat} {sh : Nat → Int64} {tk : Nat → Int32} (h : sC k G o aB aW aH aS aT wn hn nb nw ba wa ha bf hf wf sh tk) {q : Nat} {e : va_E} (hq : G q = none) : sC k (gs_u G q e) o aB aW aH aS aT wn hn nb nw ba wa ha bf hf wf sh tk := h.mono fun _ _ hb => gs_keepN hb hq
theorem sC_S {k : Nat → ClassId} {G : Nat → Option va_E} {o aB aW aH aS aT wn hn nb nw : Nat} {ba wa ha : Nat → Nat} {bf hf : Nat → Nat → Int32} {wf : Nat → Nat → Nat} {sh : Nat → Int64} {tk : Nat → Int32} (h : sC k G o aB aW aH aS aT wn hn nb nw ba wa ha bf hf wf sh tk) (sh2 : Nat → Int64) : sC k (gs_u G aS (aLong (k 1) 10 sh2)) o aB aW aH aS aT wn hn nb nw ba wa ha bf hf wf sh2 tk := by
  obtain ⟨⟨h1, h2, h3, h4, h5, h6⟩, h7, h8, h9, h10, h11⟩ := h
  exact ⟨⟨gs_keep h1 h5 (by simp), gs_keep h2 h5 (by simp), gs_keep h3 h5 (by simp), gs_keep h4 h5 (by simp), gs_us _ _ _, gs_keep h6 h5 (by simp)⟩, h7, fun i hi => gs_keep (h8 i hi) h5 (by simp), fun i hi => gs_keep (h9 i hi) h5 (by simp), fun i hi => gs_keep (h10 i hi) h5 (by simp), h11⟩
theorem sC_T {k : Nat → ClassId} {G : Nat → Option va_E} {o aB aW aH aS aT wn hn nb nw : Nat} {ba wa ha : Nat → Nat} {bf hf : Nat → Nat → Int32} {wf : Nat → Nat → Nat} {sh : Nat → Int64} {tk : Nat → Int32} (h : sC k G o aB aW aH aS aT wn hn nb nw ba wa ha bf hf wf sh tk) (tk2 : Nat → Int32) : sC k (gs_u G aT (aInt (k 0) 10 tk2)) o aB aW aH aS aT wn hn nb nw ba wa ha bf hf wf sh tk2 := by
  obtain ⟨⟨h1, h2, h3, h4, h5, h6⟩, h7, h8, h9, h10, h11⟩ := h
  exact ⟨⟨gs_keep h1 h6 (by simp), gs_keep h2 h6 (by simp), gs_keep h3 h6 (by simp), gs_keep h4 h6 (by simp), gs_keep h5 h6 (by simp), gs_us _ _ _⟩, h7, fun i hi => gs_keep (h8 i hi) h6 (by simp), fun i hi => gs_keep (h9 i hi) h6 (by simp), fun i hi => gs_keep (h10 i hi) h6 (by simp), h11⟩
theorem jw_01 (n a b : Int32) : jc_within n a b = 0 ∨ jc_within n a b = 1 := by
  unfold jc_within
  split
  · exact Or.inl rfl
  · split
    · exact Or.inl rfl
    · exact Or.inr rfl
theorem nar01 {x : Int32} (h : x = 0 ∨ x = 1) : narrow .boolean (.int x) = .int x := by
  rcases h with rfl | rfl <;> rfl
theorem fit01 {x : Int32} (h : x = 0 ∨ x = 1) : fits .boolean (.int x) = true := by
  rcases h with rfl | rfl <;> rfl
theorem vpn01 {x : Int32} (h : x = 0 ∨ x = 1) : vp_nar .boolean x = x := by
  rcases h with rfl | rfl <;> rfl
end
section
/-! contracts, by program -/
set_option maxHeartbeats 4000000 in
set_option maxRecDepth 100000 in
theorem k_Bx_init (l : Launch) (D : va_G) (k : Nat → ClassId) (zb : Nat) (G : Nat → Option va_E) (a0 : Nat) (x0 y0 z0 x1 y1 z1 : Int32) (hb0 : G a0 = some (.inr (0, [.int 0, .int 0, .int 0, .int 0, .int 0, .int 0, .int 0]))) : Met l y_Bx_init (wM y_Bx_init c_Bx_init 7 none) ({ frames := 1, cells := 0, slots := 0, locals := 20 }) (gs_P D k zb G [.ref a0, .int x0, .int y0, .int z0, .int x1, .int y1, .int z1]) (gs_Q D zb (fun v G1 => v = none ∧ G1 = gs_u G a0 (.inr (0, [.int x0, .int y0, .int z0, .int x1, .int y1, .int z1, .int 1])))) 0 0 (fun q : Nat => zb ≤ q) := by
  refine Met.ofW (cc := c_Bx_init) (maxL := 7) (ret := none) (by decide) rfl ?_
  intro p e s m args below meth c s₁ B hml hv
  obtain ⟨rfl, hG, hK, hX⟩ := hv
  have hx := B.exec
  have hb := B.bytes
  have hr := B.returns
  have hts := atoms_spec (ws := wM y_Bx_init c_Bx_init 7 none) B.pre
  have hw : ∀ w9 ∈ wW, w9.before ([.ref a0, .int x0, .int y0, .int z0, .int x1, .int y1, .int z1] : List Value).toArray s = true := fun w9 h9 => hts w9 (gi_in w9 h9)
  have hown : s.vm.findClass R_Bx = some m.cls := findClass_of_methodNamed B.named
  have hlocks := B.notSynchronized
  have hin : meth.name = "<init>" := (name_of_methodNamed B.named B.method).1
  have E : gs_E p s m ([.ref a0, .int x0, .int y0, .int z0, .int x1, .int y1, .int z1] : List Value).toArray c c_Bx_init wW R_Bx := ⟨hx, hb, hw, hown⟩
  have hS : gs_S zb s.heap s.heap [] := va_S.rf
  have hl := lv_entry ([.ref a0, .int x0, .int y0, .int z0, .int x1, .int y1, .int z1]) (n := 7) (Nat.le_of_ble_eq_true rfl)
  rw [lg_entry_eq]
  generalize (lg_sl ([.ref a0, .int x0, .int y0, .int z0, .int x1, .int y1, .int z1]) ++ List.replicate (7 - (lg_sl ([.ref a0, .int x0, .int y0, .int z0, .int x1, .int y1, .int z1])).length) Slot.unset).toArray = ls at hl ⊢
  have hl : lv_has ls 7 [(0, .ref a0), (1, .int x0), (2, .int y0), (3, .int z0), (4, .int x1), (5, .int y1), (6, .int z1)] := hl
  refine lv_aload_n hx hb d_Bx_init_0 rfl (lv_at hl 0 rfl) ?_
  refine W.objInit hx hb hown (hw _ w_190) (hw _ w_19) (hw _ w_20) rfl (by rw [hml]; exact hl.1) rfl d_Bx_init_1 (by exact Nat.le_of_ble_eq_true rfl) (by exact Nat.le_of_ble_eq_true rfl) ?_
  refine W.eq (g2 := F0 m 4 ls []) rfl ?_
  refine lv_aload_n hx hb d_Bx_init_4 rfl (lv_at hl 0 rfl) ?_
  refine lv_iconst (v := 1) hx hb d_Bx_init_5 (by decide) ?_
  refine gs_put E hK.1 hG hS hb0 (C := R_Bx) (T := F_Bx) (N := 7) rfl i_Bx t_Bx t_Bx_ok n_Bx 6 (by decide) w_198 rfl (v := .int 1) (by decide) rfl (Nat.le_of_ble_eq_true rfl) d_Bx_init_6 (fun H locs hG hS => ?_)
  obtain ⟨G_1, eG_1⟩ : ∃ z, z = gs_u G a0 (.inr (0, [.int 0, .int 0, .int 0, .int 0, .int 0, .int 0, .int 1])) := ⟨_, rfl⟩
  have hG : gs_W D classes zb G_1 H := by rw [eG_1]; exact hG
  have hc_2 : G_1 a0 = some (.inr (0, [.int 0, .int 0, .int 0, .int 0, .int 0, .int 0, .int 1])) := by rw [eG_1]; exact gs_us _ _ _
  refine lv_aload_n hx hb d_Bx_init_9 rfl (lv_at hl 0 rfl) ?_
  refine lv_iload_n hx hb d_Bx_init_10 rfl (lv_at hl 1 rfl) ?_
  refine gs_put E hK.1 hG hS hc_2 (C := R_Bx) (T := F_Bx) (N := 7) rfl i_Bx t_Bx t_Bx_ok n_Bx 0 (by decide) w_191 rfl (v := .int x0) rfl rfl (Nat.le_of_ble_eq_true rfl) d_Bx_init_11 (fun H locs hG hS => ?_)
  obtain ⟨G_3, eG_3⟩ : ∃ z, z = gs_u G_1 a0 (.inr (0, [.int x0, .int 0, .int 0, .int 0, .int 0, .int 0, .int 1])) := ⟨_, rfl⟩
  have hG : gs_W D classes zb G_3 H := by rw [eG_3]; exact hG
  have hc_4 : G_3 a0 = some (.inr (0, [.int x0, .int 0, .int 0, .int 0, .int 0, .int 0, .int 1])) := by rw [eG_3]; exact gs_us _ _ _
  refine lv_aload_n hx hb d_Bx_init_14 rfl (lv_at hl 0 rfl) ?_
  refine lv_iload_n hx hb d_Bx_init_15 rfl (lv_at hl 2 rfl) ?_
  refine gs_put E hK.1 hG hS hc_4 (C := R_Bx) (T := F_Bx) (N := 7) rfl i_Bx t_Bx t_Bx_ok n_Bx 1 (by decide) w_192 rfl (v := .int y0) rfl rfl (Nat.le_of_ble_eq_true rfl) d_Bx_init_16 (fun H locs hG hS => ?_)
  obtain ⟨G_5, eG_5⟩ : ∃ z, z = gs_u G_3 a0 (.inr (0, [.int x0, .int y0, .int 0, .int 0, .int 0, .int 0, .int 1])) := ⟨_, rfl⟩
  have hG : gs_W D classes zb G_5 H := by rw [eG_5]; exact hG
  have hc_6 : G_5 a0 = some (.inr (0, [.int x0, .int y0, .int 0, .int 0, .int 0, .int 0, .int 1])) := by rw [eG_5]; exact gs_us _ _ _
  refine lv_aload_n hx hb d_Bx_init_19 rfl (lv_at hl 0 rfl) ?_
  refine lv_iload_n hx hb d_Bx_init_20 rfl (lv_at hl 3 rfl) ?_
  refine gs_put E hK.1 hG hS hc_6 (C := R_Bx) (T := F_Bx) (N := 7) rfl i_Bx t_Bx t_Bx_ok n_Bx 2 (by decide) w_193 rfl (v := .int z0) rfl rfl (Nat.le_of_ble_eq_true rfl) d_Bx_init_21 (fun H locs hG hS => ?_)
  obtain ⟨G_7, eG_7⟩ : ∃ z, z = gs_u G_5 a0 (.inr (0, [.int x0, .int y0, .int z0, .int 0, .int 0, .int 0, .int 1])) := ⟨_, rfl⟩
  have hG : gs_W D classes zb G_7 H := by rw [eG_7]; exact hG
  have hc_8 : G_7 a0 = some (.inr (0, [.int x0, .int y0, .int z0, .int 0, .int 0, .int 0, .int 1])) := by rw [eG_7]; exact gs_us _ _ _
  refine lv_aload_n hx hb d_Bx_init_24 rfl (lv_at hl 0 rfl) ?_
  refine lv_iload hx hb d_Bx_init_25 (lv_at hl 4 rfl) ?_
  refine gs_put E hK.1 hG hS hc_8 (C := R_Bx) (T := F_Bx) (N := 7) rfl i_Bx t_Bx t_Bx_ok n_Bx 3 (by decide) w_194 rfl (v := .int x1) rfl rfl (Nat.le_of_ble_eq_true rfl) d_Bx_init_27 (fun H locs hG hS => ?_)
  obtain ⟨G_9, eG_9⟩ : ∃ z, z = gs_u G_7 a0 (.inr (0, [.int x0, .int y0, .int z0, .int x1, .int 0, .int 0, .int 1])) := ⟨_, rfl⟩
  have hG : gs_W D classes zb G_9 H := by rw [eG_9]; exact hG
  have hc_10 : G_9 a0 = some (.inr (0, [.int x0, .int y0, .int z0, .int x1, .int 0, .int 0, .int 1])) := by rw [eG_9]; exact gs_us _ _ _
  refine lv_aload_n hx hb d_Bx_init_30 rfl (lv_at hl 0 rfl) ?_
  refine lv_iload hx hb d_Bx_init_31 (lv_at hl 5 rfl) ?_
  refine gs_put E hK.1 hG hS hc_10 (C := R_Bx) (T := F_Bx) (N := 7) rfl i_Bx t_Bx t_Bx_ok n_Bx 4 (by decide) w_195 rfl (v := .int y1) rfl rfl (Nat.le_of_ble_eq_true rfl) d_Bx_init_33 (fun H locs hG hS => ?_)
  obtain ⟨G_11, eG_11⟩ : ∃ z, z = gs_u G_9 a0 (.inr (0, [.int x0, .int y0, .int z0, .int x1, .int y1, .int 0, .int 1])) := ⟨_, rfl⟩
  have hG : gs_W D classes zb G_11 H := by rw [eG_11]; exact hG
  have hc_12 : G_11 a0 = some (.inr (0, [.int x0, .int y0, .int z0, .int x1, .int y1, .int 0, .int 1])) := by rw [eG_11]; exact gs_us _ _ _
  refine lv_aload_n hx hb d_Bx_init_36 rfl (lv_at hl 0 rfl) ?_
  refine lv_iload hx hb d_Bx_init_37 (lv_at hl 6 rfl) ?_
  refine gs_put E hK.1 hG hS hc_12 (C := R_Bx) (T := F_Bx) (N := 7) rfl i_Bx t_Bx t_Bx_ok n_Bx 5 (by decide) w_196 rfl (v := .int z1) rfl rfl (Nat.le_of_ble_eq_true rfl) d_Bx_init_39 (fun H locs hG hS => ?_)
  obtain ⟨G_13, eG_13⟩ : ∃ z, z = gs_u G_11 a0 (.inr (0, [.int x0, .int y0, .int z0, .int x1, .int y1, .int z1, .int 1])) := ⟨_, rfl⟩
  have hG : gs_W D classes zb G_13 H := by rw [eG_13]; exact hG
  have hc_14 : G_13 a0 = some (.inr (0, [.int x0, .int y0, .int z0, .int x1, .int y1, .int z1, .int 1])) := by rw [eG_13]; exact gs_us _ _ _
  refine W.vret hx hb hr (gs_end ⟨rfl, ?_⟩ hG hS) hS.2.2 d_Bx_init_42
  simp only [eG_13, eG_11, eG_9, eG_7, eG_5, eG_3, eG_1, gs_uu]
set_option maxHeartbeats 4000000 in
set_option maxRecDepth 100000 in
theorem k_Wn_init (l : Launch) (D : va_G) (k : Nat → ClassId) (zb : Nat) (G : Nat → Option va_E) (a0 : Nat) (u0 v0 u1 v1 : Int32) (hb0 : G a0 = some (.inr (2, [.int 0, .int 0, .int 0, .int 0]))) : Met l y_Wn_init (wM y_Wn_init c_Wn_init 5 none) ({ frames := 1, cells := 0, slots := 0, locals := 20 }) (gs_P D k zb G [.ref a0, .int u0, .int v0, .int u1, .int v1]) (gs_Q D zb (fun v G1 => v = none ∧ G1 = gs_u G a0 (.inr (2, [.int u0, .int v0, .int u1, .int v1])))) 0 0 (fun q : Nat => zb ≤ q) := by
  refine Met.ofW (cc := c_Wn_init) (maxL := 5) (ret := none) (by decide) rfl ?_
  intro p e s m args below meth c s₁ B hml hv
  obtain ⟨rfl, hG, hK, hX⟩ := hv
  have hx := B.exec
  have hb := B.bytes
  have hr := B.returns
  have hts := atoms_spec (ws := wM y_Wn_init c_Wn_init 5 none) B.pre
  have hw : ∀ w9 ∈ wW, w9.before ([.ref a0, .int u0, .int v0, .int u1, .int v1] : List Value).toArray s = true := fun w9 h9 => hts w9 (gi_in w9 h9)
  have hown : s.vm.findClass R_Wn = some m.cls := findClass_of_methodNamed B.named
  have hlocks := B.notSynchronized
  have hin : meth.name = "<init>" := (name_of_methodNamed B.named B.method).1
  have E : gs_E p s m ([.ref a0, .int u0, .int v0, .int u1, .int v1] : List Value).toArray c c_Wn_init wW R_Wn := ⟨hx, hb, hw, hown⟩
  have hS : gs_S zb s.heap s.heap [] := va_S.rf
  have hl := lv_entry ([.ref a0, .int u0, .int v0, .int u1, .int v1]) (n := 5) (Nat.le_of_ble_eq_true rfl)
  rw [lg_entry_eq]
  generalize (lg_sl ([.ref a0, .int u0, .int v0, .int u1, .int v1]) ++ List.replicate (5 - (lg_sl ([.ref a0, .int u0, .int v0, .int u1, .int v1])).length) Slot.unset).toArray = ls at hl ⊢
  have hl : lv_has ls 5 [(0, .ref a0), (1, .int u0), (2, .int v0), (3, .int u1), (4, .int v1)] := hl
  refine lv_aload_n hx hb d_Wn_init_0 rfl (lv_at hl 0 rfl) ?_
  refine W.objInit hx hb hown (hw _ w_277) (hw _ w_19) (hw _ w_20) rfl (by rw [hml]; exact hl.1) rfl d_Wn_init_1 (by exact Nat.le_of_ble_eq_true rfl) (by exact Nat.le_of_ble_eq_true rfl) ?_
  refine W.eq (g2 := F0 m 4 ls []) rfl ?_
  refine lv_aload_n hx hb d_Wn_init_4 rfl (lv_at hl 0 rfl) ?_
  refine lv_iload_n hx hb d_Wn_init_5 rfl (lv_at hl 1 rfl) ?_
  refine gs_putF E hK.1 hG hS hb0 (C := R_Wn) (T := F_Wn) (N := 4) rfl i_Wn t_Wn t_Wn_ok n_Wn 0 (by decide) w_278 rfl hin rfl (v := .int u0) rfl rfl (Nat.le_of_ble_eq_true rfl) d_Wn_init_6 (fun H locs hG hS => ?_)
  obtain ⟨G_1, eG_1⟩ : ∃ z, z = gs_u G a0 (.inr (2, [.int u0, .int 0, .int 0, .int 0])) := ⟨_, rfl⟩
  have hG : gs_W D classes zb G_1 H := by rw [eG_1]; exact hG
  have hc_2 : G_1 a0 = some (.inr (2, [.int u0, .int 0, .int 0, .int 0])) := by rw [eG_1]; exact gs_us _ _ _
  refine lv_aload_n hx hb d_Wn_init_9 rfl (lv_at hl 0 rfl) ?_
  refine lv_iload_n hx hb d_Wn_init_10 rfl (lv_at hl 2 rfl) ?_
  refine gs_putF E hK.1 hG hS hc_2 (C := R_Wn) (T := F_Wn) (N := 4) rfl i_Wn t_Wn t_Wn_ok n_Wn 1 (by decide) w_279 rfl hin rfl (v := .int v0) rfl rfl (Nat.le_of_ble_eq_true rfl) d_Wn_init_11 (fun H locs hG hS => ?_)
  obtain ⟨G_3, eG_3⟩ : ∃ z, z = gs_u G_1 a0 (.inr (2, [.int u0, .int v0, .int 0, .int 0])) := ⟨_, rfl⟩
  have hG : gs_W D classes zb G_3 H := by rw [eG_3]; exact hG
  have hc_4 : G_3 a0 = some (.inr (2, [.int u0, .int v0, .int 0, .int 0])) := by rw [eG_3]; exact gs_us _ _ _
  refine lv_aload_n hx hb d_Wn_init_14 rfl (lv_at hl 0 rfl) ?_
  refine lv_iload_n hx hb d_Wn_init_15 rfl (lv_at hl 3 rfl) ?_
  refine gs_putF E hK.1 hG hS hc_4 (C := R_Wn) (T := F_Wn) (N := 4) rfl i_Wn t_Wn t_Wn_ok n_Wn 2 (by decide) w_281 rfl hin rfl (v := .int u1) rfl rfl (Nat.le_of_ble_eq_true rfl) d_Wn_init_16 (fun H locs hG hS => ?_)
  obtain ⟨G_5, eG_5⟩ : ∃ z, z = gs_u G_3 a0 (.inr (2, [.int u0, .int v0, .int u1, .int 0])) := ⟨_, rfl⟩
  have hG : gs_W D classes zb G_5 H := by rw [eG_5]; exact hG
  have hc_6 : G_5 a0 = some (.inr (2, [.int u0, .int v0, .int u1, .int 0])) := by rw [eG_5]; exact gs_us _ _ _
  refine lv_aload_n hx hb d_Wn_init_19 rfl (lv_at hl 0 rfl) ?_
  refine lv_iload hx hb d_Wn_init_20 (lv_at hl 4 rfl) ?_
  refine gs_putF E hK.1 hG hS hc_6 (C := R_Wn) (T := F_Wn) (N := 4) rfl i_Wn t_Wn t_Wn_ok n_Wn 3 (by decide) w_282 rfl hin rfl (v := .int v1) rfl rfl (Nat.le_of_ble_eq_true rfl) d_Wn_init_22 (fun H locs hG hS => ?_)
  obtain ⟨G_7, eG_7⟩ : ∃ z, z = gs_u G_5 a0 (.inr (2, [.int u0, .int v0, .int u1, .int v1])) := ⟨_, rfl⟩
  have hG : gs_W D classes zb G_7 H := by rw [eG_7]; exact hG
  have hc_8 : G_7 a0 = some (.inr (2, [.int u0, .int v0, .int u1, .int v1])) := by rw [eG_7]; exact gs_us _ _ _
  refine W.vret hx hb hr (gs_end ⟨rfl, ?_⟩ hG hS) hS.2.2 d_Wn_init_25
  simp only [eG_7, eG_5, eG_3, eG_1, gs_uu]
set_option maxHeartbeats 4000000 in
set_option maxRecDepth 100000 in
theorem k_Hr_init (l : Launch) (D : va_G) (k : Nat → ClassId) (zb : Nat) (G : Nat → Option va_E) (a0 : Nat)  (hb0 : G a0 = some (.inr (1, [.int 0, .int 0, .int 0, .int 0]))) : Met l y_Hr_init (wM y_Hr_init c_Hr_init 1 none) ({ frames := 1, cells := 0, slots := 0, locals := 20 }) (gs_P D k zb G [.ref a0]) (gs_Q D zb (fun v G1 => v = none ∧ G1 = gs_u G a0 (.inr (1, [.int 0, .int 0, .int 0, .int 0])))) 0 0 (fun q : Nat => zb ≤ q) := by
  refine Met.ofW (cc := c_Hr_init) (maxL := 1) (ret := none) (by decide) rfl ?_
  intro p e s m args below meth c s₁ B hml hv
  obtain ⟨rfl, hG, hK, hX⟩ := hv
  have hx := B.exec
  have hb := B.bytes
  have hr := B.returns
  have hts := atoms_spec (ws := wM y_Hr_init c_Hr_init 1 none) B.pre
  have hw : ∀ w9 ∈ wW, w9.before ([.ref a0] : List Value).toArray s = true := fun w9 h9 => hts w9 (gi_in w9 h9)
  have hown : s.vm.findClass R_Hr = some m.cls := findClass_of_methodNamed B.named
  have hlocks := B.notSynchronized
  have hin : meth.name = "<init>" := (name_of_methodNamed B.named B.method).1
  have E : gs_E p s m ([.ref a0] : List Value).toArray c c_Hr_init wW R_Hr := ⟨hx, hb, hw, hown⟩
  have hS : gs_S zb s.heap s.heap [] := va_S.rf
  have hl := lv_entry ([.ref a0]) (n := 1) (Nat.le_of_ble_eq_true rfl)
  rw [lg_entry_eq]
  generalize (lg_sl ([.ref a0]) ++ List.replicate (1 - (lg_sl ([.ref a0])).length) Slot.unset).toArray = ls at hl ⊢
  have hl : lv_has ls 1 [(0, .ref a0)] := hl
  refine lv_aload_n hx hb d_Hr_init_0 rfl (lv_at hl 0 rfl) ?_
  refine W.objInit hx hb hown (hw _ w_37) (hw _ w_19) (hw _ w_20) rfl (by rw [hml]; exact hl.1) rfl d_Hr_init_1 (by exact Nat.le_of_ble_eq_true rfl) (by exact Nat.le_of_ble_eq_true rfl) ?_
  refine W.eq (g2 := F0 m 4 ls []) rfl ?_
  refine lv_aload_n hx hb d_Hr_init_4 rfl (lv_at hl 0 rfl) ?_
  refine lv_iconst (v := 0) hx hb d_Hr_init_5 (by decide) ?_
  refine gs_put E hK.1 hG hS hb0 (C := R_Hr) (T := F_Hr) (N := 4) rfl i_Hr t_Hr t_Hr_ok n_Hr 0 (by decide) w_38 rfl (v := .int 0) rfl rfl (Nat.le_of_ble_eq_true rfl) d_Hr_init_6 (fun H locs hG hS => ?_)
  obtain ⟨G_1, eG_1⟩ : ∃ z, z = gs_u G a0 (.inr (1, [.int 0, .int 0, .int 0, .int 0])) := ⟨_, rfl⟩
  have hG : gs_W D classes zb G_1 H := by rw [eG_1]; exact hG
  have hc_2 : G_1 a0 = some (.inr (1, [.int 0, .int 0, .int 0, .int 0])) := by rw [eG_1]; exact gs_us _ _ _
  refine lv_aload_n hx hb d_Hr_init_9 rfl (lv_at hl 0 rfl) ?_
  refine lv_iconst (v := 0) hx hb d_Hr_init_10 (by decide) ?_
  refine gs_put E hK.1 hG hS hc_2 (C := R_Hr) (T := F_Hr) (N := 4) rfl i_Hr t_Hr t_Hr_ok n_Hr 1 (by decide) w_41 rfl (v := .int 0) rfl rfl (Nat.le_of_ble_eq_true rfl) d_Hr_init_11 (fun H locs hG hS => ?_)
  obtain ⟨G_3, eG_3⟩ : ∃ z, z = gs_u G_1 a0 (.inr (1, [.int 0, .int 0, .int 0, .int 0])) := ⟨_, rfl⟩
  have hG : gs_W D classes zb G_3 H := by rw [eG_3]; exact hG
  have hc_4 : G_3 a0 = some (.inr (1, [.int 0, .int 0, .int 0, .int 0])) := by rw [eG_3]; exact gs_us _ _ _
  refine lv_aload_n hx hb d_Hr_init_14 rfl (lv_at hl 0 rfl) ?_
  refine lv_iconst (v := 0) hx hb d_Hr_init_15 (by decide) ?_
  refine gs_put E hK.1 hG hS hc_4 (C := R_Hr) (T := F_Hr) (N := 4) rfl i_Hr t_Hr t_Hr_ok n_Hr 2 (by decide) w_44 rfl (v := .int 0) rfl rfl (Nat.le_of_ble_eq_true rfl) d_Hr_init_16 (fun H locs hG hS => ?_)
  obtain ⟨G_5, eG_5⟩ : ∃ z, z = gs_u G_3 a0 (.inr (1, [.int 0, .int 0, .int 0, .int 0])) := ⟨_, rfl⟩
  have hG : gs_W D classes zb G_5 H := by rw [eG_5]; exact hG
  have hc_6 : G_5 a0 = some (.inr (1, [.int 0, .int 0, .int 0, .int 0])) := by rw [eG_5]; exact gs_us _ _ _
  refine lv_aload_n hx hb d_Hr_init_19 rfl (lv_at hl 0 rfl) ?_
  refine lv_iconst (v := 0) hx hb d_Hr_init_20 (by decide) ?_
  refine gs_put E hK.1 hG hS hc_6 (C := R_Hr) (T := F_Hr) (N := 4) rfl i_Hr t_Hr t_Hr_ok n_Hr 3 (by decide) w_47 rfl (v := .int 0) rfl rfl (Nat.le_of_ble_eq_true rfl) d_Hr_init_21 (fun H locs hG hS => ?_)
  obtain ⟨G_7, eG_7⟩ : ∃ z, z = gs_u G_5 a0 (.inr (1, [.int 0, .int 0, .int 0, .int 0])) := ⟨_, rfl⟩
  have hG : gs_W D classes zb G_7 H := by rw [eG_7]; exact hG
  have hc_8 : G_7 a0 = some (.inr (1, [.int 0, .int 0, .int 0, .int 0])) := by rw [eG_7]; exact gs_us _ _ _
  refine W.vret hx hb hr (gs_end ⟨rfl, ?_⟩ hG hS) hS.2.2 d_Hr_init_24
  simp only [eG_7, eG_5, eG_3, eG_1, gs_uu]
set_option maxHeartbeats 4000000 in
set_option maxRecDepth 100000 in
theorem k_Bx_shiftIfAllowed (l : Launch) (D : va_G) (k : Nat → ClassId) (zb : Nat) (G : Nat → Option va_E) (a0 : Nat) (x0 y0 z0 x1 y1 z1 pr : Int32) (d1 d2 d3 : Int32) (hb0 : G a0 = some (.inr (0, [.int x0, .int y0, .int z0, .int x1, .int y1, .int z1, .int pr]))) : Met l y_Bx_shiftIfAllowed (wM y_Bx_shiftIfAllowed c_Bx_shiftIfAllowed 4 (some .boolean)) ({ frames := 1, cells := 0, slots := 0, locals := 25 }) (gs_P D k zb G [.ref a0, .int d1, .int d2, .int d3]) (gs_Q D zb (fun v G1 => (jc_allowed (x0 + d1) (y0 + d2) (z0 + d3) (x1 + d1) (y1 + d2) (z1 + d3) = 0 ∧ v = some (.int 0) ∧ G1 = G) ∨ (¬ jc_allowed (x0 + d1) (y0 + d2) (z0 + d3) (x1 + d1) (y1 + d2) (z1 + d3) = 0 ∧ v = some (.int 1) ∧ G1 = gs_u G a0 (.inr (0, [.int (x0 + d1), .int (y0 + d2), .int (z0 + d3), .int (x1 + d1), .int (y1 + d2), .int (z1 + d3), .int pr]))))) 0 0 (fun q : Nat => zb ≤ q) := by
  refine Met.ofW (cc := c_Bx_shiftIfAllowed) (maxL := 4) (ret := (some .boolean)) (by decide) rfl ?_
  intro p e s m args below meth c s₁ B hml hv
  obtain ⟨rfl, hG, hK, hX⟩ := hv
  have hx := B.exec
  have hb := B.bytes
  have hr := B.returns
  have hts := atoms_spec (ws := wM y_Bx_shiftIfAllowed c_Bx_shiftIfAllowed 4 (some .boolean)) B.pre
  have hw : ∀ w9 ∈ wW, w9.before ([.ref a0, .int d1, .int d2, .int d3] : List Value).toArray s = true := fun w9 h9 => hts w9 (gi_in w9 h9)
  have hown : s.vm.findClass R_Bx = some m.cls := findClass_of_methodNamed B.named
  have hlocks := B.notSynchronized
  have E : gs_E p s m ([.ref a0, .int d1, .int d2, .int d3] : List Value).toArray c c_Bx_shiftIfAllowed wW R_Bx := ⟨hx, hb, hw, hown⟩
  have hS : gs_S zb s.heap s.heap [] := va_S.rf
  have hl := lv_entry ([.ref a0, .int d1, .int d2, .int d3]) (n := 4) (Nat.le_of_ble_eq_true rfl)
  rw [lg_entry_eq]
  generalize (lg_sl ([.ref a0, .int d1, .int d2, .int d3]) ++ List.replicate (4 - (lg_sl ([.ref a0, .int d1, .int d2, .int d3])).length) Slot.unset).toArray = ls at hl ⊢
  have hl : lv_has ls 4 [(0, .ref a0), (1, .int d1), (2, .int d2), (3, .int d3)] := hl
  refine lv_aload_n hx hb d_Bx_shiftIfAllowed_0 rfl (lv_at hl 0 rfl) ?_
  refine gs_get E hK.1 hG hb0 (C := R_Bx) (T := F_Bx) (N := 7) rfl i_Bx 0 (by decide) w_191 (v := .int x0) rfl d_Bx_shiftIfAllowed_1 ?_
  refine lv_iload_n hx hb d_Bx_shiftIfAllowed_4 rfl (lv_at hl 1 rfl) ?_
  refine lv_iadd hx hb d_Bx_shiftIfAllowed_5 ?_
  refine lv_aload_n hx hb d_Bx_shiftIfAllowed_6 rfl (lv_at hl 0 rfl) ?_
  refine gs_get E hK.1 hG hb0 (C := R_Bx) (T := F_Bx) (N := 7) rfl i_Bx 1 (by decide) w_192 (v := .int y0) rfl d_Bx_shiftIfAllowed_7 ?_
  refine lv_iload_n hx hb d_Bx_shiftIfAllowed_10 rfl (lv_at hl 2 rfl) ?_
  refine lv_iadd hx hb d_Bx_shiftIfAllowed_11 ?_
  refine lv_aload_n hx hb d_Bx_shiftIfAllowed_12 rfl (lv_at hl 0 rfl) ?_
  refine gs_get E hK.1 hG hb0 (C := R_Bx) (T := F_Bx) (N := 7) rfl i_Bx 2 (by decide) w_193 (v := .int z0) rfl d_Bx_shiftIfAllowed_13 ?_
  refine lv_iload_n hx hb d_Bx_shiftIfAllowed_16 rfl (lv_at hl 3 rfl) ?_
  refine lv_iadd hx hb d_Bx_shiftIfAllowed_17 ?_
  refine lv_aload_n hx hb d_Bx_shiftIfAllowed_18 rfl (lv_at hl 0 rfl) ?_
  refine gs_get E hK.1 hG hb0 (C := R_Bx) (T := F_Bx) (N := 7) rfl i_Bx 3 (by decide) w_194 (v := .int x1) rfl d_Bx_shiftIfAllowed_19 ?_
  refine lv_iload_n hx hb d_Bx_shiftIfAllowed_22 rfl (lv_at hl 1 rfl) ?_
  refine lv_iadd hx hb d_Bx_shiftIfAllowed_23 ?_
  refine lv_aload_n hx hb d_Bx_shiftIfAllowed_24 rfl (lv_at hl 0 rfl) ?_
  refine gs_get E hK.1 hG hb0 (C := R_Bx) (T := F_Bx) (N := 7) rfl i_Bx 4 (by decide) w_195 (v := .int y1) rfl d_Bx_shiftIfAllowed_25 ?_
  refine lv_iload_n hx hb d_Bx_shiftIfAllowed_28 rfl (lv_at hl 2 rfl) ?_
  refine lv_iadd hx hb d_Bx_shiftIfAllowed_29 ?_
  refine lv_aload_n hx hb d_Bx_shiftIfAllowed_30 rfl (lv_at hl 0 rfl) ?_
  refine gs_get E hK.1 hG hb0 (C := R_Bx) (T := F_Bx) (N := 7) rfl i_Bx 5 (by decide) w_196 (v := .int z1) rfl d_Bx_shiftIfAllowed_31 ?_
  refine lv_iload_n hx hb d_Bx_shiftIfAllowed_34 rfl (lv_at hl 3 rfl) ?_
  refine lv_iadd hx hb d_Bx_shiftIfAllowed_35 ?_
  refine gs_St (As := [.int (x0 + d1), .int (y0 + d2), .int (z0 + d3), .int (x1 + d1), .int (y1 + d2), .int (z1 + d3)]) (rest := []) (k_Bx_isAllowed l D k zb G (x0 + d1) (y0 + d2) (z0 + d3) (x1 + d1) (y1 + d2) (z1 + d3)) E hml hl.1 (cg_S hw w_102 w_235 w_5 w_101 hd_Bx_isAllowed ⟨by exact Nat.le_of_ble_eq_true rfl, by exact Nat.le_of_ble_eq_true rfl⟩) hG hK hX hS rfl rfl (by exact Nat.le_of_ble_eq_true rfl) d_Bx_shiftIfAllowed_36 ⟨by exact Nat.le_of_ble_eq_true rfl, by exact Nat.le_of_ble_eq_true rfl⟩ (fun v G1 H locs hp hG hS => ?_)
  obtain ⟨hv1, hG1⟩ := hp
  subst hv1
  rw [hG1] at hG
  refine W.eq (g2 := F0 m 39 ls [.int (jc_allowed (x0 + d1) (y0 + d2) (z0 + d3) (x1 + d1) (y1 + d2) (z1 + d3))]) rfl ?_
  refine lv_if_ne (tgt := 44) hx hb d_Bx_shiftIfAllowed_39 (by decide) (fun c_1 => ?_) (fun c_1 => ?_)
  · refine lv_aload_n hx hb d_Bx_shiftIfAllowed_44 rfl (lv_at hl 0 rfl) ?_
    refine lv_dup hx hb d_Bx_shiftIfAllowed_45 rfl ?_
    refine gs_get E hK.1 hG hb0 (C := R_Bx) (T := F_Bx) (N := 7) rfl i_Bx 0 (by decide) w_191 (v := .int x0) rfl d_Bx_shiftIfAllowed_46 ?_
    refine lv_iload_n hx hb d_Bx_shiftIfAllowed_49 rfl (lv_at hl 1 rfl) ?_
    refine lv_iadd hx hb d_Bx_shiftIfAllowed_50 ?_
    refine lv_topi (fun v_2 ev_2 => ?_)
    refine gs_put E hK.1 hG hS hb0 (C := R_Bx) (T := F_Bx) (N := 7) rfl i_Bx t_Bx t_Bx_ok n_Bx 0 (by decide) w_191 rfl (v := .int v_2) rfl rfl (Nat.le_of_ble_eq_true rfl) d_Bx_shiftIfAllowed_51 (fun H locs hG hS => ?_)
    obtain ⟨G_3, eG_3⟩ : ∃ z, z = gs_u G a0 (.inr (0, [.int v_2, .int y0, .int z0, .int x1, .int y1, .int z1, .int pr])) := ⟨_, rfl⟩
    have hG : gs_W D classes zb G_3 H := by rw [eG_3]; exact hG
    have hc_4 : G_3 a0 = some (.inr (0, [.int v_2, .int y0, .int z0, .int x1, .int y1, .int z1, .int pr])) := by rw [eG_3]; exact gs_us _ _ _
    refine lv_aload_n hx hb d_Bx_shiftIfAllowed_54 rfl (lv_at hl 0 rfl) ?_
    refine lv_dup hx hb d_Bx_shiftIfAllowed_55 rfl ?_
    refine gs_get E hK.1 hG hc_4 (C := R_Bx) (T := F_Bx) (N := 7) rfl i_Bx 1 (by decide) w_192 (v := .int y0) rfl d_Bx_shiftIfAllowed_56 ?_
    refine lv_iload_n hx hb d_Bx_shiftIfAllowed_59 rfl (lv_at hl 2 rfl) ?_
    refine lv_iadd hx hb d_Bx_shiftIfAllowed_60 ?_
    refine lv_topi (fun v_5 ev_5 => ?_)
    refine gs_put E hK.1 hG hS hc_4 (C := R_Bx) (T := F_Bx) (N := 7) rfl i_Bx t_Bx t_Bx_ok n_Bx 1 (by decide) w_192 rfl (v := .int v_5) rfl rfl (Nat.le_of_ble_eq_true rfl) d_Bx_shiftIfAllowed_61 (fun H locs hG hS => ?_)
    obtain ⟨G_6, eG_6⟩ : ∃ z, z = gs_u G_3 a0 (.inr (0, [.int v_2, .int v_5, .int z0, .int x1, .int y1, .int z1, .int pr])) := ⟨_, rfl⟩
    have hG : gs_W D classes zb G_6 H := by rw [eG_6]; exact hG
    have hc_7 : G_6 a0 = some (.inr (0, [.int v_2, .int v_5, .int z0, .int x1, .int y1, .int z1, .int pr])) := by rw [eG_6]; exact gs_us _ _ _
    refine lv_aload_n hx hb d_Bx_shiftIfAllowed_64 rfl (lv_at hl 0 rfl) ?_
    refine lv_dup hx hb d_Bx_shiftIfAllowed_65 rfl ?_
    refine gs_get E hK.1 hG hc_7 (C := R_Bx) (T := F_Bx) (N := 7) rfl i_Bx 2 (by decide) w_193 (v := .int z0) rfl d_Bx_shiftIfAllowed_66 ?_
    refine lv_iload_n hx hb d_Bx_shiftIfAllowed_69 rfl (lv_at hl 3 rfl) ?_
    refine lv_iadd hx hb d_Bx_shiftIfAllowed_70 ?_
    refine lv_topi (fun v_8 ev_8 => ?_)
    refine gs_put E hK.1 hG hS hc_7 (C := R_Bx) (T := F_Bx) (N := 7) rfl i_Bx t_Bx t_Bx_ok n_Bx 2 (by decide) w_193 rfl (v := .int v_8) rfl rfl (Nat.le_of_ble_eq_true rfl) d_Bx_shiftIfAllowed_71 (fun H locs hG hS => ?_)
    obtain ⟨G_9, eG_9⟩ : ∃ z, z = gs_u G_6 a0 (.inr (0, [.int v_2, .int v_5, .int v_8, .int x1, .int y1, .int z1, .int pr])) := ⟨_, rfl⟩
    have hG : gs_W D classes zb G_9 H := by rw [eG_9]; exact hG
    have hc_10 : G_9 a0 = some (.inr (0, [.int v_2, .int v_5, .int v_8, .int x1, .int y1, .int z1, .int pr])) := by rw [eG_9]; exact gs_us _ _ _
    refine lv_aload_n hx hb d_Bx_shiftIfAllowed_74 rfl (lv_at hl 0 rfl) ?_
    refine lv_dup hx hb d_Bx_shiftIfAllowed_75 rfl ?_
    refine gs_get E hK.1 hG hc_10 (C := R_Bx) (T := F_Bx) (N := 7) rfl i_Bx 3 (by decide) w_194 (v := .int x1) rfl d_Bx_shiftIfAllowed_76 ?_
    refine lv_iload_n hx hb d_Bx_shiftIfAllowed_79 rfl (lv_at hl 1 rfl) ?_
    refine lv_iadd hx hb d_Bx_shiftIfAllowed_80 ?_
    refine lv_topi (fun v_11 ev_11 => ?_)
    refine gs_put E hK.1 hG hS hc_10 (C := R_Bx) (T := F_Bx) (N := 7) rfl i_Bx t_Bx t_Bx_ok n_Bx 3 (by decide) w_194 rfl (v := .int v_11) rfl rfl (Nat.le_of_ble_eq_true rfl) d_Bx_shiftIfAllowed_81 (fun H locs hG hS => ?_)
    obtain ⟨G_12, eG_12⟩ : ∃ z, z = gs_u G_9 a0 (.inr (0, [.int v_2, .int v_5, .int v_8, .int v_11, .int y1, .int z1, .int pr])) := ⟨_, rfl⟩
    have hG : gs_W D classes zb G_12 H := by rw [eG_12]; exact hG
    have hc_13 : G_12 a0 = some (.inr (0, [.int v_2, .int v_5, .int v_8, .int v_11, .int y1, .int z1, .int pr])) := by rw [eG_12]; exact gs_us _ _ _
    refine lv_aload_n hx hb d_Bx_shiftIfAllowed_84 rfl (lv_at hl 0 rfl) ?_
    refine lv_dup hx hb d_Bx_shiftIfAllowed_85 rfl ?_
    refine gs_get E hK.1 hG hc_13 (C := R_Bx) (T := F_Bx) (N := 7) rfl i_Bx 4 (by decide) w_195 (v := .int y1) rfl d_Bx_shiftIfAllowed_86 ?_
    refine lv_iload_n hx hb d_Bx_shiftIfAllowed_89 rfl (lv_at hl 2 rfl) ?_
    refine lv_iadd hx hb d_Bx_shiftIfAllowed_90 ?_
    refine lv_topi (fun v_14 ev_14 => ?_)
    refine gs_put E hK.1 hG hS hc_13 (C := R_Bx) (T := F_Bx) (N := 7) rfl i_Bx t_Bx t_Bx_ok n_Bx 4 (by decide) w_195 rfl (v := .int v_14) rfl rfl (Nat.le_of_ble_eq_true rfl) d_Bx_shiftIfAllowed_91 (fun H locs hG hS => ?_)
    obtain ⟨G_15, eG_15⟩ : ∃ z, z = gs_u G_12 a0 (.inr (0, [.int v_2, .int v_5, .int v_8, .int v_11, .int v_14, .int z1, .int pr])) := ⟨_, rfl⟩
    have hG : gs_W D classes zb G_15 H := by rw [eG_15]; exact hG
    have hc_16 : G_15 a0 = some (.inr (0, [.int v_2, .int v_5, .int v_8, .int v_11, .int v_14, .int z1, .int pr])) := by rw [eG_15]; exact gs_us _ _ _
    refine lv_aload_n hx hb d_Bx_shiftIfAllowed_94 rfl (lv_at hl 0 rfl) ?_
    refine lv_dup hx hb d_Bx_shiftIfAllowed_95 rfl ?_
    refine gs_get E hK.1 hG hc_16 (C := R_Bx) (T := F_Bx) (N := 7) rfl i_Bx 5 (by decide) w_196 (v := .int z1) rfl d_Bx_shiftIfAllowed_96 ?_
    refine lv_iload_n hx hb d_Bx_shiftIfAllowed_99 rfl (lv_at hl 3 rfl) ?_
    refine lv_iadd hx hb d_Bx_shiftIfAllowed_100 ?_
    refine lv_topi (fun v_17 ev_17 => ?_)
    refine gs_put E hK.1 hG hS hc_16 (C := R_Bx) (T := F_Bx) (N := 7) rfl i_Bx t_Bx t_Bx_ok n_Bx 5 (by decide) w_196 rfl (v := .int v_17) rfl rfl (Nat.le_of_ble_eq_true rfl) d_Bx_shiftIfAllowed_101 (fun H locs hG hS => ?_)
    obtain ⟨G_18, eG_18⟩ : ∃ z, z = gs_u G_15 a0 (.inr (0, [.int v_2, .int v_5, .int v_8, .int v_11, .int v_14, .int v_17, .int pr])) := ⟨_, rfl⟩
    have hG : gs_W D classes zb G_18 H := by rw [eG_18]; exact hG
    have hc_19 : G_18 a0 = some (.inr (0, [.int v_2, .int v_5, .int v_8, .int v_11, .int v_14, .int v_17, .int pr])) := by rw [eG_18]; exact gs_us _ _ _
    refine lv_iconst (v := 1) hx hb d_Bx_shiftIfAllowed_104 (by decide) ?_
    refine W.zret (v := 1) hx hb hr (by decide) (gs_end (Or.inr ⟨c_1, rfl, ?_⟩) hG hS) hS.2.2 d_Bx_shiftIfAllowed_105
    subst ev_17 ev_14 ev_11 ev_8 ev_5 ev_2
    simp only [eG_18, eG_15, eG_12, eG_9, eG_6, eG_3, gs_uu]
  · refine lv_iconst (v := 0) hx hb d_Bx_shiftIfAllowed_42 (by decide) ?_
    refine W.zret (v := 0) hx hb hr (by decide) (gs_end (Or.inl ⟨c_1, rfl, rfl⟩) hG hS) hS.2.2 d_Bx_shiftIfAllowed_43
set_option maxHeartbeats 4000000 in
set_option maxRecDepth 100000 in
theorem k_Ss_there (l : Launch) (hnt : l.stackTraces = false) (D : va_G) (k : Nat → ClassId) (zb : Nat) (G : Nat → Option va_E) (o aB aW aH aS aT : Nat) (wn hn nb nw : Nat) (ba wa ha : Nat → Nat) (bf hf : Nat → Nat → Int32) (wf : Nat → Nat → Nat) (sh : Nat → Int64) (tk : Nat → Int32) (b on : Int32) (hC : sC k G o aB aW aH aS aT wn hn nb nw ba wa ha bf hf wf sh tk) (hon : on = 0 ∨ on = 1) (hpr : ∀ i, i < nb → bf i 6 = 0 ∨ bf i 6 = 1) : vx_Met l y_Ss_there (wM y_Ss_there c_Ss_there 5 (some .boolean)) ({ frames := 7, cells := 1, slots := 6, locals := 112 }) (gs_P D k zb G [.ref o, .int b, .int on]) (gs_Q D zb (fun v G1 => ∃ i : Nat, i < nb ∧ b = nI i ∧ v = some (.int (bf i 6)) ∧ G1 = gs_u G (ba i) (.inr (0, [.int (bf i 0), .int (bf i 1), .int (bf i 2), .int (bf i 3), .int (bf i 4), .int (bf i 5), .int on])))) (gs_T D zb G (fun E => E = e_IA ∧ (¬ ∃ i : Nat, i < nb ∧ b = nI i))) 1 6 (fun q : Nat => zb ≤ q) := by
  refine vx_ofW (cc := c_Ss_there) (maxL := 5) (ret := (some .boolean)) (by decide) rfl ?_
  intro p e s m args below meth c s₁ B hml ht hv
  obtain ⟨rfl, hG, hK, hX⟩ := hv
  have hx := B.exec
  have hb := B.bytes
  have hr := B.returns
  have hts := atoms_spec (ws := wM y_Ss_there c_Ss_there 5 (some .boolean)) B.pre
  have hw : ∀ w9 ∈ wW, w9.before ([.ref o, .int b, .int on] : List Value).toArray s = true := fun w9 h9 => hts w9 (gi_in w9 h9)
  have hown : s.vm.findClass R_Ss = some m.cls := findClass_of_methodNamed B.named
  have hlocks := B.notSynchronized
  have E : gs_E p s m ([.ref o, .int b, .int on] : List Value).toArray c c_Ss_there wW R_Ss := ⟨hx, hb, hw, hown⟩
  have hS : gs_S zb s.heap s.heap [] := va_S.rf
  have hl := lv_entry ([.ref o, .int b, .int on]) (n := 5) (Nat.le_of_ble_eq_true rfl)
  rw [lg_entry_eq]
  generalize (lg_sl ([.ref o, .int b, .int on]) ++ List.replicate (5 - (lg_sl ([.ref o, .int b, .int on])).length) Slot.unset).toArray = ls at hl ⊢
  have hl : lv_has ls 5 [(0, .ref o), (1, .int b), (2, .int on)] := hl
  refine lv_aload_n hx hb d_Ss_there_0 rfl (lv_at hl 0 rfl) ?_
  refine lv_iload_n hx hb d_Ss_there_1 rfl (lv_at hl 1 rfl) ?_
  refine gs_VX (As := [.int b]) (rest := []) (k_Ss_knownBox l hnt D k zb G o aB aW aH aS aT wn hn nb nw ba wa ha bf hf wf sh tk b hC) E hml hl.1 (cg_V (C := R_Ss) hw w_225 w_222 w_1 w_224 sel_Ss_knownBox hd_Ss_knownBox ⟨by exact Nat.le_of_ble_eq_true rfl, by exact Nat.le_of_ble_eq_true rfl⟩) hG hK hX hS hC.1.1 rfl rfl rfl rfl (by exact Nat.le_of_ble_eq_true rfl) d_Ss_there_2 ⟨by exact Nat.le_of_ble_eq_true rfl, by exact Nat.le_of_ble_eq_true rfl⟩ (fun E9 ce q9 H locs hp hG hS hq1 hq2 hq3 => ?_) (fun v G1 H locs hp hG hS => ?_)
  · exact gs_on ht hlocks (hp) hG hS hq1 hq2 hq3 (by decide) (by decide)
  obtain ⟨ib, hib, eib, hv1, hG1⟩ := hp
  subst hv1
  rw [hG1] at hG
  refine W.eq (g2 := F0 m 5 ls [.ref (ba ib)]) rfl ?_
  refine lv_astore_n (lv' := [(3, .ref (ba ib)), (0, .ref o), (1, .int b), (2, .int on)]) hx hb d_Ss_there_5 rfl hl (by decide) rfl (fun ls hl => ?_)
  refine lv_aload_n hx hb d_Ss_there_6 rfl (lv_at hl 0 rfl) ?_
  refine gs_get E hK.1 hG (hC.2.2.1 ib hib) (C := R_Bx) (T := F_Bx) (N := 7) rfl i_Bx 6 (by decide) w_199 (v := .int (bf ib 6)) rfl d_Ss_there_7 ?_
  refine lv_topi (fun v_1 ev_1 => ?_)
  refine lv_istore (lv' := [(4, .int v_1), (3, .ref (ba ib)), (0, .ref o), (1, .int b), (2, .int on)]) hx hb d_Ss_there_10 hl (by decide) rfl (fun ls hl => ?_)
  refine lv_aload_n hx hb d_Ss_there_12 rfl (lv_at hl 1 rfl) ?_
  refine lv_iload_n hx hb d_Ss_there_13 rfl (lv_at hl 4 rfl) ?_
  refine gs_put E hK.1 hG hS (hC.2.2.1 ib hib) (C := R_Bx) (T := F_Bx) (N := 7) rfl i_Bx t_Bx t_Bx_ok n_Bx 6 (by decide) w_199 rfl (v := .int on) (nar01 hon) (fit01 hon) (Nat.le_of_ble_eq_true rfl) d_Ss_there_14 (fun H locs hG hS => ?_)
  obtain ⟨G_2, eG_2⟩ : ∃ z, z = gs_u G (ba ib) (.inr (0, [.int (bf ib 0), .int (bf ib 1), .int (bf ib 2), .int (bf ib 3), .int (bf ib 4), .int (bf ib 5), .int on])) := ⟨_, rfl⟩
  have hG : gs_W D classes zb G_2 H := by rw [eG_2]; exact hG
  have hc_3 : G_2 o = some (.inr (3, [.int (nI wn), .int (nI hn), .ref aB, .ref aW, .ref aH, .ref aS, .ref aT, .int (nI nb), .int (nI nw)])) := by rw [eG_2]; exact gs_keep hC.1.1 (hC.2.2.1 ib hib) (by simp)
  have hc_4 : G_2 (ba ib) = some (.inr (0, [.int (bf ib 0), .int (bf ib 1), .int (bf ib 2), .int (bf ib 3), .int (bf ib 4), .int (bf ib 5), .int on])) := by rw [eG_2]; exact gs_us _ _ _
  refine lv_iload hx hb d_Ss_there_17 (lv_at hl 0 rfl) ?_
  refine vx_ret ?_
  refine W.zret (v := v_1) hx hb hr (nar01 (by rw [ev_1]; exact hpr ib hib)) (gs_end ⟨ib, hib, eib, by rw [ev_1], ?_⟩ hG hS) hS.2.2 d_Ss_there_19
  subst ev_1
  simp only [eG_2, gs_uu]
set_option maxHeartbeats 4000000 in
set_option maxRecDepth 100000 in
theorem k_Ss_sun (l : Launch) (hnt : l.stackTraces = false) (D : va_G) (k : Nat → ClassId) (zb : Nat) (G : Nat → Option va_E) (o aB aW aH aS aT : Nat) (wn hn nb nw : Nat) (ba wa ha : Nat → Nat) (bf hf : Nat → Nat → Int32) (wf : Nat → Nat → Nat) (sh : Nat → Int64) (tk : Nat → Int32) (t d1 d2 d3 : Int32) (hC : sC k G o aB aW aH aS aT wn hn nb nw ba wa ha bf hf wf sh tk) : vx_Met l y_Ss_sun (wM y_Ss_sun c_Ss_sun 6 none) ({ frames := 7, cells := 2, slots := 12, locals := 112 }) (gs_P D k zb G [.ref o, .int t, .int d1, .int d2, .int d3]) (gs_Q D zb (fun v G1 => v = none ∧ ∃ i : Nat, i < 24 ∧ t = nI i ∧ (¬ jc_within d1 (-300) 300 = 0 ∧ ¬ jc_within d2 (-300) 300 = 0 ∧ ¬ jc_within d3 0 100 = 0) ∧ G1 = gs_u G (ha i) (.inr (1, [.int d1, .int d2, .int d3, .int (hf i 3)])))) (gs_T D zb G (fun E => E = e_IA ∧ ((¬ ∃ i : Nat, i < 24 ∧ t = nI i) ∨ jc_within d1 (-300) 300 = 0 ∨ jc_within d2 (-300) 300 = 0 ∨ jc_within d3 0 100 = 0))) 2 12 (fun q : Nat => zb ≤ q) := by
  refine vx_ofW (cc := c_Ss_sun) (maxL := 6) (ret := none) (by decide) rfl ?_
  intro p e s m args below meth c s₁ B hml ht hv
  obtain ⟨rfl, hG, hK, hX⟩ := hv
  have hx := B.exec
  have hb := B.bytes
  have hr := B.returns
  have hts := atoms_spec (ws := wM y_Ss_sun c_Ss_sun 6 none) B.pre
  have hw : ∀ w9 ∈ wW, w9.before ([.ref o, .int t, .int d1, .int d2, .int d3] : List Value).toArray s = true := fun w9 h9 => hts w9 (gi_in w9 h9)
  have hown : s.vm.findClass R_Ss = some m.cls := findClass_of_methodNamed B.named
  have hlocks := B.notSynchronized
  have E : gs_E p s m ([.ref o, .int t, .int d1, .int d2, .int d3] : List Value).toArray c c_Ss_sun wW R_Ss := ⟨hx, hb, hw, hown⟩
  have hS : gs_S zb s.heap s.heap [] := va_S.rf
  have hl := lv_entry ([.ref o, .int t, .int d1, .int d2, .int d3]) (n := 6) (Nat.le_of_ble_eq_true rfl)
  rw [lg_entry_eq]
  generalize (lg_sl ([.ref o, .int t, .int d1, .int d2, .int d3]) ++ List.replicate (6 - (lg_sl ([.ref o, .int t, .int d1, .int d2, .int d3])).length) Slot.unset).toArray = ls at hl ⊢
  have hl : lv_has ls 6 [(0, .ref o), (1, .int t), (2, .int d1), (3, .int d2), (4, .int d3)] := hl
  refine lv_aload_n hx hb d_Ss_sun_0 rfl (lv_at hl 0 rfl) ?_
  refine lv_iload_n hx hb d_Ss_sun_1 rfl (lv_at hl 1 rfl) ?_
  refine gs_VX (As := [.int t]) (rest := []) (k_Ss_knownHour l hnt D k zb G o aB aW aH aS aT wn hn nb nw ba wa ha bf hf wf sh tk t hC) E hml hl.1 (cg_V (C := R_Ss) hw w_253 w_250 w_1 w_252 sel_Ss_knownHour hd_Ss_knownHour ⟨by exact Nat.le_of_ble_eq_true rfl, by exact Nat.le_of_ble_eq_true rfl⟩) hG hK hX hS hC.1.1 rfl rfl rfl rfl (by exact Nat.le_of_ble_eq_true rfl) d_Ss_sun_2 ⟨by exact Nat.le_of_ble_eq_true rfl, by exact Nat.le_of_ble_eq_true rfl⟩ (fun E9 ce q9 H locs hp hG hS hq1 hq2 hq3 => ?_) (fun v G1 H locs hp hG hS => ?_)
  · exact gs_on ht hlocks (⟨hp.1, Or.inl hp.2⟩) hG hS hq1 hq2 hq3 (by decide) (by decide)
  obtain ⟨ih, hih, eih, hv1, hG1⟩ := hp
  subst hv1
  rw [hG1] at hG
  refine W.eq (g2 := F0 m 5 ls [.ref (ha ih)]) rfl ?_
  refine lv_astore (lv' := [(5, .ref (ha ih)), (0, .ref o), (1, .int t), (2, .int d1), (3, .int d2), (4, .int d3)]) hx hb d_Ss_sun_5 hl (by decide) rfl (fun ls hl => ?_)
  refine lv_iload_n hx hb d_Ss_sun_7 rfl (lv_at hl 3 rfl) ?_
  refine lv_sipush (v := (-300)) hx hb d_Ss_sun_8 (by decide) ?_
  refine lv_sipush (v := 300) hx hb d_Ss_sun_11 (by decide) ?_
  refine gs_St (As := [.int d1, .int (-300), .int 300]) (rest := []) (k_Ss_isWithin l D k zb G d1 (-300) 300) E hml hl.1 (cg_S hw w_229 w_227 w_1 w_228 hd_Ss_isWithin ⟨by exact Nat.le_of_ble_eq_true rfl, by exact Nat.le_of_ble_eq_true rfl⟩) hG hK hX hS rfl rfl (by exact Nat.le_of_ble_eq_true rfl) d_Ss_sun_14 ⟨by exact Nat.le_of_ble_eq_true rfl, by exact Nat.le_of_ble_eq_true rfl⟩ (fun v G1 H locs hp hG hS => ?_)
  obtain ⟨hv1, hG1⟩ := hp
  subst hv1
  rw [hG1] at hG
  refine W.eq (g2 := F0 m 17 ls [.int (jc_within d1 (-300) 300)]) rfl ?_
  refine lv_if_eq (tgt := 44) hx hb d_Ss_sun_17 (by decide) (fun c_1 => ?_) (fun c_1 => ?_)
  · exact gs_throwIA (text := "the sun's direction is out of bounds") hnt E hG hK hX hS ht (hl.1.trans hml.symm) w_103 w_9 (by decide) (⟨rfl, Or.inr (Or.inl c_1)⟩) d_Ss_sun_44 d_Ss_sun_47 d_Ss_sun_48 d_Ss_sun_50 d_Ss_sun_53 (by exact Nat.le_of_ble_eq_true rfl) (by exact Nat.le_of_ble_eq_true rfl) (by exact Nat.le_of_ble_eq_true rfl) (by exact Nat.le_of_ble_eq_true rfl) hlocks (by decide) (by decide)
  · refine lv_iload_n hx hb d_Ss_sun_20 rfl (lv_at hl 4 rfl) ?_
    refine lv_sipush (v := (-300)) hx hb d_Ss_sun_21 (by decide) ?_
    refine lv_sipush (v := 300) hx hb d_Ss_sun_24 (by decide) ?_
    refine gs_St (As := [.int d2, .int (-300), .int 300]) (rest := []) (k_Ss_isWithin l D k zb G d2 (-300) 300) E hml hl.1 (cg_S hw w_229 w_227 w_1 w_228 hd_Ss_isWithin ⟨by exact Nat.le_of_ble_eq_true rfl, by exact Nat.le_of_ble_eq_true rfl⟩) hG hK hX hS rfl rfl (by exact Nat.le_of_ble_eq_true rfl) d_Ss_sun_27 ⟨by exact Nat.le_of_ble_eq_true rfl, by exact Nat.le_of_ble_eq_true rfl⟩ (fun v G1 H locs hp hG hS => ?_)
    obtain ⟨hv1, hG1⟩ := hp
    subst hv1
    rw [hG1] at hG
    refine W.eq (g2 := F0 m 30 ls [.int (jc_within d2 (-300) 300)]) rfl ?_
    refine lv_if_eq (tgt := 44) hx hb d_Ss_sun_30 (by decide) (fun c_2 => ?_) (fun c_2 => ?_)
    · exact gs_throwIA (text := "the sun's direction is out of bounds") hnt E hG hK hX hS ht (hl.1.trans hml.symm) w_103 w_9 (by decide) (⟨rfl, Or.inr (Or.inr (Or.inl c_2))⟩) d_Ss_sun_44 d_Ss_sun_47 d_Ss_sun_48 d_Ss_sun_50 d_Ss_sun_53 (by exact Nat.le_of_ble_eq_true rfl) (by exact Nat.le_of_ble_eq_true rfl) (by exact Nat.le_of_ble_eq_true rfl) (by exact Nat.le_of_ble_eq_true rfl) hlocks (by decide) (by decide)
    · refine lv_iload hx hb d_Ss_sun_33 (lv_at hl 5 rfl) ?_
      refine lv_iconst (v := 0) hx hb d_Ss_sun_35 (by decide) ?_
      refine lv_bipush (v := 100) hx hb d_Ss_sun_36 (by decide) ?_
      refine gs_St (As := [.int d3, .int 0, .int 100]) (rest := []) (k_Ss_isWithin l D k zb G d3 0 100) E hml hl.1 (cg_S hw w_229 w_227 w_1 w_228 hd_Ss_isWithin ⟨by exact Nat.le_of_ble_eq_true rfl, by exact Nat.le_of_ble_eq_true rfl⟩) hG hK hX hS rfl rfl (by exact Nat.le_of_ble_eq_true rfl) d_Ss_sun_38 ⟨by exact Nat.le_of_ble_eq_true rfl, by exact Nat.le_of_ble_eq_true rfl⟩ (fun v G1 H locs hp hG hS => ?_)
      obtain ⟨hv1, hG1⟩ := hp
      subst hv1
      rw [hG1] at hG
      refine W.eq (g2 := F0 m 41 ls [.int (jc_within d3 0 100)]) rfl ?_
      refine lv_if_ne (tgt := 54) hx hb d_Ss_sun_41 (by decide) (fun c_3 => ?_) (fun c_3 => ?_)
      · refine lv_aload hx hb d_Ss_sun_54 (lv_at hl 0 rfl) ?_
        refine lv_iload_n hx hb d_Ss_sun_56 rfl (lv_at hl 3 rfl) ?_
        refine gs_put E hK.1 hG hS (hC.2.2.2.2.1 ih hih) (C := R_Hr) (T := F_Hr) (N := 4) rfl i_Hr t_Hr t_Hr_ok n_Hr 0 (by decide) w_40 rfl (v := .int d1) rfl rfl (Nat.le_of_ble_eq_true rfl) d_Ss_sun_57 (fun H locs hG hS => ?_)
        obtain ⟨G_4, eG_4⟩ : ∃ z, z = gs_u G (ha ih) (.inr (1, [.int d1, .int (hf ih 1), .int (hf ih 2), .int (hf ih 3)])) := ⟨_, rfl⟩
        have hG : gs_W D classes zb G_4 H := by rw [eG_4]; exact hG
        have hc_5 : G_4 o = some (.inr (3, [.int (nI wn), .int (nI hn), .ref aB, .ref aW, .ref aH, .ref aS, .ref aT, .int (nI nb), .int (nI nw)])) := by rw [eG_4]; exact gs_keep hC.1.1 (hC.2.2.2.2.1 ih hih) (by simp)
        have hc_6 : G_4 (ha ih) = some (.inr (1, [.int d1, .int (hf ih 1), .int (hf ih 2), .int (hf ih 3)])) := by rw [eG_4]; exact gs_us _ _ _
        refine lv_aload hx hb d_Ss_sun_60 (lv_at hl 0 rfl) ?_
        refine lv_iload_n hx hb d_Ss_sun_62 rfl (lv_at hl 4 rfl) ?_
        refine gs_put E hK.1 hG hS hc_6 (C := R_Hr) (T := F_Hr) (N := 4) rfl i_Hr t_Hr t_Hr_ok n_Hr 1 (by decide) w_43 rfl (v := .int d2) rfl rfl (Nat.le_of_ble_eq_true rfl) d_Ss_sun_63 (fun H locs hG hS => ?_)
        obtain ⟨G_7, eG_7⟩ : ∃ z, z = gs_u G_4 (ha ih) (.inr (1, [.int d1, .int d2, .int (hf ih 2), .int (hf ih 3)])) := ⟨_, rfl⟩
        have hG : gs_W D classes zb G_7 H := by rw [eG_7]; exact hG
        have hc_8 : G_7 o = some (.inr (3, [.int (nI wn), .int (nI hn), .ref aB, .ref aW, .ref aH, .ref aS, .ref aT, .int (nI nb), .int (nI nw)])) := by rw [eG_7]; exact gs_keep hc_5 hc_6 (by simp)
        have hc_9 : G_7 (ha ih) = some (.inr (1, [.int d1, .int d2, .int (hf ih 2), .int (hf ih 3)])) := by rw [eG_7]; exact gs_us _ _ _
        refine lv_aload hx hb d_Ss_sun_66 (lv_at hl 0 rfl) ?_
        refine lv_iload hx hb d_Ss_sun_68 (lv_at hl 5 rfl) ?_
        refine gs_put E hK.1 hG hS hc_9 (C := R_Hr) (T := F_Hr) (N := 4) rfl i_Hr t_Hr t_Hr_ok n_Hr 2 (by decide) w_46 rfl (v := .int d3) rfl rfl (Nat.le_of_ble_eq_true rfl) d_Ss_sun_70 (fun H locs hG hS => ?_)
        obtain ⟨G_10, eG_10⟩ : ∃ z, z = gs_u G_7 (ha ih) (.inr (1, [.int d1, .int d2, .int d3, .int (hf ih 3)])) := ⟨_, rfl⟩
        have hG : gs_W D classes zb G_10 H := by rw [eG_10]; exact hG
        have hc_11 : G_10 o = some (.inr (3, [.int (nI wn), .int (nI hn), .ref aB, .ref aW, .ref aH, .ref aS, .ref aT, .int (nI nb), .int (nI nw)])) := by rw [eG_10]; exact gs_keep hc_8 hc_9 (by simp)
        have hc_12 : G_10 (ha ih) = some (.inr (1, [.int d1, .int d2, .int d3, .int (hf ih 3)])) := by rw [eG_10]; exact gs_us _ _ _
        refine W.widen (k := 2) (n := 12) (by decide) (by decide) ?_
        refine vx_ret ?_
        refine W.vret hx hb hr (gs_end ⟨rfl, ih, hih, eih, ⟨c_1, c_2, c_3⟩, ?_⟩ hG hS) hS.2.2 d_Ss_sun_73
        simp only [eG_10, eG_7, eG_4, gs_uu]
      · exact gs_throwIA (text := "the sun's direction is out of bounds") hnt E hG hK hX hS ht (hl.1.trans hml.symm) w_103 w_9 (by decide) (⟨rfl, Or.inr (Or.inr (Or.inr c_3))⟩) d_Ss_sun_44 d_Ss_sun_47 d_Ss_sun_48 d_Ss_sun_50 d_Ss_sun_53 (by exact Nat.le_of_ble_eq_true rfl) (by exact Nat.le_of_ble_eq_true rfl) (by exact Nat.le_of_ble_eq_true rfl) (by exact Nat.le_of_ble_eq_true rfl) hlocks (by decide) (by decide)
set_option maxHeartbeats 4000000 in
set_option maxRecDepth 100000 in
theorem k_Ss_light (l : Launch) (hnt : l.stackTraces = false) (D : va_G) (k : Nat → ClassId) (zb : Nat) (G : Nat → Option va_E) (o aB aW aH aS aT : Nat) (wn hn nb nw : Nat) (ba wa ha : Nat → Nat) (bf hf : Nat → Nat → Int32) (wf : Nat → Nat → Nat) (sh : Nat → Int64) (tk : Nat → Int32) (t d1 : Int32) (hC : sC k G o aB aW aH aS aT wn hn nb nw ba wa ha bf hf wf sh tk) : vx_Met l y_Ss_light (wM y_Ss_light c_Ss_light 5 (some .int)) ({ frames := 7, cells := 2, slots := 12, locals := 112 }) (gs_P D k zb G [.ref o, .int t, .int d1]) (gs_Q D zb (fun v G1 => ∃ i : Nat, i < 24 ∧ t = nI i ∧ ¬ jc_within d1 0 1000 = 0 ∧ v = some (.int (hf i 3)) ∧ G1 = gs_u G (ha i) (.inr (1, [.int (hf i 0), .int (hf i 1), .int (hf i 2), .int d1])))) (gs_T D zb G (fun E => E = e_IA ∧ ((¬ ∃ i : Nat, i < 24 ∧ t = nI i) ∨ jc_within d1 0 1000 = 0))) 2 12 (fun q : Nat => zb ≤ q) := by
  refine vx_ofW (cc := c_Ss_light) (maxL := 5) (ret := (some .int)) (by decide) rfl ?_
  intro p e s m args below meth c s₁ B hml ht hv
  obtain ⟨rfl, hG, hK, hX⟩ := hv
  have hx := B.exec
  have hb := B.bytes
  have hr := B.returns
  have hts := atoms_spec (ws := wM y_Ss_light c_Ss_light 5 (some .int)) B.pre
  have hw : ∀ w9 ∈ wW, w9.before ([.ref o, .int t, .int d1] : List Value).toArray s = true := fun w9 h9 => hts w9 (gi_in w9 h9)
  have hown : s.vm.findClass R_Ss = some m.cls := findClass_of_methodNamed B.named
  have hlocks := B.notSynchronized
  have E : gs_E p s m ([.ref o, .int t, .int d1] : List Value).toArray c c_Ss_light wW R_Ss := ⟨hx, hb, hw, hown⟩
  have hS : gs_S zb s.heap s.heap [] := va_S.rf
  have hl := lv_entry ([.ref o, .int t, .int d1]) (n := 5) (Nat.le_of_ble_eq_true rfl)
  rw [lg_entry_eq]
  generalize (lg_sl ([.ref o, .int t, .int d1]) ++ List.replicate (5 - (lg_sl ([.ref o, .int t, .int d1])).length) Slot.unset).toArray = ls at hl ⊢
  have hl : lv_has ls 5 [(0, .ref o), (1, .int t), (2, .int d1)] := hl
  refine lv_aload_n hx hb d_Ss_light_0 rfl (lv_at hl 0 rfl) ?_
  refine lv_iload_n hx hb d_Ss_light_1 rfl (lv_at hl 1 rfl) ?_
  refine gs_VX (As := [.int t]) (rest := []) (k_Ss_knownHour l hnt D k zb G o aB aW aH aS aT wn hn nb nw ba wa ha bf hf wf sh tk t hC) E hml hl.1 (cg_V (C := R_Ss) hw w_253 w_250 w_1 w_252 sel_Ss_knownHour hd_Ss_knownHour ⟨by exact Nat.le_of_ble_eq_true rfl, by exact Nat.le_of_ble_eq_true rfl⟩) hG hK hX hS hC.1.1 rfl rfl rfl rfl (by exact Nat.le_of_ble_eq_true rfl) d_Ss_light_2 ⟨by exact Nat.le_of_ble_eq_true rfl, by exact Nat.le_of_ble_eq_true rfl⟩ (fun E9 ce q9 H locs hp hG hS hq1 hq2 hq3 => ?_) (fun v G1 H locs hp hG hS => ?_)
  · exact gs_on ht hlocks (⟨hp.1, Or.inl hp.2⟩) hG hS hq1 hq2 hq3 (by decide) (by decide)
  obtain ⟨ih, hih, eih, hv1, hG1⟩ := hp
  subst hv1
  rw [hG1] at hG
  refine W.eq (g2 := F0 m 5 ls [.ref (ha ih)]) rfl ?_
  refine lv_astore_n (lv' := [(3, .ref (ha ih)), (0, .ref o), (1, .int t), (2, .int d1)]) hx hb d_Ss_light_5 rfl hl (by decide) rfl (fun ls hl => ?_)
  refine lv_iload_n hx hb d_Ss_light_6 rfl (lv_at hl 3 rfl) ?_
  refine lv_iconst (v := 0) hx hb d_Ss_light_7 (by decide) ?_
  refine lv_sipush (v := 1000) hx hb d_Ss_light_8 (by decide) ?_
  refine gs_St (As := [.int d1, .int 0, .int 1000]) (rest := []) (k_Ss_isWithin l D k zb G d1 0 1000) E hml hl.1 (cg_S hw w_229 w_227 w_1 w_228 hd_Ss_isWithin ⟨by exact Nat.le_of_ble_eq_true rfl, by exact Nat.le_of_ble_eq_true rfl⟩) hG hK hX hS rfl rfl (by exact Nat.le_of_ble_eq_true rfl) d_Ss_light_11 ⟨by exact Nat.le_of_ble_eq_true rfl, by exact Nat.le_of_ble_eq_true rfl⟩ (fun v G1 H locs hp hG hS => ?_)
  obtain ⟨hv1, hG1⟩ := hp
  subst hv1
  rw [hG1] at hG
  refine W.eq (g2 := F0 m 14 ls [.int (jc_within d1 0 1000)]) rfl ?_
  refine lv_if_ne (tgt := 27) hx hb d_Ss_light_14 (by decide) (fun c_1 => ?_) (fun c_1 => ?_)
  · refine lv_aload_n hx hb d_Ss_light_27 rfl (lv_at hl 0 rfl) ?_
    refine gs_get E hK.1 hG (hC.2.2.2.2.1 ih hih) (C := R_Hr) (T := F_Hr) (N := 4) rfl i_Hr 3 (by decide) w_48 (v := .int (hf ih 3)) rfl d_Ss_light_28 ?_
    refine lv_topi (fun v_2 ev_2 => ?_)
    refine lv_istore (lv' := [(4, .int v_2), (3, .ref (ha ih)), (0, .ref o), (1, .int t), (2, .int d1)]) hx hb d_Ss_light_31 hl (by decide) rfl (fun ls hl => ?_)
    refine lv_aload_n hx hb d_Ss_light_33 rfl (lv_at hl 1 rfl) ?_
    refine lv_iload_n hx hb d_Ss_light_34 rfl (lv_at hl 4 rfl) ?_
    refine gs_put E hK.1 hG hS (hC.2.2.2.2.1 ih hih) (C := R_Hr) (T := F_Hr) (N := 4) rfl i_Hr t_Hr t_Hr_ok n_Hr 3 (by decide) w_48 rfl (v := .int d1) rfl rfl (Nat.le_of_ble_eq_true rfl) d_Ss_light_35 (fun H locs hG hS => ?_)
    obtain ⟨G_3, eG_3⟩ : ∃ z, z = gs_u G (ha ih) (.inr (1, [.int (hf ih 0), .int (hf ih 1), .int (hf ih 2), .int d1])) := ⟨_, rfl⟩
    have hG : gs_W D classes zb G_3 H := by rw [eG_3]; exact hG
    have hc_4 : G_3 o = some (.inr (3, [.int (nI wn), .int (nI hn), .ref aB, .ref aW, .ref aH, .ref aS, .ref aT, .int (nI nb), .int (nI nw)])) := by rw [eG_3]; exact gs_keep hC.1.1 (hC.2.2.2.2.1 ih hih) (by simp)
    have hc_5 : G_3 (ha ih) = some (.inr (1, [.int (hf ih 0), .int (hf ih 1), .int (hf ih 2), .int d1])) := by rw [eG_3]; exact gs_us _ _ _
    refine lv_iload hx hb d_Ss_light_38 (lv_at hl 0 rfl) ?_
    refine W.widen (k := 2) (n := 12) (by decide) (by decide) ?_
    refine vx_ret ?_
    refine W.iret (v := v_2) hx hb hr (gs_end ⟨ih, hih, eih, c_1, by subst ev_2; rfl, ?_⟩ hG hS) hS.2.2 d_Ss_light_40
    subst ev_2
    simp only [eG_3, gs_uu]
  · exact gs_throwIA (text := "light is 0 .. 1000") hnt E hG hK hX hS ht (hl.1.trans hml.symm) w_103 w_9 (by decide) (⟨rfl, Or.inr c_1⟩) d_Ss_light_17 d_Ss_light_20 d_Ss_light_21 d_Ss_light_23 d_Ss_light_26 (by exact Nat.le_of_ble_eq_true rfl) (by exact Nat.le_of_ble_eq_true rfl) (by exact Nat.le_of_ble_eq_true rfl) (by exact Nat.le_of_ble_eq_true rfl) hlocks (by decide) (by decide)
set_option maxHeartbeats 4000000 in
set_option maxRecDepth 100000 in
theorem k_Ss_move (l : Launch) (hnt : l.stackTraces = false) (D : va_G) (k : Nat → ClassId) (zb : Nat) (G : Nat → Option va_E) (o aB aW aH aS aT : Nat) (wn hn nb nw : Nat) (ba wa ha : Nat → Nat) (bf hf : Nat → Nat → Int32) (wf : Nat → Nat → Nat) (sh : Nat → Int64) (tk : Nat → Int32) (b d1 d2 d3 : Int32) (hC : sC k G o aB aW aH aS aT wn hn nb nw ba wa ha bf hf wf sh tk) : vx_Met l y_Ss_move (wM y_Ss_move c_Ss_move 6 (some .boolean)) ({ frames := 7, cells := 2, slots := 12, locals := 112 }) (gs_P D k zb G [.ref o, .int b, .int d1, .int d2, .int d3]) (gs_Q D zb (fun v G1 => ∃ i : Nat, i < nb ∧ b = nI i ∧ (¬ jc_within d1 (-300) 300 = 0 ∧ ¬ jc_within d2 (-300) 300 = 0 ∧ ¬ jc_within d3 (-300) 300 = 0) ∧ ((jc_allowed (bf i 0 + d1) (bf i 1 + d2) (bf i 2 + d3) (bf i 3 + d1) (bf i 4 + d2) (bf i 5 + d3) = 0 ∧ v = some (.int 0) ∧ G1 = G) ∨ (¬ jc_allowed (bf i 0 + d1) (bf i 1 + d2) (bf i 2 + d3) (bf i 3 + d1) (bf i 4 + d2) (bf i 5 + d3) = 0 ∧ v = some (.int 1) ∧ G1 = gs_u G (ba i) (.inr (0, [.int (bf i 0 + d1), .int (bf i 1 + d2), .int (bf i 2 + d3), .int (bf i 3 + d1), .int (bf i 4 + d2), .int (bf i 5 + d3), .int (bf i 6)])))))) (gs_T D zb G (fun E => E = e_IA ∧ ((¬ ∃ i : Nat, i < nb ∧ b = nI i) ∨ jc_within d1 (-300) 300 = 0 ∨ jc_within d2 (-300) 300 = 0 ∨ jc_within d3 (-300) 300 = 0))) 2 12 (fun q : Nat => zb ≤ q) := by
  refine vx_ofW (cc := c_Ss_move) (maxL := 6) (ret := (some .boolean)) (by decide) rfl ?_
  intro p e s m args below meth c s₁ B hml ht hv
  obtain ⟨rfl, hG, hK, hX⟩ := hv
  have hx := B.exec
  have hb := B.bytes
  have hr := B.returns
  have hts := atoms_spec (ws := wM y_Ss_move c_Ss_move 6 (some .boolean)) B.pre
  have hw : ∀ w9 ∈ wW, w9.before ([.ref o, .int b, .int d1, .int d2, .int d3] : List Value).toArray s = true := fun w9 h9 => hts w9 (gi_in w9 h9)
  have hown : s.vm.findClass R_Ss = some m.cls := findClass_of_methodNamed B.named
  have hlocks := B.notSynchronized
  have E : gs_E p s m ([.ref o, .int b, .int d1, .int d2, .int d3] : List Value).toArray c c_Ss_move wW R_Ss := ⟨hx, hb, hw, hown⟩
  have hS : gs_S zb s.heap s.heap [] := va_S.rf
  have hl := lv_entry ([.ref o, .int b, .int d1, .int d2, .int d3]) (n := 6) (Nat.le_of_ble_eq_true rfl)
  rw [lg_entry_eq]
  generalize (lg_sl ([.ref o, .int b, .int d1, .int d2, .int d3]) ++ List.replicate (6 - (lg_sl ([.ref o, .int b, .int d1, .int d2, .int d3])).length) Slot.unset).toArray = ls at hl ⊢
  have hl : lv_has ls 6 [(0, .ref o), (1, .int b), (2, .int d1), (3, .int d2), (4, .int d3)] := hl
  refine lv_aload_n hx hb d_Ss_move_0 rfl (lv_at hl 0 rfl) ?_
  refine lv_iload_n hx hb d_Ss_move_1 rfl (lv_at hl 1 rfl) ?_
  refine gs_VX (As := [.int b]) (rest := []) (k_Ss_knownBox l hnt D k zb G o aB aW aH aS aT wn hn nb nw ba wa ha bf hf wf sh tk b hC) E hml hl.1 (cg_V (C := R_Ss) hw w_225 w_222 w_1 w_224 sel_Ss_knownBox hd_Ss_knownBox ⟨by exact Nat.le_of_ble_eq_true rfl, by exact Nat.le_of_ble_eq_true rfl⟩) hG hK hX hS hC.1.1 rfl rfl rfl rfl (by exact Nat.le_of_ble_eq_true rfl) d_Ss_move_2 ⟨by exact Nat.le_of_ble_eq_true rfl, by exact Nat.le_of_ble_eq_true rfl⟩ (fun E9 ce q9 H locs hp hG hS hq1 hq2 hq3 => ?_) (fun v G1 H locs hp hG hS => ?_)
  · exact gs_on ht hlocks (⟨hp.1, Or.inl hp.2⟩) hG hS hq1 hq2 hq3 (by decide) (by decide)
  obtain ⟨ib, hib, eib, hv1, hG1⟩ := hp
  subst hv1
  rw [hG1] at hG
  refine W.eq (g2 := F0 m 5 ls [.ref (ba ib)]) rfl ?_
  refine lv_astore (lv' := [(5, .ref (ba ib)), (0, .ref o), (1, .int b), (2, .int d1), (3, .int d2), (4, .int d3)]) hx hb d_Ss_move_5 hl (by decide) rfl (fun ls hl => ?_)
  refine lv_iload_n hx hb d_Ss_move_7 rfl (lv_at hl 3 rfl) ?_
  refine lv_sipush (v := (-300)) hx hb d_Ss_move_8 (by decide) ?_
  refine lv_sipush (v := 300) hx hb d_Ss_move_11 (by decide) ?_
  refine gs_St (As := [.int d1, .int (-300), .int 300]) (rest := []) (k_Ss_isWithin l D k zb G d1 (-300) 300) E hml hl.1 (cg_S hw w_229 w_227 w_1 w_228 hd_Ss_isWithin ⟨by exact Nat.le_of_ble_eq_true rfl, by exact Nat.le_of_ble_eq_true rfl⟩) hG hK hX hS rfl rfl (by exact Nat.le_of_ble_eq_true rfl) d_Ss_move_14 ⟨by exact Nat.le_of_ble_eq_true rfl, by exact Nat.le_of_ble_eq_true rfl⟩ (fun v G1 H locs hp hG hS => ?_)
  obtain ⟨hv1, hG1⟩ := hp
  subst hv1
  rw [hG1] at hG
  refine W.eq (g2 := F0 m 17 ls [.int (jc_within d1 (-300) 300)]) rfl ?_
  refine lv_if_eq (tgt := 47) hx hb d_Ss_move_17 (by decide) (fun c_1 => ?_) (fun c_1 => ?_)
  · exact gs_throwIA (text := "a box moves by -300 .. 300") hnt E hG hK hX hS ht (hl.1.trans hml.symm) w_103 w_9 (by decide) (⟨rfl, Or.inr (Or.inl c_1)⟩) d_Ss_move_47 d_Ss_move_50 d_Ss_move_51 d_Ss_move_53 d_Ss_move_56 (by exact Nat.le_of_ble_eq_true rfl) (by exact Nat.le_of_ble_eq_true rfl) (by exact Nat.le_of_ble_eq_true rfl) (by exact Nat.le_of_ble_eq_true rfl) hlocks (by decide) (by decide)
  · refine lv_iload_n hx hb d_Ss_move_20 rfl (lv_at hl 4 rfl) ?_
    refine lv_sipush (v := (-300)) hx hb d_Ss_move_21 (by decide) ?_
    refine lv_sipush (v := 300) hx hb d_Ss_move_24 (by decide) ?_
    refine gs_St (As := [.int d2, .int (-300), .int 300]) (rest := []) (k_Ss_isWithin l D k zb G d2 (-300) 300) E hml hl.1 (cg_S hw w_229 w_227 w_1 w_228 hd_Ss_isWithin ⟨by exact Nat.le_of_ble_eq_true rfl, by exact Nat.le_of_ble_eq_true rfl⟩) hG hK hX hS rfl rfl (by exact Nat.le_of_ble_eq_true rfl) d_Ss_move_27 ⟨by exact Nat.le_of_ble_eq_true rfl, by exact Nat.le_of_ble_eq_true rfl⟩ (fun v G1 H locs hp hG hS => ?_)
    obtain ⟨hv1, hG1⟩ := hp
    subst hv1
    rw [hG1] at hG
    refine W.eq (g2 := F0 m 30 ls [.int (jc_within d2 (-300) 300)]) rfl ?_
    refine lv_if_eq (tgt := 47) hx hb d_Ss_move_30 (by decide) (fun c_2 => ?_) (fun c_2 => ?_)
    · exact gs_throwIA (text := "a box moves by -300 .. 300") hnt E hG hK hX hS ht (hl.1.trans hml.symm) w_103 w_9 (by decide) (⟨rfl, Or.inr (Or.inr (Or.inl c_2))⟩) d_Ss_move_47 d_Ss_move_50 d_Ss_move_51 d_Ss_move_53 d_Ss_move_56 (by exact Nat.le_of_ble_eq_true rfl) (by exact Nat.le_of_ble_eq_true rfl) (by exact Nat.le_of_ble_eq_true rfl) (by exact Nat.le_of_ble_eq_true rfl) hlocks (by decide) (by decide)
    · refine lv_iload hx hb d_Ss_move_33 (lv_at hl 5 rfl) ?_
      refine lv_sipush (v := (-300)) hx hb d_Ss_move_35 (by decide) ?_
      refine lv_sipush (v := 300) hx hb d_Ss_move_38 (by decide) ?_
      refine gs_St (As := [.int d3, .int (-300), .int 300]) (rest := []) (k_Ss_isWithin l D k zb G d3 (-300) 300) E hml hl.1 (cg_S hw w_229 w_227 w_1 w_228 hd_Ss_isWithin ⟨by exact Nat.le_of_ble_eq_true rfl, by exact Nat.le_of_ble_eq_true rfl⟩) hG hK hX hS rfl rfl (by exact Nat.le_of_ble_eq_true rfl) d_Ss_move_41 ⟨by exact Nat.le_of_ble_eq_true rfl, by exact Nat.le_of_ble_eq_true rfl⟩ (fun v G1 H locs hp hG hS => ?_)
      obtain ⟨hv1, hG1⟩ := hp
      subst hv1
      rw [hG1] at hG
      refine W.eq (g2 := F0 m 44 ls [.int (jc_within d3 (-300) 300)]) rfl ?_
      refine lv_if_ne (tgt := 57) hx hb d_Ss_move_44 (by decide) (fun c_3 => ?_) (fun c_3 => ?_)
      · refine lv_aload hx hb d_Ss_move_57 (lv_at hl 0 rfl) ?_
        refine lv_iload_n hx hb d_Ss_move_59 rfl (lv_at hl 3 rfl) ?_
        refine lv_iload_n hx hb d_Ss_move_60 rfl (lv_at hl 4 rfl) ?_
        refine lv_iload hx hb d_Ss_move_61 (lv_at hl 5 rfl) ?_
        refine gs_V (As := [.int d1, .int d2, .int d3]) (rest := []) (k_Bx_shiftIfAllowed l D k zb G (ba ib) (bf ib 0) (bf ib 1) (bf ib 2) (bf ib 3) (bf ib 4) (bf ib 5) (bf ib 6) d1 d2 d3 (hC.2.2.1 ib hib)) E hml hl.1 (cg_V (C := R_Bx) hw w_234 w_231 w_5 w_232 sel_Bx_shiftIfAllowed hd_Bx_shiftIfAllowed ⟨by exact Nat.le_of_ble_eq_true rfl, by exact Nat.le_of_ble_eq_true rfl⟩) hG hK hX hS (hC.2.2.1 ib hib) rfl rfl rfl rfl (by exact Nat.le_of_ble_eq_true rfl) d_Ss_move_63 ⟨by exact Nat.le_of_ble_eq_true rfl, by exact Nat.le_of_ble_eq_true rfl⟩ (fun v G1 H locs hp hG hS => ?_)
        rcases hp with ⟨hz1, hv1, hG1⟩ | ⟨hz1, hv1, hG1⟩
        · subst hv1
          refine W.eq (g2 := F0 m 66 ls [.int 0]) rfl ?_
          refine W.widen (k := 2) (n := 12) (by decide) (by decide) ?_
          refine vx_ret ?_
          exact W.zret (v := 0) hx hb hr (by decide) (gs_end ⟨ib, hib, eib, ⟨c_1, c_2, c_3⟩, Or.inl ⟨hz1, rfl, hG1⟩⟩ hG hS) hS.2.2 d_Ss_move_66
        · subst hv1
          refine W.eq (g2 := F0 m 66 ls [.int 1]) rfl ?_
          refine W.widen (k := 2) (n := 12) (by decide) (by decide) ?_
          refine vx_ret ?_
          exact W.zret (v := 1) hx hb hr (by decide) (gs_end ⟨ib, hib, eib, ⟨c_1, c_2, c_3⟩, Or.inr ⟨hz1, rfl, hG1⟩⟩ hG hS) hS.2.2 d_Ss_move_66
      · exact gs_throwIA (text := "a box moves by -300 .. 300") hnt E hG hK hX hS ht (hl.1.trans hml.symm) w_103 w_9 (by decide) (⟨rfl, Or.inr (Or.inr (Or.inr c_3))⟩) d_Ss_move_47 d_Ss_move_50 d_Ss_move_51 d_Ss_move_53 d_Ss_move_56 (by exact Nat.le_of_ble_eq_true rfl) (by exact Nat.le_of_ble_eq_true rfl) (by exact Nat.le_of_ble_eq_true rfl) (by exact Nat.le_of_ble_eq_true rfl) hlocks (by decide) (by decide)
end
section
/-! the search for the depth; the boxes' own shades -/
def jc_tl (dk : Int32 → Int32) (cs : Int32) : Nat → Nat → Int32 → Int32
  | 0, _, tl => tl
  | f + 1, s, tl => if s = 0 then tl else if 100 < tl + nI s then jc_tl dk cs f (s / 2) tl else if cs ≤ dk (tl + nI s) then jc_tl dk cs f (s / 2) tl else jc_tl dk cs f (s / 2) (tl + nI s)
theorem jc_tl_0 (dk : Int32 → Int32) (cs : Int32) (f : Nat) (tl : Int32) : jc_tl dk cs f 0 tl = tl := by
  cases f with
  | zero => rfl
  | succ f => rw [jc_tl, if_pos rfl]
theorem jc_tl_s (dk : Int32 → Int32) (cs : Int32) (f s : Nat) (tl : Int32) (hs : ¬ s = 0) : jc_tl dk cs (f + 1) s tl = if 100 < tl + nI s then jc_tl dk cs f (s / 2) tl else if cs ≤ dk (tl + nI s) then jc_tl dk cs f (s / 2) tl else jc_tl dk cs f (s / 2) (tl + nI s) := by
  rw [jc_tl, if_neg hs]
def jc_shi (nb : Nat) (bf : Nat → Nat → Int32) (X Y Z y w : Int32) (i : Nat) : Int64 := if i < nb then jc_shade (bf i 6) (bf i 0) (bf i 1) (bf i 2) (bf i 3) (bf i 4) (bf i 5) X Y Z y w else 0
def jc_one (f : Nat → Int64) : Nat → Int64
  | 0 => 0
  | i + 1 => jc_one f i ||| f i
def jc_more (f : Nat → Int64) : Nat → Int64
  | 0 => 0
  | i + 1 => jc_more f i ||| (jc_one f i &&& f i)
def jc_alone (f : Nat → Int64) : Int64 := jc_one f 10 &&& (jc_more f 10 ^^^ (-1))
theorem lt_nI {a b : Nat} (ha : a < 2 ^ 31) (hb : b < 2 ^ 31) (h : nI a < nI b) : a < b := (nI_ltI ha hb).mp h
theorem nlt_nI {a b : Nat} (hb : b < 2 ^ 31) (h : ¬ nI a < nI b) : ¬ a < b := fun q => h (nI_lt q hb)
theorem pos_nI {s : Nat} (hs : s < 2 ^ 31) (h : ¬ nI s ≤ 0) : ¬ s = 0 := fun q => h (by rw [q]; decide)
theorem npos_nI {s : Nat} (hs : s < 2 ^ 31) (h : nI s ≤ 0) : s = 0 := by
  rcases Nat.eq_zero_or_pos s with q | q
  · exact q
  · exact absurd h (nI_nle q hs)
end
section
/-! contracts, by program -/
set_option maxHeartbeats 4000000 in
set_option maxRecDepth 100000 in
theorem k_Ss_box (l : Launch) (hnt : l.stackTraces = false) (D : va_G) (k : Nat → ClassId) (zb : Nat) (G : Nat → Option va_E) (o aB aW aH aS aT : Nat) (wn hn nb nw : Nat) (ba wa ha : Nat → Nat) (bf hf : Nat → Nat → Int32) (wf : Nat → Nat → Nat) (sh : Nat → Int64) (tk : Nat → Int32) (x0 y0 z0 x1 y1 z1 : Int32) (hC : sC k G o aB aW aH aS aT wn hn nb nw ba wa ha bf hf wf sh tk) : vx_Met l y_Ss_box (wM y_Ss_box c_Ss_box 8 (some .int)) ({ frames := 6, cells := 1, slots := 7, locals := 90 }) (gs_P D k zb G [.ref o, .int x0, .int y0, .int z0, .int x1, .int y1, .int z1]) (gs_Q D zb (fun v G1 => ∃ q : Nat, nb < 10 ∧ ¬ jc_allowed x0 y0 z0 x1 y1 z1 = 0 ∧ G q = none ∧ v = some (.int (nI nb)) ∧ G1 = gs_u (gs_u (gs_u G q (.inr (0, [.int x0, .int y0, .int z0, .int x1, .int y1, .int z1, .int 1]))) aB (aRef (k 3) 10 (va_up (upTo nb ba) nb (some q)))) o (oSs wn hn aB aW aH aS aT (nb + 1) nw))) (gs_T D zb G (fun E => (E = e_IA ∧ jc_allowed x0 y0 z0 x1 y1 z1 = 0) ∨ (E = e_IS ∧ ¬ jc_allowed x0 y0 z0 x1 y1 z1 = 0 ∧ ¬ nb < 10))) 1 7 (fun q : Nat => zb ≤ q) := by
  refine vx_ofW (cc := c_Ss_box) (maxL := 8) (ret := (some .int)) (by decide) rfl ?_
  intro p e s m args below meth c s₁ B hml ht hv
  obtain ⟨rfl, hG, hK, hX⟩ := hv
  have hx := B.exec
  have hb := B.bytes
  have hr := B.returns
  have hts := atoms_spec (ws := wM y_Ss_box c_Ss_box 8 (some .int)) B.pre
  have hw : ∀ w9 ∈ wW, w9.before ([.ref o, .int x0, .int y0, .int z0, .int x1, .int y1, .int z1] : List Value).toArray s = true := fun w9 h9 => hts w9 (gi_in w9 h9)
  have hown : s.vm.findClass R_Ss = some m.cls := findClass_of_methodNamed B.named
  have hlocks := B.notSynchronized
  have E : gs_E p s m ([.ref o, .int x0, .int y0, .int z0, .int x1, .int y1, .int z1] : List Value).toArray c c_Ss_box wW R_Ss := ⟨hx, hb, hw, hown⟩
  have hS : gs_S zb s.heap s.heap [] := va_S.rf
  have hl := lv_entry ([.ref o, .int x0, .int y0, .int z0, .int x1, .int y1, .int z1]) (n := 8) (Nat.le_of_ble_eq_true rfl)
  rw [lg_entry_eq]
  generalize (lg_sl ([.ref o, .int x0, .int y0, .int z0, .int x1, .int y1, .int z1]) ++ List.replicate (8 - (lg_sl ([.ref o, .int x0, .int y0, .int z0, .int x1, .int y1, .int z1])).length) Slot.unset).toArray = ls at hl ⊢
  have hl : lv_has ls 8 [(0, .ref o), (1, .int x0), (2, .int y0), (3, .int z0), (4, .int x1), (5, .int y1), (6, .int z1)] := hl
  refine lv_iload_n hx hb d_Ss_box_0 rfl (lv_at hl 1 rfl) ?_
  refine lv_iload_n hx hb d_Ss_box_1 rfl (lv_at hl 2 rfl) ?_
  refine lv_iload_n hx hb d_Ss_box_2 rfl (lv_at hl 3 rfl) ?_
  refine lv_iload hx hb d_Ss_box_3 (lv_at hl 4 rfl) ?_
  refine lv_iload hx hb d_Ss_box_5 (lv_at hl 5 rfl) ?_
  refine lv_iload hx hb d_Ss_box_7 (lv_at hl 6 rfl) ?_
  refine gs_St (As := [.int x0, .int y0, .int z0, .int x1, .int y1, .int z1]) (rest := []) (k_Bx_isAllowed l D k zb G x0 y0 z0 x1 y1 z1) E hml hl.1 (cg_S hw w_102 w_100 w_5 w_101 hd_Bx_isAllowed ⟨by exact Nat.le_of_ble_eq_true rfl, by exact Nat.le_of_ble_eq_true rfl⟩) hG hK hX hS rfl rfl (by exact Nat.le_of_ble_eq_true rfl) d_Ss_box_9 ⟨by exact Nat.le_of_ble_eq_true rfl, by exact Nat.le_of_ble_eq_true rfl⟩ (fun v G1 H locs hp hG hS => ?_)
  obtain ⟨hv1, hG1⟩ := hp
  subst hv1
  rw [hG1] at hG
  refine W.eq (g2 := F0 m 12 ls [.int (jc_allowed x0 y0 z0 x1 y1 z1)]) rfl ?_
  refine lv_if_ne (tgt := 25) hx hb d_Ss_box_12 (by decide) (fun c_1 => ?_) (fun c_1 => ?_)
  · refine lv_aload_n hx hb d_Ss_box_25 rfl (lv_at hl 0 rfl) ?_
    refine gs_get E hK.1 hG hC.1.1 (C := R_Ss) (T := F_Ss) (N := 9) rfl i_Ss 7 (by decide) w_67 (v := .int (nI nb)) rfl d_Ss_box_26 ?_
    refine lv_aload_n hx hb d_Ss_box_29 rfl (lv_at hl 0 rfl) ?_
    refine gs_get E hK.1 hG hC.1.1 (C := R_Ss) (T := F_Ss) (N := 9) rfl i_Ss 2 (by decide) w_62 (v := .ref aB) rfl d_Ss_box_30 ?_
    refine gs_alen E hK.1 hG hC.1.2.1 3 rfl (v := 10) rfl d_Ss_box_33 ?_
    refine lv_icmp_lt (tgt := 47) hx hb d_Ss_box_34 (by decide) (fun c_2 => ?_) (fun c_2 => ?_)
    · have h10 : nb < 10 := lt_nI (b := 10) (by have := hC.2.1; omega) (by decide) c_2
      refine lv_aload_n hx hb d_Ss_box_47 rfl (lv_at hl 0 rfl) ?_
      refine gs_get E hK.1 hG hC.1.1 (C := R_Ss) (T := F_Ss) (N := 9) rfl i_Ss 7 (by decide) w_67 (v := .int (nI nb)) rfl d_Ss_box_48 ?_
      refine lv_istore (lv' := [(7, .int (nI nb)), (0, .ref o), (1, .int x0), (2, .int y0), (3, .int z0), (4, .int x1), (5, .int y1), (6, .int z1)]) hx hb d_Ss_box_51 hl (by decide) rfl (fun ls hl => ?_)
      refine lv_aload_n hx hb d_Ss_box_53 rfl (lv_at hl 1 rfl) ?_
      refine gs_get E hK.1 hG hC.1.1 (C := R_Ss) (T := F_Ss) (N := 9) rfl i_Ss 2 (by decide) w_62 (v := .ref aB) rfl d_Ss_box_54 ?_
      refine lv_iload hx hb d_Ss_box_57 (lv_at hl 0 rfl) ?_
      refine gs_new E hK.1 hG hS (C := R_Bx) (T := F_Bx) (N := 7) (ci := 0) (fs := [.int 0, .int 0, .int 0, .int 0, .int 0, .int 0, .int 0]) rfl i_Bx t_Bx t_Bx_ok w_21 w_186 w_5 (fun j hj => by rcases (show j = 0 ∨ j = 1 ∨ j = 2 ∨ j = 3 ∨ j = 4 ∨ j = 5 ∨ j = 6 by omega) with rfl | rfl | rfl | rfl | rfl | rfl | rfl <;> rfl) (by exact Nat.le_of_ble_eq_true rfl) (by exact Nat.le_of_ble_eq_true rfl) d_Ss_box_59 (fun H_4 hG9 hS9 => ?_)
      have hfq_3 : G H.size = none := hG.fresh
      obtain ⟨q_3, eq_3⟩ : ∃ z : Nat, z = H.size := ⟨_, rfl⟩
      rw [← eq_3] at hG9 hfq_3 ⊢
      obtain ⟨G_5, eG_5⟩ : ∃ z, z = gs_u G q_3 (.inr (0, [.int 0, .int 0, .int 0, .int 0, .int 0, .int 0, .int 0])) := ⟨_, rfl⟩
      have hG : gs_W D classes zb G_5 H_4 := by rw [eG_5]; exact hG9
      have hS := hS9
      have hc_6 : G_5 o = some (.inr (3, [.int (nI wn), .int (nI hn), .ref aB, .ref aW, .ref aH, .ref aS, .ref aT, .int (nI nb), .int (nI nw)])) := by rw [eG_5]; exact gs_keepN hC.1.1 hfq_3
      have hc_7 : G_5 aB = some (aRef (k 3) 10 (upTo nb ba)) := by rw [eG_5]; exact gs_keepN hC.1.2.1 hfq_3
      have hc_8 : G_5 q_3 = some (.inr (0, [.int 0, .int 0, .int 0, .int 0, .int 0, .int 0, .int 0])) := by rw [eG_5]; exact gs_us _ _ _
      refine W.eq (g2 := F0 m 62 ls [.ref q_3, .int (nI nb), .ref aB]) rfl ?_
      refine lv_dup hx hb d_Ss_box_62 rfl ?_
      refine lv_iload_n hx hb d_Ss_box_63 rfl (lv_at hl 2 rfl) ?_
      refine lv_iload_n hx hb d_Ss_box_64 rfl (lv_at hl 3 rfl) ?_
      refine lv_iload_n hx hb d_Ss_box_65 rfl (lv_at hl 4 rfl) ?_
      refine lv_iload hx hb d_Ss_box_66 (lv_at hl 5 rfl) ?_
      refine lv_iload hx hb d_Ss_box_68 (lv_at hl 6 rfl) ?_
      refine lv_iload hx hb d_Ss_box_70 (lv_at hl 7 rfl) ?_
      refine gs_I (As := [.int x0, .int y0, .int z0, .int x1, .int y1, .int z1]) (rest := [.ref q_3, .int (nI nb), .ref aB]) (k_Bx_init l D k zb G_5 q_3 x0 y0 z0 x1 y1 z1 hc_8) E hml hl.1 (cg_I hw w_189 w_187 w_5 w_188 rfl hd_Bx_init ⟨by exact Nat.le_of_ble_eq_true rfl, by exact Nat.le_of_ble_eq_true rfl⟩) hG hK hX hS rfl rfl (by exact Nat.le_of_ble_eq_true rfl) d_Ss_box_72 ⟨by exact Nat.le_of_ble_eq_true rfl, by exact Nat.le_of_ble_eq_true rfl⟩ (fun v G1 H locs hp hG hS => ?_)
      obtain ⟨hv1, hG1⟩ := hp
      subst hv1
      rw [hG1] at hG
      obtain ⟨G_9, eG_9⟩ : ∃ z, z = gs_u G_5 q_3 (.inr (0, [.int x0, .int y0, .int z0, .int x1, .int y1, .int z1, .int 1])) := ⟨_, rfl⟩
      have hG : gs_W D classes zb G_9 H := by rw [eG_9]; exact hG
      have hc_10 : G_9 o = some (.inr (3, [.int (nI wn), .int (nI hn), .ref aB, .ref aW, .ref aH, .ref aS, .ref aT, .int (nI nb), .int (nI nw)])) := by rw [eG_9]; exact gs_keep hc_6 hc_8 (by simp)
      have hc_11 : G_9 aB = some (aRef (k 3) 10 (upTo nb ba)) := by rw [eG_9]; exact gs_keep hc_7 hc_8 (by simp)
      have hc_12 : G_9 q_3 = some (.inr (0, [.int x0, .int y0, .int z0, .int x1, .int y1, .int z1, .int 1])) := by rw [eG_9]; exact gs_us _ _ _
      refine W.eq (g2 := F0 m 75 ls [.ref q_3, .int (nI nb), .ref aB]) rfl ?_
      refine gn_astq E hK.1 hG hS hc_11 3 (r := (R_Bx, F_Bx, 7)) rfl hc_12 rfl (j := nb) h10 (by decide) d_Ss_box_75 (fun H locs hG hS => ?_)
      obtain ⟨G_13, eG_13⟩ : ∃ z, z = gs_u G_9 aB (aRef (k 3) 10 (va_up (upTo nb ba) nb (some q_3))) := ⟨_, rfl⟩
      have hG : gs_W D classes zb G_13 H := by rw [eG_13]; exact hG
      have hc_14 : G_13 o = some (.inr (3, [.int (nI wn), .int (nI hn), .ref aB, .ref aW, .ref aH, .ref aS, .ref aT, .int (nI nb), .int (nI nw)])) := by rw [eG_13]; exact gs_keep hc_10 hc_11 (by simp)
      have hc_15 : G_13 q_3 = some (.inr (0, [.int x0, .int y0, .int z0, .int x1, .int y1, .int z1, .int 1])) := by rw [eG_13]; exact gs_keep hc_12 hc_11 (by simp)
      have hc_16 : G_13 aB = some (aRef (k 3) 10 (va_up (upTo nb ba) nb (some q_3))) := by rw [eG_13]; exact gs_us _ _ _
      refine lv_aload_n hx hb d_Ss_box_76 rfl (lv_at hl 1 rfl) ?_
      refine lv_iload hx hb d_Ss_box_77 (lv_at hl 0 rfl) ?_
      refine lv_iconst (v := 1) hx hb d_Ss_box_79 (by decide) ?_
      refine lv_iadd hx hb d_Ss_box_80 ?_
      refine lv_topi (fun v_17 ev_17 => ?_)
      refine gs_put E hK.1 hG hS hc_14 (C := R_Ss) (T := F_Ss) (N := 9) rfl i_Ss t_Ss t_Ss_ok n_Ss 7 (by decide) w_67 rfl (v := .int v_17) rfl rfl (Nat.le_of_ble_eq_true rfl) d_Ss_box_81 (fun H locs hG hS => ?_)
      obtain ⟨G_18, eG_18⟩ : ∃ z, z = gs_u G_13 o (.inr (3, [.int (nI wn), .int (nI hn), .ref aB, .ref aW, .ref aH, .ref aS, .ref aT, .int v_17, .int (nI nw)])) := ⟨_, rfl⟩
      have hG : gs_W D classes zb G_18 H := by rw [eG_18]; exact hG
      have hc_19 : G_18 aB = some (aRef (k 3) 10 (va_up (upTo nb ba) nb (some q_3))) := by rw [eG_18]; exact gs_keep hc_16 hc_14 (by simp)
      have hc_20 : G_18 q_3 = some (.inr (0, [.int x0, .int y0, .int z0, .int x1, .int y1, .int z1, .int 1])) := by rw [eG_18]; exact gs_keep hc_15 hc_14 (by simp)
      have hc_21 : G_18 o = some (.inr (3, [.int (nI wn), .int (nI hn), .ref aB, .ref aW, .ref aH, .ref aS, .ref aT, .int v_17, .int (nI nw)])) := by rw [eG_18]; exact gs_us _ _ _
      refine lv_iload hx hb d_Ss_box_84 (lv_at hl 0 rfl) ?_
      refine vx_ret ?_
      refine W.iret (v := (nI nb)) hx hb hr (gs_end ⟨q_3, h10, c_1, hfq_3, rfl, ?_⟩ hG hS) hS.2.2 d_Ss_box_86
      subst ev_17
      simp only [eG_18, eG_13, eG_9, eG_5, gs_uu, nI_1]
    · have h10 : ¬ nb < 10 := nlt_nI (b := 10) (by decide) c_2
      exact gs_throwIS (text := "there are 10 boxes") hnt E hG hK hX hS ht (hl.1.trans hml.symm) w_170 w_10 (by decide) (Or.inr ⟨rfl, c_1, h10⟩) d_Ss_box_37 d_Ss_box_40 d_Ss_box_41 d_Ss_box_43 d_Ss_box_46 (by exact Nat.le_of_ble_eq_true rfl) (by exact Nat.le_of_ble_eq_true rfl) (by exact Nat.le_of_ble_eq_true rfl) (by exact Nat.le_of_ble_eq_true rfl) hlocks (by decide) (by decide)
  · exact gs_throwIA (text := "not a box within the bounds") hnt E hG hK hX hS ht (hl.1.trans hml.symm) w_103 w_9 (by decide) (Or.inl ⟨rfl, c_1⟩) d_Ss_box_15 d_Ss_box_18 d_Ss_box_19 d_Ss_box_21 d_Ss_box_24 (by exact Nat.le_of_ble_eq_true rfl) (by exact Nat.le_of_ble_eq_true rfl) (by exact Nat.le_of_ble_eq_true rfl) (by exact Nat.le_of_ble_eq_true rfl) hlocks (by decide) (by decide)
set_option maxHeartbeats 4000000 in
set_option maxRecDepth 100000 in
theorem k_Ss_window (l : Launch) (hnt : l.stackTraces = false) (D : va_G) (k : Nat → ClassId) (zb : Nat) (G : Nat → Option va_E) (o aB aW aH aS aT : Nat) (wn hn nb nw : Nat) (ba wa ha : Nat → Nat) (bf hf : Nat → Nat → Int32) (wf : Nat → Nat → Nat) (sh : Nat → Int64) (tk : Nat → Int32) (u0 v0 u1 v1 : Int32) (hC : sC k G o aB aW aH aS aT wn hn nb nw ba wa ha bf hf wf sh tk) : vx_Met l y_Ss_window (wM y_Ss_window c_Ss_window 6 (some .int)) ({ frames := 6, cells := 1, slots := 6, locals := 90 }) (gs_P D k zb G [.ref o, .int u0, .int v0, .int u1, .int v1]) (gs_Q D zb (fun v G1 => ∃ q : Nat, nw < 10 ∧ (0 ≤ u0 ∧ u0 < u1 ∧ u1 ≤ nI wn ∧ 0 ≤ v0 ∧ v0 < v1 ∧ v1 ≤ nI hn) ∧ G q = none ∧ v = some (.int (nI nw)) ∧ G1 = gs_u (gs_u (gs_u G q (.inr (2, [.int u0, .int v0, .int u1, .int v1]))) aW (aRef (k 4) 10 (va_up (upTo nw wa) nw (some q)))) o (oSs wn hn aB aW aH aS aT nb (nw + 1)))) (gs_T D zb G (fun E => (E = e_IA ∧ ¬ (0 ≤ u0 ∧ u0 < u1 ∧ u1 ≤ nI wn ∧ 0 ≤ v0 ∧ v0 < v1 ∧ v1 ≤ nI hn)) ∨ (E = e_IS ∧ (0 ≤ u0 ∧ u0 < u1 ∧ u1 ≤ nI wn ∧ 0 ≤ v0 ∧ v0 < v1 ∧ v1 ≤ nI hn) ∧ ¬ nw < 10))) 1 6 (fun q : Nat => zb ≤ q) := by
  refine vx_ofW (cc := c_Ss_window) (maxL := 6) (ret := (some .int)) (by decide) rfl ?_
  intro p e s m args below meth c s₁ B hml ht hv
  obtain ⟨rfl, hG, hK, hX⟩ := hv
  have hx := B.exec
  have hb := B.bytes
  have hr := B.returns
  have hts := atoms_spec (ws := wM y_Ss_window c_Ss_window 6 (some .int)) B.pre
  have hw : ∀ w9 ∈ wW, w9.before ([.ref o, .int u0, .int v0, .int u1, .int v1] : List Value).toArray s = true := fun w9 h9 => hts w9 (gi_in w9 h9)
  have hown : s.vm.findClass R_Ss = some m.cls := findClass_of_methodNamed B.named
  have hlocks := B.notSynchronized
  have E : gs_E p s m ([.ref o, .int u0, .int v0, .int u1, .int v1] : List Value).toArray c c_Ss_window wW R_Ss := ⟨hx, hb, hw, hown⟩
  have hS : gs_S zb s.heap s.heap [] := va_S.rf
  have hl := lv_entry ([.ref o, .int u0, .int v0, .int u1, .int v1]) (n := 6) (Nat.le_of_ble_eq_true rfl)
  rw [lg_entry_eq]
  generalize (lg_sl ([.ref o, .int u0, .int v0, .int u1, .int v1]) ++ List.replicate (6 - (lg_sl ([.ref o, .int u0, .int v0, .int u1, .int v1])).length) Slot.unset).toArray = ls at hl ⊢
  have hl : lv_has ls 6 [(0, .ref o), (1, .int u0), (2, .int v0), (3, .int u1), (4, .int v1)] := hl
  refine lv_iload_n hx hb d_Ss_window_0 rfl (lv_at hl 1 rfl) ?_
  refine lv_if_lt (tgt := 36) hx hb d_Ss_window_1 (by decide) (fun c_1 => ?_) (fun c_1 => ?_)
  · exact gs_throwIA (text := "not a window within the wall") hnt E hG hK hX hS ht (hl.1.trans hml.symm) w_103 w_9 (by decide) (Or.inl ⟨rfl, fun q => absurd q (by simp only [i_lt, i_le] at *; omega)⟩) d_Ss_window_36 d_Ss_window_39 d_Ss_window_40 d_Ss_window_42 d_Ss_window_45 (by exact Nat.le_of_ble_eq_true rfl) (by exact Nat.le_of_ble_eq_true rfl) (by exact Nat.le_of_ble_eq_true rfl) (by exact Nat.le_of_ble_eq_true rfl) hlocks (by decide) (by decide)
  · refine lv_iload_n hx hb d_Ss_window_4 rfl (lv_at hl 1 rfl) ?_
    refine lv_iload_n hx hb d_Ss_window_5 rfl (lv_at hl 3 rfl) ?_
    refine lv_icmp_ge (tgt := 36) hx hb d_Ss_window_6 (by decide) (fun c_2 => ?_) (fun c_2 => ?_)
    · exact gs_throwIA (text := "not a window within the wall") hnt E hG hK hX hS ht (hl.1.trans hml.symm) w_103 w_9 (by decide) (Or.inl ⟨rfl, fun q => absurd q (by simp only [i_lt, i_le] at *; omega)⟩) d_Ss_window_36 d_Ss_window_39 d_Ss_window_40 d_Ss_window_42 d_Ss_window_45 (by exact Nat.le_of_ble_eq_true rfl) (by exact Nat.le_of_ble_eq_true rfl) (by exact Nat.le_of_ble_eq_true rfl) (by exact Nat.le_of_ble_eq_true rfl) hlocks (by decide) (by decide)
    · refine lv_iload_n hx hb d_Ss_window_9 rfl (lv_at hl 3 rfl) ?_
      refine lv_aload_n hx hb d_Ss_window_10 rfl (lv_at hl 0 rfl) ?_
      refine gs_get E hK.1 hG hC.1.1 (C := R_Ss) (T := F_Ss) (N := 9) rfl i_Ss 0 (by decide) w_60 (v := .int (nI wn)) rfl d_Ss_window_11 ?_
      refine lv_icmp_gt (tgt := 36) hx hb d_Ss_window_14 (by decide) (fun c_3 => ?_) (fun c_3 => ?_)
      · exact gs_throwIA (text := "not a window within the wall") hnt E hG hK hX hS ht (hl.1.trans hml.symm) w_103 w_9 (by decide) (Or.inl ⟨rfl, fun q => absurd q (by simp only [i_lt, i_le] at *; omega)⟩) d_Ss_window_36 d_Ss_window_39 d_Ss_window_40 d_Ss_window_42 d_Ss_window_45 (by exact Nat.le_of_ble_eq_true rfl) (by exact Nat.le_of_ble_eq_true rfl) (by exact Nat.le_of_ble_eq_true rfl) (by exact Nat.le_of_ble_eq_true rfl) hlocks (by decide) (by decide)
      · refine lv_iload_n hx hb d_Ss_window_17 rfl (lv_at hl 2 rfl) ?_
        refine lv_if_lt (tgt := 36) hx hb d_Ss_window_18 (by decide) (fun c_4 => ?_) (fun c_4 => ?_)
        · exact gs_throwIA (text := "not a window within the wall") hnt E hG hK hX hS ht (hl.1.trans hml.symm) w_103 w_9 (by decide) (Or.inl ⟨rfl, fun q => absurd q (by simp only [i_lt, i_le] at *; omega)⟩) d_Ss_window_36 d_Ss_window_39 d_Ss_window_40 d_Ss_window_42 d_Ss_window_45 (by exact Nat.le_of_ble_eq_true rfl) (by exact Nat.le_of_ble_eq_true rfl) (by exact Nat.le_of_ble_eq_true rfl) (by exact Nat.le_of_ble_eq_true rfl) hlocks (by decide) (by decide)
        · refine lv_iload_n hx hb d_Ss_window_21 rfl (lv_at hl 2 rfl) ?_
          refine lv_iload hx hb d_Ss_window_22 (lv_at hl 4 rfl) ?_
          refine lv_icmp_ge (tgt := 36) hx hb d_Ss_window_24 (by decide) (fun c_5 => ?_) (fun c_5 => ?_)
          · exact gs_throwIA (text := "not a window within the wall") hnt E hG hK hX hS ht (hl.1.trans hml.symm) w_103 w_9 (by decide) (Or.inl ⟨rfl, fun q => absurd q (by simp only [i_lt, i_le] at *; omega)⟩) d_Ss_window_36 d_Ss_window_39 d_Ss_window_40 d_Ss_window_42 d_Ss_window_45 (by exact Nat.le_of_ble_eq_true rfl) (by exact Nat.le_of_ble_eq_true rfl) (by exact Nat.le_of_ble_eq_true rfl) (by exact Nat.le_of_ble_eq_true rfl) hlocks (by decide) (by decide)
          · refine lv_iload hx hb d_Ss_window_27 (lv_at hl 4 rfl) ?_
            refine lv_aload_n hx hb d_Ss_window_29 rfl (lv_at hl 0 rfl) ?_
            refine gs_get E hK.1 hG hC.1.1 (C := R_Ss) (T := F_Ss) (N := 9) rfl i_Ss 1 (by decide) w_61 (v := .int (nI hn)) rfl d_Ss_window_30 ?_
            refine lv_icmp_le (tgt := 46) hx hb d_Ss_window_33 (by decide) (fun c_6 => ?_) (fun c_6 => ?_)
            · have hok : (0 ≤ u0 ∧ u0 < u1 ∧ u1 ≤ nI wn ∧ 0 ≤ v0 ∧ v0 < v1 ∧ v1 ≤ nI hn) := by simp only [i_lt, i_le] at *; refine ⟨?_, ?_, ?_, ?_, ?_, ?_⟩ <;> omega
              refine lv_aload_n hx hb d_Ss_window_46 rfl (lv_at hl 0 rfl) ?_
              refine gs_get E hK.1 hG hC.1.1 (C := R_Ss) (T := F_Ss) (N := 9) rfl i_Ss 8 (by decide) w_68 (v := .int (nI nw)) rfl d_Ss_window_47 ?_
              refine lv_aload_n hx hb d_Ss_window_50 rfl (lv_at hl 0 rfl) ?_
              refine gs_get E hK.1 hG hC.1.1 (C := R_Ss) (T := F_Ss) (N := 9) rfl i_Ss 3 (by decide) w_63 (v := .ref aW) rfl d_Ss_window_51 ?_
              refine gs_alen E hK.1 hG hC.1.2.2.1 4 rfl (v := 10) rfl d_Ss_window_54 ?_
              refine lv_icmp_lt (tgt := 68) hx hb d_Ss_window_55 (by decide) (fun c_7 => ?_) (fun c_7 => ?_)
              · have h10 : nw < 10 := lt_nI (b := 10) (by have := hC.2.1; omega) (by decide) c_7
                refine lv_aload_n hx hb d_Ss_window_68 rfl (lv_at hl 0 rfl) ?_
                refine gs_get E hK.1 hG hC.1.1 (C := R_Ss) (T := F_Ss) (N := 9) rfl i_Ss 8 (by decide) w_68 (v := .int (nI nw)) rfl d_Ss_window_69 ?_
                refine lv_istore (lv' := [(5, .int (nI nw)), (0, .ref o), (1, .int u0), (2, .int v0), (3, .int u1), (4, .int v1)]) hx hb d_Ss_window_72 hl (by decide) rfl (fun ls hl => ?_)
                refine lv_aload_n hx hb d_Ss_window_74 rfl (lv_at hl 1 rfl) ?_
                refine gs_get E hK.1 hG hC.1.1 (C := R_Ss) (T := F_Ss) (N := 9) rfl i_Ss 3 (by decide) w_63 (v := .ref aW) rfl d_Ss_window_75 ?_
                refine lv_iload hx hb d_Ss_window_78 (lv_at hl 0 rfl) ?_
                refine gs_new E hK.1 hG hS (C := R_Wn) (T := F_Wn) (N := 4) (ci := 2) (fs := [.int 0, .int 0, .int 0, .int 0]) rfl i_Wn t_Wn t_Wn_ok w_23 w_273 w_11 (fun j hj => by rcases (show j = 0 ∨ j = 1 ∨ j = 2 ∨ j = 3 by omega) with rfl | rfl | rfl | rfl <;> rfl) (by exact Nat.le_of_ble_eq_true rfl) (by exact Nat.le_of_ble_eq_true rfl) d_Ss_window_80 (fun H_9 hG9 hS9 => ?_)
                have hfq_8 : G s.heap.size = none := hG.fresh
                obtain ⟨q_8, eq_8⟩ : ∃ z : Nat, z = s.heap.size := ⟨_, rfl⟩
                rw [← eq_8] at hG9 hfq_8 ⊢
                obtain ⟨G_10, eG_10⟩ : ∃ z, z = gs_u G q_8 (.inr (2, [.int 0, .int 0, .int 0, .int 0])) := ⟨_, rfl⟩
                have hG : gs_W D classes zb G_10 H_9 := by rw [eG_10]; exact hG9
                have hS := hS9
                have hc_11 : G_10 o = some (.inr (3, [.int (nI wn), .int (nI hn), .ref aB, .ref aW, .ref aH, .ref aS, .ref aT, .int (nI nb), .int (nI nw)])) := by rw [eG_10]; exact gs_keepN hC.1.1 hfq_8
                have hc_12 : G_10 aW = some (aRef (k 4) 10 (upTo nw wa)) := by rw [eG_10]; exact gs_keepN hC.1.2.2.1 hfq_8
                have hc_13 : G_10 q_8 = some (.inr (2, [.int 0, .int 0, .int 0, .int 0])) := by rw [eG_10]; exact gs_us _ _ _
                refine W.eq (g2 := F0 m 83 ls [.ref q_8, .int (nI nw), .ref aW]) rfl ?_
                refine lv_dup hx hb d_Ss_window_83 rfl ?_
                refine lv_iload_n hx hb d_Ss_window_84 rfl (lv_at hl 2 rfl) ?_
                refine lv_iload_n hx hb d_Ss_window_85 rfl (lv_at hl 3 rfl) ?_
                refine lv_iload_n hx hb d_Ss_window_86 rfl (lv_at hl 4 rfl) ?_
                refine lv_iload hx hb d_Ss_window_87 (lv_at hl 5 rfl) ?_
                refine gs_I (As := [.int u0, .int v0, .int u1, .int v1]) (rest := [.ref q_8, .int (nI nw), .ref aW]) (k_Wn_init l D k zb G_10 q_8 u0 v0 u1 v1 hc_13) E hml hl.1 (cg_I hw w_276 w_274 w_11 w_275 rfl hd_Wn_init ⟨by exact Nat.le_of_ble_eq_true rfl, by exact Nat.le_of_ble_eq_true rfl⟩) hG hK hX hS rfl rfl (by exact Nat.le_of_ble_eq_true rfl) d_Ss_window_89 ⟨by exact Nat.le_of_ble_eq_true rfl, by exact Nat.le_of_ble_eq_true rfl⟩ (fun v G1 H locs hp hG hS => ?_)
                obtain ⟨hv1, hG1⟩ := hp
                subst hv1
                rw [hG1] at hG
                obtain ⟨G_14, eG_14⟩ : ∃ z, z = gs_u G_10 q_8 (.inr (2, [.int u0, .int v0, .int u1, .int v1])) := ⟨_, rfl⟩
                have hG : gs_W D classes zb G_14 H := by rw [eG_14]; exact hG
                have hc_15 : G_14 o = some (.inr (3, [.int (nI wn), .int (nI hn), .ref aB, .ref aW, .ref aH, .ref aS, .ref aT, .int (nI nb), .int (nI nw)])) := by rw [eG_14]; exact gs_keep hc_11 hc_13 (by simp)
                have hc_16 : G_14 aW = some (aRef (k 4) 10 (upTo nw wa)) := by rw [eG_14]; exact gs_keep hc_12 hc_13 (by simp)
                have hc_17 : G_14 q_8 = some (.inr (2, [.int u0, .int v0, .int u1, .int v1])) := by rw [eG_14]; exact gs_us _ _ _
                refine W.eq (g2 := F0 m 92 ls [.ref q_8, .int (nI nw), .ref aW]) rfl ?_
                refine gn_astq E hK.1 hG hS hc_16 4 (r := (R_Wn, F_Wn, 4)) rfl hc_17 rfl (j := nw) h10 (by decide) d_Ss_window_92 (fun H locs hG hS => ?_)
                obtain ⟨G_18, eG_18⟩ : ∃ z, z = gs_u G_14 aW (aRef (k 4) 10 (va_up (upTo nw wa) nw (some q_8))) := ⟨_, rfl⟩
                have hG : gs_W D classes zb G_18 H := by rw [eG_18]; exact hG
                have hc_19 : G_18 o = some (.inr (3, [.int (nI wn), .int (nI hn), .ref aB, .ref aW, .ref aH, .ref aS, .ref aT, .int (nI nb), .int (nI nw)])) := by rw [eG_18]; exact gs_keep hc_15 hc_16 (by simp)
                have hc_20 : G_18 q_8 = some (.inr (2, [.int u0, .int v0, .int u1, .int v1])) := by rw [eG_18]; exact gs_keep hc_17 hc_16 (by simp)
                have hc_21 : G_18 aW = some (aRef (k 4) 10 (va_up (upTo nw wa) nw (some q_8))) := by rw [eG_18]; exact gs_us _ _ _
                refine lv_aload_n hx hb d_Ss_window_93 rfl (lv_at hl 1 rfl) ?_
                refine lv_iload hx hb d_Ss_window_94 (lv_at hl 0 rfl) ?_
                refine lv_iconst (v := 1) hx hb d_Ss_window_96 (by decide) ?_
                refine lv_iadd hx hb d_Ss_window_97 ?_
                refine lv_topi (fun v_22 ev_22 => ?_)
                refine gs_put E hK.1 hG hS hc_19 (C := R_Ss) (T := F_Ss) (N := 9) rfl i_Ss t_Ss t_Ss_ok n_Ss 8 (by decide) w_68 rfl (v := .int v_22) rfl rfl (Nat.le_of_ble_eq_true rfl) d_Ss_window_98 (fun H locs hG hS => ?_)
                obtain ⟨G_23, eG_23⟩ : ∃ z, z = gs_u G_18 o (.inr (3, [.int (nI wn), .int (nI hn), .ref aB, .ref aW, .ref aH, .ref aS, .ref aT, .int (nI nb), .int v_22])) := ⟨_, rfl⟩
                have hG : gs_W D classes zb G_23 H := by rw [eG_23]; exact hG
                have hc_24 : G_23 aW = some (aRef (k 4) 10 (va_up (upTo nw wa) nw (some q_8))) := by rw [eG_23]; exact gs_keep hc_21 hc_19 (by simp)
                have hc_25 : G_23 q_8 = some (.inr (2, [.int u0, .int v0, .int u1, .int v1])) := by rw [eG_23]; exact gs_keep hc_20 hc_19 (by simp)
                have hc_26 : G_23 o = some (.inr (3, [.int (nI wn), .int (nI hn), .ref aB, .ref aW, .ref aH, .ref aS, .ref aT, .int (nI nb), .int v_22])) := by rw [eG_23]; exact gs_us _ _ _
                refine lv_iload hx hb d_Ss_window_101 (lv_at hl 0 rfl) ?_
                refine W.widen (k := 1) (n := 6) (by decide) (by decide) ?_
                refine vx_ret ?_
                refine W.iret (v := (nI nw)) hx hb hr (gs_end ⟨q_8, h10, hok, hfq_8, rfl, ?_⟩ hG hS) hS.2.2 d_Ss_window_103
                subst ev_22
                simp only [eG_23, eG_18, eG_14, eG_10, gs_uu, nI_1]
              · have h10 : ¬ nw < 10 := nlt_nI (b := 10) (by decide) c_7
                exact gs_throwIS (text := "there are 10 windows") hnt E hG hK hX hS ht (hl.1.trans hml.symm) w_170 w_10 (by decide) (Or.inr ⟨rfl, hok, h10⟩) d_Ss_window_58 d_Ss_window_61 d_Ss_window_62 d_Ss_window_64 d_Ss_window_67 (by exact Nat.le_of_ble_eq_true rfl) (by exact Nat.le_of_ble_eq_true rfl) (by exact Nat.le_of_ble_eq_true rfl) (by exact Nat.le_of_ble_eq_true rfl) hlocks (by decide) (by decide)
            · exact gs_throwIA (text := "not a window within the wall") hnt E hG hK hX hS ht (hl.1.trans hml.symm) w_103 w_9 (by decide) (Or.inl ⟨rfl, fun q => absurd q (by simp only [i_lt, i_le] at *; omega)⟩) d_Ss_window_36 d_Ss_window_39 d_Ss_window_40 d_Ss_window_42 d_Ss_window_45 (by exact Nat.le_of_ble_eq_true rfl) (by exact Nat.le_of_ble_eq_true rfl) (by exact Nat.le_of_ble_eq_true rfl) (by exact Nat.le_of_ble_eq_true rfl) hlocks (by decide) (by decide)
set_option maxHeartbeats 4000000 in
set_option maxRecDepth 100000 in
theorem k_Wn_ledgeOf (l : Launch) (D : va_G) (k : Nat → ClassId) (zb : Nat) (G : Nat → Option va_E) (a2 : Nat) (u0 v0 u1 v1 : Int32) (d : Int32) (hb2 : G a2 = some (.inr (2, [.int u0, .int v0, .int u1, .int v1]))) : Met l y_Wn_ledgeOf (wM y_Wn_ledgeOf c_Wn_ledgeOf 2 (some (.object "SunShadows$Box"))) ({ frames := 2, cells := 1, slots := 7, locals := 46 }) (gs_P D k zb G [.ref a2, .int d]) (gs_Q D zb (fun v G1 => ∃ q : Nat, G q = none ∧ v = some (.ref q) ∧ G1 = gs_u G q (.inr (0, [.int u0, .int v1, .int 0, .int u1, .int (v1 + 1), .int d, .int 1])))) 1 7 (fun q : Nat => zb ≤ q) := by
  refine Met.ofW (cc := c_Wn_ledgeOf) (maxL := 2) (ret := (some (.object "SunShadows$Box"))) (by decide) rfl ?_
  intro p e s m args below meth c s₁ B hml hv
  obtain ⟨rfl, hG, hK, hX⟩ := hv
  have hx := B.exec
  have hb := B.bytes
  have hr := B.returns
  have hts := atoms_spec (ws := wM y_Wn_ledgeOf c_Wn_ledgeOf 2 (some (.object "SunShadows$Box"))) B.pre
  have hw : ∀ w9 ∈ wW, w9.before ([.ref a2, .int d] : List Value).toArray s = true := fun w9 h9 => hts w9 (gi_in w9 h9)
  have hown : s.vm.findClass R_Wn = some m.cls := findClass_of_methodNamed B.named
  have hlocks := B.notSynchronized
  have E : gs_E p s m ([.ref a2, .int d] : List Value).toArray c c_Wn_ledgeOf wW R_Wn := ⟨hx, hb, hw, hown⟩
  have hS : gs_S zb s.heap s.heap [] := va_S.rf
  have hl := lv_entry ([.ref a2, .int d]) (n := 2) (Nat.le_of_ble_eq_true rfl)
  rw [lg_entry_eq]
  generalize (lg_sl ([.ref a2, .int d]) ++ List.replicate (2 - (lg_sl ([.ref a2, .int d])).length) Slot.unset).toArray = ls at hl ⊢
  have hl : lv_has ls 2 [(0, .ref a2), (1, .int d)] := hl
  refine gs_new E hK.1 hG hS (C := R_Bx) (T := F_Bx) (N := 7) (ci := 0) (fs := [.int 0, .int 0, .int 0, .int 0, .int 0, .int 0, .int 0]) rfl i_Bx t_Bx t_Bx_ok w_427 w_186 w_5 (fun j hj => by rcases (show j = 0 ∨ j = 1 ∨ j = 2 ∨ j = 3 ∨ j = 4 ∨ j = 5 ∨ j = 6 by omega) with rfl | rfl | rfl | rfl | rfl | rfl | rfl <;> rfl) (by exact Nat.le_of_ble_eq_true rfl) (by exact Nat.le_of_ble_eq_true rfl) d_Wn_ledgeOf_0 (fun H_2 hG9 hS9 => ?_)
  have hfq_1 : G s.heap.size = none := hG.fresh
  obtain ⟨q_1, eq_1⟩ : ∃ z : Nat, z = s.heap.size := ⟨_, rfl⟩
  rw [← eq_1] at hG9 hfq_1 ⊢
  obtain ⟨G_3, eG_3⟩ : ∃ z, z = gs_u G q_1 (.inr (0, [.int 0, .int 0, .int 0, .int 0, .int 0, .int 0, .int 0])) := ⟨_, rfl⟩
  have hG : gs_W D classes zb G_3 H_2 := by rw [eG_3]; exact hG9
  have hS := hS9
  have hc_4 : G_3 a2 = some (.inr (2, [.int u0, .int v0, .int u1, .int v1])) := by rw [eG_3]; exact gs_keepN hb2 hfq_1
  have hc_5 : G_3 q_1 = some (.inr (0, [.int 0, .int 0, .int 0, .int 0, .int 0, .int 0, .int 0])) := by rw [eG_3]; exact gs_us _ _ _
  refine W.eq (g2 := F0 m 3 ls [.ref q_1]) rfl ?_
  refine lv_dup hx hb d_Wn_ledgeOf_3 rfl ?_
  refine lv_aload_n hx hb d_Wn_ledgeOf_4 rfl (lv_at hl 0 rfl) ?_
  refine gs_get E hK.1 hG hc_4 (C := R_Wn) (T := F_Wn) (N := 4) rfl i_Wn 0 (by decide) w_278 (v := .int u0) rfl d_Wn_ledgeOf_5 ?_
  refine lv_aload_n hx hb d_Wn_ledgeOf_8 rfl (lv_at hl 0 rfl) ?_
  refine gs_get E hK.1 hG hc_4 (C := R_Wn) (T := F_Wn) (N := 4) rfl i_Wn 3 (by decide) w_282 (v := .int v1) rfl d_Wn_ledgeOf_9 ?_
  refine lv_iconst (v := 0) hx hb d_Wn_ledgeOf_12 (by decide) ?_
  refine lv_aload_n hx hb d_Wn_ledgeOf_13 rfl (lv_at hl 0 rfl) ?_
  refine gs_get E hK.1 hG hc_4 (C := R_Wn) (T := F_Wn) (N := 4) rfl i_Wn 2 (by decide) w_281 (v := .int u1) rfl d_Wn_ledgeOf_14 ?_
  refine lv_aload_n hx hb d_Wn_ledgeOf_17 rfl (lv_at hl 0 rfl) ?_
  refine gs_get E hK.1 hG hc_4 (C := R_Wn) (T := F_Wn) (N := 4) rfl i_Wn 3 (by decide) w_282 (v := .int v1) rfl d_Wn_ledgeOf_18 ?_
  refine lv_iconst (v := 1) hx hb d_Wn_ledgeOf_21 (by decide) ?_
  refine lv_iadd hx hb d_Wn_ledgeOf_22 ?_
  refine lv_iload_n hx hb d_Wn_ledgeOf_23 rfl (lv_at hl 1 rfl) ?_
  refine gs_I (As := [.int u0, .int v1, .int 0, .int u1, .int (v1 + 1), .int d]) (rest := [.ref q_1]) (k_Bx_init l D k zb G_3 q_1 u0 v1 0 u1 (v1 + 1) d hc_5) E hml hl.1 (cg_I hw w_189 w_428 w_5 w_188 rfl hd_Bx_init ⟨by exact Nat.le_of_ble_eq_true rfl, by exact Nat.le_of_ble_eq_true rfl⟩) hG hK hX hS rfl rfl (by exact Nat.le_of_ble_eq_true rfl) d_Wn_ledgeOf_24 ⟨by exact Nat.le_of_ble_eq_true rfl, by exact Nat.le_of_ble_eq_true rfl⟩ (fun v G1 H locs hp hG hS => ?_)
  obtain ⟨hv1, hG1⟩ := hp
  subst hv1
  rw [hG1] at hG
  obtain ⟨G_6, eG_6⟩ : ∃ z, z = gs_u G_3 q_1 (.inr (0, [.int u0, .int v1, .int 0, .int u1, .int (v1 + 1), .int d, .int 1])) := ⟨_, rfl⟩
  have hG : gs_W D classes zb G_6 H := by rw [eG_6]; exact hG
  have hc_7 : G_6 a2 = some (.inr (2, [.int u0, .int v0, .int u1, .int v1])) := by rw [eG_6]; exact gs_keep hc_4 hc_5 (by simp)
  have hc_8 : G_6 q_1 = some (.inr (0, [.int u0, .int v1, .int 0, .int u1, .int (v1 + 1), .int d, .int 1])) := by rw [eG_6]; exact gs_us _ _ _
  refine W.eq (g2 := F0 m 27 ls [.ref q_1]) rfl ?_
  refine W.aret (v := .ref q_1) hx hb hr (Or.inl ⟨_, rfl⟩) (Or.inr ⟨_, rfl⟩) (gs_end ⟨q_1, hfq_1, rfl, ?_⟩ hG hS) hS.2.2 d_Wn_ledgeOf_27
  simp only [eG_6, eG_3, gs_uu]
set_option maxHeartbeats 4000000 in
set_option maxRecDepth 100000 in
theorem k_Ss_ledge (l : Launch) (hnt : l.stackTraces = false) (D : va_G) (k : Nat → ClassId) (zb : Nat) (G : Nat → Option va_E) (o aB aW aH aS aT : Nat) (wn hn nb nw : Nat) (ba wa ha : Nat → Nat) (bf hf : Nat → Nat → Int32) (wf : Nat → Nat → Nat) (sh : Nat → Int64) (tk : Nat → Int32) (q t d : Int32) (hC : sC k G o aB aW aH aS aT wn hn nb nw ba wa ha bf hf wf sh tk) : vx_Met l y_Ss_ledge (wM y_Ss_ledge c_Ss_ledge 5 (some .int)) ({ frames := 8, cells := 4, slots := 25, locals := 134 }) (gs_P D k zb G [.ref o, .int q, .int t, .int d]) (gs_Q D zb (fun v G1 => ∃ i j a : Nat, i < 24 ∧ t = nI i ∧ ¬ jc_hasSun (hf i 2) = 0 ∧ j < nw ∧ q = nI j ∧ ¬ jc_within d 1 100 = 0 ∧ G a = none ∧ v = some (.int (jc_dark nb bf (hf i 0) (hf i 1) (hf i 2) (nI wn) (ld_box 1 (nI (wf j 0)) (nI (wf j 3)) 0 (nI (wf j 2)) (nI (wf j 3) + 1) d (hf i 0) (hf i 1) (hf i 2) (nI wn)) (wf j 0) (wf j 1) (wf j 2) (wf j 3))) ∧ G1 = gs_u G a (.inr (0, [.int (nI (wf j 0)), .int (nI (wf j 3)), .int 0, .int (nI (wf j 2)), .int (nI (wf j 3) + 1), .int d, .int 1])))) (gs_T D zb G (fun E => (E = e_IA ∧ ((¬ ∃ i : Nat, i < nw ∧ q = nI i) ∨ jc_within d 1 100 = 0 ∨ (¬ ∃ i : Nat, i < 24 ∧ t = nI i))) ∨ (E = e_IS ∧ (∃ i : Nat, i < nw ∧ q = nI i) ∧ ¬ jc_within d 1 100 = 0 ∧ (∃ i : Nat, i < 24 ∧ t = nI i ∧ jc_hasSun (hf i 2) = 0)))) 4 25 (fun q : Nat => zb ≤ q) := by
  refine vx_ofW (cc := c_Ss_ledge) (maxL := 5) (ret := (some .int)) (by decide) rfl ?_
  intro p e s m args below meth c s₁ B hml ht hv
  obtain ⟨rfl, hG, hK, hX⟩ := hv
  have hx := B.exec
  have hb := B.bytes
  have hr := B.returns
  have hts := atoms_spec (ws := wM y_Ss_ledge c_Ss_ledge 5 (some .int)) B.pre
  have hw : ∀ w9 ∈ wW, w9.before ([.ref o, .int q, .int t, .int d] : List Value).toArray s = true := fun w9 h9 => hts w9 (gi_in w9 h9)
  have hown : s.vm.findClass R_Ss = some m.cls := findClass_of_methodNamed B.named
  have hlocks := B.notSynchronized
  have E : gs_E p s m ([.ref o, .int q, .int t, .int d] : List Value).toArray c c_Ss_ledge wW R_Ss := ⟨hx, hb, hw, hown⟩
  have hS : gs_S zb s.heap s.heap [] := va_S.rf
  have hl := lv_entry ([.ref o, .int q, .int t, .int d]) (n := 5) (Nat.le_of_ble_eq_true rfl)
  rw [lg_entry_eq]
  generalize (lg_sl ([.ref o, .int q, .int t, .int d]) ++ List.replicate (5 - (lg_sl ([.ref o, .int q, .int t, .int d])).length) Slot.unset).toArray = ls at hl ⊢
  have hl : lv_has ls 5 [(0, .ref o), (1, .int q), (2, .int t), (3, .int d)] := hl
  refine lv_aload_n hx hb d_Ss_ledge_0 rfl (lv_at hl 0 rfl) ?_
  refine lv_iload_n hx hb d_Ss_ledge_1 rfl (lv_at hl 1 rfl) ?_
  refine gs_VX (As := [.int q]) (rest := []) (k_Ss_knownWindow l hnt D k zb G o aB aW aH aS aT wn hn nb nw ba wa ha bf hf wf sh tk q hC) E hml hl.1 (cg_V (C := R_Ss) hw w_371 w_368 w_1 w_370 sel_Ss_knownWindow hd_Ss_knownWindow ⟨by exact Nat.le_of_ble_eq_true rfl, by exact Nat.le_of_ble_eq_true rfl⟩) hG hK hX hS hC.1.1 rfl rfl rfl rfl (by exact Nat.le_of_ble_eq_true rfl) d_Ss_ledge_2 ⟨by exact Nat.le_of_ble_eq_true rfl, by exact Nat.le_of_ble_eq_true rfl⟩ (fun E9 ce q9 H locs hp hG hS hq1 hq2 hq3 => ?_) (fun v G1 H locs hp hG hS => ?_)
  · exact gs_on ht hlocks (Or.inl ⟨hp.1, Or.inl hp.2⟩) hG hS hq1 hq2 hq3 (by decide) (by decide)
  obtain ⟨iw, hiw, eiw, hv1, hG1⟩ := hp
  subst hv1
  rw [hG1] at hG
  refine W.eq (g2 := F0 m 5 ls [.ref (wa iw)]) rfl ?_
  refine lv_astore (lv' := [(4, .ref (wa iw)), (0, .ref o), (1, .int q), (2, .int t), (3, .int d)]) hx hb d_Ss_ledge_5 hl (by decide) rfl (fun ls hl => ?_)
  refine lv_iload_n hx hb d_Ss_ledge_7 rfl (lv_at hl 4 rfl) ?_
  refine lv_iconst (v := 1) hx hb d_Ss_ledge_8 (by decide) ?_
  refine lv_bipush (v := 100) hx hb d_Ss_ledge_9 (by decide) ?_
  refine gs_St (As := [.int d, .int 1, .int 100]) (rest := []) (k_Ss_isWithin l D k zb G d 1 100) E hml hl.1 (cg_S hw w_229 w_227 w_1 w_228 hd_Ss_isWithin ⟨by exact Nat.le_of_ble_eq_true rfl, by exact Nat.le_of_ble_eq_true rfl⟩) hG hK hX hS rfl rfl (by exact Nat.le_of_ble_eq_true rfl) d_Ss_ledge_11 ⟨by exact Nat.le_of_ble_eq_true rfl, by exact Nat.le_of_ble_eq_true rfl⟩ (fun v G1 H locs hp hG hS => ?_)
  obtain ⟨hv1, hG1⟩ := hp
  subst hv1
  rw [hG1] at hG
  refine W.eq (g2 := F0 m 14 ls [.int (jc_within d 1 100)]) rfl ?_
  refine lv_if_ne (tgt := 27) hx hb d_Ss_ledge_14 (by decide) (fun c_1 => ?_) (fun c_1 => ?_)
  · refine lv_aload_n hx hb d_Ss_ledge_27 rfl (lv_at hl 1 rfl) ?_
    refine lv_aload hx hb d_Ss_ledge_28 (lv_at hl 0 rfl) ?_
    refine lv_aload_n hx hb d_Ss_ledge_30 rfl (lv_at hl 1 rfl) ?_
    refine lv_iload_n hx hb d_Ss_ledge_31 rfl (lv_at hl 3 rfl) ?_
    refine gs_VX (As := [.int t]) (rest := [.ref (wa iw), .ref o]) (k_Ss_sunnyHour l hnt D k zb G o aB aW aH aS aT wn hn nb nw ba wa ha bf hf wf sh tk t hC) E hml hl.1 (cg_V (C := R_Ss) hw w_304 w_301 w_1 w_303 sel_Ss_sunnyHour hd_Ss_sunnyHour ⟨by exact Nat.le_of_ble_eq_true rfl, by exact Nat.le_of_ble_eq_true rfl⟩) hG hK hX hS hC.1.1 rfl rfl rfl rfl (by exact Nat.le_of_ble_eq_true rfl) d_Ss_ledge_32 ⟨by exact Nat.le_of_ble_eq_true rfl, by exact Nat.le_of_ble_eq_true rfl⟩ (fun E9 ce q9 H locs hp hG hS hq1 hq2 hq3 => ?_) (fun v G1 H locs hp hG hS => ?_)
    · exact gs_on ht hlocks (hp.elim (fun q => Or.inl ⟨q.1, Or.inr (Or.inr q.2)⟩) (fun q => Or.inr ⟨q.1, ⟨iw, hiw, eiw⟩, c_1, q.2⟩)) hG hS hq1 hq2 hq3 (by decide) (by decide)
    obtain ⟨ih, hih, eih, hsun, hv1, hG1⟩ := hp
    subst hv1
    rw [hG1] at hG
    refine W.eq (g2 := F0 m 35 ls [.ref (ha ih), .ref (wa iw), .ref o]) rfl ?_
    refine lv_aload hx hb d_Ss_ledge_35 (lv_at hl 0 rfl) ?_
    refine lv_iload_n hx hb d_Ss_ledge_37 rfl (lv_at hl 4 rfl) ?_
    refine gs_V (As := [.int d]) (rest := [.ref (ha ih), .ref (wa iw), .ref o]) (k_Wn_ledgeOf l D k zb G (wa iw) (nI (wf iw 0)) (nI (wf iw 1)) (nI (wf iw 2)) (nI (wf iw 3)) d (hC.2.2.2.1 iw hiw)) E hml hl.1 (cg_V (C := R_Wn) hw w_426 w_423 w_11 w_424 sel_Wn_ledgeOf hd_Wn_ledgeOf ⟨by exact Nat.le_of_ble_eq_true rfl, by exact Nat.le_of_ble_eq_true rfl⟩) hG hK hX hS (hC.2.2.2.1 iw hiw) rfl rfl rfl rfl (by exact Nat.le_of_ble_eq_true rfl) d_Ss_ledge_38 ⟨by exact Nat.le_of_ble_eq_true rfl, by exact Nat.le_of_ble_eq_true rfl⟩ (fun v G1 H locs hp hG hS => ?_)
    obtain ⟨q_2, hfq_2, hv1, hG1⟩ := hp
    subst hv1
    obtain ⟨G_3, eG_3⟩ : ∃ z, z = gs_u G q_2 (.inr (0, [.int (nI (wf iw 0)), .int (nI (wf iw 3)), .int 0, .int (nI (wf iw 2)), .int ((nI (wf iw 3)) + 1), .int d, .int 1])) := ⟨_, rfl⟩
    rw [hG1, ← eG_3] at hG
    have hc_4 : G_3 o = some (.inr (3, [.int (nI wn), .int (nI hn), .ref aB, .ref aW, .ref aH, .ref aS, .ref aT, .int (nI nb), .int (nI nw)])) := by rw [eG_3]; exact gs_keepN hC.1.1 hfq_2
    have hc_5 : G_3 (wa iw) = some (.inr (2, [.int (nI (wf iw 0)), .int (nI (wf iw 1)), .int (nI (wf iw 2)), .int (nI (wf iw 3))])) := by rw [eG_3]; exact gs_keepN (hC.2.2.2.1 iw hiw) hfq_2
    have hc_6 : G_3 (ha ih) = some (.inr (1, [.int (hf ih 0), .int (hf ih 1), .int (hf ih 2), .int (hf ih 3)])) := by rw [eG_3]; exact gs_keepN (hC.2.2.2.2.1 ih hih) hfq_2
    have hc_7 : G_3 q_2 = some (.inr (0, [.int (nI (wf iw 0)), .int (nI (wf iw 3)), .int 0, .int (nI (wf iw 2)), .int ((nI (wf iw 3)) + 1), .int d, .int 1])) := by rw [eG_3]; exact gs_us _ _ _
    have hC : sC k G_3 o aB aW aH aS aT wn hn nb nw ba wa ha bf hf wf sh tk := by rw [eG_3]; exact sC_at hC hfq_2
    refine W.eq (g2 := F0 m 41 ls [.ref q_2, .ref (ha ih), .ref (wa iw), .ref o]) rfl ?_
    refine gs_V (As := [.ref (wa iw), .ref (ha ih), .ref q_2]) (rest := []) (k_dark1 l D k zb G_3 o aB aW aH aS aT wn hn nb nw ba wa ha bf hf wf sh tk (wa iw) (wf iw 0) (wf iw 1) (wf iw 2) (wf iw 3) (ha ih) (hf ih 0) (hf ih 1) (hf ih 2) (hf ih 3) q_2 (nI (wf iw 0)) (nI (wf iw 3)) 0 (nI (wf iw 2)) ((nI (wf iw 3)) + 1) d 1 hC hc_5 (Nat.le_of_lt (hC.2.2.2.2.2.2.2 iw hiw).2.2.1) (Nat.le_trans (hC.2.2.2.2.2.2.2 iw hiw).2.2.2 hC.2.1.2.2.2.2.2) hc_6 hc_7) E hml hl.1 (cg_V (C := R_Ss) hw w_376 w_373 w_1 w_375 sel_Ss_darkCells hd_Ss_darkCells ⟨by exact Nat.le_of_ble_eq_true rfl, by exact Nat.le_of_ble_eq_true rfl⟩) hG hK hX hS hc_4 rfl rfl rfl rfl (by exact Nat.le_of_ble_eq_true rfl) d_Ss_ledge_41 ⟨by exact Nat.le_of_ble_eq_true rfl, by exact Nat.le_of_ble_eq_true rfl⟩ (fun v G1 H locs hp hG hS => ?_)
    obtain ⟨hv1, hG1⟩ := hp
    subst hv1
    rw [hG1] at hG
    refine W.eq (g2 := F0 m 44 ls [.int (jc_dark nb bf (hf ih 0) (hf ih 1) (hf ih 2) (nI wn) (ld_box 1 (nI (wf iw 0)) (nI (wf iw 3)) 0 (nI (wf iw 2)) ((nI (wf iw 3)) + 1) d (hf ih 0) (hf ih 1) (hf ih 2) (nI wn)) (wf iw 0) (wf iw 1) (wf iw 2) (wf iw 3))]) rfl ?_
    refine vx_ret ?_
    refine W.iret (v := (jc_dark nb bf (hf ih 0) (hf ih 1) (hf ih 2) (nI wn) (ld_box 1 (nI (wf iw 0)) (nI (wf iw 3)) 0 (nI (wf iw 2)) ((nI (wf iw 3)) + 1) d (hf ih 0) (hf ih 1) (hf ih 2) (nI wn)) (wf iw 0) (wf iw 1) (wf iw 2) (wf iw 3))) hx hb hr (gs_end ⟨ih, iw, q_2, hih, eih, hsun, hiw, eiw, c_1, hfq_2, rfl, ?_⟩ hG hS) hS.2.2 d_Ss_ledge_44
    simp only [eG_3, gs_uu]
  · exact gs_throwIA (text := "a ledge is 1 .. 100 deep") hnt E hG hK hX hS ht (hl.1.trans hml.symm) w_103 w_9 (by decide) (Or.inl ⟨rfl, Or.inr (Or.inl c_1)⟩) d_Ss_ledge_17 d_Ss_ledge_20 d_Ss_ledge_21 d_Ss_ledge_23 d_Ss_ledge_26 (by exact Nat.le_of_ble_eq_true rfl) (by exact Nat.le_of_ble_eq_true rfl) (by exact Nat.le_of_ble_eq_true rfl) (by exact Nat.le_of_ble_eq_true rfl) hlocks (by decide) (by decide)
end
