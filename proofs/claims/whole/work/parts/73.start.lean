/-! the law's start: the tables, the JVM's own cells -/
theorem l7 {L i : Nat} (hL : L ≤ 3586) (hi : i ≤ 4000) (h : ¬ nI L - 7 < nI i) : i + 7 ≤ L := by
  have e1 : (nI L - 7).toInt = (L : Int) - 7 := (bd_sub (bd_nI hL (by decide)) (⟨rfl, by decide, by decide⟩ : bd 7 7 7) (by decide)).1
  rw [i_lt, e1, nI_toInt (by omega)] at h
  omega
theorem and15 (x : Int32) : ∃ t : Nat, t < 16 ∧ x &&& 15 = nI t := by
  refine ⟨x.toBitVec.toNat % 16, Nat.mod_lt _ (by decide), ?_⟩
  apply Int32.toBitVec_inj.mp
  apply BitVec.eq_of_toNat_eq
  have h1 : (x &&& 15).toBitVec = x.toBitVec &&& 15#32 := rfl
  have h2 : (nI (x.toBitVec.toNat % 16)).toBitVec = BitVec.ofNat 32 (x.toBitVec.toNat % 16) := rfl
  rw [h1, h2, BitVec.toNat_and, BitVec.toNat_ofNat, BitVec.toNat_ofNat, show 15 % 2 ^ 32 = 2 ^ 4 - 1 from rfl, Nat.and_two_pow_sub_one_eq_mod]
  omega
theorem tx_of {A : Array Value} {s : State} {c : ClassId} {i : Nat} {t : String} (hown : s.vm.findClass R_Ss = some c) (h : (Cond.stringRef R_Ss i t).before A s = true) : ∃ a : Nat, vk_R R_Ss i t a s := by
  obtain ⟨-, -, -, sa, -, -, -, -, -, hev⟩ := Cond.stringRef_spec hown h
  exact ⟨sa, vk_R.of h hev⟩
theorem ar_of {A : Array Value} {s : State} {t : FieldType} (h : (Cond.arrayClass t).before A s = true) : ∃ (c : ClassId) (kA : Class) (comp : ClassId), s.vm.findClass ("[" ++ t.toString) = some c ∧ s.vm.classes[c]? = some kA ∧ kA.kind = .array comp t := Cond.arrayClass_spec h
/-- what the tables give: classes, array classes, texts -/
theorem lw_K {s : State} {A : Array Value} (ht : ∀ w ∈ tables_1, w.before A s = true) (hw : ∀ w ∈ wW, w.before A s = true) (hnc : (Cond.not (.castable e_IS e_IA)).before A s = true) : ∃ (D : va_G) (k : Nat → ClassId), gs_K D k s := by
  obtain ⟨c0, i0, n0⟩ := u_known (C := R_Bx) (T := F_Bx) (N := 7) (n := 7) hw i_Bx (hw _ w_186)
  obtain ⟨c1, i1, n1⟩ := u_known (C := R_Hr) (T := F_Hr) (N := 4) (n := 4) hw i_Hr (hw (.instantiable R_Hr 4) w_33)
  obtain ⟨c2, i2, n2⟩ := u_known (C := R_Wn) (T := F_Wn) (N := 4) (n := 4) hw i_Wn (hw (.instantiable R_Wn 4) w_273)
  obtain ⟨c3, i3, n3⟩ := u_known (C := R_Ss) (T := F_Ss) (N := 9) (n := 9) hw i_Ss (hw (.instantiable R_Ss 9) w_14)
  obtain ⟨c4, i4, n4⟩ := u_known (C := R_Md) (T := F_Md) (N := 14) (n := 14) hw i_Md (hw (.instantiable R_Md 14) w_458)
  have hSs : s.vm.findClass R_Ss = some c3 := n3.2.1
  obtain ⟨kI, kAI, cI, aI1, aI2, aI3⟩ := ar_of (hw _ w_59)
  obtain ⟨kJ, kAJ, cJ, aJ1, aJ2, aJ3⟩ := ar_of (hw _ w_58)
  obtain ⟨kZ, kAZ, cZ, aZ1, aZ2, aZ3⟩ := ar_of (hw _ w_506)
  have oB := ht (Cond.arrayOver (.object R_Bx)) (tI1 (i := 22) (by decide +kernel))
  have oW := ht (Cond.arrayOver (.object R_Wn)) (tI1 (i := 24) (by decide +kernel))
  have oH := ht (Cond.arrayOver (.object R_Hr)) (tI1 (i := 26) (by decide +kernel))
  obtain ⟨cB, kB, kAB, aB1, -, aB2, aB3, aB4⟩ := Cond.arrayOver_spec oB
  obtain ⟨cW, kW, kAW, aW1, -, aW2, aW3, aW4⟩ := Cond.arrayOver_spec oW
  obtain ⟨cH, kH, kAH, aH1, -, aH2, aH3, aH4⟩ := Cond.arrayOver_spec oH
  refine ⟨(fun j => match j with | 0 => c0 | 1 => c1 | 2 => c2 | 3 => c3 | _ => c4, fun j => match j with | 0 => i0 | 1 => i1 | 2 => i2 | 3 => i3 | _ => i4), fun j => match j with | 0 => kI | 1 => kJ | 2 => kZ | 3 => kB | 4 => kW | _ => kH, ⟨?_, ?_⟩, ⟨?_, ?_, ?_⟩, ⟨va_AO.of oB, va_AO.of oW, va_AO.of oH⟩, ⟨?_, ?_, va_Nc.of hnc⟩, ⟨?_, ?_, ?_⟩, ?_⟩
  · intro j q hq
    match j, hq with
    | 0, hq => cases hq; exact n0
    | 1, hq => cases hq; exact n1
    | 2, hq => cases hq; exact n2
    | 3, hq => cases hq; exact n3
    | 4, hq => cases hq; exact n4
    | j + 5, hq => simp [classes] at hq
  · intro j q hq
    match j, hq with
    | 0, hq => cases hq; exact ⟨fun N z => ⟨(fun k h => by cases h), kAI, aI2, cI, aI3⟩, aI1⟩
    | 1, hq => cases hq; exact ⟨fun N z => ⟨(fun k h => by cases h), kAJ, aJ2, cJ, aJ3⟩, aJ1⟩
    | 2, hq => cases hq; exact ⟨fun N z => ⟨(fun k h => by cases h), kAZ, aZ2, cZ, aZ3⟩, aZ1⟩
    | 3, hq => cases hq; exact ⟨fun N z => ⟨(fun k h => by cases h), kAB, aB2, cB, aB3⟩, kAB, cB, aB2, aB3, aB1, aB4⟩
    | 4, hq => cases hq; exact ⟨fun N z => ⟨(fun k h => by cases h), kAW, aW2, cW, aW3⟩, kAW, cW, aW2, aW3, aW1, aW4⟩
    | 5, hq => cases hq; exact ⟨fun N z => ⟨(fun k h => by cases h), kAH, aH2, cH, aH3⟩, kAH, cH, aH2, aH3, aH1, aH4⟩
    | j + 6, hq => simp [kt] at hq
  · exact va_Nw.of rfl (ht _ (tI1 (i := 34) (by decide +kernel)))
  · exact va_Nw.of rfl (ht _ (tI2 (i := 102) (by decide +kernel)))
  · exact va_Nw.of rfl (ht _ (tI2 (i := 141) (by decide +kernel)))
  · exact va_Nw.of rfl (ht _ (tI1 (i := 105) (by decide +kernel)))
  · exact va_Nw.of rfl (ht _ (tI1 (i := 172) (by decide +kernel)))
  · exact va_Nw.of rfl (ht _ (tI1 (i := 107) (by decide +kernel)))
  · exact va_Nw.of rfl (ht _ (tI1 (i := 109) (by decide +kernel)))
  · exact va_Nw.of rfl (ht _ (tI1 (i := 111) (by decide +kernel)))
  · intro q hq
    simp only [gs_texts, List.mem_cons, List.not_mem_nil, or_false] at hq
    rcases hq with rfl | rfl | rfl | rfl | rfl | rfl | rfl | rfl | rfl | rfl | rfl | rfl | rfl | rfl | rfl
    · exact tx_of hSs (ht _ (tI1 (i := 143) (by decide +kernel)))
    · exact tx_of hSs (ht _ (tI1 (i := 179) (by decide +kernel)))
    · exact tx_of hSs (ht _ (tI1 (i := 226) (by decide +kernel)))
    · exact tx_of hSs (ht _ (tI1 (i := 230) (by decide +kernel)))
    · exact tx_of hSs (ht _ (tI2 (i := 14) (by decide +kernel)))
    · exact tx_of hSs (ht _ (tI2 (i := 15) (by decide +kernel)))
    · exact tx_of hSs (ht _ (tI2 (i := 23) (by decide +kernel)))
    · exact tx_of hSs (ht _ (tI2 (i := 31) (by decide +kernel)))
    · exact tx_of hSs (ht _ (tI2 (i := 32) (by decide +kernel)))
    · exact tx_of hSs (ht _ (tI2 (i := 60) (by decide +kernel)))
    · exact tx_of hSs (ht _ (tI2 (i := 69) (by decide +kernel)))
    · exact tx_of hSs (ht _ (tI2 (i := 132) (by decide +kernel)))
    · exact tx_of hSs (ht _ (tI2 (i := 149) (by decide +kernel)))
    · exact tx_of hSs (ht _ (tI2 (i := 182) (by decide +kernel)))
    · exact tx_of hSs (ht _ (tI2 (i := 196) (by decide +kernel)))
theorem lw_X {s : State} {A : Array Value} {zb : Nat} (hz : zb = s.heap.size) (ht : ∀ w ∈ tables_1, w.before A s = true) (hw : ∀ w ∈ wW, w.before A s = true) (h1 : (Cond.isRef (.static "java/lang/Throwable" "UNASSIGNED_STACK" "[Ljava/lang/StackTraceElement;")).before A s = true) (h2 : (Cond.isRef (.static "java/lang/Throwable" "SUPPRESSED_SENTINEL" "Ljava/util/List;")).before A s = true) : gs_X zb s s.heap :=
  ⟨vx_Zqof (ht _ (tI1 (i := 130) (by decide +kernel))) (hw _ w_6) h1 (fun a ha => by omega), vx_Zqof (ht _ (tI1 (i := 132) (by decide +kernel))) (hw _ w_6) h2 (fun a ha => by omega)⟩
