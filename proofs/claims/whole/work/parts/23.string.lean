/-! the keywords' String: the JDK's own methods over it, by hand -/
def q_isK (E : q_E) (a : Nat) : Prop := match E with
  | (_, _, _, _, s, _, _, _, _, _, _, P, _, _, _, _) => ∃ aK aV : Nat → Nat, a = aK 0 ∧ vk_S 1 [q_kb.length] [q_kb] aK aV (fun q => P < q) s s.heap ∧ vk_R "RecordClaims$Tape" 68 q_kw (aK 0) s
def q_kw_at (i : Int32) : Int32 := q_kb.getD i.toNatClampNeg 0
/-- what the JDK's methods find of it -/
def Ks (P a b : Nat) (U : State) : Prop := va_O "java/lang/String" a (fun q => P < q) U U.heap ∧ va_OF "java/lang/String" "coder" "B" (.int 0) a (fun q => P < q) U U.heap ∧ va_OF "java/lang/String" "value" "[B" (.ref b) a (fun q => P < q) U U.heap ∧ va_T .byte b 113 (fun j => .int (q_kb.getD j 0)) (fun q => P < q) U U.heap ∧
  va_Z "java/lang/String" "COMPACT_STRINGS" "Z" (.int 1) (fun q => P < q) U U.heap ∧ va_Zq "jdk/internal/util/Preconditions" "SIOOBE_FORMATTER" "Ljava/util/function/BiFunction;" (fun q => P < q) U U.heap
theorem Ks.moved {P a b : Nat} {s U : State} (hv : s.vm.Alike U.vm) (hk : ∀ q : Nat, q < s.heap.size → ¬ P < q → U.heap[q]? = s.heap[q]?) (h : Ks P a b s) : Ks P a b U := by
  obtain ⟨h1, h2, h3, h4, h5, h6⟩ := h
  exact ⟨(h1.kept hk).moved hv, (h2.kept hk).moved hv, (h3.kept hk).moved hv, (h4.kept hk).moved hv, (h5.kept hk).moved hv, (h6.kept hk).moved hv⟩
/-- a method that leaves the heap as it was -/
def q_Js (y : MethodName) (cc : ByteArray) (mL : Nat) (ret : Option FieldType) (fr lo : Nat) (av : List Value) (v : Option Value) (Pre : State → Prop) : Prop :=
  ∀ l : Launch, Met l y (Cond.code y cc mL ret :: q_tbl) (q_rm fr lo 0 0) (fun a U => a = av.toArray ∧ Pre U) (fun _ st o t => o = .returned v ∧ t.heap = st.heap) 0 0 (fun _ => False)
def q_Jst (Pre : State → Prop) : Prop := ∀ s U : State, s.vm.Alike U.vm → U.heap = s.heap → Pre s → Pre U
theorem q_Jst_K {P a b : Nat} : q_Jst (Ks P a b) := fun s U hv hh h => h.moved hv (fun q _ _ => by rw [hh])
section
variable {p : Program} {l : Launch} {e : Env} {R : Room} {s : State} {m : MethodId} {args : Array Value} {below : List Frame} {meth : Method} {c : Code} {H : Heap} {locs : List Loc} {k n : Nat} {Q : State → Prop}
theorem q_Jback {v : Option Value} {pc : Nat} {ls : Array Slot} {stk rest : List Value} (hr : va_Run p l e R s m args below meth c H locs k n 0 0 (F0 m pc ls stk) rest (fun st o t => o = .returned v ∧ t.heap = st.heap) (fun _ => False))
    (kk : W p l e R s m args below meth c H locs k n Q (F0 m (pc + 3) ls (v.toList ++ rest))) : W p l e R s m args below meth c H locs k n Q (F0 m pc ls stk) := by
  intro T hT Xs
  obtain ⟨v', st₀, t, T', L, h0, X', hL, e1, e2, ⟨hv, hh⟩, stp⟩ := hr T hT Xs
  cases hv
  have hL2 : L = [] := List.eq_nil_iff_forall_not_mem.mpr fun q hq => hL q hq
  subst hL2
  rw [List.append_nil] at X'
  obtain ⟨t2, a1, b1⟩ := kk T' (by rw [e1, hh, h0]) X'
  exact ⟨t2, stp t2 a1, b1⟩
/-- the call of such a method, of an object; of none -/
theorem q_Jv {own : String} {cc : ByteArray} {nL : Nat} {y : MethodName} {cy : ByteArray} {mLy : Nat} {rety : Option FieldType} {fr lo nA idx a : Nat} {As : List Value} {v : Option Value} {Pre : State → Prop} {pc : Nat} {ls : Array Slot} {stk rest : List Value}
    (S : CallFix p m c cc nL s args q_tbl own) (M : q_Js y cy mLy rety fr lo (.ref a :: As) v Pre) (hst : q_Jst Pre) (hpre : ∀ U : State, U.heap = H → s.WarmedH U.vm → Pre U) (l1 : Cond.methodLink own idx y ∈ q_tbl) (l2 : Cond.instanceMethod y ∈ q_tbl) (l3 : Cond.selects y.cls y y ∈ q_tbl) (l4 : Cond.initialized y.cls ∈ q_tbl) (l5 : Cond.code y cy mLy rety ∈ q_tbl)
    (l6 : y.cls ≠ "java/lang/invoke/MethodHandle" ∧ y.cls ≠ "java/lang/invoke/VarHandle" ∧ (parseMethodDescriptor y.desc).map (fun d => d.parameters.length) = some nA) (hcell : ∃ cell : Cell, H[a]? = some cell ∧ cell.vm.isStatics = false ∧ s.vm.findClass y.cls = some cell.cls)
    (hs : stk = As.reverse ++ .ref a :: rest) (hA : As.length = nA) (hR : fr + 1 ≤ R.frames ∧ 8 + (mLy + 11) + lo ≤ R.locals) (hR2 : k ≤ R.cells ∧ n ≤ R.slots) (hls : ls.size = nL) (hcat : (rest.map fun v => v.category).sum ≤ 8) (hd : decode cc pc = .ok (.invokevirtual idx, 3))
    (kk : W p l e R s m args below meth c H locs k n Q (F0 m (pc + 3) ls (v.toList ++ rest))) : W p l e R s m args below meth c H locs k n Q (F0 m pc ls stk) := by
  subst hs
  obtain ⟨hx, hb, hml, hown, hts⟩ := S
  refine q_Jback (va_runV (As := As) (C := y.cls) ⟨hx, hb, hml, hown, hts⟩ (M l) ⟨callB_of nA hts (q_gin l5) rfl rfl rfl (hts _ l4) (hts _ l1) l6 hR, hts _ l2, hts _ l3⟩ ⟨?_, hcell, fun U hU hW => ⟨rfl, hpre U hU hW⟩⟩ rfl hA hls rfl (lv_room hcat) hd hR2) kk
  intro b U g mk h
  exact ⟨h.1, hst U _ (Vm.Alike.refl U.vm) rfl h.2⟩
theorem q_Jc {own : String} {cc : ByteArray} {nL : Nat} {y : MethodName} {cy : ByteArray} {mLy : Nat} {rety : Option FieldType} {fr lo nA idx : Nat} {As : List Value} {v : Option Value} {Pre : State → Prop} {pc : Nat} {ls : Array Slot} {stk rest : List Value}
    (S : CallFix p m c cc nL s args q_tbl own) (M : q_Js y cy mLy rety fr lo As v Pre) (hst : q_Jst Pre) (hpre : ∀ U : State, U.heap = H → s.WarmedH U.vm → Pre U) (L : q_LS own idx y cy mLy rety nA)
    (hs : stk = As.reverse ++ rest) (hA : As.length = nA) (hR : fr + 1 ≤ R.frames ∧ 8 + (mLy + 11) + lo ≤ R.locals) (hR2 : k ≤ R.cells ∧ n ≤ R.slots) (hls : ls.size = nL) (hcat : (rest.map fun v => v.category).sum ≤ 8) (hd : decode cc pc = .ok (.invokestatic idx, 3))
    (kk : W p l e R s m args below meth c H locs k n Q (F0 m (pc + 3) ls (v.toList ++ rest))) : W p l e R s m args below meth c H locs k n Q (F0 m pc ls stk) := by
  subst hs
  obtain ⟨hx, hb, hml, hown, hts⟩ := S
  obtain ⟨l1, l2, l4, l5, l6⟩ := L
  refine q_Jback (va_runS (As := As) ⟨hx, hb, hml, hown, hts⟩ (M l) ⟨callB_of nA hts (q_gin l5) rfl rfl rfl (hts _ l4) (hts _ l1) l6 hR, hts _ l2⟩ ⟨?_, fun U hU hW => ⟨rfl, hpre U hU hW⟩⟩ rfl hA hls rfl (lv_room hcat) hd hR2) kk
  intro b U g mk h
  exact ⟨h.1, hst U _ (Vm.Alike.refl U.vm) rfl h.2⟩
end
def RJ0 : String := "java/lang/String"
def RJ1 : String := "java/lang/StringLatin1"
def RJ3 : String := "jdk/internal/util/Preconditions"
abbrev cJ0_coder_7d493 : ByteArray := prog_16_method_152_code
def yJ0_coder_7d493 : MethodName := ⟨RJ0, "coder", "()B"⟩
theorem dJ0_coder_7d493_0 : decode cJ0_coder_7d493 0 = .ok (.getstatic 38, 3) := by decide +kernel
theorem dJ0_coder_7d493_3 : decode cJ0_coder_7d493 3 = .ok (.ifCond .eq 10, 3) := by decide +kernel
theorem dJ0_coder_7d493_6 : decode cJ0_coder_7d493 6 = .ok (.aload_n 0, 1) := by decide +kernel
theorem dJ0_coder_7d493_7 : decode cJ0_coder_7d493 7 = .ok (.getfield 15, 3) := by decide +kernel
theorem dJ0_coder_7d493_10 : decode cJ0_coder_7d493 10 = .ok (.goto 4, 3) := by decide +kernel
theorem dJ0_coder_7d493_13 : decode cJ0_coder_7d493 13 = .ok (.iconst 1, 1) := by decide +kernel
theorem dJ0_coder_7d493_14 : decode cJ0_coder_7d493 14 = .ok (.ireturn, 1) := by decide +kernel
abbrev cJ0_length_8abf5 : ByteArray := prog_16_method_54_code
def yJ0_length_8abf5 : MethodName := ⟨RJ0, "length", "()I"⟩
theorem dJ0_length_8abf5_0 : decode cJ0_length_8abf5 0 = .ok (.aload_n 0, 1) := by decide +kernel
theorem dJ0_length_8abf5_1 : decode cJ0_length_8abf5 1 = .ok (.getfield 9, 3) := by decide +kernel
theorem dJ0_length_8abf5_4 : decode cJ0_length_8abf5 4 = .ok (.arraylength, 1) := by decide +kernel
theorem dJ0_length_8abf5_5 : decode cJ0_length_8abf5 5 = .ok (.aload_n 0, 1) := by decide +kernel
theorem dJ0_length_8abf5_6 : decode cJ0_length_8abf5 6 = .ok (.invokevirtual 335, 3) := by decide +kernel
theorem dJ0_length_8abf5_9 : decode cJ0_length_8abf5 9 = .ok (.ishr, 1) := by decide +kernel
theorem dJ0_length_8abf5_10 : decode cJ0_length_8abf5 10 = .ok (.ireturn, 1) := by decide +kernel
abbrev cJ0_isLatin1_aae02 : ByteArray := prog_16_method_154_code
def yJ0_isLatin1_aae02 : MethodName := ⟨RJ0, "isLatin1", "()Z"⟩
theorem dJ0_isLatin1_aae02_0 : decode cJ0_isLatin1_aae02 0 = .ok (.getstatic 38, 3) := by decide +kernel
theorem dJ0_isLatin1_aae02_3 : decode cJ0_isLatin1_aae02 3 = .ok (.ifCond .eq 14, 3) := by decide +kernel
theorem dJ0_isLatin1_aae02_6 : decode cJ0_isLatin1_aae02 6 = .ok (.aload_n 0, 1) := by decide +kernel
theorem dJ0_isLatin1_aae02_7 : decode cJ0_isLatin1_aae02 7 = .ok (.getfield 15, 3) := by decide +kernel
theorem dJ0_isLatin1_aae02_10 : decode cJ0_isLatin1_aae02 10 = .ok (.ifCond .ne 7, 3) := by decide +kernel
theorem dJ0_isLatin1_aae02_13 : decode cJ0_isLatin1_aae02 13 = .ok (.iconst 1, 1) := by decide +kernel
theorem dJ0_isLatin1_aae02_14 : decode cJ0_isLatin1_aae02 14 = .ok (.goto 4, 3) := by decide +kernel
theorem dJ0_isLatin1_aae02_17 : decode cJ0_isLatin1_aae02 17 = .ok (.iconst 0, 1) := by decide +kernel
theorem dJ0_isLatin1_aae02_18 : decode cJ0_isLatin1_aae02 18 = .ok (.ireturn, 1) := by decide +kernel
abbrev cJ0_checkIndex_df160 : ByteArray := prog_16_method_155_code
def yJ0_checkIndex_df160 : MethodName := ⟨RJ0, "checkIndex", "(II)V"⟩
theorem dJ0_checkIndex_df160_0 : decode cJ0_checkIndex_df160 0 = .ok (.iload_n 0, 1) := by decide +kernel
theorem dJ0_checkIndex_df160_1 : decode cJ0_checkIndex_df160 1 = .ok (.iload_n 1, 1) := by decide +kernel
theorem dJ0_checkIndex_df160_2 : decode cJ0_checkIndex_df160 2 = .ok (.getstatic 1053, 3) := by decide +kernel
theorem dJ0_checkIndex_df160_5 : decode cJ0_checkIndex_df160 5 = .ok (.invokestatic 1059, 3) := by decide +kernel
theorem dJ0_checkIndex_df160_8 : decode cJ0_checkIndex_df160 8 = .ok (.pop, 1) := by decide +kernel
theorem dJ0_checkIndex_df160_9 : decode cJ0_checkIndex_df160 9 = .ok (.return_, 1) := by decide +kernel
abbrev cJ1_charAt_3b067 : ByteArray := prog_17_method_2_code
def yJ1_charAt_3b067 : MethodName := ⟨RJ1, "charAt", "([BI)C"⟩
theorem dJ1_charAt_3b067_0 : decode cJ1_charAt_3b067 0 = .ok (.iload_n 1, 1) := by decide +kernel
theorem dJ1_charAt_3b067_1 : decode cJ1_charAt_3b067 1 = .ok (.aload_n 0, 1) := by decide +kernel
theorem dJ1_charAt_3b067_2 : decode cJ1_charAt_3b067 2 = .ok (.arraylength, 1) := by decide +kernel
theorem dJ1_charAt_3b067_3 : decode cJ1_charAt_3b067 3 = .ok (.invokestatic 9, 3) := by decide +kernel
theorem dJ1_charAt_3b067_6 : decode cJ1_charAt_3b067 6 = .ok (.aload_n 0, 1) := by decide +kernel
theorem dJ1_charAt_3b067_7 : decode cJ1_charAt_3b067 7 = .ok (.iload_n 1, 1) := by decide +kernel
theorem dJ1_charAt_3b067_8 : decode cJ1_charAt_3b067 8 = .ok (.baload, 1) := by decide +kernel
theorem dJ1_charAt_3b067_9 : decode cJ1_charAt_3b067 9 = .ok (.sipush 255, 3) := by decide +kernel
theorem dJ1_charAt_3b067_12 : decode cJ1_charAt_3b067 12 = .ok (.iand, 1) := by decide +kernel
theorem dJ1_charAt_3b067_13 : decode cJ1_charAt_3b067 13 = .ok (.i2c, 1) := by decide +kernel
theorem dJ1_charAt_3b067_14 : decode cJ1_charAt_3b067 14 = .ok (.ireturn, 1) := by decide +kernel
abbrev cJ0_charAt_5068e : ByteArray := prog_16_method_56_code
def yJ0_charAt_5068e : MethodName := ⟨RJ0, "charAt", "(I)C"⟩
theorem dJ0_charAt_5068e_0 : decode cJ0_charAt_5068e 0 = .ok (.aload_n 0, 1) := by decide +kernel
theorem dJ0_charAt_5068e_1 : decode cJ0_charAt_5068e 1 = .ok (.invokevirtual 492, 3) := by decide +kernel
theorem dJ0_charAt_5068e_4 : decode cJ0_charAt_5068e 4 = .ok (.ifCond .eq 12, 3) := by decide +kernel
theorem dJ0_charAt_5068e_7 : decode cJ0_charAt_5068e 7 = .ok (.aload_n 0, 1) := by decide +kernel
theorem dJ0_charAt_5068e_8 : decode cJ0_charAt_5068e 8 = .ok (.getfield 9, 3) := by decide +kernel
theorem dJ0_charAt_5068e_11 : decode cJ0_charAt_5068e 11 = .ok (.iload_n 1, 1) := by decide +kernel
theorem dJ0_charAt_5068e_12 : decode cJ0_charAt_5068e 12 = .ok (.invokestatic 495, 3) := by decide +kernel
theorem dJ0_charAt_5068e_15 : decode cJ0_charAt_5068e 15 = .ok (.ireturn, 1) := by decide +kernel
theorem dJ0_charAt_5068e_16 : decode cJ0_charAt_5068e 16 = .ok (.aload_n 0, 1) := by decide +kernel
theorem dJ0_charAt_5068e_17 : decode cJ0_charAt_5068e 17 = .ok (.getfield 9, 3) := by decide +kernel
theorem dJ0_charAt_5068e_20 : decode cJ0_charAt_5068e 20 = .ok (.iload_n 1, 1) := by decide +kernel
theorem dJ0_charAt_5068e_21 : decode cJ0_charAt_5068e 21 = .ok (.invokestatic 498, 3) := by decide +kernel
theorem dJ0_charAt_5068e_24 : decode cJ0_charAt_5068e 24 = .ok (.ireturn, 1) := by decide +kernel
abbrev cJ3_checkIndex_8e157 : ByteArray := prog_20_method_11_code
def yJ3_checkIndex_8e157 : MethodName := ⟨RJ3, "checkIndex", "(IILjava/util/function/BiFunction;)I"⟩
theorem dJ3_checkIndex_8e157_0 : decode cJ3_checkIndex_8e157 0 = .ok (.iload_n 0, 1) := by decide +kernel
theorem dJ3_checkIndex_8e157_1 : decode cJ3_checkIndex_8e157 1 = .ok (.ifCond .lt 8, 3) := by decide +kernel
theorem dJ3_checkIndex_8e157_4 : decode cJ3_checkIndex_8e157 4 = .ok (.iload_n 0, 1) := by decide +kernel
theorem dJ3_checkIndex_8e157_5 : decode cJ3_checkIndex_8e157 5 = .ok (.iload_n 1, 1) := by decide +kernel
theorem dJ3_checkIndex_8e157_6 : decode cJ3_checkIndex_8e157 6 = .ok (.if_icmp .lt 10, 3) := by decide +kernel
theorem dJ3_checkIndex_8e157_9 : decode cJ3_checkIndex_8e157 9 = .ok (.aload_n 2, 1) := by decide +kernel
theorem dJ3_checkIndex_8e157_10 : decode cJ3_checkIndex_8e157 10 = .ok (.iload_n 0, 1) := by decide +kernel
theorem dJ3_checkIndex_8e157_11 : decode cJ3_checkIndex_8e157 11 = .ok (.iload_n 1, 1) := by decide +kernel
theorem dJ3_checkIndex_8e157_12 : decode cJ3_checkIndex_8e157 12 = .ok (.invokestatic 95, 3) := by decide +kernel
theorem dJ3_checkIndex_8e157_15 : decode cJ3_checkIndex_8e157 15 = .ok (.athrow, 1) := by decide +kernel
theorem dJ3_checkIndex_8e157_16 : decode cJ3_checkIndex_8e157 16 = .ok (.iload_n 0, 1) := by decide +kernel
theorem dJ3_checkIndex_8e157_17 : decode cJ3_checkIndex_8e157 17 = .ok (.ireturn, 1) := by decide +kernel
theorem fj_38 : Cond.fieldLink RJ0 38 "java/lang/String" "COMPACT_STRINGS" "Z" ∈ q_tbl := q_tb 556 (by decide +kernel) rfl
theorem fj_15 : Cond.fieldLink RJ0 15 "java/lang/String" "coder" "B" ∈ q_tbl := q_tb 1829 (by decide +kernel) rfl
theorem fj_9 : Cond.fieldLink RJ0 9 "java/lang/String" "value" "[B" ∈ q_tbl := q_tb 1828 (by decide +kernel) rfl
theorem fj_1053 : Cond.fieldLink RJ0 1053 "jdk/internal/util/Preconditions" "SIOOBE_FORMATTER" "Ljava/util/function/BiFunction;" ∈ q_tbl := q_tb 572 (by decide +kernel) rfl
theorem fj_c1059 : q_LS RJ0 1059 yJ3_checkIndex_8e157 cJ3_checkIndex_8e157 3 (some .int) 3 := ⟨q_tb 574 (by decide +kernel) rfl, q_tb 575 (by decide +kernel) rfl, q_tb 16 (by decide +kernel) rfl, q_tb 576 (by decide +kernel) rfl, ⟨by decide +kernel, by decide +kernel, by decide +kernel⟩⟩
theorem fj_c9 : q_LS RJ1 9 yJ0_checkIndex_df160 cJ0_checkIndex_df160 2 none 2 := ⟨q_tb 569 (by decide +kernel) rfl, q_tb 570 (by decide +kernel) rfl, q_tb 14 (by decide +kernel) rfl, q_tb 571 (by decide +kernel) rfl, ⟨by decide +kernel, by decide +kernel, by decide +kernel⟩⟩
theorem fj_c495 : q_LS RJ0 495 yJ1_charAt_3b067 cJ1_charAt_3b067 2 (some .char) 2 := ⟨q_tb 566 (by decide +kernel) rfl, q_tb 567 (by decide +kernel) rfl, q_tb 15 (by decide +kernel) rfl, q_tb 568 (by decide +kernel) rfl, ⟨by decide +kernel, by decide +kernel, by decide +kernel⟩⟩
theorem q_Jm {y : MethodName} {cc : ByteArray} {mL : Nat} {ret : Option FieldType} {fr lo : Nat} {av : List Value} {v : Option Value} {Pre : State → Prop} (hy : plainName y.cls = true) (hlen : (lg_sl av).length ≤ mL)
    (body : ∀ (p : Program) (l : Launch) (e : Env) (s : State) (m : MethodId) (below : List Frame) (meth : Method) (c : Code) (ls : Array Slot), CallFix p m c cc mL s av.toArray q_tbl y.cls → meth.locks = false → meth.sig.returnType = ret → Pre s → lv_has ls mL (lv_args 0 av) →
      W p l e (q_rm fr lo 0 0) s m av.toArray below meth c s.heap [] 0 0 (MQ below (fun _ st o t => o = .returned v ∧ t.heap = st.heap) av.toArray s 0 0 (fun _ => False)) (F0 m 0 ls [])) : q_Js y cc mL ret fr lo av v Pre := by
  intro l
  refine Met.ofW (cc := cc) (maxL := mL) (ret := ret) hy rfl ?_
  intro p e s m args below meth c s₁ B hml hv
  obtain ⟨rfl, hK⟩ := hv
  have hts := atoms_spec (ws := Cond.code y cc mL ret :: q_tbl) B.pre
  have hown : s.vm.findClass y.cls = some m.cls := findClass_of_methodNamed B.named
  rw [lg_entry_eq]
  exact body p l e s m below meth c _ ⟨B.exec, B.bytes, hml, hown, fun w hw => hts w (List.mem_cons_of_mem _ hw)⟩ B.notSynchronized B.returns hK (lv_entry av hlen)
theorem j_coder (P a b : Nat) : q_Js yJ0_coder_7d493 cJ0_coder_7d493 1 (some .byte) 0 0 [.ref a] (some (.int 0)) (Ks P a b) := by
  refine q_Jm (by decide +kernel) (Nat.le_of_ble_eq_true rfl) ?_
  intro p l e s m below meth c ls S hlk hr hK hl
  obtain ⟨hx, hb, hml, hown, hts⟩ := S
  have hS : va_S (fun q => P < q) s.heap s.heap [] := va_S.rf
  obtain ⟨h1, h2, h3, h4, h5, h6⟩ := hK
  refine va_gets hx hb h5 hS hown (hts _ fj_38) (fun _ h => h) dJ0_coder_7d493_0 ?_
  refine lv_if_eq (tgt := 13) hx hb dJ0_coder_7d493_3 (by decide) (fun h => absurd h (by decide)) (fun _ => ?_)
  refine lv_aload_n hx hb dJ0_coder_7d493_6 rfl (lv_at hl 0 rfl) ?_
  refine vk_getf hx hb h2 hS hown (hts _ fj_15) (fun _ h => h) dJ0_coder_7d493_7 ?_
  refine lv_goto (tgt := 14) hx hb dJ0_coder_7d493_10 (by decide) ?_
  exact W.zret hx hb hr rfl (fun t ht _ => ⟨rfl, ht⟩) (fun q h => by cases h) dJ0_coder_7d493_14 hlk
theorem j_isLatin1 (P a b : Nat) : q_Js yJ0_isLatin1_aae02 cJ0_isLatin1_aae02 1 (some .boolean) 0 0 [.ref a] (some (.int 1)) (Ks P a b) := by
  refine q_Jm (by decide +kernel) (Nat.le_of_ble_eq_true rfl) ?_
  intro p l e s m below meth c ls S hlk hr hK hl
  obtain ⟨hx, hb, hml, hown, hts⟩ := S
  have hS : va_S (fun q => P < q) s.heap s.heap [] := va_S.rf
  obtain ⟨h1, h2, h3, h4, h5, h6⟩ := hK
  refine va_gets hx hb h5 hS hown (hts _ fj_38) (fun _ h => h) dJ0_isLatin1_aae02_0 ?_
  refine lv_if_eq (tgt := 17) hx hb dJ0_isLatin1_aae02_3 (by decide) (fun h => absurd h (by decide)) (fun _ => ?_)
  refine lv_aload_n hx hb dJ0_isLatin1_aae02_6 rfl (lv_at hl 0 rfl) ?_
  refine vk_getf hx hb h2 hS hown (hts _ fj_15) (fun _ h => h) dJ0_isLatin1_aae02_7 ?_
  refine lv_if_ne (tgt := 17) hx hb dJ0_isLatin1_aae02_10 (by decide) (fun h => absurd rfl h) (fun _ => ?_)
  refine lv_iconst (v := 1) hx hb dJ0_isLatin1_aae02_13 rfl ?_
  refine lv_goto (tgt := 18) hx hb dJ0_isLatin1_aae02_14 (by decide) ?_
  exact W.zret hx hb hr rfl (fun t ht _ => ⟨rfl, ht⟩) (fun q h => by cases h) dJ0_isLatin1_aae02_18 hlk
theorem Ks.cell {P a b : Nat} {s U : State} (h : Ks P a b s) (hU : U.heap = s.heap) : ∃ cell : Cell, s.heap[a]? = some cell ∧ cell.vm.isStatics = false ∧ s.vm.findClass "java/lang/String" = some cell.cls := by
  obtain ⟨cell, h1, h2, h3, -⟩ := h.1
  exact ⟨cell, h1, h2, h3⟩
theorem j_length (P a b : Nat) : q_Js yJ0_length_8abf5 cJ0_length_8abf5 1 (some .int) 1 20 [.ref a] (some (.int 113)) (Ks P a b) := by
  refine q_Jm (by decide +kernel) (Nat.le_of_ble_eq_true rfl) ?_
  intro p l e s m below meth c ls S hlk hr hK hl
  have S0 := S
  obtain ⟨hx, hb, hml, hown, hts⟩ := S
  have hS : va_S (fun q => P < q) s.heap s.heap [] := va_S.rf
  have hK0 := hK
  obtain ⟨h1, h2, h3, h4, h5, h6⟩ := hK
  refine lv_aload_n hx hb dJ0_length_8abf5_0 rfl (lv_at hl 0 rfl) ?_
  refine vk_getf hx hb h3 hS hown (hts _ fj_9) (fun _ h => h) dJ0_length_8abf5_1 ?_
  refine va_tlen (v := 113) hx hb h4 hS rfl dJ0_length_8abf5_4 ?_
  refine lv_aload_n hx hb dJ0_length_8abf5_5 rfl (lv_at hl 0 rfl) ?_
  refine q_Jv (As := []) (nA := 0) (rest := [.int 113]) S0 (j_coder P a b) q_Jst_K (fun U hU hW => hK0.moved hW.alike (fun q _ _ => by rw [hU])) (q_tb 552 (by decide +kernel) rfl) (q_tb 553 (by decide +kernel) rfl) (q_tb 554 (by decide +kernel) rfl) (q_tb 14 (by decide +kernel) rfl) (q_tb 555 (by decide +kernel) rfl) ⟨by decide +kernel, by decide +kernel, by decide +kernel⟩ (hK0.cell (U := s) rfl) rfl rfl ⟨Nat.le_of_ble_eq_true rfl, Nat.le_of_ble_eq_true rfl⟩ ⟨Nat.zero_le _, Nat.zero_le _⟩ hl.1 (Nat.le_of_ble_eq_true rfl) dJ0_length_8abf5_6 ?_
  show W p l e (q_rm 1 20 0 0) s m _ below meth c s.heap [] 0 0 _ (F0 m 9 ls [.int 0, .int 113])
  refine lv_ishr hx hb dJ0_length_8abf5_9 ?_
  rw [show (113 : Int32) >>> ((0 : Int32) &&& 31) = 113 from by decide]
  exact W.iret hx hb hr (fun t ht _ => ⟨rfl, ht⟩) (fun q h => by cases h) dJ0_length_8abf5_10 hlk
theorem j_check (i : Int32) (fv : Value) (hf : fv = .null ∨ ∃ t : Nat, fv = .ref t) (h0 : ¬ i < 0) (h1 : i < 113) : q_Js yJ3_checkIndex_8e157 cJ3_checkIndex_8e157 3 (some .int) 0 0 [.int i, .int 113, fv] (some (.int i)) (fun _ => True) := by
  refine q_Jm (by decide +kernel) (by rcases hf with rfl | ⟨t, rfl⟩ <;> exact Nat.le_of_ble_eq_true rfl) ?_
  intro p l e s m below meth c ls S hlk hr hK hl
  obtain ⟨hx, hb, hml, hown, hts⟩ := S
  refine lv_iload_n hx hb dJ3_checkIndex_8e157_0 rfl (lv_at hl 0 rfl) ?_
  refine lv_if_lt (tgt := 9) hx hb dJ3_checkIndex_8e157_1 (by decide) (fun h => absurd h h0) (fun _ => ?_)
  refine lv_iload_n hx hb dJ3_checkIndex_8e157_4 rfl (lv_at hl 0 rfl) ?_
  refine lv_iload_n hx hb dJ3_checkIndex_8e157_5 rfl (lv_at hl 1 rfl) ?_
  refine lv_icmp_lt (tgt := 16) hx hb dJ3_checkIndex_8e157_6 (by decide) (fun _ => ?_) (fun h => absurd h1 h)
  refine lv_iload_n hx hb dJ3_checkIndex_8e157_16 rfl (lv_at hl 0 rfl) ?_
  exact W.iret hx hb hr (fun t ht _ => ⟨rfl, ht⟩) (fun q h => by cases h) dJ3_checkIndex_8e157_17 hlk
theorem j_checkIndex (P a b : Nat) (i : Int32) (h0 : ¬ i < 0) (h1 : i < 113) : q_Js yJ0_checkIndex_df160 cJ0_checkIndex_df160 2 none 1 22 [.int i, .int 113] none (Ks P a b) := by
  refine q_Jm (by decide +kernel) (Nat.le_of_ble_eq_true rfl) ?_
  intro p l e s m below meth c ls S hlk hr hK hl
  have S0 := S
  obtain ⟨hx, hb, hml, hown, hts⟩ := S
  have hS : va_S (fun q => P < q) s.heap s.heap [] := va_S.rf
  obtain ⟨h1', h2, h3, h4, h5, h6⟩ := hK
  have go : ∀ fv : Value, (fv = .null ∨ ∃ t : Nat, fv = .ref t) → va_Z "jdk/internal/util/Preconditions" "SIOOBE_FORMATTER" "Ljava/util/function/BiFunction;" fv (fun q => P < q) s s.heap → W p l e (q_rm 1 22 0 0) s m (List.toArray [.int i, .int 113]) below meth c s.heap [] 0 0 (MQ below (fun _ st o t => o = .returned none ∧ t.heap = st.heap) (List.toArray [.int i, .int 113]) s 0 0 (fun _ => False)) (F0 m 0 ls []) := by
    intro fv hf hZ
    refine lv_iload_n hx hb dJ0_checkIndex_df160_0 rfl (lv_at hl 0 rfl) ?_
    refine lv_iload_n hx hb dJ0_checkIndex_df160_1 rfl (lv_at hl 1 rfl) ?_
    refine va_gets hx hb hZ hS hown (hts _ fj_1053) (fun _ h => h) dJ0_checkIndex_df160_2 ?_
    refine q_Jc (As := [.int i, .int 113, fv]) (rest := []) S0 (j_check i fv hf h0 h1) (fun _ _ _ _ _ => trivial) (fun _ _ _ => trivial) fj_c1059 rfl rfl ⟨Nat.le_of_ble_eq_true rfl, Nat.le_of_ble_eq_true rfl⟩ ⟨Nat.zero_le _, Nat.zero_le _⟩ hl.1 (Nat.le_of_ble_eq_true rfl) dJ0_checkIndex_df160_5 ?_
    show W p l e (q_rm 1 22 0 0) s m _ below meth c s.heap [] 0 0 _ (F0 m 8 ls [.int i])
    refine lv_pop hx hb dJ0_checkIndex_df160_8 rfl ?_
    exact W.vret hx hb hr (fun t ht _ => ⟨rfl, ht⟩) (fun q h => by cases h) dJ0_checkIndex_df160_9 hlk
  rcases h6 with h6 | ⟨t, h6⟩
  · exact go .null (Or.inl rfl) h6
  · exact go (.ref t) (Or.inr ⟨t, rfl⟩) h6
theorem q_kz1 : ∀ x ∈ q_kb, ((x &&& 255).toUInt32 % 65536).toInt32 = x ∧ x = nI x.toNatClampNeg ∧ x.toNatClampNeg < 65536 := by decide +kernel
theorem q_kz (j : Nat) : ((q_kb.getD j 0 &&& 255).toUInt32 % 65536).toInt32 = q_kb.getD j 0 ∧ narrow .char (.int (q_kb.getD j 0)) = .int (q_kb.getD j 0) := by
  by_cases h : j < q_kb.length
  · have hm : q_kb.getD j 0 ∈ q_kb := by rw [List.getD_eq_getElem?_getD, List.getElem?_eq_getElem h]; exact List.getElem_mem h
    obtain ⟨h1, h2, h3⟩ := q_kz1 _ hm
    refine ⟨h1, ?_⟩
    rw [h2]
    exact (pk_charN h3).1
  · have h0 : q_kb.getD j 0 = 0 := by rw [List.getD_eq_getElem?_getD, List.getElem?_eq_none (by omega)]; rfl
    rw [h0]
    exact ⟨by decide, rfl⟩
theorem j_latCharAt (P a b : Nat) (i : Int32) (h0 : 0 ≤ i.toInt ∧ i.toInt < 113) : q_Js yJ1_charAt_3b067 cJ1_charAt_3b067 2 (some .char) 2 43 [.ref b, .int i] (some (.int (q_kw_at i))) (Ks P a b) := by
  have h1 : ¬ i < 0 := by rw [Int32.lt_iff_toInt_lt]; simp; omega
  have h2 : i < 113 := by rw [Int32.lt_iff_toInt_lt]; simpa using h0.2
  refine q_Jm (by decide +kernel) (Nat.le_of_ble_eq_true rfl) ?_
  intro p l e s m below meth c ls S hlk hr hK hl
  have S0 := S
  obtain ⟨hx, hb, hml, hown, hts⟩ := S
  have hS : va_S (fun q => P < q) s.heap s.heap [] := va_S.rf
  have hK0 := hK
  obtain ⟨g1, g2, g3, g4, g5, g6⟩ := hK
  refine lv_iload_n hx hb dJ1_charAt_3b067_0 rfl (lv_at hl 1 rfl) ?_
  refine lv_aload_n hx hb dJ1_charAt_3b067_1 rfl (lv_at hl 0 rfl) ?_
  refine va_tlen (v := 113) hx hb g4 hS rfl dJ1_charAt_3b067_2 ?_
  refine q_Jc (As := [.int i, .int 113]) (rest := []) S0 (j_checkIndex P a b i h1 h2) q_Jst_K (fun U hU hW => hK0.moved hW.alike (fun q _ _ => by rw [hU])) fj_c9 rfl rfl ⟨Nat.le_of_ble_eq_true rfl, Nat.le_of_ble_eq_true rfl⟩ ⟨Nat.zero_le _, Nat.zero_le _⟩ hl.1 (Nat.le_of_ble_eq_true rfl) dJ1_charAt_3b067_3 ?_
  show W p l e (q_rm 2 43 0 0) s m _ below meth c s.heap [] 0 0 _ (F0 m 6 ls [])
  refine lv_aload_n hx hb dJ1_charAt_3b067_6 rfl (lv_at hl 0 rfl) ?_
  refine lv_iload_n hx hb dJ1_charAt_3b067_7 rfl (lv_at hl 1 rfl) ?_
  refine va_tb hx hb g4 hS (vp_in_iff.mpr ⟨h0.1, h0.2⟩) (v := .int (q_kb.getD i.toNatClampNeg 0)) rfl dJ1_charAt_3b067_8 ?_
  refine lv_sipush (v := 255) hx hb dJ1_charAt_3b067_9 rfl ?_
  refine lv_iand hx hb dJ1_charAt_3b067_12 ?_
  refine lv_i2c hx hb dJ1_charAt_3b067_13 (q_kz i.toNatClampNeg).1 ?_
  exact W.zret hx hb hr (q_kz i.toNatClampNeg).2 (fun t ht _ => ⟨rfl, ht⟩) (fun q h => by cases h) dJ1_charAt_3b067_14 hlk
theorem j_charAt (P a b : Nat) (i : Int32) (h0 : 0 ≤ i.toInt ∧ i.toInt < 113) : q_Js yJ0_charAt_5068e cJ0_charAt_5068e 2 (some .char) 3 64 [.ref a, .int i] (some (.int (q_kw_at i))) (Ks P a b) := by
  refine q_Jm (by decide +kernel) (Nat.le_of_ble_eq_true rfl) ?_
  intro p l e s m below meth c ls S hlk hr hK hl
  have S0 := S
  obtain ⟨hx, hb, hml, hown, hts⟩ := S
  have hS : va_S (fun q => P < q) s.heap s.heap [] := va_S.rf
  have hK0 := hK
  obtain ⟨g1, g2, g3, g4, g5, g6⟩ := hK
  refine lv_aload_n hx hb dJ0_charAt_5068e_0 rfl (lv_at hl 0 rfl) ?_
  refine q_Jv (As := []) (nA := 0) (rest := []) S0 (j_isLatin1 P a b) q_Jst_K (fun U hU hW => hK0.moved hW.alike (fun q _ _ => by rw [hU])) (q_tb 562 (by decide +kernel) rfl) (q_tb 563 (by decide +kernel) rfl) (q_tb 564 (by decide +kernel) rfl) (q_tb 14 (by decide +kernel) rfl) (q_tb 565 (by decide +kernel) rfl) ⟨by decide +kernel, by decide +kernel, by decide +kernel⟩ (hK0.cell (U := s) rfl) rfl rfl ⟨Nat.le_of_ble_eq_true rfl, Nat.le_of_ble_eq_true rfl⟩ ⟨Nat.zero_le _, Nat.zero_le _⟩ hl.1 (Nat.le_of_ble_eq_true rfl) dJ0_charAt_5068e_1 ?_
  show W p l e (q_rm 3 64 0 0) s m _ below meth c s.heap [] 0 0 _ (F0 m 4 ls [.int 1])
  refine lv_if_eq (tgt := 16) hx hb dJ0_charAt_5068e_4 (by decide) (fun h => absurd h (by decide)) (fun _ => ?_)
  refine lv_aload_n hx hb dJ0_charAt_5068e_7 rfl (lv_at hl 0 rfl) ?_
  refine vk_getf hx hb g3 hS hown (hts _ fj_9) (fun _ h => h) dJ0_charAt_5068e_8 ?_
  refine lv_iload_n hx hb dJ0_charAt_5068e_11 rfl (lv_at hl 1 rfl) ?_
  refine q_Jc (As := [.ref b, .int i]) (rest := []) S0 (j_latCharAt P a b i h0) q_Jst_K (fun U hU hW => hK0.moved hW.alike (fun q _ _ => by rw [hU])) fj_c495 rfl rfl ⟨Nat.le_of_ble_eq_true rfl, Nat.le_of_ble_eq_true rfl⟩ ⟨Nat.zero_le _, Nat.zero_le _⟩ hl.1 (Nat.le_of_ble_eq_true rfl) dJ0_charAt_5068e_12 ?_
  show W p l e (q_rm 3 64 0 0) s m _ below meth c s.heap [] 0 0 _ (F0 m 15 ls [.int (q_kw_at i)])
  exact W.zret hx hb hr (q_kz i.toNatClampNeg).2 (fun t ht _ => ⟨rfl, ht⟩) (fun q h => by cases h) dJ0_charAt_5068e_15 hlk
section
variable {E : q_E} {cc : ByteArray} {mL' : Nat} {ret : Option FieldType} {R0 : Room} {X0 : Mm} {α : Type} {Qf : α → Mm → State → Prop} {k n pc : Nat} {lv : List (Nat × Value)} {X : Mm} {t : Option (α × Mm)}
theorem q_ldcS (C : Cx E cc RX9 mL' ret R0 X0) {st : List Value} (hd : decode cc pc = .ok (.ldc 68, 2)) (g : ∀ a : Nat, q_isK E a → Sm E Qf k n (pc + 2) lv (.ref a :: st) X t) : Sm E Qf k n pc lv st X t := by
  obtain ⟨p, l, e, R, s, m, args, below, meth, c, nL, P, D, cs, n0, s0⟩ := E
  obtain ⟨⟨hx, hb, hml, hown, hts⟩, hlk, hK, hz0, hXs, hnl, hrt, hR, h0, h1⟩ := C
  obtain ⟨⟨aK, aV, hS1, hR1⟩, -⟩ := hXs
  intro r1 hr hn hs H locs ls hW hS hl
  exact va_ldcS hx hb (own := "RecordClaims$Tape") hown hR1 hd (g (aK 0) ⟨aK, aV, rfl, hS1, hR1⟩ r1 hr hn hs H locs ls hW hS hl)
theorem q_Ks {P : Nat} {s U : State} {aV : Nat → Nat} {aK : Nat → Nat} {H : Heap} {locs : List Loc} (h : vk_S 1 [q_kb.length] [q_kb] aK aV (fun q => P < q) s s.heap) (hX : q_Xs P s) (hS : va_S (fun q => P < q) s.heap H locs) (hU : U.heap = H) (hW : s.vm.Alike U.vm) : Ks P (aK 0) (aV 0) U := by
  obtain ⟨h1, h2, h3, h4⟩ := h.1 0 (by decide)
  have hs : Ks P (aK 0) (aV 0) s := ⟨h1, h2, h3, h4, hX.2.1, hX.2.2.2.2⟩
  exact hs.moved hW (fun q g1 g2 => by rw [hU]; exact hS.2.1 q g1 g2)
theorem q_strlen (C : Cx E cc RX9 mL' ret R0 X0) {a : Nat} (h : q_isK E a) (st : List Value) (hR : 6 ≤ R0.frames ∧ 120 ≤ R0.locals) (hR2 : k ≤ R0.cells ∧ n ≤ R0.slots) (hcat : (st.map fun v => v.category).sum ≤ 8) (hd : decode cc pc = .ok (.invokevirtual 70, 3)) (g : Sm E Qf k n (pc + 3) lv (.int 113 :: st) X t) : Sm E Qf k n pc lv (.ref a :: st) X t := by
  obtain ⟨p, l, e, R, s, m, args, below, meth, c, nL, P, D, cs, n0, s0⟩ := E
  obtain ⟨S, hlk, hK, hz0, hXs, hnl, hrt, rfl, h0, h1⟩ := C
  obtain ⟨aK, aV, rfl, hS1, hR1⟩ := h
  intro r1 hr hn hs H locs ls hW hS hl
  refine q_Jv (As := []) (nA := 0) (rest := st) S (j_length P (aK 0) (aV 0)) q_Jst_K (fun U hU hWm => q_Ks hS1 hXs hS hU hWm.alike) (q_tb 548 (by decide +kernel) rfl) (q_tb 549 (by decide +kernel) rfl) (q_tb 550 (by decide +kernel) rfl) (q_tb 14 (by decide +kernel) rfl) (q_tb 551 (by decide +kernel) rfl) ⟨by decide +kernel, by decide +kernel, by decide +kernel⟩ (vk_recv hS1 (by decide) hS) rfl rfl ⟨by omega, by omega⟩ hR2 hl.1 hcat hd ?_
  exact g r1 hr hn hs H locs ls hW hS hl
theorem q_strchar (C : Cx E cc RX9 mL' ret R0 X0) {a : Nat} {i : Int32} (h : q_isK E a) (st : List Value) (hR : 6 ≤ R0.frames ∧ 120 ≤ R0.locals) (hR2 : k ≤ R0.cells ∧ n ≤ R0.slots) (hcat : (st.map fun v => v.category).sum ≤ 8) (hd : decode cc pc = .ok (.invokevirtual 75, 3)) (h1 : 0 ≤ i.toInt ∧ i.toInt < 113) (g : Sm E Qf k n (pc + 3) lv (.int (q_kw_at i) :: st) X t) : Sm E Qf k n pc lv (.int i :: .ref a :: st) X t := by
  obtain ⟨p, l, e, R, s, m, args, below, meth, c, nL, P, D, cs, n0, s0⟩ := E
  obtain ⟨S, hlk, hK, hz0, hXs, hnl, hrt, rfl, h0, h1'⟩ := C
  obtain ⟨aK, aV, rfl, hS1, hR1⟩ := h
  intro r1 hr hn hs H locs ls hW hS hl
  refine q_Jv (As := [.int i]) (nA := 1) (rest := st) S (j_charAt P (aK 0) (aV 0) i h1) q_Jst_K (fun U hU hWm => q_Ks hS1 hXs hS hU hWm.alike) (q_tb 558 (by decide +kernel) rfl) (q_tb 559 (by decide +kernel) rfl) (q_tb 560 (by decide +kernel) rfl) (q_tb 14 (by decide +kernel) rfl) (q_tb 561 (by decide +kernel) rfl) ⟨by decide +kernel, by decide +kernel, by decide +kernel⟩ (vk_recv hS1 (by decide) hS) rfl rfl ⟨by omega, by omega⟩ hR2 hl.1 hcat hd ?_
  exact g r1 hr hn hs H locs ls hW hS hl
end
