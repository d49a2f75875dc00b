/-! RecordClaims$State.<init>()V -/
abbrev cX8_init : ByteArray := prog_10_method_1_code
def yX8_init : MethodName := ⟨RX8, "<init>", "()V"⟩
theorem dX8_init_0 : decode cX8_init 0 = .ok (.aload_n 0, 1) := by decide +kernel
theorem dX8_init_1 : decode cX8_init 1 = .ok (.invokespecial 3, 3) := by decide +kernel
theorem dX8_init_4 : decode cX8_init 4 = .ok (.aload_n 0, 1) := by decide +kernel
theorem dX8_init_5 : decode cX8_init 5 = .ok (.bipush 50, 2) := by decide +kernel
theorem dX8_init_7 : decode cX8_init 7 = .ok (.newarray .long, 2) := by decide +kernel
theorem dX8_init_9 : decode cX8_init 9 = .ok (.putfield 9, 3) := by decide +kernel
theorem dX8_init_12 : decode cX8_init 12 = .ok (.aload_n 0, 1) := by decide +kernel
theorem dX8_init_13 : decode cX8_init 13 = .ok (.bipush 10, 2) := by decide +kernel
theorem dX8_init_15 : decode cX8_init 15 = .ok (.newarray .long, 2) := by decide +kernel
theorem dX8_init_17 : decode cX8_init 17 = .ok (.putfield 15, 3) := by decide +kernel
theorem dX8_init_20 : decode cX8_init 20 = .ok (.aload_n 0, 1) := by decide +kernel
theorem dX8_init_21 : decode cX8_init 21 = .ok (.new 18, 3) := by decide +kernel
theorem dX8_init_24 : decode cX8_init 24 = .ok (.dup, 1) := by decide +kernel
theorem dX8_init_25 : decode cX8_init 25 = .ok (.invokespecial 20, 3) := by decide +kernel
theorem dX8_init_28 : decode cX8_init 28 = .ok (.putfield 21, 3) := by decide +kernel
theorem dX8_init_31 : decode cX8_init 31 = .ok (.aload_n 0, 1) := by decide +kernel
theorem dX8_init_32 : decode cX8_init 32 = .ok (.new 25, 3) := by decide +kernel
theorem dX8_init_35 : decode cX8_init 35 = .ok (.dup, 1) := by decide +kernel
theorem dX8_init_36 : decode cX8_init 36 = .ok (.invokespecial 27, 3) := by decide +kernel
theorem dX8_init_39 : decode cX8_init 39 = .ok (.putfield 28, 3) := by decide +kernel
theorem dX8_init_42 : decode cX8_init 42 = .ok (.aload_n 0, 1) := by decide +kernel
theorem dX8_init_43 : decode cX8_init 43 = .ok (.new 32, 3) := by decide +kernel
theorem dX8_init_46 : decode cX8_init 46 = .ok (.dup, 1) := by decide +kernel
theorem dX8_init_47 : decode cX8_init 47 = .ok (.invokespecial 34, 3) := by decide +kernel
theorem dX8_init_50 : decode cX8_init 50 = .ok (.putfield 35, 3) := by decide +kernel
theorem dX8_init_53 : decode cX8_init 53 = .ok (.aload_n 0, 1) := by decide +kernel
theorem dX8_init_54 : decode cX8_init 54 = .ok (.new 39, 3) := by decide +kernel
theorem dX8_init_57 : decode cX8_init 57 = .ok (.dup, 1) := by decide +kernel
theorem dX8_init_58 : decode cX8_init 58 = .ok (.invokespecial 41, 3) := by decide +kernel
theorem dX8_init_61 : decode cX8_init 61 = .ok (.putfield 42, 3) := by decide +kernel
theorem dX8_init_64 : decode cX8_init 64 = .ok (.return_, 1) := by decide +kernel
theorem fwX8_3_oi : Cond.methodLink RX8 3 Lib.objectInit ∈ q_tbl := q_tb 215 (by decide +kernel) rfl
theorem fpX8_9 : q_Fp RX8 9 8 0 (.array .long) true := ⟨RX8, TX8, 9, tyX8, rfl, by decide, inX8, q_tb 396 (by decide +kernel) rfl, tyX8_ok, nmX8, rfl, rfl, fun h => by first | rfl | cases h⟩
theorem fpX8_15 : q_Fp RX8 15 8 1 (.array .long) true := ⟨RX8, TX8, 9, tyX8, rfl, by decide, inX8, q_tb 397 (by decide +kernel) rfl, tyX8_ok, nmX8, rfl, rfl, fun h => by first | rfl | cases h⟩
theorem fnX8_18 : q_LN RX8 18 10 10 := ⟨RX10, TX10, tyX10, rfl, inX10, tyX10_ok, q_tb 216 (by decide +kernel) rfl, q_tb 217 (by decide +kernel) rfl, q_tb 6 (by decide +kernel) rfl, fun P j hj => by
  have h : ∀ j, j < 10 → defaultValue (tyX10 j) = q_fv 0 (fun _ => 0) (fun _ => 0) (fun _ => 0) 10 j := by decide +kernel
  exact h j hj⟩
theorem fcX8_20 : q_LI RX8 20 yX10_init cX10_init 1 0 := ⟨Or.inr ⟨"RecordClaims", List.mem_append_right _ (List.mem_of_getElem? (i := 218) (by decide +kernel))⟩, q_tb 219 (by decide +kernel) rfl, q_tb 6 (by decide +kernel) rfl, q_tb 220 (by decide +kernel) rfl, rfl, ⟨by decide +kernel, by decide +kernel, by decide +kernel⟩⟩
theorem fpX8_21 : q_Fp RX8 21 8 2 (.object "RecordClaims$Trades") true := ⟨RX8, TX8, 9, tyX8, rfl, by decide, inX8, q_tb 400 (by decide +kernel) rfl, tyX8_ok, nmX8, rfl, rfl, fun h => by first | rfl | cases h⟩
theorem fnX8_25 : q_LN RX8 25 3 17 := ⟨RX3, TX3, tyX3, rfl, inX3, tyX3_ok, q_tb 264 (by decide +kernel) rfl, q_tb 265 (by decide +kernel) rfl, q_tb 7 (by decide +kernel) rfl, fun P j hj => by
  have h : ∀ j, j < 17 → defaultValue (tyX3 j) = q_fv 0 (fun _ => 0) (fun _ => 0) (fun _ => 0) 3 j := by decide +kernel
  exact h j hj⟩
theorem fcX8_27 : q_LI RX8 27 yX3_init cX3_init 1 0 := ⟨Or.inr ⟨"RecordClaims", List.mem_append_right _ (List.mem_of_getElem? (i := 266) (by decide +kernel))⟩, q_tb 267 (by decide +kernel) rfl, q_tb 7 (by decide +kernel) rfl, q_tb 268 (by decide +kernel) rfl, rfl, ⟨by decide +kernel, by decide +kernel, by decide +kernel⟩⟩
theorem fpX8_28 : q_Fp RX8 28 8 3 (.object "RecordClaims$Events") true := ⟨RX8, TX8, 9, tyX8, rfl, by decide, inX8, q_tb 402 (by decide +kernel) rfl, tyX8_ok, nmX8, rfl, rfl, fun h => by first | rfl | cases h⟩
theorem fnX8_32 : q_LN RX8 32 6 6 := ⟨RX6, TX6, tyX6, rfl, inX6, tyX6_ok, q_tb 338 (by decide +kernel) rfl, q_tb 339 (by decide +kernel) rfl, q_tb 8 (by decide +kernel) rfl, fun P j hj => by
  have h : ∀ j, j < 6 → defaultValue (tyX6 j) = q_fv 0 (fun _ => 0) (fun _ => 0) (fun _ => 0) 6 j := by decide +kernel
  exact h j hj⟩
theorem fcX8_34 : q_LI RX8 34 yX6_init cX6_init 1 0 := ⟨Or.inr ⟨"RecordClaims", List.mem_append_right _ (List.mem_of_getElem? (i := 340) (by decide +kernel))⟩, q_tb 341 (by decide +kernel) rfl, q_tb 8 (by decide +kernel) rfl, q_tb 342 (by decide +kernel) rfl, rfl, ⟨by decide +kernel, by decide +kernel, by decide +kernel⟩⟩
theorem fpX8_35 : q_Fp RX8 35 8 4 (.object "RecordClaims$Notes") true := ⟨RX8, TX8, 9, tyX8, rfl, by decide, inX8, q_tb 404 (by decide +kernel) rfl, tyX8_ok, nmX8, rfl, rfl, fun h => by first | rfl | cases h⟩
theorem fnX8_39 : q_LN RX8 39 1 5 := ⟨RX1, TX1, tyX1, rfl, inX1, tyX1_ok, q_tb 369 (by decide +kernel) rfl, q_tb 370 (by decide +kernel) rfl, q_tb 9 (by decide +kernel) rfl, fun P j hj => by
  have h : ∀ j, j < 5 → defaultValue (tyX1 j) = q_fv 0 (fun _ => 0) (fun _ => 0) (fun _ => 0) 1 j := by decide +kernel
  exact h j hj⟩
theorem fcX8_41 : q_LI RX8 41 yX1_init cX1_init 1 0 := ⟨Or.inr ⟨"RecordClaims", List.mem_append_right _ (List.mem_of_getElem? (i := 371) (by decide +kernel))⟩, q_tb 372 (by decide +kernel) rfl, q_tb 9 (by decide +kernel) rfl, q_tb 373 (by decide +kernel) rfl, rfl, ⟨by decide +kernel, by decide +kernel, by decide +kernel⟩⟩
theorem fpX8_42 : q_Fp RX8 42 8 5 (.object "RecordClaims$Claims") true := ⟨RX8, TX8, 9, tyX8, rfl, by decide, inX8, q_tb 405 (by decide +kernel) rfl, tyX8_ok, nmX8, rfl, rfl, fun h => by first | rfl | cases h⟩
def fX8_init (r0 : Nat) (X : Mm) : Option (Unit × Mm) :=
nm (mN X + 1) fun rN2 =>
nm (q_nw X 15 50) fun X7_1 =>
if mT X7_1 r0 = 8 then
if rN2 ≠ 0 then
nm (sR X7_1 r0 0 rN2) fun X9_3 =>
nm (mN X9_3 + 1) fun rN7 =>
nm (q_nw X9_3 15 10) fun X15_6 =>
if mT X15_6 r0 = 8 then
if rN7 ≠ 0 then
nm (sR X15_6 r0 1 rN7) fun X17_8 =>
nm (mN X17_8 + 1) fun rN12 =>
nm (q_nw X17_8 10 10) fun X21_11 =>
bd (fX10_init rN12 X21_11) fun _ X25_14 =>
if mT X25_14 r0 = 8 then
if rN12 ≠ 0 then
nm (sR X25_14 r0 2 rN12) fun X28_15 =>
nm (mN X28_15 + 1) fun rN19 =>
nm (q_nw X28_15 3 17) fun X32_18 =>
bd (fX3_init rN19 X32_18) fun _ X36_21 =>
if mT X36_21 r0 = 8 then
if rN19 ≠ 0 then
nm (sR X36_21 r0 3 rN19) fun X39_22 =>
nm (mN X39_22 + 1) fun rN26 =>
nm (q_nw X39_22 6 6) fun X43_25 =>
bd (fX6_init rN26 X43_25) fun _ X47_28 =>
if mT X47_28 r0 = 8 then
if rN26 ≠ 0 then
nm (sR X47_28 r0 4 rN26) fun X50_29 =>
nm (mN X50_29 + 1) fun rN33 =>
nm (q_nw X50_29 1 5) fun X54_32 =>
bd (fX1_init rN33 X54_32) fun _ X58_35 =>
if mT X58_35 r0 = 8 then
if rN33 ≠ 0 then
nm (sR X58_35 r0 5 rN33) fun X61_36 =>
some ((), X61_36)
else none
else none
else none
else none
else none
else none
else none
else none
else none
else none
else none
else none
theorem sX8_init (r0 : Nat) : q_Ct yX8_init cX8_init 1 none 2 40 42 3646 q_eV (fun P => [.ref (P + r0)]) (fX8_init r0) := by
  refine q_meth (by decide +kernel) (fun P => Nat.le_of_ble_eq_true rfl) (fun E X C hn => ?_)
  show Sm E (q_fin E q_eV X 42 3646) 0 0 0 [(0, .ref (q_P E + r0))] [] X _
  unfold fX8_init
  refine q_aload_n C 0 dX8_init_0 rfl rfl ?_
  refine q_objInit C fwX8_3_oi fw_oi2 fw_oi3 ⟨Nat.le_of_ble_eq_true rfl, Nat.le_of_ble_eq_true rfl⟩ dX8_init_1 ?_
  refine q_aload_n C 0 dX8_init_4 rfl rfl ?_
  refine q_bipush C (50 : Int32) dX8_init_5 rfl ?_
  refine q_newa (atype := .long) (ty := .long) (tg := 15) (N := 50) C rfl falong (Or.inr (Or.inl ⟨rfl, rfl⟩)) (by decide) rfl (Nat.le_of_ble_eq_true rfl) ⟨Nat.le_of_ble_eq_true rfl, Nat.le_of_ble_eq_true rfl⟩ dX8_init_7 ?_
  refine q_nmr (fun rN2 => ?_)
  refine q_nmX (fun X7_1 => ?_)
  refine q_chk (fun h4 => ?_)
  refine q_chk (fun h5 => ?_)
  refine p_putF C fpX8_9 hn (fun _ => rfl) (fun _ => rfl) rfl dX8_init_9 h4 h5 ?_
  refine q_nmX (fun X9_3 => ?_)
  refine q_aload_n C 0 dX8_init_12 rfl rfl ?_
  refine q_bipush C (10 : Int32) dX8_init_13 rfl ?_
  refine q_newa (atype := .long) (ty := .long) (tg := 15) (N := 10) C rfl falong (Or.inr (Or.inl ⟨rfl, rfl⟩)) (by decide) rfl (Nat.le_of_ble_eq_true rfl) ⟨Nat.le_of_ble_eq_true rfl, Nat.le_of_ble_eq_true rfl⟩ dX8_init_15 ?_
  refine q_nmr (fun rN7 => ?_)
  refine q_nmX (fun X15_6 => ?_)
  refine q_chk (fun h9 => ?_)
  refine q_chk (fun h10 => ?_)
  refine p_putF C fpX8_15 hn (fun _ => rfl) (fun _ => rfl) rfl dX8_init_17 h9 h10 ?_
  refine q_nmX (fun X17_8 => ?_)
  refine q_aload_n C 0 dX8_init_20 rfl rfl ?_
  refine q_new C fnX8_18 ⟨Nat.le_of_ble_eq_true rfl, Nat.le_of_ble_eq_true rfl⟩ dX8_init_21 ?_
  refine q_nmr (fun rN12 => ?_)
  refine q_nmX (fun X21_11 => ?_)
  refine q_dup C dX8_init_24 rfl ?_
  refine q_callI (As := (fun P => [])) (st := [.ref (q_P E + rN12), .ref (q_P E + r0)]) C (sX10_init rN12) fcX8_20 rfl (fun _ => rfl) ⟨Nat.le_of_ble_eq_true rfl, Nat.le_of_ble_eq_true rfl⟩ ⟨Nat.le_of_ble_eq_true rfl, Nat.le_of_ble_eq_true rfl⟩ (Nat.le_of_ble_eq_true rfl) dX8_init_25 (fun X25_14 => ?_)
  show Sm E (q_fin E q_eV X 42 3646) 12 610 28 [(0, .ref (q_P E + r0))] [.ref (q_P E + rN12), .ref (q_P E + r0)] X25_14 _
  refine q_chk (fun h16 => ?_)
  refine q_chk (fun h17 => ?_)
  refine p_putF C fpX8_21 hn (fun _ => rfl) (fun _ => rfl) rfl dX8_init_28 h16 h17 ?_
  refine q_nmX (fun X28_15 => ?_)
  refine q_aload_n C 0 dX8_init_31 rfl rfl ?_
  refine q_new C fnX8_25 ⟨Nat.le_of_ble_eq_true rfl, Nat.le_of_ble_eq_true rfl⟩ dX8_init_32 ?_
  refine q_nmr (fun rN19 => ?_)
  refine q_nmX (fun X32_18 => ?_)
  refine q_dup C dX8_init_35 rfl ?_
  refine q_callI (As := (fun P => [])) (st := [.ref (q_P E + rN19), .ref (q_P E + r0)]) C (sX3_init rN19) fcX8_27 rfl (fun _ => rfl) ⟨Nat.le_of_ble_eq_true rfl, Nat.le_of_ble_eq_true rfl⟩ ⟨Nat.le_of_ble_eq_true rfl, Nat.le_of_ble_eq_true rfl⟩ (Nat.le_of_ble_eq_true rfl) dX8_init_36 (fun X36_21 => ?_)
  show Sm E (q_fin E q_eV X 42 3646) 29 755 39 [(0, .ref (q_P E + r0))] [.ref (q_P E + rN19), .ref (q_P E + r0)] X36_21 _
  refine q_chk (fun h23 => ?_)
  refine q_chk (fun h24 => ?_)
  refine p_putF C fpX8_28 hn (fun _ => rfl) (fun _ => rfl) rfl dX8_init_39 h23 h24 ?_
  refine q_nmX (fun X39_22 => ?_)
  refine q_aload_n C 0 dX8_init_42 rfl rfl ?_
  refine q_new C fnX8_32 ⟨Nat.le_of_ble_eq_true rfl, Nat.le_of_ble_eq_true rfl⟩ dX8_init_43 ?_
  refine q_nmr (fun rN26 => ?_)
  refine q_nmX (fun X43_25 => ?_)
  refine q_dup C dX8_init_46 rfl ?_
  refine q_callI (As := (fun P => [])) (st := [.ref (q_P E + rN26), .ref (q_P E + r0)]) C (sX6_init rN26) fcX8_34 rfl (fun _ => rfl) ⟨Nat.le_of_ble_eq_true rfl, Nat.le_of_ble_eq_true rfl⟩ ⟨Nat.le_of_ble_eq_true rfl, Nat.le_of_ble_eq_true rfl⟩ (Nat.le_of_ble_eq_true rfl) dX8_init_47 (fun X47_28 => ?_)
  show Sm E (q_fin E q_eV X 42 3646) 36 1241 50 [(0, .ref (q_P E + r0))] [.ref (q_P E + rN26), .ref (q_P E + r0)] X47_28 _
  refine q_chk (fun h30 => ?_)
  refine q_chk (fun h31 => ?_)
  refine p_putF C fpX8_35 hn (fun _ => rfl) (fun _ => rfl) rfl dX8_init_50 h30 h31 ?_
  refine q_nmX (fun X50_29 => ?_)
  refine q_aload_n C 0 dX8_init_53 rfl rfl ?_
  refine q_new C fnX8_39 ⟨Nat.le_of_ble_eq_true rfl, Nat.le_of_ble_eq_true rfl⟩ dX8_init_54 ?_
  refine q_nmr (fun rN33 => ?_)
  refine q_nmX (fun X54_32 => ?_)
  refine q_dup C dX8_init_57 rfl ?_
  refine q_callI (As := (fun P => [])) (st := [.ref (q_P E + rN33), .ref (q_P E + r0)]) C (sX1_init rN33) fcX8_41 rfl (fun _ => rfl) ⟨Nat.le_of_ble_eq_true rfl, Nat.le_of_ble_eq_true rfl⟩ ⟨Nat.le_of_ble_eq_true rfl, Nat.le_of_ble_eq_true rfl⟩ (Nat.le_of_ble_eq_true rfl) dX8_init_58 (fun X58_35 => ?_)
  show Sm E (q_fin E q_eV X 42 3646) 42 3646 61 [(0, .ref (q_P E + r0))] [.ref (q_P E + rN33), .ref (q_P E + r0)] X58_35 _
  refine q_chk (fun h37 => ?_)
  refine q_chk (fun h38 => ?_)
  refine p_putF C fpX8_42 hn (fun _ => rfl) (fun _ => rfl) rfl dX8_init_61 h37 h38 ?_
  refine q_nmX (fun X61_36 => ?_)
  exact q_vret C dX8_init_64
/-! RecordClaims$State.claimedTo(II)J -/
abbrev cX8_claimedTo : ByteArray := prog_10_method_38_code
def yX8_claimedTo : MethodName := ⟨RX8, "claimedTo", "(II)J"⟩
theorem dX8_claimedTo_0 : decode cX8_claimedTo 0 = .ok (.lconst 0, 1) := by decide +kernel
theorem dX8_claimedTo_1 : decode cX8_claimedTo 1 = .ok (.lstore_n 3, 1) := by decide +kernel
theorem dX8_claimedTo_2 : decode cX8_claimedTo 2 = .ok (.iconst 0, 1) := by decide +kernel
theorem dX8_claimedTo_3 : decode cX8_claimedTo 3 = .ok (.istore 5, 2) := by decide +kernel
theorem dX8_claimedTo_5 : decode cX8_claimedTo 5 = .ok (.iload 5, 2) := by decide +kernel
theorem dX8_claimedTo_7 : decode cX8_claimedTo 7 = .ok (.aload_n 0, 1) := by decide +kernel
theorem dX8_claimedTo_8 : decode cX8_claimedTo 8 = .ok (.getfield 28, 3) := by decide +kernel
theorem dX8_claimedTo_11 : decode cX8_claimedTo 11 = .ok (.getfield 88, 3) := by decide +kernel
theorem dX8_claimedTo_14 : decode cX8_claimedTo 14 = .ok (.iload_n 1, 1) := by decide +kernel
theorem dX8_claimedTo_15 : decode cX8_claimedTo 15 = .ok (.iaload, 1) := by decide +kernel
theorem dX8_claimedTo_16 : decode cX8_claimedTo 16 = .ok (.if_icmp .ge 44, 3) := by decide +kernel
theorem dX8_claimedTo_19 : decode cX8_claimedTo 19 = .ok (.aload_n 0, 1) := by decide +kernel
theorem dX8_claimedTo_20 : decode cX8_claimedTo 20 = .ok (.getfield 42, 3) := by decide +kernel
theorem dX8_claimedTo_23 : decode cX8_claimedTo 23 = .ok (.getfield 331, 3) := by decide +kernel
theorem dX8_claimedTo_26 : decode cX8_claimedTo 26 = .ok (.iload_n 1, 1) := by decide +kernel
theorem dX8_claimedTo_27 : decode cX8_claimedTo 27 = .ok (.iload 5, 2) := by decide +kernel
theorem dX8_claimedTo_29 : decode cX8_claimedTo 29 = .ok (.invokestatic 284, 3) := by decide +kernel
theorem dX8_claimedTo_32 : decode cX8_claimedTo 32 = .ok (.iaload, 1) := by decide +kernel
theorem dX8_claimedTo_33 : decode cX8_claimedTo 33 = .ok (.iload_n 2, 1) := by decide +kernel
theorem dX8_claimedTo_34 : decode cX8_claimedTo 34 = .ok (.if_icmp .ne 20, 3) := by decide +kernel
theorem dX8_claimedTo_37 : decode cX8_claimedTo 37 = .ok (.lload_n 3, 1) := by decide +kernel
theorem dX8_claimedTo_38 : decode cX8_claimedTo 38 = .ok (.aload_n 0, 1) := by decide +kernel
theorem dX8_claimedTo_39 : decode cX8_claimedTo 39 = .ok (.getfield 42, 3) := by decide +kernel
theorem dX8_claimedTo_42 : decode cX8_claimedTo 42 = .ok (.getfield 334, 3) := by decide +kernel
theorem dX8_claimedTo_45 : decode cX8_claimedTo 45 = .ok (.iload_n 1, 1) := by decide +kernel
theorem dX8_claimedTo_46 : decode cX8_claimedTo 46 = .ok (.iload 5, 2) := by decide +kernel
theorem dX8_claimedTo_48 : decode cX8_claimedTo 48 = .ok (.invokestatic 284, 3) := by decide +kernel
theorem dX8_claimedTo_51 : decode cX8_claimedTo 51 = .ok (.laload, 1) := by decide +kernel
theorem dX8_claimedTo_52 : decode cX8_claimedTo 52 = .ok (.ladd, 1) := by decide +kernel
theorem dX8_claimedTo_53 : decode cX8_claimedTo 53 = .ok (.lstore_n 3, 1) := by decide +kernel
theorem dX8_claimedTo_54 : decode cX8_claimedTo 54 = .ok (.iinc 5 1, 3) := by decide +kernel
theorem dX8_claimedTo_57 : decode cX8_claimedTo 57 = .ok (.goto (-52), 3) := by decide +kernel
theorem dX8_claimedTo_60 : decode cX8_claimedTo 60 = .ok (.lload_n 3, 1) := by decide +kernel
theorem dX8_claimedTo_61 : decode cX8_claimedTo 61 = .ok (.lreturn, 1) := by decide +kernel
theorem fgX8_28 : q_Fg RX8 28 8 3 := q_Fg.of (C := RX8) (T := TX8) (N := 9) rfl (by decide) inX8 402 (by decide +kernel) rfl rfl
theorem fgX8_88 : q_Fg RX8 88 3 12 := q_Fg.of (C := RX3) (T := TX3) (N := 17) rfl (by decide) inX3 292 (by decide +kernel) rfl rfl
theorem fgX8_42 : q_Fg RX8 42 8 5 := q_Fg.of (C := RX8) (T := TX8) (N := 9) rfl (by decide) inX8 405 (by decide +kernel) rfl rfl
theorem fgX8_331 : q_Fg RX8 331 1 1 := q_Fg.of (C := RX1) (T := TX1) (N := 5) rfl (by decide) inX1 378 (by decide +kernel) rfl rfl
theorem fcX8_284 : q_LS RX8 284 yX1_at cX1_at 2 (some .int) 2 := ⟨q_tb 905 (by decide +kernel) rfl, q_tb 906 (by decide +kernel) rfl, q_tb 9 (by decide +kernel) rfl, q_tb 907 (by decide +kernel) rfl, ⟨by decide +kernel, by decide +kernel, by decide +kernel⟩⟩
theorem fgX8_334 : q_Fg RX8 334 1 2 := q_Fg.of (C := RX1) (T := TX1) (N := 5) rfl (by decide) inX1 380 (by decide +kernel) rfl rfl
def fX8_claimedTo_L54 (n : Nat) (k5 : Nat → Int32 → Int32 → Int64 → Int32 → Mm → Option (Int64 × Mm)) (r0 : Nat) (v1 : Int32) (v2 : Int32) (v3 : Int64) (v5 : Int32) (X : Mm) : Option (Int64 × Mm) :=
nm (v5 + (1 : Int32)) fun v5_54 =>
k5 r0 v1 v2 v3 v5_54 X
def fX8_claimedTo_L5 (n : Nat) : Nat → Nat → Int32 → Int32 → Int64 → Int32 → Mm → Option (Int64 × Mm)
| 0, _, _, _, _, _, _ => none
| j + 1, r0, v1, v2, v3, v5, X =>
if mT X r0 = 8 then
if mR X r0 3 ≠ 0 then
if mT X (mR X r0 3) = 3 then
if mR X (mR X r0 3) 12 ≠ 0 then
if mT X (mR X (mR X r0 3) 12) = 14 then
if q_b X (mR X (mR X r0 3) 12) v1 then
if (mI X (mR X (mR X r0 3) 12) (v1).toNatClampNeg) ≤ v5 then (
some (v3, X)
) else (
if mR X r0 5 ≠ 0 then
if mT X (mR X r0 5) = 1 then
if mR X (mR X r0 5) 1 ≠ 0 then
bd (fX1_at v1 v5 X) fun w10 X29_11 =>
if mT X29_11 (mR X (mR X r0 5) 1) = 14 then
if q_b X29_11 (mR X (mR X r0 5) 1) w10 then
if (mI X29_11 (mR X (mR X r0 5) 1) (w10).toNatClampNeg) = v2 then (
if mT X29_11 r0 = 8 then
if mR X29_11 r0 5 ≠ 0 then
if mT X29_11 (mR X29_11 r0 5) = 1 then
if mR X29_11 (mR X29_11 r0 5) 2 ≠ 0 then
bd (fX1_at v1 v5 X29_11) fun w18 X48_19 =>
if mT X48_19 (mR X29_11 (mR X29_11 r0 5) 2) = 15 then
if q_b X48_19 (mR X29_11 (mR X29_11 r0 5) 2) w18 then
nm ((v3 + (mJ X48_19 (mR X29_11 (mR X29_11 r0 5) 2) (w18).toNatClampNeg))) fun v3_53 =>
fX8_claimedTo_L54 n (fX8_claimedTo_L5 n j) r0 v1 v2 v3_53 v5 X48_19
else none
else none
else none
else none
else none
else none
) else (
fX8_claimedTo_L54 n (fX8_claimedTo_L5 n j) r0 v1 v2 v3 v5 X29_11
)
else none
else none
else none
else none
else none
)
else none
else none
else none
else none
else none
else none
def fX8_claimedTo (n : Nat) (r0 : Nat) (v1 : Int32) (v2 : Int32) (X : Mm) : Option (Int64 × Mm) :=
fX8_claimedTo_L5 n n r0 v1 v2 (0 : Int64) (0 : Int32) X
theorem gX8_claimedTo_L54 {E : q_E} {X0 : Mm} (C : Cx E cX8_claimedTo RX8 6 (some .long) (q_rm 1 21 0 0) X0) (n : Nat) (k5 : Nat → Int32 → Int32 → Int64 → Int32 → Mm → Option (Int64 × Mm)) (hk5 : ∀ (r0 : Nat) (v1 : Int32) (v2 : Int32) (v3 : Int64) (v5 : Int32) (X : Mm), Sm E (q_fin E q_eL X0 0 0) 0 0 5 [(0, .ref (q_P E + r0)), (1, .int v1), (2, .int v2), (3, .long v3), (5, .int v5)] [] X (k5 r0 v1 v2 v3 v5 X)) (r0 : Nat) (v1 : Int32) (v2 : Int32) (v3 : Int64) (v5 : Int32) (X : Mm) : Sm E (q_fin E q_eL X0 0 0) 0 0 54 [(0, .ref (q_P E + r0)), (1, .int v1), (2, .int v2), (3, .long v3), (5, .int v5)] [] X (fX8_claimedTo_L54 n k5 r0 v1 v2 v3 v5 X) := by
  unfold fX8_claimedTo_L54
  refine q_iincN C (1 : Int32) 4 (fun v5_54 => [(5, .int v5_54), (0, .ref (q_P E + r0)), (1, .int v1), (2, .int v2), (3, .long v3)]) dX8_claimedTo_54 rfl rfl (Nat.le_of_ble_eq_true rfl) (fun _ => rfl) (fun v5_54 => ?_)
  refine q_goto C 5 dX8_claimedTo_57 (by decide) ?_
  refine q_sub C [(0, .ref (q_P E + r0)), (1, .int v1), (2, .int v2), (3, .long v3), (5, .int v5_54)] [1, 2, 3, 4, 0] rfl ?_
  exact hk5 r0 v1 v2 v3 v5_54 X
theorem gX8_claimedTo_L5 {E : q_E} {X0 : Mm} (C : Cx E cX8_claimedTo RX8 6 (some .long) (q_rm 1 21 0 0) X0) (n : Nat) : ∀ (j : Nat) (r0 : Nat) (v1 : Int32) (v2 : Int32) (v3 : Int64) (v5 : Int32) (X : Mm), Sm E (q_fin E q_eL X0 0 0) 0 0 5 [(0, .ref (q_P E + r0)), (1, .int v1), (2, .int v2), (3, .long v3), (5, .int v5)] [] X (fX8_claimedTo_L5 n j r0 v1 v2 v3 v5 X) := by
  intro j
  induction j with
  | zero => intros; exact Sm.none
  | succ j ih =>
    intro r0 v1 v2 v3 v5 X
    rw [fX8_claimedTo_L5]
    refine q_iload C 4 dX8_claimedTo_5 rfl ?_
    refine q_aload_n C 0 dX8_claimedTo_7 rfl rfl ?_
    refine q_chk (fun h1 => ?_)
    refine q_chk (fun h2 => ?_)
    refine p_getR C fgX8_28 rfl dX8_claimedTo_8 h1 h2 ?_
    refine q_chk (fun h3 => ?_)
    refine q_chk (fun h4 => ?_)
    refine p_getR C fgX8_88 rfl dX8_claimedTo_11 h3 h4 ?_
    refine q_iload_n C 1 dX8_claimedTo_14 rfl rfl ?_
    refine q_chk (fun h5 => ?_)
    refine q_chk (fun h6 => ?_)
    refine p_iald C dX8_claimedTo_15 h5 h6 ?_
    refine q_icmp_ge C 60 dX8_claimedTo_16 (by decide) (fun _ => ?_) (fun _ => ?_)
    · refine q_lload_n C 3 dX8_claimedTo_60 rfl rfl ?_
      exact q_lret C dX8_claimedTo_61
    · refine q_aload_n C 0 dX8_claimedTo_19 rfl rfl ?_
      refine q_chk (fun h7 => ?_)
      refine p_getR C fgX8_42 rfl dX8_claimedTo_20 h1 h7 ?_
      refine q_chk (fun h8 => ?_)
      refine q_chk (fun h9 => ?_)
      refine p_getR C fgX8_331 rfl dX8_claimedTo_23 h8 h9 ?_
      refine q_iload_n C 1 dX8_claimedTo_26 rfl rfl ?_
      refine q_iload C 4 dX8_claimedTo_27 rfl ?_
      refine q_cSI (As := (fun P => [.int v1, .int v5])) C [.ref (q_P E + (mR X (mR X r0 5) 1))] (sX1_at v1 v5) fcX8_284 rfl (fun _ => rfl) ⟨Nat.le_of_ble_eq_true rfl, Nat.le_of_ble_eq_true rfl⟩ ⟨Nat.le_of_ble_eq_true rfl, Nat.le_of_ble_eq_true rfl⟩ (Nat.le_of_ble_eq_true rfl) dX8_claimedTo_29 (fun w10 X29_11 => ?_)
      refine q_chk (fun h12 => ?_)
      refine q_chk (fun h13 => ?_)
      refine p_iald C dX8_claimedTo_32 h12 h13 ?_
      refine q_iload_n C 2 dX8_claimedTo_33 rfl rfl ?_
      refine q_icmp_ne C 54 dX8_claimedTo_34 (by decide) (fun _ => ?_) (fun _ => ?_)
      · refine q_lload_n C 3 dX8_claimedTo_37 rfl rfl ?_
        refine q_aload_n C 0 dX8_claimedTo_38 rfl rfl ?_
        refine q_chk (fun h14 => ?_)
        refine q_chk (fun h15 => ?_)
        refine p_getR C fgX8_42 rfl dX8_claimedTo_39 h14 h15 ?_
        refine q_chk (fun h16 => ?_)
        refine q_chk (fun h17 => ?_)
        refine p_getR C fgX8_334 rfl dX8_claimedTo_42 h16 h17 ?_
        refine q_iload_n C 1 dX8_claimedTo_45 rfl rfl ?_
        refine q_iload C 4 dX8_claimedTo_46 rfl ?_
        refine q_cSI (As := (fun P => [.int v1, .int v5])) C [.ref (q_P E + (mR X29_11 (mR X29_11 r0 5) 2)), .long v3] (sX1_at v1 v5) fcX8_284 rfl (fun _ => rfl) ⟨Nat.le_of_ble_eq_true rfl, Nat.le_of_ble_eq_true rfl⟩ ⟨Nat.le_of_ble_eq_true rfl, Nat.le_of_ble_eq_true rfl⟩ (Nat.le_of_ble_eq_true rfl) dX8_claimedTo_48 (fun w18 X48_19 => ?_)
        refine q_chk (fun h20 => ?_)
        refine q_chk (fun h21 => ?_)
        refine p_lald C dX8_claimedTo_51 h20 h21 ?_
        refine q_ladd C dX8_claimedTo_52 ?_
        refine q_nml (fun v3_53 => ?_)
        refine q_lstore_n C [(3, .long v3_53), (0, .ref (q_P E + r0)), (1, .int v1), (2, .int v2), (5, .int v5)] dX8_claimedTo_53 rfl (Nat.le_of_ble_eq_true rfl) rfl ?_
        refine q_sub C [(0, .ref (q_P E + r0)), (1, .int v1), (2, .int v2), (3, .long v3_53), (5, .int v5)] [1, 2, 3, 0, 4] rfl ?_
        exact gX8_claimedTo_L54 C n (fX8_claimedTo_L5 n j) ih r0 v1 v2 v3_53 v5 X48_19
      · exact gX8_claimedTo_L54 C n (fX8_claimedTo_L5 n j) ih r0 v1 v2 v3 v5 X29_11
theorem sX8_claimedTo (n : Nat) (r0 : Nat) (v1 : Int32) (v2 : Int32) : q_Ct yX8_claimedTo cX8_claimedTo 6 (some .long) 1 21 0 0 q_eL (fun P => [.ref (P + r0), .int v1, .int v2]) (fX8_claimedTo n r0 v1 v2) := by
  refine q_meth (by decide +kernel) (fun P => Nat.le_of_ble_eq_true rfl) (fun E X C hn => ?_)
  show Sm E (q_fin E q_eL X 0 0) 0 0 0 [(0, .ref (q_P E + r0)), (1, .int v1), (2, .int v2)] [] X _
  unfold fX8_claimedTo
  refine q_lconst C (0 : Int64) dX8_claimedTo_0 rfl ?_
  refine q_lstore_n C [(3, .long (0 : Int64)), (0, .ref (q_P E + r0)), (1, .int v1), (2, .int v2)] dX8_claimedTo_1 rfl (Nat.le_of_ble_eq_true rfl) rfl ?_
  refine q_iconst C (0 : Int32) dX8_claimedTo_2 rfl ?_
  refine q_istore C [(5, .int (0 : Int32)), (3, .long (0 : Int64)), (0, .ref (q_P E + r0)), (1, .int v1), (2, .int v2)] dX8_claimedTo_3 (Nat.le_of_ble_eq_true rfl) rfl ?_
  refine q_sub C [(0, .ref (q_P E + r0)), (1, .int v1), (2, .int v2), (3, .long (0 : Int64)), (5, .int (0 : Int32))] [2, 3, 4, 1, 0] rfl ?_
  exact gX8_claimedTo_L5 C n n r0 v1 v2 (0 : Int64) (0 : Int32) X
/-! RecordClaims$State.claimedFrom(II)J -/
abbrev cX8_claimedFrom : ByteArray := prog_10_method_37_code
def yX8_claimedFrom : MethodName := ⟨RX8, "claimedFrom", "(II)J"⟩
theorem dX8_claimedFrom_0 : decode cX8_claimedFrom 0 = .ok (.lconst 0, 1) := by decide +kernel
theorem dX8_claimedFrom_1 : decode cX8_claimedFrom 1 = .ok (.lstore_n 3, 1) := by decide +kernel
theorem dX8_claimedFrom_2 : decode cX8_claimedFrom 2 = .ok (.iconst 0, 1) := by decide +kernel
theorem dX8_claimedFrom_3 : decode cX8_claimedFrom 3 = .ok (.istore 5, 2) := by decide +kernel
theorem dX8_claimedFrom_5 : decode cX8_claimedFrom 5 = .ok (.iload 5, 2) := by decide +kernel
theorem dX8_claimedFrom_7 : decode cX8_claimedFrom 7 = .ok (.aload_n 0, 1) := by decide +kernel
theorem dX8_claimedFrom_8 : decode cX8_claimedFrom 8 = .ok (.getfield 28, 3) := by decide +kernel
theorem dX8_claimedFrom_11 : decode cX8_claimedFrom 11 = .ok (.getfield 88, 3) := by decide +kernel
theorem dX8_claimedFrom_14 : decode cX8_claimedFrom 14 = .ok (.iload_n 1, 1) := by decide +kernel
theorem dX8_claimedFrom_15 : decode cX8_claimedFrom 15 = .ok (.iaload, 1) := by decide +kernel
theorem dX8_claimedFrom_16 : decode cX8_claimedFrom 16 = .ok (.if_icmp .ge 44, 3) := by decide +kernel
theorem dX8_claimedFrom_19 : decode cX8_claimedFrom 19 = .ok (.aload_n 0, 1) := by decide +kernel
theorem dX8_claimedFrom_20 : decode cX8_claimedFrom 20 = .ok (.getfield 42, 3) := by decide +kernel
theorem dX8_claimedFrom_23 : decode cX8_claimedFrom 23 = .ok (.getfield 328, 3) := by decide +kernel
theorem dX8_claimedFrom_26 : decode cX8_claimedFrom 26 = .ok (.iload_n 1, 1) := by decide +kernel
theorem dX8_claimedFrom_27 : decode cX8_claimedFrom 27 = .ok (.iload 5, 2) := by decide +kernel
theorem dX8_claimedFrom_29 : decode cX8_claimedFrom 29 = .ok (.invokestatic 284, 3) := by decide +kernel
theorem dX8_claimedFrom_32 : decode cX8_claimedFrom 32 = .ok (.iaload, 1) := by decide +kernel
theorem dX8_claimedFrom_33 : decode cX8_claimedFrom 33 = .ok (.iload_n 2, 1) := by decide +kernel
theorem dX8_claimedFrom_34 : decode cX8_claimedFrom 34 = .ok (.if_icmp .ne 20, 3) := by decide +kernel
theorem dX8_claimedFrom_37 : decode cX8_claimedFrom 37 = .ok (.lload_n 3, 1) := by decide +kernel
theorem dX8_claimedFrom_38 : decode cX8_claimedFrom 38 = .ok (.aload_n 0, 1) := by decide +kernel
theorem dX8_claimedFrom_39 : decode cX8_claimedFrom 39 = .ok (.getfield 42, 3) := by decide +kernel
theorem dX8_claimedFrom_42 : decode cX8_claimedFrom 42 = .ok (.getfield 334, 3) := by decide +kernel
theorem dX8_claimedFrom_45 : decode cX8_claimedFrom 45 = .ok (.iload_n 1, 1) := by decide +kernel
theorem dX8_claimedFrom_46 : decode cX8_claimedFrom 46 = .ok (.iload 5, 2) := by decide +kernel
theorem dX8_claimedFrom_48 : decode cX8_claimedFrom 48 = .ok (.invokestatic 284, 3) := by decide +kernel
theorem dX8_claimedFrom_51 : decode cX8_claimedFrom 51 = .ok (.laload, 1) := by decide +kernel
theorem dX8_claimedFrom_52 : decode cX8_claimedFrom 52 = .ok (.ladd, 1) := by decide +kernel
theorem dX8_claimedFrom_53 : decode cX8_claimedFrom 53 = .ok (.lstore_n 3, 1) := by decide +kernel
theorem dX8_claimedFrom_54 : decode cX8_claimedFrom 54 = .ok (.iinc 5 1, 3) := by decide +kernel
theorem dX8_claimedFrom_57 : decode cX8_claimedFrom 57 = .ok (.goto (-52), 3) := by decide +kernel
theorem dX8_claimedFrom_60 : decode cX8_claimedFrom 60 = .ok (.lload_n 3, 1) := by decide +kernel
theorem dX8_claimedFrom_61 : decode cX8_claimedFrom 61 = .ok (.lreturn, 1) := by decide +kernel
theorem fgX8_328 : q_Fg RX8 328 1 0 := q_Fg.of (C := RX1) (T := TX1) (N := 5) rfl (by decide) inX1 376 (by decide +kernel) rfl rfl
def fX8_claimedFrom_L54 (n : Nat) (k5 : Nat → Int32 → Int32 → Int64 → Int32 → Mm → Option (Int64 × Mm)) (r0 : Nat) (v1 : Int32) (v2 : Int32) (v3 : Int64) (v5 : Int32) (X : Mm) : Option (Int64 × Mm) :=
nm (v5 + (1 : Int32)) fun v5_54 =>
k5 r0 v1 v2 v3 v5_54 X
def fX8_claimedFrom_L5 (n : Nat) : Nat → Nat → Int32 → Int32 → Int64 → Int32 → Mm → Option (Int64 × Mm)
| 0, _, _, _, _, _, _ => none
| j + 1, r0, v1, v2, v3, v5, X =>
if mT X r0 = 8 then
if mR X r0 3 ≠ 0 then
if mT X (mR X r0 3) = 3 then
if mR X (mR X r0 3) 12 ≠ 0 then
if mT X (mR X (mR X r0 3) 12) = 14 then
if q_b X (mR X (mR X r0 3) 12) v1 then
if (mI X (mR X (mR X r0 3) 12) (v1).toNatClampNeg) ≤ v5 then (
some (v3, X)
) else (
if mR X r0 5 ≠ 0 then
if mT X (mR X r0 5) = 1 then
if mR X (mR X r0 5) 0 ≠ 0 then
bd (fX1_at v1 v5 X) fun w10 X29_11 =>
if mT X29_11 (mR X (mR X r0 5) 0) = 14 then
if q_b X29_11 (mR X (mR X r0 5) 0) w10 then
if (mI X29_11 (mR X (mR X r0 5) 0) (w10).toNatClampNeg) = v2 then (
if mT X29_11 r0 = 8 then
if mR X29_11 r0 5 ≠ 0 then
if mT X29_11 (mR X29_11 r0 5) = 1 then
if mR X29_11 (mR X29_11 r0 5) 2 ≠ 0 then
bd (fX1_at v1 v5 X29_11) fun w18 X48_19 =>
if mT X48_19 (mR X29_11 (mR X29_11 r0 5) 2) = 15 then
if q_b X48_19 (mR X29_11 (mR X29_11 r0 5) 2) w18 then
nm ((v3 + (mJ X48_19 (mR X29_11 (mR X29_11 r0 5) 2) (w18).toNatClampNeg))) fun v3_53 =>
fX8_claimedFrom_L54 n (fX8_claimedFrom_L5 n j) r0 v1 v2 v3_53 v5 X48_19
else none
else none
else none
else none
else none
else none
) else (
fX8_claimedFrom_L54 n (fX8_claimedFrom_L5 n j) r0 v1 v2 v3 v5 X29_11
)
else none
else none
else none
else none
else none
)
else none
else none
else none
else none
else none
else none
def fX8_claimedFrom (n : Nat) (r0 : Nat) (v1 : Int32) (v2 : Int32) (X : Mm) : Option (Int64 × Mm) :=
fX8_claimedFrom_L5 n n r0 v1 v2 (0 : Int64) (0 : Int32) X
theorem gX8_claimedFrom_L54 {E : q_E} {X0 : Mm} (C : Cx E cX8_claimedFrom RX8 6 (some .long) (q_rm 1 21 0 0) X0) (n : Nat) (k5 : Nat → Int32 → Int32 → Int64 → Int32 → Mm → Option (Int64 × Mm)) (hk5 : ∀ (r0 : Nat) (v1 : Int32) (v2 : Int32) (v3 : Int64) (v5 : Int32) (X : Mm), Sm E (q_fin E q_eL X0 0 0) 0 0 5 [(0, .ref (q_P E + r0)), (1, .int v1), (2, .int v2), (3, .long v3), (5, .int v5)] [] X (k5 r0 v1 v2 v3 v5 X)) (r0 : Nat) (v1 : Int32) (v2 : Int32) (v3 : Int64) (v5 : Int32) (X : Mm) : Sm E (q_fin E q_eL X0 0 0) 0 0 54 [(0, .ref (q_P E + r0)), (1, .int v1), (2, .int v2), (3, .long v3), (5, .int v5)] [] X (fX8_claimedFrom_L54 n k5 r0 v1 v2 v3 v5 X) := by
  unfold fX8_claimedFrom_L54
  refine q_iincN C (1 : Int32) 4 (fun v5_54 => [(5, .int v5_54), (0, .ref (q_P E + r0)), (1, .int v1), (2, .int v2), (3, .long v3)]) dX8_claimedFrom_54 rfl rfl (Nat.le_of_ble_eq_true rfl) (fun _ => rfl) (fun v5_54 => ?_)
  refine q_goto C 5 dX8_claimedFrom_57 (by decide) ?_
  refine q_sub C [(0, .ref (q_P E + r0)), (1, .int v1), (2, .int v2), (3, .long v3), (5, .int v5_54)] [1, 2, 3, 4, 0] rfl ?_
  exact hk5 r0 v1 v2 v3 v5_54 X
theorem gX8_claimedFrom_L5 {E : q_E} {X0 : Mm} (C : Cx E cX8_claimedFrom RX8 6 (some .long) (q_rm 1 21 0 0) X0) (n : Nat) : ∀ (j : Nat) (r0 : Nat) (v1 : Int32) (v2 : Int32) (v3 : Int64) (v5 : Int32) (X : Mm), Sm E (q_fin E q_eL X0 0 0) 0 0 5 [(0, .ref (q_P E + r0)), (1, .int v1), (2, .int v2), (3, .long v3), (5, .int v5)] [] X (fX8_claimedFrom_L5 n j r0 v1 v2 v3 v5 X) := by
  intro j
  induction j with
  | zero => intros; exact Sm.none
  | succ j ih =>
    intro r0 v1 v2 v3 v5 X
    rw [fX8_claimedFrom_L5]
    refine q_iload C 4 dX8_claimedFrom_5 rfl ?_
    refine q_aload_n C 0 dX8_claimedFrom_7 rfl rfl ?_
    refine q_chk (fun h1 => ?_)
    refine q_chk (fun h2 => ?_)
    refine p_getR C fgX8_28 rfl dX8_claimedFrom_8 h1 h2 ?_
    refine q_chk (fun h3 => ?_)
    refine q_chk (fun h4 => ?_)
    refine p_getR C fgX8_88 rfl dX8_claimedFrom_11 h3 h4 ?_
    refine q_iload_n C 1 dX8_claimedFrom_14 rfl rfl ?_
    refine q_chk (fun h5 => ?_)
    refine q_chk (fun h6 => ?_)
    refine p_iald C dX8_claimedFrom_15 h5 h6 ?_
    refine q_icmp_ge C 60 dX8_claimedFrom_16 (by decide) (fun _ => ?_) (fun _ => ?_)
    · refine q_lload_n C 3 dX8_claimedFrom_60 rfl rfl ?_
      exact q_lret C dX8_claimedFrom_61
    · refine q_aload_n C 0 dX8_claimedFrom_19 rfl rfl ?_
      refine q_chk (fun h7 => ?_)
      refine p_getR C fgX8_42 rfl dX8_claimedFrom_20 h1 h7 ?_
      refine q_chk (fun h8 => ?_)
      refine q_chk (fun h9 => ?_)
      refine p_getR C fgX8_328 rfl dX8_claimedFrom_23 h8 h9 ?_
      refine q_iload_n C 1 dX8_claimedFrom_26 rfl rfl ?_
      refine q_iload C 4 dX8_claimedFrom_27 rfl ?_
      refine q_cSI (As := (fun P => [.int v1, .int v5])) C [.ref (q_P E + (mR X (mR X r0 5) 0))] (sX1_at v1 v5) fcX8_284 rfl (fun _ => rfl) ⟨Nat.le_of_ble_eq_true rfl, Nat.le_of_ble_eq_true rfl⟩ ⟨Nat.le_of_ble_eq_true rfl, Nat.le_of_ble_eq_true rfl⟩ (Nat.le_of_ble_eq_true rfl) dX8_claimedFrom_29 (fun w10 X29_11 => ?_)
      refine q_chk (fun h12 => ?_)
      refine q_chk (fun h13 => ?_)
      refine p_iald C dX8_claimedFrom_32 h12 h13 ?_
      refine q_iload_n C 2 dX8_claimedFrom_33 rfl rfl ?_
      refine q_icmp_ne C 54 dX8_claimedFrom_34 (by decide) (fun _ => ?_) (fun _ => ?_)
      · refine q_lload_n C 3 dX8_claimedFrom_37 rfl rfl ?_
        refine q_aload_n C 0 dX8_claimedFrom_38 rfl rfl ?_
        refine q_chk (fun h14 => ?_)
        refine q_chk (fun h15 => ?_)
        refine p_getR C fgX8_42 rfl dX8_claimedFrom_39 h14 h15 ?_
        refine q_chk (fun h16 => ?_)
        refine q_chk (fun h17 => ?_)
        refine p_getR C fgX8_334 rfl dX8_claimedFrom_42 h16 h17 ?_
        refine q_iload_n C 1 dX8_claimedFrom_45 rfl rfl ?_
        refine q_iload C 4 dX8_claimedFrom_46 rfl ?_
        refine q_cSI (As := (fun P => [.int v1, .int v5])) C [.ref (q_P E + (mR X29_11 (mR X29_11 r0 5) 2)), .long v3] (sX1_at v1 v5) fcX8_284 rfl (fun _ => rfl) ⟨Nat.le_of_ble_eq_true rfl, Nat.le_of_ble_eq_true rfl⟩ ⟨Nat.le_of_ble_eq_true rfl, Nat.le_of_ble_eq_true rfl⟩ (Nat.le_of_ble_eq_true rfl) dX8_claimedFrom_48 (fun w18 X48_19 => ?_)
        refine q_chk (fun h20 => ?_)
        refine q_chk (fun h21 => ?_)
        refine p_lald C dX8_claimedFrom_51 h20 h21 ?_
        refine q_ladd C dX8_claimedFrom_52 ?_
        refine q_nml (fun v3_53 => ?_)
        refine q_lstore_n C [(3, .long v3_53), (0, .ref (q_P E + r0)), (1, .int v1), (2, .int v2), (5, .int v5)] dX8_claimedFrom_53 rfl (Nat.le_of_ble_eq_true rfl) rfl ?_
        refine q_sub C [(0, .ref (q_P E + r0)), (1, .int v1), (2, .int v2), (3, .long v3_53), (5, .int v5)] [1, 2, 3, 0, 4] rfl ?_
        exact gX8_claimedFrom_L54 C n (fX8_claimedFrom_L5 n j) ih r0 v1 v2 v3_53 v5 X48_19
      · exact gX8_claimedFrom_L54 C n (fX8_claimedFrom_L5 n j) ih r0 v1 v2 v3 v5 X29_11
theorem sX8_claimedFrom (n : Nat) (r0 : Nat) (v1 : Int32) (v2 : Int32) : q_Ct yX8_claimedFrom cX8_claimedFrom 6 (some .long) 1 21 0 0 q_eL (fun P => [.ref (P + r0), .int v1, .int v2]) (fX8_claimedFrom n r0 v1 v2) := by
  refine q_meth (by decide +kernel) (fun P => Nat.le_of_ble_eq_true rfl) (fun E X C hn => ?_)
  show Sm E (q_fin E q_eL X 0 0) 0 0 0 [(0, .ref (q_P E + r0)), (1, .int v1), (2, .int v2)] [] X _
  unfold fX8_claimedFrom
  refine q_lconst C (0 : Int64) dX8_claimedFrom_0 rfl ?_
  refine q_lstore_n C [(3, .long (0 : Int64)), (0, .ref (q_P E + r0)), (1, .int v1), (2, .int v2)] dX8_claimedFrom_1 rfl (Nat.le_of_ble_eq_true rfl) rfl ?_
  refine q_iconst C (0 : Int32) dX8_claimedFrom_2 rfl ?_
  refine q_istore C [(5, .int (0 : Int32)), (3, .long (0 : Int64)), (0, .ref (q_P E + r0)), (1, .int v1), (2, .int v2)] dX8_claimedFrom_3 (Nat.le_of_ble_eq_true rfl) rfl ?_
  refine q_sub C [(0, .ref (q_P E + r0)), (1, .int v1), (2, .int v2), (3, .long (0 : Int64)), (5, .int (0 : Int32))] [2, 3, 4, 1, 0] rfl ?_
  exact gX8_claimedFrom_L5 C n n r0 v1 v2 (0 : Int64) (0 : Int32) X
/-! RecordClaims$State.sharesOf(II)J -/
abbrev cX8_sharesOf : ByteArray := prog_10_method_7_code
def yX8_sharesOf : MethodName := ⟨RX8, "sharesOf", "(II)J"⟩
theorem dX8_sharesOf_0 : decode cX8_sharesOf 0 = .ok (.aload_n 0, 1) := by decide +kernel
theorem dX8_sharesOf_1 : decode cX8_sharesOf 1 = .ok (.getfield 9, 3) := by decide +kernel
theorem dX8_sharesOf_4 : decode cX8_sharesOf 4 = .ok (.iload_n 1, 1) := by decide +kernel
theorem dX8_sharesOf_5 : decode cX8_sharesOf 5 = .ok (.iconst 5, 1) := by decide +kernel
theorem dX8_sharesOf_6 : decode cX8_sharesOf 6 = .ok (.imul, 1) := by decide +kernel
theorem dX8_sharesOf_7 : decode cX8_sharesOf 7 = .ok (.iload_n 2, 1) := by decide +kernel
theorem dX8_sharesOf_8 : decode cX8_sharesOf 8 = .ok (.iadd, 1) := by decide +kernel
theorem dX8_sharesOf_9 : decode cX8_sharesOf 9 = .ok (.laload, 1) := by decide +kernel
theorem dX8_sharesOf_10 : decode cX8_sharesOf 10 = .ok (.lreturn, 1) := by decide +kernel
theorem fgX8_9 : q_Fg RX8 9 8 0 := q_Fg.of (C := RX8) (T := TX8) (N := 9) rfl (by decide) inX8 396 (by decide +kernel) rfl rfl
def fX8_sharesOf (r0 : Nat) (v1 : Int32) (v2 : Int32) (X : Mm) : Option (Int64 × Mm) :=
if mT X r0 = 8 then
if mR X r0 0 ≠ 0 then
if mT X (mR X r0 0) = 15 then
if q_b X (mR X r0 0) ((v1 * (5 : Int32)) + v2) then
some ((mJ X (mR X r0 0) (((v1 * (5 : Int32)) + v2)).toNatClampNeg), X)
else none
else none
else none
else none
theorem sX8_sharesOf (r0 : Nat) (v1 : Int32) (v2 : Int32) : q_Ct yX8_sharesOf cX8_sharesOf 3 (some .long) 0 0 0 0 q_eL (fun P => [.ref (P + r0), .int v1, .int v2]) (fX8_sharesOf r0 v1 v2) := by
  refine q_meth (by decide +kernel) (fun P => Nat.le_of_ble_eq_true rfl) (fun E X C hn => ?_)
  show Sm E (q_fin E q_eL X 0 0) 0 0 0 [(0, .ref (q_P E + r0)), (1, .int v1), (2, .int v2)] [] X _
  unfold fX8_sharesOf
  refine q_aload_n C 0 dX8_sharesOf_0 rfl rfl ?_
  refine q_chk (fun h1 => ?_)
  refine q_chk (fun h2 => ?_)
  refine p_getR C fgX8_9 rfl dX8_sharesOf_1 h1 h2 ?_
  refine q_iload_n C 1 dX8_sharesOf_4 rfl rfl ?_
  refine q_iconst C (5 : Int32) dX8_sharesOf_5 rfl ?_
  refine q_imul C dX8_sharesOf_6 ?_
  refine q_iload_n C 2 dX8_sharesOf_7 rfl rfl ?_
  refine q_iadd C dX8_sharesOf_8 ?_
  refine q_chk (fun h3 => ?_)
  refine q_chk (fun h4 => ?_)
  refine p_lald C dX8_sharesOf_9 h3 h4 ?_
  exact q_lret C dX8_sharesOf_10
/-! RecordClaims$State.startWith(LRecordClaims$Book;)V -/
abbrev cX8_startWith : ByteArray := prog_10_method_2_code
def yX8_startWith : MethodName := ⟨RX8, "startWith", "(LRecordClaims$Book;)V"⟩
theorem dX8_startWith_0 : decode cX8_startWith 0 = .ok (.aload_n 1, 1) := by decide +kernel
theorem dX8_startWith_1 : decode cX8_startWith 1 = .ok (.getfield 46, 3) := by decide +kernel
theorem dX8_startWith_4 : decode cX8_startWith 4 = .ok (.iconst 0, 1) := by decide +kernel
theorem dX8_startWith_5 : decode cX8_startWith 5 = .ok (.aload_n 0, 1) := by decide +kernel
theorem dX8_startWith_6 : decode cX8_startWith 6 = .ok (.getfield 9, 3) := by decide +kernel
theorem dX8_startWith_9 : decode cX8_startWith 9 = .ok (.iconst 0, 1) := by decide +kernel
theorem dX8_startWith_10 : decode cX8_startWith 10 = .ok (.bipush 50, 2) := by decide +kernel
theorem dX8_startWith_12 : decode cX8_startWith 12 = .ok (.invokestatic 49, 3) := by decide +kernel
theorem dX8_startWith_15 : decode cX8_startWith 15 = .ok (.iconst 0, 1) := by decide +kernel
theorem dX8_startWith_16 : decode cX8_startWith 16 = .ok (.istore_n 2, 1) := by decide +kernel
theorem dX8_startWith_17 : decode cX8_startWith 17 = .ok (.iload_n 2, 1) := by decide +kernel
theorem dX8_startWith_18 : decode cX8_startWith 18 = .ok (.bipush 10, 2) := by decide +kernel
theorem dX8_startWith_20 : decode cX8_startWith 20 = .ok (.if_icmp .ge 16, 3) := by decide +kernel
theorem dX8_startWith_23 : decode cX8_startWith 23 = .ok (.aload_n 0, 1) := by decide +kernel
theorem dX8_startWith_24 : decode cX8_startWith 24 = .ok (.getfield 15, 3) := by decide +kernel
theorem dX8_startWith_27 : decode cX8_startWith 27 = .ok (.iload_n 2, 1) := by decide +kernel
theorem dX8_startWith_28 : decode cX8_startWith 28 = .ok (.lconst 0, 1) := by decide +kernel
theorem dX8_startWith_29 : decode cX8_startWith 29 = .ok (.lastore, 1) := by decide +kernel
theorem dX8_startWith_30 : decode cX8_startWith 30 = .ok (.iinc 2 1, 3) := by decide +kernel
theorem dX8_startWith_33 : decode cX8_startWith 33 = .ok (.goto (-16), 3) := by decide +kernel
theorem dX8_startWith_36 : decode cX8_startWith 36 = .ok (.aload_n 0, 1) := by decide +kernel
theorem dX8_startWith_37 : decode cX8_startWith 37 = .ok (.getfield 21, 3) := by decide +kernel
theorem dX8_startWith_40 : decode cX8_startWith 40 = .ok (.iconst 0, 1) := by decide +kernel
theorem dX8_startWith_41 : decode cX8_startWith 41 = .ok (.putfield 55, 3) := by decide +kernel
theorem dX8_startWith_44 : decode cX8_startWith 44 = .ok (.aload_n 0, 1) := by decide +kernel
theorem dX8_startWith_45 : decode cX8_startWith 45 = .ok (.getfield 28, 3) := by decide +kernel
theorem dX8_startWith_48 : decode cX8_startWith 48 = .ok (.iconst 0, 1) := by decide +kernel
theorem dX8_startWith_49 : decode cX8_startWith 49 = .ok (.putfield 59, 3) := by decide +kernel
theorem dX8_startWith_52 : decode cX8_startWith 52 = .ok (.aload_n 0, 1) := by decide +kernel
theorem dX8_startWith_53 : decode cX8_startWith 53 = .ok (.aload_n 1, 1) := by decide +kernel
theorem dX8_startWith_54 : decode cX8_startWith 54 = .ok (.getfield 60, 3) := by decide +kernel
theorem dX8_startWith_57 : decode cX8_startWith 57 = .ok (.putfield 63, 3) := by decide +kernel
theorem dX8_startWith_60 : decode cX8_startWith 60 = .ok (.aload_n 0, 1) := by decide +kernel
theorem dX8_startWith_61 : decode cX8_startWith 61 = .ok (.aload_n 1, 1) := by decide +kernel
theorem dX8_startWith_62 : decode cX8_startWith 62 = .ok (.getfield 64, 3) := by decide +kernel
theorem dX8_startWith_65 : decode cX8_startWith 65 = .ok (.putfield 67, 3) := by decide +kernel
theorem dX8_startWith_68 : decode cX8_startWith 68 = .ok (.aload_n 0, 1) := by decide +kernel
theorem dX8_startWith_69 : decode cX8_startWith 69 = .ok (.iconst 0, 1) := by decide +kernel
theorem dX8_startWith_70 : decode cX8_startWith 70 = .ok (.putfield 68, 3) := by decide +kernel
theorem dX8_startWith_73 : decode cX8_startWith 73 = .ok (.return_, 1) := by decide +kernel
theorem fgX8_46 : q_Fg RX8 46 0 2 := q_Fg.of (C := RX0) (T := TX0) (N := 5) rfl (by decide) inX0 76 (by decide +kernel) rfl rfl
theorem fwX8_49_ac : Cond.methodLink RX8 49 arraycopyName ∈ q_tbl := q_tb 694 (by decide +kernel) rfl
theorem fgX8_21 : q_Fg RX8 21 8 2 := q_Fg.of (C := RX8) (T := TX8) (N := 9) rfl (by decide) inX8 400 (by decide +kernel) rfl rfl
theorem fpX8_55 : q_Fp RX8 55 10 9 .int false := ⟨RX10, TX10, 10, tyX10, rfl, by decide, inX10, q_tb 241 (by decide +kernel) rfl, tyX10_ok, nmX10, rfl, rfl, fun h => by first | rfl | cases h⟩
theorem fpX8_59 : q_Fp RX8 59 3 16 .int false := ⟨RX3, TX3, 17, tyX3, rfl, by decide, inX3, q_tb 301 (by decide +kernel) rfl, tyX3_ok, nmX3, rfl, rfl, fun h => by first | rfl | cases h⟩
theorem fgX8_60 : q_Fg RX8 60 0 3 := q_Fg.of (C := RX0) (T := TX0) (N := 5) rfl (by decide) inX0 78 (by decide +kernel) rfl rfl
theorem fpX8_63 : q_Fp RX8 63 8 6 .int false := ⟨RX8, TX8, 9, tyX8, rfl, by decide, inX8, q_tb 406 (by decide +kernel) rfl, tyX8_ok, nmX8, rfl, rfl, fun h => by first | rfl | cases h⟩
theorem fgX8_64 : q_Fg RX8 64 0 4 := q_Fg.of (C := RX0) (T := TX0) (N := 5) rfl (by decide) inX0 79 (by decide +kernel) rfl rfl
theorem fpX8_67 : q_Fp RX8 67 8 7 .int false := ⟨RX8, TX8, 9, tyX8, rfl, by decide, inX8, q_tb 409 (by decide +kernel) rfl, tyX8_ok, nmX8, rfl, rfl, fun h => by first | rfl | cases h⟩
theorem fpX8_68 : q_Fp RX8 68 8 8 .int false := ⟨RX8, TX8, 9, tyX8, rfl, by decide, inX8, q_tb 411 (by decide +kernel) rfl, tyX8_ok, nmX8, rfl, rfl, fun h => by first | rfl | cases h⟩
theorem fgX8_15 : q_Fg RX8 15 8 1 := q_Fg.of (C := RX8) (T := TX8) (N := 9) rfl (by decide) inX8 397 (by decide +kernel) rfl rfl
def fX8_startWith_L17 (n : Nat) : Nat → Nat → Nat → Int32 → Mm → Option (Unit × Mm)
| 0, _, _, _, _ => none
| j + 1, r0, r1, v2, X =>
if (10 : Int32) ≤ v2 then (
if mT X r0 = 8 then
if mR X r0 2 ≠ 0 then
if mT X (mR X r0 2) = 10 then
nm (sI X (mR X r0 2) 9 (0 : Int32)) fun X41_9 =>
if mT X41_9 r0 = 8 then
if mR X41_9 r0 3 ≠ 0 then
if mT X41_9 (mR X41_9 r0 3) = 3 then
nm (sI X41_9 (mR X41_9 r0 3) 16 (0 : Int32)) fun X49_13 =>
if mT X49_13 r1 = 0 then
if mT X49_13 r0 = 8 then
nm (sI X49_13 r0 6 (mI X49_13 r1 3)) fun X57_16 =>
if mT X57_16 r1 = 0 then
if mT X57_16 r0 = 8 then
nm (sI X57_16 r0 7 (mI X57_16 r1 4)) fun X65_19 =>
if mT X65_19 r0 = 8 then
nm (sI X65_19 r0 8 (0 : Int32)) fun X70_21 =>
some ((), X70_21)
else none
else none
else none
else none
else none
else none
else none
else none
else none
else none
else none
) else (
if mT X r0 = 8 then
if mR X r0 1 ≠ 0 then
if mT X (mR X r0 1) = 15 then
if q_b X (mR X r0 1) v2 then
nm (sJ X (mR X r0 1) (v2).toNatClampNeg (0 : Int64)) fun X29_25 =>
nm (v2 + (1 : Int32)) fun v2_30 =>
(fX8_startWith_L17 n j) r0 r1 v2_30 X29_25
else none
else none
else none
else none
)
def fX8_startWith (n : Nat) (r0 : Nat) (r1 : Nat) (X : Mm) : Option (Unit × Mm) :=
if mT X r1 = 0 then
if mR X r1 2 ≠ 0 then
if mT X r0 = 8 then
if mR X r0 0 ≠ 0 then
if q_cpok X (mR X r1 2) (mR X r0 0) 15 (0 : Int32) (0 : Int32) (50 : Int32) then
nm (wJ X (mR X r0 0) (va_cpy (mJ X (mR X r1 2)) (mJ X (mR X r0 0)) ((0 : Int32)).toNatClampNeg ((0 : Int32)).toNatClampNeg ((50 : Int32)).toNatClampNeg)) fun X12_5 =>
fX8_startWith_L17 n n r0 r1 (0 : Int32) X12_5
else none
else none
else none
else none
else none
theorem gX8_startWith_L17 {E : q_E} {X0 : Mm} (C : Cx E cX8_startWith RX8 3 none (q_rm 1 26 0 0) X0) (n : Nat) : ∀ (j : Nat) (r0 : Nat) (r1 : Nat) (v2 : Int32) (X : Mm), Sm E (q_fin E q_eV X0 0 0) 0 0 17 [(0, .ref (q_P E + r0)), (1, .ref (q_P E + r1)), (2, .int v2)] [] X (fX8_startWith_L17 n j r0 r1 v2 X) := by
  intro j
  induction j with
  | zero => intros; exact Sm.none
  | succ j ih =>
    intro r0 r1 v2 X
    rw [fX8_startWith_L17]
    refine q_iload_n C 2 dX8_startWith_17 rfl rfl ?_
    refine q_bipush C (10 : Int32) dX8_startWith_18 rfl ?_
    refine q_icmp_ge C 36 dX8_startWith_20 (by decide) (fun _ => ?_) (fun _ => ?_)
    · refine q_aload_n C 0 dX8_startWith_36 rfl rfl ?_
      refine q_chk (fun h7 => ?_)
      refine q_chk (fun h8 => ?_)
      refine p_getR C fgX8_21 rfl dX8_startWith_37 h7 h8 ?_
      refine q_iconst C (0 : Int32) dX8_startWith_40 rfl ?_
      refine q_chk (fun h10 => ?_)
      refine p_putI C fpX8_55 rfl dX8_startWith_41 h10 ?_
      refine q_nmX (fun X41_9 => ?_)
      refine q_aload_n C 0 dX8_startWith_44 rfl rfl ?_
      refine q_chk (fun h11 => ?_)
      refine q_chk (fun h12 => ?_)
      refine p_getR C fgX8_28 rfl dX8_startWith_45 h11 h12 ?_
      refine q_iconst C (0 : Int32) dX8_startWith_48 rfl ?_
      refine q_chk (fun h14 => ?_)
      refine p_putI C fpX8_59 rfl dX8_startWith_49 h14 ?_
      refine q_nmX (fun X49_13 => ?_)
      refine q_aload_n C 0 dX8_startWith_52 rfl rfl ?_
      refine q_aload_n C 1 dX8_startWith_53 rfl rfl ?_
      refine q_chk (fun h15 => ?_)
      refine p_getI C fgX8_60 rfl dX8_startWith_54 h15 ?_
      refine q_chk (fun h17 => ?_)
      refine p_putI C fpX8_63 rfl dX8_startWith_57 h17 ?_
      refine q_nmX (fun X57_16 => ?_)
      refine q_aload_n C 0 dX8_startWith_60 rfl rfl ?_
      refine q_aload_n C 1 dX8_startWith_61 rfl rfl ?_
      refine q_chk (fun h18 => ?_)
      refine p_getI C fgX8_64 rfl dX8_startWith_62 h18 ?_
      refine q_chk (fun h20 => ?_)
      refine p_putI C fpX8_67 rfl dX8_startWith_65 h20 ?_
      refine q_nmX (fun X65_19 => ?_)
      refine q_aload_n C 0 dX8_startWith_68 rfl rfl ?_
      refine q_iconst C (0 : Int32) dX8_startWith_69 rfl ?_
      refine q_chk (fun h22 => ?_)
      refine p_putI C fpX8_68 rfl dX8_startWith_70 h22 ?_
      refine q_nmX (fun X70_21 => ?_)
      exact q_vret C dX8_startWith_73
    · refine q_aload_n C 0 dX8_startWith_23 rfl rfl ?_
      refine q_chk (fun h23 => ?_)
      refine q_chk (fun h24 => ?_)
      refine p_getR C fgX8_15 rfl dX8_startWith_24 h23 h24 ?_
      refine q_iload_n C 2 dX8_startWith_27 rfl rfl ?_
      refine q_lconst C (0 : Int64) dX8_startWith_28 rfl ?_
      refine q_chk (fun h26 => ?_)
      refine q_chk (fun h27 => ?_)
      refine p_last C dX8_startWith_29 h26 h27 ?_
      refine q_nmX (fun X29_25 => ?_)
      refine q_iincN C (1 : Int32) 2 (fun v2_30 => [(2, .int v2_30), (0, .ref (q_P E + r0)), (1, .ref (q_P E + r1))]) dX8_startWith_30 rfl rfl (Nat.le_of_ble_eq_true rfl) (fun _ => rfl) (fun v2_30 => ?_)
      refine q_goto C 17 dX8_startWith_33 (by decide) ?_
      refine q_sub C [(0, .ref (q_P E + r0)), (1, .ref (q_P E + r1)), (2, .int v2_30)] [1, 2, 0] rfl ?_
      exact ih r0 r1 v2_30 X29_25
theorem sX8_startWith (n : Nat) (r0 : Nat) (r1 : Nat) : q_Ct yX8_startWith cX8_startWith 3 none 1 26 0 0 q_eV (fun P => [.ref (P + r0), .ref (P + r1)]) (fX8_startWith n r0 r1) := by
  refine q_meth (by decide +kernel) (fun P => Nat.le_of_ble_eq_true rfl) (fun E X C hn => ?_)
  show Sm E (q_fin E q_eV X 0 0) 0 0 0 [(0, .ref (q_P E + r0)), (1, .ref (q_P E + r1))] [] X _
  unfold fX8_startWith
  refine q_aload_n C 1 dX8_startWith_0 rfl rfl ?_
  refine q_chk (fun h1 => ?_)
  refine q_chk (fun h2 => ?_)
  refine p_getR C fgX8_46 rfl dX8_startWith_1 h1 h2 ?_
  refine q_iconst C (0 : Int32) dX8_startWith_4 rfl ?_
  refine q_aload_n C 0 dX8_startWith_5 rfl rfl ?_
  refine q_chk (fun h3 => ?_)
  refine q_chk (fun h4 => ?_)
  refine p_getR C fgX8_9 rfl dX8_startWith_6 h3 h4 ?_
  refine q_iconst C (0 : Int32) dX8_startWith_9 rfl ?_
  refine q_bipush C (50 : Int32) dX8_startWith_10 rfl ?_
  refine q_chk (fun h6 => ?_)
  refine p_cpJ C fwX8_49_ac fw_ac2 fw_ac3 fw_ac4 ⟨Nat.le_of_ble_eq_true rfl, Nat.le_of_ble_eq_true rfl⟩ dX8_startWith_12 h6 ?_
  refine q_nmX (fun X12_5 => ?_)
  refine q_iconst C (0 : Int32) dX8_startWith_15 rfl ?_
  refine q_istore_n C [(2, .int (0 : Int32)), (0, .ref (q_P E + r0)), (1, .ref (q_P E + r1))] dX8_startWith_16 rfl (Nat.le_of_ble_eq_true rfl) rfl ?_
  refine q_sub C [(0, .ref (q_P E + r0)), (1, .ref (q_P E + r1)), (2, .int (0 : Int32))] [1, 2, 0] rfl ?_
  exact gX8_startWith_L17 C n n r0 r1 (0 : Int32) X12_5
/-! RecordClaims$State.copyFrom(LRecordClaims$State;)V -/
abbrev cX8_copyFrom : ByteArray := prog_10_method_3_code
def yX8_copyFrom : MethodName := ⟨RX8, "copyFrom", "(LRecordClaims$State;)V"⟩
theorem dX8_copyFrom_0 : decode cX8_copyFrom 0 = .ok (.aload_n 1, 1) := by decide +kernel
theorem dX8_copyFrom_1 : decode cX8_copyFrom 1 = .ok (.getfield 9, 3) := by decide +kernel
theorem dX8_copyFrom_4 : decode cX8_copyFrom 4 = .ok (.iconst 0, 1) := by decide +kernel
theorem dX8_copyFrom_5 : decode cX8_copyFrom 5 = .ok (.aload_n 0, 1) := by decide +kernel
theorem dX8_copyFrom_6 : decode cX8_copyFrom 6 = .ok (.getfield 9, 3) := by decide +kernel
theorem dX8_copyFrom_9 : decode cX8_copyFrom 9 = .ok (.iconst 0, 1) := by decide +kernel
theorem dX8_copyFrom_10 : decode cX8_copyFrom 10 = .ok (.bipush 50, 2) := by decide +kernel
theorem dX8_copyFrom_12 : decode cX8_copyFrom 12 = .ok (.invokestatic 49, 3) := by decide +kernel
theorem dX8_copyFrom_15 : decode cX8_copyFrom 15 = .ok (.aload_n 1, 1) := by decide +kernel
theorem dX8_copyFrom_16 : decode cX8_copyFrom 16 = .ok (.getfield 15, 3) := by decide +kernel
theorem dX8_copyFrom_19 : decode cX8_copyFrom 19 = .ok (.iconst 0, 1) := by decide +kernel
theorem dX8_copyFrom_20 : decode cX8_copyFrom 20 = .ok (.aload_n 0, 1) := by decide +kernel
theorem dX8_copyFrom_21 : decode cX8_copyFrom 21 = .ok (.getfield 15, 3) := by decide +kernel
theorem dX8_copyFrom_24 : decode cX8_copyFrom 24 = .ok (.iconst 0, 1) := by decide +kernel
theorem dX8_copyFrom_25 : decode cX8_copyFrom 25 = .ok (.bipush 10, 2) := by decide +kernel
theorem dX8_copyFrom_27 : decode cX8_copyFrom 27 = .ok (.invokestatic 49, 3) := by decide +kernel
theorem dX8_copyFrom_30 : decode cX8_copyFrom 30 = .ok (.aload_n 0, 1) := by decide +kernel
theorem dX8_copyFrom_31 : decode cX8_copyFrom 31 = .ok (.getfield 21, 3) := by decide +kernel
theorem dX8_copyFrom_34 : decode cX8_copyFrom 34 = .ok (.aload_n 1, 1) := by decide +kernel
theorem dX8_copyFrom_35 : decode cX8_copyFrom 35 = .ok (.getfield 21, 3) := by decide +kernel
theorem dX8_copyFrom_38 : decode cX8_copyFrom 38 = .ok (.invokevirtual 71, 3) := by decide +kernel
theorem dX8_copyFrom_41 : decode cX8_copyFrom 41 = .ok (.aload_n 0, 1) := by decide +kernel
theorem dX8_copyFrom_42 : decode cX8_copyFrom 42 = .ok (.getfield 28, 3) := by decide +kernel
theorem dX8_copyFrom_45 : decode cX8_copyFrom 45 = .ok (.aload_n 1, 1) := by decide +kernel
theorem dX8_copyFrom_46 : decode cX8_copyFrom 46 = .ok (.getfield 28, 3) := by decide +kernel
theorem dX8_copyFrom_49 : decode cX8_copyFrom 49 = .ok (.invokevirtual 75, 3) := by decide +kernel
theorem dX8_copyFrom_52 : decode cX8_copyFrom 52 = .ok (.aload_n 0, 1) := by decide +kernel
theorem dX8_copyFrom_53 : decode cX8_copyFrom 53 = .ok (.getfield 35, 3) := by decide +kernel
theorem dX8_copyFrom_56 : decode cX8_copyFrom 56 = .ok (.aload_n 1, 1) := by decide +kernel
theorem dX8_copyFrom_57 : decode cX8_copyFrom 57 = .ok (.getfield 35, 3) := by decide +kernel
theorem dX8_copyFrom_60 : decode cX8_copyFrom 60 = .ok (.invokevirtual 78, 3) := by decide +kernel
theorem dX8_copyFrom_63 : decode cX8_copyFrom 63 = .ok (.aload_n 0, 1) := by decide +kernel
theorem dX8_copyFrom_64 : decode cX8_copyFrom 64 = .ok (.getfield 42, 3) := by decide +kernel
theorem dX8_copyFrom_67 : decode cX8_copyFrom 67 = .ok (.aload_n 1, 1) := by decide +kernel
theorem dX8_copyFrom_68 : decode cX8_copyFrom 68 = .ok (.getfield 42, 3) := by decide +kernel
theorem dX8_copyFrom_71 : decode cX8_copyFrom 71 = .ok (.invokevirtual 81, 3) := by decide +kernel
theorem dX8_copyFrom_74 : decode cX8_copyFrom 74 = .ok (.aload_n 0, 1) := by decide +kernel
theorem dX8_copyFrom_75 : decode cX8_copyFrom 75 = .ok (.aload_n 1, 1) := by decide +kernel
theorem dX8_copyFrom_76 : decode cX8_copyFrom 76 = .ok (.getfield 63, 3) := by decide +kernel
theorem dX8_copyFrom_79 : decode cX8_copyFrom 79 = .ok (.putfield 63, 3) := by decide +kernel
theorem dX8_copyFrom_82 : decode cX8_copyFrom 82 = .ok (.aload_n 0, 1) := by decide +kernel
theorem dX8_copyFrom_83 : decode cX8_copyFrom 83 = .ok (.aload_n 1, 1) := by decide +kernel
theorem dX8_copyFrom_84 : decode cX8_copyFrom 84 = .ok (.getfield 67, 3) := by decide +kernel
theorem dX8_copyFrom_87 : decode cX8_copyFrom 87 = .ok (.putfield 67, 3) := by decide +kernel
theorem dX8_copyFrom_90 : decode cX8_copyFrom 90 = .ok (.aload_n 0, 1) := by decide +kernel
theorem dX8_copyFrom_91 : decode cX8_copyFrom 91 = .ok (.aload_n 1, 1) := by decide +kernel
theorem dX8_copyFrom_92 : decode cX8_copyFrom 92 = .ok (.getfield 68, 3) := by decide +kernel
theorem dX8_copyFrom_95 : decode cX8_copyFrom 95 = .ok (.putfield 68, 3) := by decide +kernel
theorem dX8_copyFrom_98 : decode cX8_copyFrom 98 = .ok (.return_, 1) := by decide +kernel
theorem fcX8_71 : q_LV RX8 71 yX10_copyFrom cX10_copyFrom 2 none 1 10 := ⟨q_tb 771 (by decide +kernel) rfl, q_tb 772 (by decide +kernel) rfl, q_tb 773 (by decide +kernel) rfl, q_tb 6 (by decide +kernel) rfl, q_tb 774 (by decide +kernel) rfl, ⟨by decide +kernel, by decide +kernel, by decide +kernel⟩, TX10, 10, rfl⟩
theorem fcX8_75 : q_LV RX8 75 yX3_copyFrom cX3_copyFrom 2 none 1 3 := ⟨q_tb 776 (by decide +kernel) rfl, q_tb 777 (by decide +kernel) rfl, q_tb 778 (by decide +kernel) rfl, q_tb 7 (by decide +kernel) rfl, q_tb 779 (by decide +kernel) rfl, ⟨by decide +kernel, by decide +kernel, by decide +kernel⟩, TX3, 17, rfl⟩
theorem fgX8_35 : q_Fg RX8 35 8 4 := q_Fg.of (C := RX8) (T := TX8) (N := 9) rfl (by decide) inX8 404 (by decide +kernel) rfl rfl
theorem fcX8_78 : q_LV RX8 78 yX6_copyFrom cX6_copyFrom 2 none 1 6 := ⟨q_tb 781 (by decide +kernel) rfl, q_tb 782 (by decide +kernel) rfl, q_tb 783 (by decide +kernel) rfl, q_tb 8 (by decide +kernel) rfl, q_tb 784 (by decide +kernel) rfl, ⟨by decide +kernel, by decide +kernel, by decide +kernel⟩, TX6, 6, rfl⟩
theorem fcX8_81 : q_LV RX8 81 yX1_copyFrom cX1_copyFrom 2 none 1 1 := ⟨q_tb 786 (by decide +kernel) rfl, q_tb 787 (by decide +kernel) rfl, q_tb 788 (by decide +kernel) rfl, q_tb 9 (by decide +kernel) rfl, q_tb 789 (by decide +kernel) rfl, ⟨by decide +kernel, by decide +kernel, by decide +kernel⟩, TX1, 5, rfl⟩
theorem fgX8_63 : q_Fg RX8 63 8 6 := q_Fg.of (C := RX8) (T := TX8) (N := 9) rfl (by decide) inX8 406 (by decide +kernel) rfl rfl
theorem fgX8_67 : q_Fg RX8 67 8 7 := q_Fg.of (C := RX8) (T := TX8) (N := 9) rfl (by decide) inX8 409 (by decide +kernel) rfl rfl
theorem fgX8_68 : q_Fg RX8 68 8 8 := q_Fg.of (C := RX8) (T := TX8) (N := 9) rfl (by decide) inX8 411 (by decide +kernel) rfl rfl
def fX8_copyFrom (r0 : Nat) (r1 : Nat) (X : Mm) : Option (Unit × Mm) :=
if mT X r1 = 8 then
if mR X r1 0 ≠ 0 then
if mT X r0 = 8 then
if mR X r0 0 ≠ 0 then
if q_cpok X (mR X r1 0) (mR X r0 0) 15 (0 : Int32) (0 : Int32) (50 : Int32) then
nm (wJ X (mR X r0 0) (va_cpy (mJ X (mR X r1 0)) (mJ X (mR X r0 0)) ((0 : Int32)).toNatClampNeg ((0 : Int32)).toNatClampNeg ((50 : Int32)).toNatClampNeg)) fun X12_5 =>
if mT X12_5 r1 = 8 then
if mR X12_5 r1 1 ≠ 0 then
if mT X12_5 r0 = 8 then
if mR X12_5 r0 1 ≠ 0 then
if q_cpok X12_5 (mR X12_5 r1 1) (mR X12_5 r0 1) 15 (0 : Int32) (0 : Int32) (10 : Int32) then
nm (wJ X12_5 (mR X12_5 r0 1) (va_cpy (mJ X12_5 (mR X12_5 r1 1)) (mJ X12_5 (mR X12_5 r0 1)) ((0 : Int32)).toNatClampNeg ((0 : Int32)).toNatClampNeg ((10 : Int32)).toNatClampNeg)) fun X27_11 =>
if mT X27_11 r0 = 8 then
if mR X27_11 r0 2 ≠ 0 then
if mT X27_11 r1 = 8 then
if mR X27_11 r1 2 ≠ 0 then
if mT X27_11 (mR X27_11 r0 2) = 10 then
bd (fX10_copyFrom ((mR X27_11 r0 2)) ((mR X27_11 r1 2)) X27_11) fun _ X38_18 =>
if mT X38_18 r0 = 8 then
if mR X38_18 r0 3 ≠ 0 then
if mT X38_18 r1 = 8 then
if mR X38_18 r1 3 ≠ 0 then
if mT X38_18 (mR X38_18 r0 3) = 3 then
bd (fX3_copyFrom ((mR X38_18 r0 3)) ((mR X38_18 r1 3)) X38_18) fun _ X49_25 =>
if mT X49_25 r0 = 8 then
if mR X49_25 r0 4 ≠ 0 then
if mT X49_25 r1 = 8 then
if mR X49_25 r1 4 ≠ 0 then
if mT X49_25 (mR X49_25 r0 4) = 6 then
bd (fX6_copyFrom ((mR X49_25 r0 4)) ((mR X49_25 r1 4)) X49_25) fun _ X60_32 =>
if mT X60_32 r0 = 8 then
if mR X60_32 r0 5 ≠ 0 then
if mT X60_32 r1 = 8 then
if mR X60_32 r1 5 ≠ 0 then
if mT X60_32 (mR X60_32 r0 5) = 1 then
bd (fX1_copyFrom ((mR X60_32 r0 5)) ((mR X60_32 r1 5)) X60_32) fun _ X71_39 =>
if mT X71_39 r1 = 8 then
if mT X71_39 r0 = 8 then
nm (sI X71_39 r0 6 (mI X71_39 r1 6)) fun X79_42 =>
if mT X79_42 r1 = 8 then
if mT X79_42 r0 = 8 then
nm (sI X79_42 r0 7 (mI X79_42 r1 7)) fun X87_45 =>
if mT X87_45 r1 = 8 then
if mT X87_45 r0 = 8 then
nm (sI X87_45 r0 8 (mI X87_45 r1 8)) fun X95_48 =>
some ((), X95_48)
else none
else none
else none
else none
else none
else none
else none
else none
else none
else none
else none
else none
else none
else none
else none
else none
else none
else none
else none
else none
else none
else none
else none
else none
else none
else none
else none
else none
else none
else none
else none
else none
else none
else none
else none
else none
theorem sX8_copyFrom (r0 : Nat) (r1 : Nat) : q_Ct yX8_copyFrom cX8_copyFrom 2 none 2 47 0 0 q_eV (fun P => [.ref (P + r0), .ref (P + r1)]) (fX8_copyFrom r0 r1) := by
  refine q_meth (by decide +kernel) (fun P => Nat.le_of_ble_eq_true rfl) (fun E X C hn => ?_)
  show Sm E (q_fin E q_eV X 0 0) 0 0 0 [(0, .ref (q_P E + r0)), (1, .ref (q_P E + r1))] [] X _
  unfold fX8_copyFrom
  refine q_aload_n C 1 dX8_copyFrom_0 rfl rfl ?_
  refine q_chk (fun h1 => ?_)
  refine q_chk (fun h2 => ?_)
  refine p_getR C fgX8_9 rfl dX8_copyFrom_1 h1 h2 ?_
  refine q_iconst C (0 : Int32) dX8_copyFrom_4 rfl ?_
  refine q_aload_n C 0 dX8_copyFrom_5 rfl rfl ?_
  refine q_chk (fun h3 => ?_)
  refine q_chk (fun h4 => ?_)
  refine p_getR C fgX8_9 rfl dX8_copyFrom_6 h3 h4 ?_
  refine q_iconst C (0 : Int32) dX8_copyFrom_9 rfl ?_
  refine q_bipush C (50 : Int32) dX8_copyFrom_10 rfl ?_
  refine q_chk (fun h6 => ?_)
  refine p_cpJ C fwX8_49_ac fw_ac2 fw_ac3 fw_ac4 ⟨Nat.le_of_ble_eq_true rfl, Nat.le_of_ble_eq_true rfl⟩ dX8_copyFrom_12 h6 ?_
  refine q_nmX (fun X12_5 => ?_)
  refine q_aload_n C 1 dX8_copyFrom_15 rfl rfl ?_
  refine q_chk (fun h7 => ?_)
  refine q_chk (fun h8 => ?_)
  refine p_getR C fgX8_15 rfl dX8_copyFrom_16 h7 h8 ?_
  refine q_iconst C (0 : Int32) dX8_copyFrom_19 rfl ?_
  refine q_aload_n C 0 dX8_copyFrom_20 rfl rfl ?_
  refine q_chk (fun h9 => ?_)
  refine q_chk (fun h10 => ?_)
  refine p_getR C fgX8_15 rfl dX8_copyFrom_21 h9 h10 ?_
  refine q_iconst C (0 : Int32) dX8_copyFrom_24 rfl ?_
  refine q_bipush C (10 : Int32) dX8_copyFrom_25 rfl ?_
  refine q_chk (fun h12 => ?_)
  refine p_cpJ C fwX8_49_ac fw_ac2 fw_ac3 fw_ac4 ⟨Nat.le_of_ble_eq_true rfl, Nat.le_of_ble_eq_true rfl⟩ dX8_copyFrom_27 h12 ?_
  refine q_nmX (fun X27_11 => ?_)
  refine q_aload_n C 0 dX8_copyFrom_30 rfl rfl ?_
  refine q_chk (fun h13 => ?_)
  refine q_chk (fun h14 => ?_)
  refine p_getR C fgX8_21 rfl dX8_copyFrom_31 h13 h14 ?_
  refine q_aload_n C 1 dX8_copyFrom_34 rfl rfl ?_
  refine q_chk (fun h15 => ?_)
  refine q_chk (fun h16 => ?_)
  refine p_getR C fgX8_21 rfl dX8_copyFrom_35 h15 h16 ?_
  refine q_chk (fun h19 => ?_)
  refine q_cVV (As := (fun P => [.ref (P + (mR X27_11 r1 2))])) C [] (sX10_copyFrom ((mR X27_11 r0 2)) ((mR X27_11 r1 2))) fcX8_71 rfl (fun _ => rfl) ⟨Nat.le_of_ble_eq_true rfl, Nat.le_of_ble_eq_true rfl⟩ ⟨Nat.le_of_ble_eq_true rfl, Nat.le_of_ble_eq_true rfl⟩ (Nat.le_of_ble_eq_true rfl) dX8_copyFrom_38 h19 (fun _ X38_18 => ?_)
  refine q_aload_n C 0 dX8_copyFrom_41 rfl rfl ?_
  refine q_chk (fun h20 => ?_)
  refine q_chk (fun h21 => ?_)
  refine p_getR C fgX8_28 rfl dX8_copyFrom_42 h20 h21 ?_
  refine q_aload_n C 1 dX8_copyFrom_45 rfl rfl ?_
  refine q_chk (fun h22 => ?_)
  refine q_chk (fun h23 => ?_)
  refine p_getR C fgX8_28 rfl dX8_copyFrom_46 h22 h23 ?_
  refine q_chk (fun h26 => ?_)
  refine q_cVV (As := (fun P => [.ref (P + (mR X38_18 r1 3))])) C [] (sX3_copyFrom ((mR X38_18 r0 3)) ((mR X38_18 r1 3))) fcX8_75 rfl (fun _ => rfl) ⟨Nat.le_of_ble_eq_true rfl, Nat.le_of_ble_eq_true rfl⟩ ⟨Nat.le_of_ble_eq_true rfl, Nat.le_of_ble_eq_true rfl⟩ (Nat.le_of_ble_eq_true rfl) dX8_copyFrom_49 h26 (fun _ X49_25 => ?_)
  refine q_aload_n C 0 dX8_copyFrom_52 rfl rfl ?_
  refine q_chk (fun h27 => ?_)
  refine q_chk (fun h28 => ?_)
  refine p_getR C fgX8_35 rfl dX8_copyFrom_53 h27 h28 ?_
  refine q_aload_n C 1 dX8_copyFrom_56 rfl rfl ?_
  refine q_chk (fun h29 => ?_)
  refine q_chk (fun h30 => ?_)
  refine p_getR C fgX8_35 rfl dX8_copyFrom_57 h29 h30 ?_
  refine q_chk (fun h33 => ?_)
  refine q_cVV (As := (fun P => [.ref (P + (mR X49_25 r1 4))])) C [] (sX6_copyFrom ((mR X49_25 r0 4)) ((mR X49_25 r1 4))) fcX8_78 rfl (fun _ => rfl) ⟨Nat.le_of_ble_eq_true rfl, Nat.le_of_ble_eq_true rfl⟩ ⟨Nat.le_of_ble_eq_true rfl, Nat.le_of_ble_eq_true rfl⟩ (Nat.le_of_ble_eq_true rfl) dX8_copyFrom_60 h33 (fun _ X60_32 => ?_)
  refine q_aload_n C 0 dX8_copyFrom_63 rfl rfl ?_
  refine q_chk (fun h34 => ?_)
  refine q_chk (fun h35 => ?_)
  refine p_getR C fgX8_42 rfl dX8_copyFrom_64 h34 h35 ?_
  refine q_aload_n C 1 dX8_copyFrom_67 rfl rfl ?_
  refine q_chk (fun h36 => ?_)
  refine q_chk (fun h37 => ?_)
  refine p_getR C fgX8_42 rfl dX8_copyFrom_68 h36 h37 ?_
  refine q_chk (fun h40 => ?_)
  refine q_cVV (As := (fun P => [.ref (P + (mR X60_32 r1 5))])) C [] (sX1_copyFrom ((mR X60_32 r0 5)) ((mR X60_32 r1 5))) fcX8_81 rfl (fun _ => rfl) ⟨Nat.le_of_ble_eq_true rfl, Nat.le_of_ble_eq_true rfl⟩ ⟨Nat.le_of_ble_eq_true rfl, Nat.le_of_ble_eq_true rfl⟩ (Nat.le_of_ble_eq_true rfl) dX8_copyFrom_71 h40 (fun _ X71_39 => ?_)
  refine q_aload_n C 0 dX8_copyFrom_74 rfl rfl ?_
  refine q_aload_n C 1 dX8_copyFrom_75 rfl rfl ?_
  refine q_chk (fun h41 => ?_)
  refine p_getI C fgX8_63 rfl dX8_copyFrom_76 h41 ?_
  refine q_chk (fun h43 => ?_)
  refine p_putI C fpX8_63 rfl dX8_copyFrom_79 h43 ?_
  refine q_nmX (fun X79_42 => ?_)
  refine q_aload_n C 0 dX8_copyFrom_82 rfl rfl ?_
  refine q_aload_n C 1 dX8_copyFrom_83 rfl rfl ?_
  refine q_chk (fun h44 => ?_)
  refine p_getI C fgX8_67 rfl dX8_copyFrom_84 h44 ?_
  refine q_chk (fun h46 => ?_)
  refine p_putI C fpX8_67 rfl dX8_copyFrom_87 h46 ?_
  refine q_nmX (fun X87_45 => ?_)
  refine q_aload_n C 0 dX8_copyFrom_90 rfl rfl ?_
  refine q_aload_n C 1 dX8_copyFrom_91 rfl rfl ?_
  refine q_chk (fun h47 => ?_)
  refine p_getI C fgX8_68 rfl dX8_copyFrom_92 h47 ?_
  refine q_chk (fun h49 => ?_)
  refine p_putI C fpX8_68 rfl dX8_copyFrom_95 h49 ?_
  refine q_nmX (fun X95_48 => ?_)
  exact q_vret C dX8_copyFrom_98
/-! RecordClaims$State.isHolder(I)Z -/
abbrev cX8_isHolder : ByteArray := prog_10_method_4_code
def yX8_isHolder : MethodName := ⟨RX8, "isHolder", "(I)Z"⟩
theorem dX8_isHolder_0 : decode cX8_isHolder 0 = .ok (.iload_n 1, 1) := by decide +kernel
theorem dX8_isHolder_1 : decode cX8_isHolder 1 = .ok (.ifCond .lt 15, 3) := by decide +kernel
theorem dX8_isHolder_4 : decode cX8_isHolder 4 = .ok (.iload_n 1, 1) := by decide +kernel
theorem dX8_isHolder_5 : decode cX8_isHolder 5 = .ok (.aload_n 0, 1) := by decide +kernel
theorem dX8_isHolder_6 : decode cX8_isHolder 6 = .ok (.getfield 63, 3) := by decide +kernel
theorem dX8_isHolder_9 : decode cX8_isHolder 9 = .ok (.if_icmp .ge 7, 3) := by decide +kernel
theorem dX8_isHolder_12 : decode cX8_isHolder 12 = .ok (.iconst 1, 1) := by decide +kernel
theorem dX8_isHolder_13 : decode cX8_isHolder 13 = .ok (.goto 4, 3) := by decide +kernel
theorem dX8_isHolder_16 : decode cX8_isHolder 16 = .ok (.iconst 0, 1) := by decide +kernel
theorem dX8_isHolder_17 : decode cX8_isHolder 17 = .ok (.ireturn, 1) := by decide +kernel
def fX8_isHolder_L16 (X : Mm) : Option (Int32 × Mm) :=
some (0, X)
def fX8_isHolder (r0 : Nat) (v1 : Int32) (X : Mm) : Option (Int32 × Mm) :=
if v1 < 0 then (
fX8_isHolder_L16 X
) else (
if mT X r0 = 8 then
if (mI X r0 6) ≤ v1 then (
fX8_isHolder_L16 X
) else (
some (1, X)
)
else none
)
theorem gX8_isHolder_L16 {E : q_E} {X0 : Mm} (C : Cx E cX8_isHolder RX8 2 (some .boolean) (q_rm 0 0 0 0) X0) (X : Mm) : Sm E (q_fin E q_eI X0 0 0) 0 0 16 [] [] X (fX8_isHolder_L16  X) := by
  unfold fX8_isHolder_L16
  refine q_iconst C (0 : Int32) dX8_isHolder_16 rfl ?_
  exact q_zret0 C dX8_isHolder_17
theorem sX8_isHolder (r0 : Nat) (v1 : Int32) : q_Ct yX8_isHolder cX8_isHolder 2 (some .boolean) 0 0 0 0 q_eI (fun P => [.ref (P + r0), .int v1]) (fX8_isHolder r0 v1) := by
  refine q_meth (by decide +kernel) (fun P => Nat.le_of_ble_eq_true rfl) (fun E X C hn => ?_)
  show Sm E (q_fin E q_eI X 0 0) 0 0 0 [(0, .ref (q_P E + r0)), (1, .int v1)] [] X _
  unfold fX8_isHolder
  refine q_iload_n C 1 dX8_isHolder_0 rfl rfl ?_
  refine q_if_lt C 16 dX8_isHolder_1 (by decide) (fun _ => ?_) (fun _ => ?_)
  · refine q_sub C [] [] rfl ?_
    exact gX8_isHolder_L16 C X
  · refine q_iload_n C 1 dX8_isHolder_4 rfl rfl ?_
    refine q_aload_n C 0 dX8_isHolder_5 rfl rfl ?_
    refine q_chk (fun h1 => ?_)
    refine p_getI C fgX8_63 rfl dX8_isHolder_6 h1 ?_
    refine q_icmp_ge C 16 dX8_isHolder_9 (by decide) (fun _ => ?_) (fun _ => ?_)
    · refine q_sub C [] [] rfl ?_
      exact gX8_isHolder_L16 C X
    · refine q_iconst C (1 : Int32) dX8_isHolder_12 rfl ?_
      refine q_goto C 17 dX8_isHolder_13 (by decide) ?_
      exact q_zret1 C dX8_isHolder_17
/-! RecordClaims$State.isPaper(I)Z -/
abbrev cX8_isPaper : ByteArray := prog_10_method_5_code
def yX8_isPaper : MethodName := ⟨RX8, "isPaper", "(I)Z"⟩
theorem dX8_isPaper_0 : decode cX8_isPaper 0 = .ok (.iload_n 1, 1) := by decide +kernel
theorem dX8_isPaper_1 : decode cX8_isPaper 1 = .ok (.ifCond .lt 15, 3) := by decide +kernel
theorem dX8_isPaper_4 : decode cX8_isPaper 4 = .ok (.iload_n 1, 1) := by decide +kernel
theorem dX8_isPaper_5 : decode cX8_isPaper 5 = .ok (.aload_n 0, 1) := by decide +kernel
theorem dX8_isPaper_6 : decode cX8_isPaper 6 = .ok (.getfield 67, 3) := by decide +kernel
theorem dX8_isPaper_9 : decode cX8_isPaper 9 = .ok (.if_icmp .ge 7, 3) := by decide +kernel
theorem dX8_isPaper_12 : decode cX8_isPaper 12 = .ok (.iconst 1, 1) := by decide +kernel
theorem dX8_isPaper_13 : decode cX8_isPaper 13 = .ok (.goto 4, 3) := by decide +kernel
theorem dX8_isPaper_16 : decode cX8_isPaper 16 = .ok (.iconst 0, 1) := by decide +kernel
theorem dX8_isPaper_17 : decode cX8_isPaper 17 = .ok (.ireturn, 1) := by decide +kernel
def fX8_isPaper_L16 (X : Mm) : Option (Int32 × Mm) :=
some (0, X)
def fX8_isPaper (r0 : Nat) (v1 : Int32) (X : Mm) : Option (Int32 × Mm) :=
if v1 < 0 then (
fX8_isPaper_L16 X
) else (
if mT X r0 = 8 then
if (mI X r0 7) ≤ v1 then (
fX8_isPaper_L16 X
) else (
some (1, X)
)
else none
)
theorem gX8_isPaper_L16 {E : q_E} {X0 : Mm} (C : Cx E cX8_isPaper RX8 2 (some .boolean) (q_rm 0 0 0 0) X0) (X : Mm) : Sm E (q_fin E q_eI X0 0 0) 0 0 16 [] [] X (fX8_isPaper_L16  X) := by
  unfold fX8_isPaper_L16
  refine q_iconst C (0 : Int32) dX8_isPaper_16 rfl ?_
  exact q_zret0 C dX8_isPaper_17
theorem sX8_isPaper (r0 : Nat) (v1 : Int32) : q_Ct yX8_isPaper cX8_isPaper 2 (some .boolean) 0 0 0 0 q_eI (fun P => [.ref (P + r0), .int v1]) (fX8_isPaper r0 v1) := by
  refine q_meth (by decide +kernel) (fun P => Nat.le_of_ble_eq_true rfl) (fun E X C hn => ?_)
  show Sm E (q_fin E q_eI X 0 0) 0 0 0 [(0, .ref (q_P E + r0)), (1, .int v1)] [] X _
  unfold fX8_isPaper
  refine q_iload_n C 1 dX8_isPaper_0 rfl rfl ?_
  refine q_if_lt C 16 dX8_isPaper_1 (by decide) (fun _ => ?_) (fun _ => ?_)
  · refine q_sub C [] [] rfl ?_
    exact gX8_isPaper_L16 C X
  · refine q_iload_n C 1 dX8_isPaper_4 rfl rfl ?_
    refine q_aload_n C 0 dX8_isPaper_5 rfl rfl ?_
    refine q_chk (fun h1 => ?_)
    refine p_getI C fgX8_67 rfl dX8_isPaper_6 h1 ?_
    refine q_icmp_ge C 16 dX8_isPaper_9 (by decide) (fun _ => ?_) (fun _ => ?_)
    · refine q_sub C [] [] rfl ?_
      exact gX8_isPaper_L16 C X
    · refine q_iconst C (1 : Int32) dX8_isPaper_12 rfl ?_
      refine q_goto C 17 dX8_isPaper_13 (by decide) ?_
      exact q_zret1 C dX8_isPaper_17
/-! RecordClaims$State.isClaim(II)Z -/
abbrev cX8_isClaim : ByteArray := prog_10_method_6_code
def yX8_isClaim : MethodName := ⟨RX8, "isClaim", "(II)Z"⟩
theorem dX8_isClaim_0 : decode cX8_isClaim 0 = .ok (.aload_n 0, 1) := by decide +kernel
theorem dX8_isClaim_1 : decode cX8_isClaim 1 = .ok (.getfield 28, 3) := by decide +kernel
theorem dX8_isClaim_4 : decode cX8_isClaim 4 = .ok (.iload_n 1, 1) := by decide +kernel
theorem dX8_isClaim_5 : decode cX8_isClaim 5 = .ok (.invokevirtual 84, 3) := by decide +kernel
theorem dX8_isClaim_8 : decode cX8_isClaim 8 = .ok (.ifCond .eq 24, 3) := by decide +kernel
theorem dX8_isClaim_11 : decode cX8_isClaim 11 = .ok (.iload_n 2, 1) := by decide +kernel
theorem dX8_isClaim_12 : decode cX8_isClaim 12 = .ok (.ifCond .lt 20, 3) := by decide +kernel
theorem dX8_isClaim_15 : decode cX8_isClaim 15 = .ok (.iload_n 2, 1) := by decide +kernel
theorem dX8_isClaim_16 : decode cX8_isClaim 16 = .ok (.aload_n 0, 1) := by decide +kernel
theorem dX8_isClaim_17 : decode cX8_isClaim 17 = .ok (.getfield 28, 3) := by decide +kernel
theorem dX8_isClaim_20 : decode cX8_isClaim 20 = .ok (.getfield 88, 3) := by decide +kernel
theorem dX8_isClaim_23 : decode cX8_isClaim 23 = .ok (.iload_n 1, 1) := by decide +kernel
theorem dX8_isClaim_24 : decode cX8_isClaim 24 = .ok (.iaload, 1) := by decide +kernel
theorem dX8_isClaim_25 : decode cX8_isClaim 25 = .ok (.if_icmp .ge 7, 3) := by decide +kernel
theorem dX8_isClaim_28 : decode cX8_isClaim 28 = .ok (.iconst 1, 1) := by decide +kernel
theorem dX8_isClaim_29 : decode cX8_isClaim 29 = .ok (.goto 4, 3) := by decide +kernel
theorem dX8_isClaim_32 : decode cX8_isClaim 32 = .ok (.iconst 0, 1) := by decide +kernel
theorem dX8_isClaim_33 : decode cX8_isClaim 33 = .ok (.ireturn, 1) := by decide +kernel
theorem fcX8_84 : q_LV RX8 84 yX3_isThere cX3_isThere 2 (some .boolean) 1 3 := ⟨q_tb 821 (by decide +kernel) rfl, q_tb 822 (by decide +kernel) rfl, q_tb 823 (by decide +kernel) rfl, q_tb 7 (by decide +kernel) rfl, q_tb 824 (by decide +kernel) rfl, ⟨by decide +kernel, by decide +kernel, by decide +kernel⟩, TX3, 17, rfl⟩
def fX8_isClaim_L32 (X : Mm) : Option (Int32 × Mm) :=
some (0, X)
def fX8_isClaim (r0 : Nat) (v1 : Int32) (v2 : Int32) (X : Mm) : Option (Int32 × Mm) :=
if mT X r0 = 8 then
if mR X r0 3 ≠ 0 then
if mT X (mR X r0 3) = 3 then
bd (fX3_isThere ((mR X r0 3)) v1 X) fun w3 X5_4 =>
if w3 = 0 then (
fX8_isClaim_L32 X5_4
) else (
if v2 < 0 then (
fX8_isClaim_L32 X5_4
) else (
if mT X5_4 r0 = 8 then
if mR X5_4 r0 3 ≠ 0 then
if mT X5_4 (mR X5_4 r0 3) = 3 then
if mR X5_4 (mR X5_4 r0 3) 12 ≠ 0 then
if mT X5_4 (mR X5_4 (mR X5_4 r0 3) 12) = 14 then
if q_b X5_4 (mR X5_4 (mR X5_4 r0 3) 12) v1 then
if (mI X5_4 (mR X5_4 (mR X5_4 r0 3) 12) (v1).toNatClampNeg) ≤ v2 then (
fX8_isClaim_L32 X5_4
) else (
some (1, X5_4)
)
else none
else none
else none
else none
else none
else none
)
)
else none
else none
else none
theorem gX8_isClaim_L32 {E : q_E} {X0 : Mm} (C : Cx E cX8_isClaim RX8 3 (some .boolean) (q_rm 1 21 0 0) X0) (X : Mm) : Sm E (q_fin E q_eI X0 0 0) 0 0 32 [] [] X (fX8_isClaim_L32  X) := by
  unfold fX8_isClaim_L32
  refine q_iconst C (0 : Int32) dX8_isClaim_32 rfl ?_
  exact q_zret0 C dX8_isClaim_33
theorem sX8_isClaim (r0 : Nat) (v1 : Int32) (v2 : Int32) : q_Ct yX8_isClaim cX8_isClaim 3 (some .boolean) 1 21 0 0 q_eI (fun P => [.ref (P + r0), .int v1, .int v2]) (fX8_isClaim r0 v1 v2) := by
  refine q_meth (by decide +kernel) (fun P => Nat.le_of_ble_eq_true rfl) (fun E X C hn => ?_)
  show Sm E (q_fin E q_eI X 0 0) 0 0 0 [(0, .ref (q_P E + r0)), (1, .int v1), (2, .int v2)] [] X _
  unfold fX8_isClaim
  refine q_aload_n C 0 dX8_isClaim_0 rfl rfl ?_
  refine q_chk (fun h1 => ?_)
  refine q_chk (fun h2 => ?_)
  refine p_getR C fgX8_28 rfl dX8_isClaim_1 h1 h2 ?_
  refine q_iload_n C 1 dX8_isClaim_4 rfl rfl ?_
  refine q_chk (fun h5 => ?_)
  refine q_cVI (As := (fun P => [.int v1])) C [] (sX3_isThere ((mR X r0 3)) v1) fcX8_84 rfl (fun _ => rfl) ⟨Nat.le_of_ble_eq_true rfl, Nat.le_of_ble_eq_true rfl⟩ ⟨Nat.le_of_ble_eq_true rfl, Nat.le_of_ble_eq_true rfl⟩ (Nat.le_of_ble_eq_true rfl) dX8_isClaim_5 h5 (fun w3 X5_4 => ?_)
  refine q_if_eq C 32 dX8_isClaim_8 (by decide) (fun _ => ?_) (fun _ => ?_)
  · refine q_sub C [] [] rfl ?_
    exact gX8_isClaim_L32 C X5_4
  · refine q_iload_n C 2 dX8_isClaim_11 rfl rfl ?_
    refine q_if_lt C 32 dX8_isClaim_12 (by decide) (fun _ => ?_) (fun _ => ?_)
    · refine q_sub C [] [] rfl ?_
      exact gX8_isClaim_L32 C X5_4
    · refine q_iload_n C 2 dX8_isClaim_15 rfl rfl ?_
      refine q_aload_n C 0 dX8_isClaim_16 rfl rfl ?_
      refine q_chk (fun h6 => ?_)
      refine q_chk (fun h7 => ?_)
      refine p_getR C fgX8_28 rfl dX8_isClaim_17 h6 h7 ?_
      refine q_chk (fun h8 => ?_)
      refine q_chk (fun h9 => ?_)
      refine p_getR C fgX8_88 rfl dX8_isClaim_20 h8 h9 ?_
      refine q_iload_n C 1 dX8_isClaim_23 rfl rfl ?_
      refine q_chk (fun h10 => ?_)
      refine q_chk (fun h11 => ?_)
      refine p_iald C dX8_isClaim_24 h10 h11 ?_
      refine q_icmp_ge C 32 dX8_isClaim_25 (by decide) (fun _ => ?_) (fun _ => ?_)
      · refine q_sub C [] [] rfl ?_
        exact gX8_isClaim_L32 C X5_4
      · refine q_iconst C (1 : Int32) dX8_isClaim_28 rfl ?_
        refine q_goto C 33 dX8_isClaim_29 (by decide) ?_
        exact q_zret1 C dX8_isClaim_33
/-! RecordClaims$State.addShares(IIJ)V -/
abbrev cX8_addShares : ByteArray := prog_10_method_8_code
def yX8_addShares : MethodName := ⟨RX8, "addShares", "(IIJ)V"⟩
theorem dX8_addShares_0 : decode cX8_addShares 0 = .ok (.aload_n 0, 1) := by decide +kernel
theorem dX8_addShares_1 : decode cX8_addShares 1 = .ok (.getfield 9, 3) := by decide +kernel
theorem dX8_addShares_4 : decode cX8_addShares 4 = .ok (.iload_n 1, 1) := by decide +kernel
theorem dX8_addShares_5 : decode cX8_addShares 5 = .ok (.iconst 5, 1) := by decide +kernel
theorem dX8_addShares_6 : decode cX8_addShares 6 = .ok (.imul, 1) := by decide +kernel
theorem dX8_addShares_7 : decode cX8_addShares 7 = .ok (.iload_n 2, 1) := by decide +kernel
theorem dX8_addShares_8 : decode cX8_addShares 8 = .ok (.iadd, 1) := by decide +kernel
theorem dX8_addShares_9 : decode cX8_addShares 9 = .ok (.dup2, 1) := by decide +kernel
theorem dX8_addShares_10 : decode cX8_addShares 10 = .ok (.laload, 1) := by decide +kernel
theorem dX8_addShares_11 : decode cX8_addShares 11 = .ok (.lload_n 3, 1) := by decide +kernel
theorem dX8_addShares_12 : decode cX8_addShares 12 = .ok (.ladd, 1) := by decide +kernel
theorem dX8_addShares_13 : decode cX8_addShares 13 = .ok (.lastore, 1) := by decide +kernel
theorem dX8_addShares_14 : decode cX8_addShares 14 = .ok (.return_, 1) := by decide +kernel
def fX8_addShares (r0 : Nat) (v1 : Int32) (v2 : Int32) (v3 : Int64) (X : Mm) : Option (Unit × Mm) :=
if mT X r0 = 8 then
if mR X r0 0 ≠ 0 then
if mT X (mR X r0 0) = 15 then
if q_b X (mR X r0 0) ((v1 * (5 : Int32)) + v2) then
nm (sJ X (mR X r0 0) (((v1 * (5 : Int32)) + v2)).toNatClampNeg ((mJ X (mR X r0 0) (((v1 * (5 : Int32)) + v2)).toNatClampNeg) + v3)) fun X13_5 =>
some ((), X13_5)
else none
else none
else none
else none
theorem sX8_addShares (r0 : Nat) (v1 : Int32) (v2 : Int32) (v3 : Int64) : q_Ct yX8_addShares cX8_addShares 5 none 0 0 0 0 q_eV (fun P => [.ref (P + r0), .int v1, .int v2, .long v3]) (fX8_addShares r0 v1 v2 v3) := by
  refine q_meth (by decide +kernel) (fun P => Nat.le_of_ble_eq_true rfl) (fun E X C hn => ?_)
  show Sm E (q_fin E q_eV X 0 0) 0 0 0 [(0, .ref (q_P E + r0)), (1, .int v1), (2, .int v2), (3, .long v3)] [] X _
  unfold fX8_addShares
  refine q_aload_n C 0 dX8_addShares_0 rfl rfl ?_
  refine q_chk (fun h1 => ?_)
  refine q_chk (fun h2 => ?_)
  refine p_getR C fgX8_9 rfl dX8_addShares_1 h1 h2 ?_
  refine q_iload_n C 1 dX8_addShares_4 rfl rfl ?_
  refine q_iconst C (5 : Int32) dX8_addShares_5 rfl ?_
  refine q_imul C dX8_addShares_6 ?_
  refine q_iload_n C 2 dX8_addShares_7 rfl rfl ?_
  refine q_iadd C dX8_addShares_8 ?_
  refine q_dup2_11 C dX8_addShares_9 rfl rfl ?_
  refine q_chk (fun h3 => ?_)
  refine q_chk (fun h4 => ?_)
  refine p_lald C dX8_addShares_10 h3 h4 ?_
  refine q_lload_n C 3 dX8_addShares_11 rfl rfl ?_
  refine q_ladd C dX8_addShares_12 ?_
  refine p_last C dX8_addShares_13 h3 h4 ?_
  refine q_nmX (fun X13_5 => ?_)
  exact q_vret C dX8_addShares_14
/-! RecordClaims$State.moveMoney(IIJ)V -/
abbrev cX8_moveMoney : ByteArray := prog_10_method_9_code
def yX8_moveMoney : MethodName := ⟨RX8, "moveMoney", "(IIJ)V"⟩
theorem dX8_moveMoney_0 : decode cX8_moveMoney 0 = .ok (.aload_n 0, 1) := by decide +kernel
theorem dX8_moveMoney_1 : decode cX8_moveMoney 1 = .ok (.getfield 15, 3) := by decide +kernel
theorem dX8_moveMoney_4 : decode cX8_moveMoney 4 = .ok (.iload_n 1, 1) := by decide +kernel
theorem dX8_moveMoney_5 : decode cX8_moveMoney 5 = .ok (.dup2, 1) := by decide +kernel
theorem dX8_moveMoney_6 : decode cX8_moveMoney 6 = .ok (.laload, 1) := by decide +kernel
theorem dX8_moveMoney_7 : decode cX8_moveMoney 7 = .ok (.lload_n 3, 1) := by decide +kernel
theorem dX8_moveMoney_8 : decode cX8_moveMoney 8 = .ok (.lsub, 1) := by decide +kernel
theorem dX8_moveMoney_9 : decode cX8_moveMoney 9 = .ok (.lastore, 1) := by decide +kernel
theorem dX8_moveMoney_10 : decode cX8_moveMoney 10 = .ok (.aload_n 0, 1) := by decide +kernel
theorem dX8_moveMoney_11 : decode cX8_moveMoney 11 = .ok (.getfield 15, 3) := by decide +kernel
theorem dX8_moveMoney_14 : decode cX8_moveMoney 14 = .ok (.iload_n 2, 1) := by decide +kernel
theorem dX8_moveMoney_15 : decode cX8_moveMoney 15 = .ok (.dup2, 1) := by decide +kernel
theorem dX8_moveMoney_16 : decode cX8_moveMoney 16 = .ok (.laload, 1) := by decide +kernel
theorem dX8_moveMoney_17 : decode cX8_moveMoney 17 = .ok (.lload_n 3, 1) := by decide +kernel
theorem dX8_moveMoney_18 : decode cX8_moveMoney 18 = .ok (.ladd, 1) := by decide +kernel
theorem dX8_moveMoney_19 : decode cX8_moveMoney 19 = .ok (.lastore, 1) := by decide +kernel
theorem dX8_moveMoney_20 : decode cX8_moveMoney 20 = .ok (.return_, 1) := by decide +kernel
def fX8_moveMoney (r0 : Nat) (v1 : Int32) (v2 : Int32) (v3 : Int64) (X : Mm) : Option (Unit × Mm) :=
if mT X r0 = 8 then
if mR X r0 1 ≠ 0 then
if mT X (mR X r0 1) = 15 then
if q_b X (mR X r0 1) v1 then
nm (sJ X (mR X r0 1) (v1).toNatClampNeg ((mJ X (mR X r0 1) (v1).toNatClampNeg) - v3)) fun X9_5 =>
if mT X9_5 r0 = 8 then
if mR X9_5 r0 1 ≠ 0 then
if mT X9_5 (mR X9_5 r0 1) = 15 then
if q_b X9_5 (mR X9_5 r0 1) v2 then
nm (sJ X9_5 (mR X9_5 r0 1) (v2).toNatClampNeg ((mJ X9_5 (mR X9_5 r0 1) (v2).toNatClampNeg) + v3)) fun X19_10 =>
some ((), X19_10)
else none
else none
else none
else none
else none
else none
else none
else none
theorem sX8_moveMoney (r0 : Nat) (v1 : Int32) (v2 : Int32) (v3 : Int64) : q_Ct yX8_moveMoney cX8_moveMoney 5 none 0 0 0 0 q_eV (fun P => [.ref (P + r0), .int v1, .int v2, .long v3]) (fX8_moveMoney r0 v1 v2 v3) := by
  refine q_meth (by decide +kernel) (fun P => Nat.le_of_ble_eq_true rfl) (fun E X C hn => ?_)
  show Sm E (q_fin E q_eV X 0 0) 0 0 0 [(0, .ref (q_P E + r0)), (1, .int v1), (2, .int v2), (3, .long v3)] [] X _
  unfold fX8_moveMoney
  refine q_aload_n C 0 dX8_moveMoney_0 rfl rfl ?_
  refine q_chk (fun h1 => ?_)
  refine q_chk (fun h2 => ?_)
  refine p_getR C fgX8_15 rfl dX8_moveMoney_1 h1 h2 ?_
  refine q_iload_n C 1 dX8_moveMoney_4 rfl rfl ?_
  refine q_dup2_11 C dX8_moveMoney_5 rfl rfl ?_
  refine q_chk (fun h3 => ?_)
  refine q_chk (fun h4 => ?_)
  refine p_lald C dX8_moveMoney_6 h3 h4 ?_
  refine q_lload_n C 3 dX8_moveMoney_7 rfl rfl ?_
  refine q_lsub C dX8_moveMoney_8 ?_
  refine p_last C dX8_moveMoney_9 h3 h4 ?_
  refine q_nmX (fun X9_5 => ?_)
  refine q_aload_n C 0 dX8_moveMoney_10 rfl rfl ?_
  refine q_chk (fun h6 => ?_)
  refine q_chk (fun h7 => ?_)
  refine p_getR C fgX8_15 rfl dX8_moveMoney_11 h6 h7 ?_
  refine q_iload_n C 2 dX8_moveMoney_14 rfl rfl ?_
  refine q_dup2_11 C dX8_moveMoney_15 rfl rfl ?_
  refine q_chk (fun h8 => ?_)
  refine q_chk (fun h9 => ?_)
  refine p_lald C dX8_moveMoney_16 h8 h9 ?_
  refine q_lload_n C 3 dX8_moveMoney_17 rfl rfl ?_
  refine q_ladd C dX8_moveMoney_18 ?_
  refine p_last C dX8_moveMoney_19 h8 h9 ?_
  refine q_nmX (fun X19_10 => ?_)
  exact q_vret C dX8_moveMoney_20
/-! RecordClaims.isWithin(III)Z -/
abbrev cX11_isWithin : ByteArray := prog_1_method_39_code
def yX11_isWithin : MethodName := ⟨RX11, "isWithin", "(III)Z"⟩
theorem dX11_isWithin_0 : decode cX11_isWithin 0 = .ok (.iload_n 0, 1) := by decide +kernel
theorem dX11_isWithin_1 : decode cX11_isWithin 1 = .ok (.iload_n 1, 1) := by decide +kernel
theorem dX11_isWithin_2 : decode cX11_isWithin 2 = .ok (.if_icmp .lt 12, 3) := by decide +kernel
theorem dX11_isWithin_5 : decode cX11_isWithin 5 = .ok (.iload_n 0, 1) := by decide +kernel
theorem dX11_isWithin_6 : decode cX11_isWithin 6 = .ok (.iload_n 2, 1) := by decide +kernel
theorem dX11_isWithin_7 : decode cX11_isWithin 7 = .ok (.if_icmp .gt 7, 3) := by decide +kernel
theorem dX11_isWithin_10 : decode cX11_isWithin 10 = .ok (.iconst 1, 1) := by decide +kernel
theorem dX11_isWithin_11 : decode cX11_isWithin 11 = .ok (.goto 4, 3) := by decide +kernel
theorem dX11_isWithin_14 : decode cX11_isWithin 14 = .ok (.iconst 0, 1) := by decide +kernel
theorem dX11_isWithin_15 : decode cX11_isWithin 15 = .ok (.ireturn, 1) := by decide +kernel
def fX11_isWithin_L14 (X : Mm) : Option (Int32 × Mm) :=
some (0, X)
def fX11_isWithin (v0 : Int32) (v1 : Int32) (v2 : Int32) (X : Mm) : Option (Int32 × Mm) :=
if v0 < v1 then (
fX11_isWithin_L14 X
) else (
if v2 < v0 then (
fX11_isWithin_L14 X
) else (
some (1, X)
)
)
theorem gX11_isWithin_L14 {E : q_E} {X0 : Mm} (C : Cx E cX11_isWithin RX11 3 (some .boolean) (q_rm 0 0 0 0) X0) (X : Mm) : Sm E (q_fin E q_eI X0 0 0) 0 0 14 [] [] X (fX11_isWithin_L14  X) := by
  unfold fX11_isWithin_L14
  refine q_iconst C (0 : Int32) dX11_isWithin_14 rfl ?_
  exact q_zret0 C dX11_isWithin_15
theorem sX11_isWithin (v0 : Int32) (v1 : Int32) (v2 : Int32) : q_Ct yX11_isWithin cX11_isWithin 3 (some .boolean) 0 0 0 0 q_eI (fun P => [.int v0, .int v1, .int v2]) (fX11_isWithin v0 v1 v2) := by
  refine q_meth (by decide +kernel) (fun P => Nat.le_of_ble_eq_true rfl) (fun E X C hn => ?_)
  show Sm E (q_fin E q_eI X 0 0) 0 0 0 [(0, .int v0), (1, .int v1), (2, .int v2)] [] X _
  unfold fX11_isWithin
  refine q_iload_n C 0 dX11_isWithin_0 rfl rfl ?_
  refine q_iload_n C 1 dX11_isWithin_1 rfl rfl ?_
  refine q_icmp_lt C 14 dX11_isWithin_2 (by decide) (fun _ => ?_) (fun _ => ?_)
  · refine q_sub C [] [] rfl ?_
    exact gX11_isWithin_L14 C X
  · refine q_iload_n C 0 dX11_isWithin_5 rfl rfl ?_
    refine q_iload_n C 2 dX11_isWithin_6 rfl rfl ?_
    refine q_icmp_gt C 14 dX11_isWithin_7 (by decide) (fun _ => ?_) (fun _ => ?_)
    · refine q_sub C [] [] rfl ?_
      exact gX11_isWithin_L14 C X
    · refine q_iconst C (1 : Int32) dX11_isWithin_10 rfl ?_
      refine q_goto C 15 dX11_isWithin_11 (by decide) ?_
      exact q_zret1 C dX11_isWithin_15
/-! RecordClaims$State.tradeCanBe(LRecordClaims$Deed;)Z -/
abbrev cX8_tradeCanBe : ByteArray := prog_10_method_11_code
def yX8_tradeCanBe : MethodName := ⟨RX8, "tradeCanBe", "(LRecordClaims$Deed;)Z"⟩
theorem dX8_tradeCanBe_0 : decode cX8_tradeCanBe 0 = .ok (.aload_n 0, 1) := by decide +kernel
theorem dX8_tradeCanBe_1 : decode cX8_tradeCanBe 1 = .ok (.aload_n 1, 1) := by decide +kernel
theorem dX8_tradeCanBe_2 : decode cX8_tradeCanBe 2 = .ok (.getfield 121, 3) := by decide +kernel
theorem dX8_tradeCanBe_5 : decode cX8_tradeCanBe 5 = .ok (.invokevirtual 124, 3) := by decide +kernel
theorem dX8_tradeCanBe_8 : decode cX8_tradeCanBe 8 = .ok (.ifCond .eq 79, 3) := by decide +kernel
theorem dX8_tradeCanBe_11 : decode cX8_tradeCanBe 11 = .ok (.aload_n 0, 1) := by decide +kernel
theorem dX8_tradeCanBe_12 : decode cX8_tradeCanBe 12 = .ok (.aload_n 1, 1) := by decide +kernel
theorem dX8_tradeCanBe_13 : decode cX8_tradeCanBe 13 = .ok (.getfield 127, 3) := by decide +kernel
theorem dX8_tradeCanBe_16 : decode cX8_tradeCanBe 16 = .ok (.invokevirtual 124, 3) := by decide +kernel
theorem dX8_tradeCanBe_19 : decode cX8_tradeCanBe 19 = .ok (.ifCond .eq 68, 3) := by decide +kernel
theorem dX8_tradeCanBe_22 : decode cX8_tradeCanBe 22 = .ok (.aload_n 1, 1) := by decide +kernel
theorem dX8_tradeCanBe_23 : decode cX8_tradeCanBe 23 = .ok (.getfield 121, 3) := by decide +kernel
theorem dX8_tradeCanBe_26 : decode cX8_tradeCanBe 26 = .ok (.aload_n 1, 1) := by decide +kernel
theorem dX8_tradeCanBe_27 : decode cX8_tradeCanBe 27 = .ok (.getfield 127, 3) := by decide +kernel
theorem dX8_tradeCanBe_30 : decode cX8_tradeCanBe 30 = .ok (.if_icmp .eq 57, 3) := by decide +kernel
theorem dX8_tradeCanBe_33 : decode cX8_tradeCanBe 33 = .ok (.aload_n 0, 1) := by decide +kernel
theorem dX8_tradeCanBe_34 : decode cX8_tradeCanBe 34 = .ok (.aload_n 1, 1) := by decide +kernel
theorem dX8_tradeCanBe_35 : decode cX8_tradeCanBe 35 = .ok (.getfield 130, 3) := by decide +kernel
theorem dX8_tradeCanBe_38 : decode cX8_tradeCanBe 38 = .ok (.invokevirtual 133, 3) := by decide +kernel
theorem dX8_tradeCanBe_41 : decode cX8_tradeCanBe 41 = .ok (.ifCond .eq 46, 3) := by decide +kernel
theorem dX8_tradeCanBe_44 : decode cX8_tradeCanBe 44 = .ok (.aload_n 1, 1) := by decide +kernel
theorem dX8_tradeCanBe_45 : decode cX8_tradeCanBe 45 = .ok (.getfield 136, 3) := by decide +kernel
theorem dX8_tradeCanBe_48 : decode cX8_tradeCanBe 48 = .ok (.iconst 1, 1) := by decide +kernel
theorem dX8_tradeCanBe_49 : decode cX8_tradeCanBe 49 = .ok (.ldc 138, 2) := by decide +kernel
theorem dX8_tradeCanBe_51 : decode cX8_tradeCanBe 51 = .ok (.invokestatic 139, 3) := by decide +kernel
theorem dX8_tradeCanBe_54 : decode cX8_tradeCanBe 54 = .ok (.ifCond .eq 33, 3) := by decide +kernel
theorem dX8_tradeCanBe_57 : decode cX8_tradeCanBe 57 = .ok (.aload_n 1, 1) := by decide +kernel
theorem dX8_tradeCanBe_58 : decode cX8_tradeCanBe 58 = .ok (.getfield 143, 3) := by decide +kernel
theorem dX8_tradeCanBe_61 : decode cX8_tradeCanBe 61 = .ok (.iconst 0, 1) := by decide +kernel
theorem dX8_tradeCanBe_62 : decode cX8_tradeCanBe 62 = .ok (.ldc 146, 2) := by decide +kernel
theorem dX8_tradeCanBe_64 : decode cX8_tradeCanBe 64 = .ok (.invokestatic 139, 3) := by decide +kernel
theorem dX8_tradeCanBe_67 : decode cX8_tradeCanBe 67 = .ok (.ifCond .eq 20, 3) := by decide +kernel
theorem dX8_tradeCanBe_70 : decode cX8_tradeCanBe 70 = .ok (.aload_n 1, 1) := by decide +kernel
theorem dX8_tradeCanBe_71 : decode cX8_tradeCanBe 71 = .ok (.getfield 147, 3) := by decide +kernel
theorem dX8_tradeCanBe_74 : decode cX8_tradeCanBe 74 = .ok (.iconst 1, 1) := by decide +kernel
theorem dX8_tradeCanBe_75 : decode cX8_tradeCanBe 75 = .ok (.bipush 9, 2) := by decide +kernel
theorem dX8_tradeCanBe_77 : decode cX8_tradeCanBe 77 = .ok (.invokestatic 139, 3) := by decide +kernel
theorem dX8_tradeCanBe_80 : decode cX8_tradeCanBe 80 = .ok (.ifCond .eq 7, 3) := by decide +kernel
theorem dX8_tradeCanBe_83 : decode cX8_tradeCanBe 83 = .ok (.iconst 1, 1) := by decide +kernel
theorem dX8_tradeCanBe_84 : decode cX8_tradeCanBe 84 = .ok (.goto 4, 3) := by decide +kernel
theorem dX8_tradeCanBe_87 : decode cX8_tradeCanBe 87 = .ok (.iconst 0, 1) := by decide +kernel
theorem dX8_tradeCanBe_88 : decode cX8_tradeCanBe 88 = .ok (.ireturn, 1) := by decide +kernel
theorem fgX8_121 : q_Fg RX8 121 2 2 := q_Fg.of (C := RX2) (T := TX2) (N := 20) rfl (by decide) inX2 109 (by decide +kernel) rfl rfl
theorem fcX8_124 : q_LV RX8 124 yX8_isHolder cX8_isHolder 2 (some .boolean) 1 8 := ⟨q_tb 800 (by decide +kernel) rfl, q_tb 801 (by decide +kernel) rfl, q_tb 802 (by decide +kernel) rfl, q_tb 5 (by decide +kernel) rfl, q_tb 803 (by decide +kernel) rfl, ⟨by decide +kernel, by decide +kernel, by decide +kernel⟩, TX8, 9, rfl⟩
theorem fgX8_127 : q_Fg RX8 127 2 3 := q_Fg.of (C := RX2) (T := TX2) (N := 20) rfl (by decide) inX2 113 (by decide +kernel) rfl rfl
theorem fgX8_130 : q_Fg RX8 130 2 1 := q_Fg.of (C := RX2) (T := TX2) (N := 20) rfl (by decide) inX2 105 (by decide +kernel) rfl rfl
theorem fcX8_133 : q_LV RX8 133 yX8_isPaper cX8_isPaper 2 (some .boolean) 1 8 := ⟨q_tb 804 (by decide +kernel) rfl, q_tb 805 (by decide +kernel) rfl, q_tb 806 (by decide +kernel) rfl, q_tb 5 (by decide +kernel) rfl, q_tb 807 (by decide +kernel) rfl, ⟨by decide +kernel, by decide +kernel, by decide +kernel⟩, TX8, 9, rfl⟩
theorem fgX8_136 : q_Fg RX8 136 2 4 := q_Fg.of (C := RX2) (T := TX2) (N := 20) rfl (by decide) inX2 117 (by decide +kernel) rfl rfl
theorem fkX8_138 : Cond.constant RX8 138 (100000 : Int32) ∈ q_tbl := q_tb 808 (by decide +kernel) rfl
theorem fcX8_139 : q_LSN RX8 139 yX11_isWithin "RecordClaims" cX11_isWithin 3 (some .boolean) 3 := ⟨List.mem_append_right _ (List.mem_of_getElem? (i := 809) (by decide +kernel)), q_tb 810 (by decide +kernel) rfl, q_tb 1 (by decide +kernel) rfl, q_tb 811 (by decide +kernel) rfl, ⟨by decide +kernel, by decide +kernel, by decide +kernel⟩⟩
theorem fgX8_143 : q_Fg RX8 143 2 5 := q_Fg.of (C := RX2) (T := TX2) (N := 20) rfl (by decide) inX2 121 (by decide +kernel) rfl rfl
theorem fkX8_146 : Cond.constant RX8 146 (99999999 : Int32) ∈ q_tbl := q_tb 812 (by decide +kernel) rfl
theorem fgX8_147 : q_Fg RX8 147 2 6 := q_Fg.of (C := RX2) (T := TX2) (N := 20) rfl (by decide) inX2 125 (by decide +kernel) rfl rfl
def fX8_tradeCanBe_L87 (X : Mm) : Option (Int32 × Mm) :=
some (0, X)
def fX8_tradeCanBe (r0 : Nat) (r1 : Nat) (X : Mm) : Option (Int32 × Mm) :=
if mT X r1 = 2 then
if mT X r0 = 8 then
bd (fX8_isHolder r0 ((mI X r1 2)) X) fun w2 X5_3 =>
if w2 = 0 then (
fX8_tradeCanBe_L87 X5_3
) else (
if mT X5_3 r1 = 2 then
if mT X5_3 r0 = 8 then
bd (fX8_isHolder r0 ((mI X5_3 r1 3)) X5_3) fun w6 X16_7 =>
if w6 = 0 then (
fX8_tradeCanBe_L87 X16_7
) else (
if mT X16_7 r1 = 2 then
if (mI X16_7 r1 2) = (mI X16_7 r1 3) then (
fX8_tradeCanBe_L87 X16_7
) else (
if mT X16_7 r0 = 8 then
bd (fX8_isPaper r0 ((mI X16_7 r1 1)) X16_7) fun w10 X38_11 =>
if w10 = 0 then (
fX8_tradeCanBe_L87 X38_11
) else (
if mT X38_11 r1 = 2 then
bd (fX11_isWithin ((mI X38_11 r1 4)) (1 : Int32) (100000 : Int32) X38_11) fun w14 X51_15 =>
if w14 = 0 then (
fX8_tradeCanBe_L87 X51_15
) else (
if mT X51_15 r1 = 2 then
bd (fX11_isWithin ((mI X51_15 r1 5)) (0 : Int32) (99999999 : Int32) X51_15) fun w17 X64_18 =>
if w17 = 0 then (
fX8_tradeCanBe_L87 X64_18
) else (
if mT X64_18 r1 = 2 then
bd (fX11_isWithin ((mI X64_18 r1 6)) (1 : Int32) (9 : Int32) X64_18) fun w20 X77_21 =>
if w20 = 0 then (
fX8_tradeCanBe_L87 X77_21
) else (
some (1, X77_21)
)
else none
)
else none
)
else none
)
else none
)
else none
)
else none
else none
)
else none
else none
theorem gX8_tradeCanBe_L87 {E : q_E} {X0 : Mm} (C : Cx E cX8_tradeCanBe RX8 2 (some .boolean) (q_rm 1 22 0 0) X0) (X : Mm) : Sm E (q_fin E q_eI X0 0 0) 0 0 87 [] [] X (fX8_tradeCanBe_L87  X) := by
  unfold fX8_tradeCanBe_L87
  refine q_iconst C (0 : Int32) dX8_tradeCanBe_87 rfl ?_
  exact q_zret0 C dX8_tradeCanBe_88
theorem sX8_tradeCanBe (r0 : Nat) (r1 : Nat) : q_Ct yX8_tradeCanBe cX8_tradeCanBe 2 (some .boolean) 1 22 0 0 q_eI (fun P => [.ref (P + r0), .ref (P + r1)]) (fX8_tradeCanBe r0 r1) := by
  refine q_meth (by decide +kernel) (fun P => Nat.le_of_ble_eq_true rfl) (fun E X C hn => ?_)
  show Sm E (q_fin E q_eI X 0 0) 0 0 0 [(0, .ref (q_P E + r0)), (1, .ref (q_P E + r1))] [] X _
  unfold fX8_tradeCanBe
  refine q_aload_n C 0 dX8_tradeCanBe_0 rfl rfl ?_
  refine q_aload_n C 1 dX8_tradeCanBe_1 rfl rfl ?_
  refine q_chk (fun h1 => ?_)
  refine p_getI C fgX8_121 rfl dX8_tradeCanBe_2 h1 ?_
  refine q_chk (fun h4 => ?_)
  refine q_cVI (As := (fun P => [.int (mI X r1 2)])) C [] (sX8_isHolder r0 ((mI X r1 2))) fcX8_124 rfl (fun _ => rfl) ⟨Nat.le_of_ble_eq_true rfl, Nat.le_of_ble_eq_true rfl⟩ ⟨Nat.le_of_ble_eq_true rfl, Nat.le_of_ble_eq_true rfl⟩ (Nat.le_of_ble_eq_true rfl) dX8_tradeCanBe_5 h4 (fun w2 X5_3 => ?_)
  refine q_if_eq C 87 dX8_tradeCanBe_8 (by decide) (fun _ => ?_) (fun _ => ?_)
  · refine q_sub C [] [] rfl ?_
    exact gX8_tradeCanBe_L87 C X5_3
  · refine q_aload_n C 0 dX8_tradeCanBe_11 rfl rfl ?_
    refine q_aload_n C 1 dX8_tradeCanBe_12 rfl rfl ?_
    refine q_chk (fun h5 => ?_)
    refine p_getI C fgX8_127 rfl dX8_tradeCanBe_13 h5 ?_
    refine q_chk (fun h8 => ?_)
    refine q_cVI (As := (fun P => [.int (mI X5_3 r1 3)])) C [] (sX8_isHolder r0 ((mI X5_3 r1 3))) fcX8_124 rfl (fun _ => rfl) ⟨Nat.le_of_ble_eq_true rfl, Nat.le_of_ble_eq_true rfl⟩ ⟨Nat.le_of_ble_eq_true rfl, Nat.le_of_ble_eq_true rfl⟩ (Nat.le_of_ble_eq_true rfl) dX8_tradeCanBe_16 h8 (fun w6 X16_7 => ?_)
    refine q_if_eq C 87 dX8_tradeCanBe_19 (by decide) (fun _ => ?_) (fun _ => ?_)
    · refine q_sub C [] [] rfl ?_
      exact gX8_tradeCanBe_L87 C X16_7
    · refine q_aload_n C 1 dX8_tradeCanBe_22 rfl rfl ?_
      refine q_chk (fun h9 => ?_)
      refine p_getI C fgX8_121 rfl dX8_tradeCanBe_23 h9 ?_
      refine q_aload_n C 1 dX8_tradeCanBe_26 rfl rfl ?_
      refine p_getI C fgX8_127 rfl dX8_tradeCanBe_27 h9 ?_
      refine q_icmp_eq C 87 dX8_tradeCanBe_30 (by decide) (fun _ => ?_) (fun _ => ?_)
      · refine q_sub C [] [] rfl ?_
        exact gX8_tradeCanBe_L87 C X16_7
      · refine q_aload_n C 0 dX8_tradeCanBe_33 rfl rfl ?_
        refine q_aload_n C 1 dX8_tradeCanBe_34 rfl rfl ?_
        refine p_getI C fgX8_130 rfl dX8_tradeCanBe_35 h9 ?_
        refine q_chk (fun h12 => ?_)
        refine q_cVI (As := (fun P => [.int (mI X16_7 r1 1)])) C [] (sX8_isPaper r0 ((mI X16_7 r1 1))) fcX8_133 rfl (fun _ => rfl) ⟨Nat.le_of_ble_eq_true rfl, Nat.le_of_ble_eq_true rfl⟩ ⟨Nat.le_of_ble_eq_true rfl, Nat.le_of_ble_eq_true rfl⟩ (Nat.le_of_ble_eq_true rfl) dX8_tradeCanBe_38 h12 (fun w10 X38_11 => ?_)
        refine q_if_eq C 87 dX8_tradeCanBe_41 (by decide) (fun _ => ?_) (fun _ => ?_)
        · refine q_sub C [] [] rfl ?_
          exact gX8_tradeCanBe_L87 C X38_11
        · refine q_aload_n C 1 dX8_tradeCanBe_44 rfl rfl ?_
          refine q_chk (fun h13 => ?_)
          refine p_getI C fgX8_136 rfl dX8_tradeCanBe_45 h13 ?_
          refine q_iconst C (1 : Int32) dX8_tradeCanBe_48 rfl ?_
          refine q_ldc C dX8_tradeCanBe_49 fkX8_138 ?_
          refine q_cNI (As := (fun P => [.int (mI X38_11 r1 4), .int (1 : Int32), .int (100000 : Int32)])) C [] (sX11_isWithin ((mI X38_11 r1 4)) (1 : Int32) (100000 : Int32)) fcX8_139 rfl (fun _ => rfl) ⟨Nat.le_of_ble_eq_true rfl, Nat.le_of_ble_eq_true rfl⟩ ⟨Nat.le_of_ble_eq_true rfl, Nat.le_of_ble_eq_true rfl⟩ (Nat.le_of_ble_eq_true rfl) dX8_tradeCanBe_51 (fun w14 X51_15 => ?_)
          refine q_if_eq C 87 dX8_tradeCanBe_54 (by decide) (fun _ => ?_) (fun _ => ?_)
          · refine q_sub C [] [] rfl ?_
            exact gX8_tradeCanBe_L87 C X51_15
          · refine q_aload_n C 1 dX8_tradeCanBe_57 rfl rfl ?_
            refine q_chk (fun h16 => ?_)
            refine p_getI C fgX8_143 rfl dX8_tradeCanBe_58 h16 ?_
            refine q_iconst C (0 : Int32) dX8_tradeCanBe_61 rfl ?_
            refine q_ldc C dX8_tradeCanBe_62 fkX8_146 ?_
            refine q_cNI (As := (fun P => [.int (mI X51_15 r1 5), .int (0 : Int32), .int (99999999 : Int32)])) C [] (sX11_isWithin ((mI X51_15 r1 5)) (0 : Int32) (99999999 : Int32)) fcX8_139 rfl (fun _ => rfl) ⟨Nat.le_of_ble_eq_true rfl, Nat.le_of_ble_eq_true rfl⟩ ⟨Nat.le_of_ble_eq_true rfl, Nat.le_of_ble_eq_true rfl⟩ (Nat.le_of_ble_eq_true rfl) dX8_tradeCanBe_64 (fun w17 X64_18 => ?_)
            refine q_if_eq C 87 dX8_tradeCanBe_67 (by decide) (fun _ => ?_) (fun _ => ?_)
            · refine q_sub C [] [] rfl ?_
              exact gX8_tradeCanBe_L87 C X64_18
            · refine q_aload_n C 1 dX8_tradeCanBe_70 rfl rfl ?_
              refine q_chk (fun h19 => ?_)
              refine p_getI C fgX8_147 rfl dX8_tradeCanBe_71 h19 ?_
              refine q_iconst C (1 : Int32) dX8_tradeCanBe_74 rfl ?_
              refine q_bipush C (9 : Int32) dX8_tradeCanBe_75 rfl ?_
              refine q_cNI (As := (fun P => [.int (mI X64_18 r1 6), .int (1 : Int32), .int (9 : Int32)])) C [] (sX11_isWithin ((mI X64_18 r1 6)) (1 : Int32) (9 : Int32)) fcX8_139 rfl (fun _ => rfl) ⟨Nat.le_of_ble_eq_true rfl, Nat.le_of_ble_eq_true rfl⟩ ⟨Nat.le_of_ble_eq_true rfl, Nat.le_of_ble_eq_true rfl⟩ (Nat.le_of_ble_eq_true rfl) dX8_tradeCanBe_77 (fun w20 X77_21 => ?_)
              refine q_if_eq C 87 dX8_tradeCanBe_80 (by decide) (fun _ => ?_) (fun _ => ?_)
              · refine q_sub C [] [] rfl ?_
                exact gX8_tradeCanBe_L87 C X77_21
              · refine q_iconst C (1 : Int32) dX8_tradeCanBe_83 rfl ?_
                refine q_goto C 88 dX8_tradeCanBe_84 (by decide) ?_
                exact q_zret1 C dX8_tradeCanBe_88
/-! RecordClaims$State.putChoice(LRecordClaims$Deed;)I -/
abbrev cX8_putChoice : ByteArray := prog_10_method_12_code
def yX8_putChoice : MethodName := ⟨RX8, "putChoice", "(LRecordClaims$Deed;)I"⟩
theorem dX8_putChoice_0 : decode cX8_putChoice 0 = .ok (.aload_n 0, 1) := by decide +kernel
theorem dX8_putChoice_1 : decode cX8_putChoice 1 = .ok (.getfield 28, 3) := by decide +kernel
theorem dX8_putChoice_4 : decode cX8_putChoice 4 = .ok (.aload_n 1, 1) := by decide +kernel
theorem dX8_putChoice_5 : decode cX8_putChoice 5 = .ok (.getfield 150, 3) := by decide +kernel
theorem dX8_putChoice_8 : decode cX8_putChoice 8 = .ok (.invokevirtual 84, 3) := by decide +kernel
theorem dX8_putChoice_11 : decode cX8_putChoice 11 = .ok (.ifCond .eq 58, 3) := by decide +kernel
theorem dX8_putChoice_14 : decode cX8_putChoice 14 = .ok (.aload_n 0, 1) := by decide +kernel
theorem dX8_putChoice_15 : decode cX8_putChoice 15 = .ok (.aload_n 1, 1) := by decide +kernel
theorem dX8_putChoice_16 : decode cX8_putChoice 16 = .ok (.getfield 121, 3) := by decide +kernel
theorem dX8_putChoice_19 : decode cX8_putChoice 19 = .ok (.invokevirtual 124, 3) := by decide +kernel
theorem dX8_putChoice_22 : decode cX8_putChoice 22 = .ok (.ifCond .eq 47, 3) := by decide +kernel
theorem dX8_putChoice_25 : decode cX8_putChoice 25 = .ok (.aload_n 1, 1) := by decide +kernel
theorem dX8_putChoice_26 : decode cX8_putChoice 26 = .ok (.getfield 153, 3) := by decide +kernel
theorem dX8_putChoice_29 : decode cX8_putChoice 29 = .ok (.iconst 0, 1) := by decide +kernel
theorem dX8_putChoice_30 : decode cX8_putChoice 30 = .ok (.ldc 156, 2) := by decide +kernel
theorem dX8_putChoice_32 : decode cX8_putChoice 32 = .ok (.invokestatic 139, 3) := by decide +kernel
theorem dX8_putChoice_35 : decode cX8_putChoice 35 = .ok (.ifCond .eq 34, 3) := by decide +kernel
theorem dX8_putChoice_38 : decode cX8_putChoice 38 = .ok (.aload_n 1, 1) := by decide +kernel
theorem dX8_putChoice_39 : decode cX8_putChoice 39 = .ok (.getfield 157, 3) := by decide +kernel
theorem dX8_putChoice_42 : decode cX8_putChoice 42 = .ok (.iconst 0, 1) := by decide +kernel
theorem dX8_putChoice_43 : decode cX8_putChoice 43 = .ok (.ldc 156, 2) := by decide +kernel
theorem dX8_putChoice_45 : decode cX8_putChoice 45 = .ok (.invokestatic 139, 3) := by decide +kernel
theorem dX8_putChoice_48 : decode cX8_putChoice 48 = .ok (.ifCond .eq 21, 3) := by decide +kernel
theorem dX8_putChoice_51 : decode cX8_putChoice 51 = .ok (.aload_n 0, 1) := by decide +kernel
theorem dX8_putChoice_52 : decode cX8_putChoice 52 = .ok (.getfield 28, 3) := by decide +kernel
theorem dX8_putChoice_55 : decode cX8_putChoice 55 = .ok (.aload_n 1, 1) := by decide +kernel
theorem dX8_putChoice_56 : decode cX8_putChoice 56 = .ok (.getfield 150, 3) := by decide +kernel
theorem dX8_putChoice_59 : decode cX8_putChoice 59 = .ok (.aload_n 0, 1) := by decide +kernel
theorem dX8_putChoice_60 : decode cX8_putChoice 60 = .ok (.getfield 68, 3) := by decide +kernel
theorem dX8_putChoice_63 : decode cX8_putChoice 63 = .ok (.invokevirtual 160, 3) := by decide +kernel
theorem dX8_putChoice_66 : decode cX8_putChoice 66 = .ok (.ifCond .ne 5, 3) := by decide +kernel
theorem dX8_putChoice_69 : decode cX8_putChoice 69 = .ok (.iconst (-1), 1) := by decide +kernel
theorem dX8_putChoice_70 : decode cX8_putChoice 70 = .ok (.ireturn, 1) := by decide +kernel
theorem dX8_putChoice_71 : decode cX8_putChoice 71 = .ok (.aload_n 1, 1) := by decide +kernel
theorem dX8_putChoice_72 : decode cX8_putChoice 72 = .ok (.getfield 150, 3) := by decide +kernel
theorem dX8_putChoice_75 : decode cX8_putChoice 75 = .ok (.aload_n 1, 1) := by decide +kernel
theorem dX8_putChoice_76 : decode cX8_putChoice 76 = .ok (.getfield 121, 3) := by decide +kernel
theorem dX8_putChoice_79 : decode cX8_putChoice 79 = .ok (.invokestatic 164, 3) := by decide +kernel
theorem dX8_putChoice_82 : decode cX8_putChoice 82 = .ok (.istore_n 2, 1) := by decide +kernel
theorem dX8_putChoice_83 : decode cX8_putChoice 83 = .ok (.aload_n 0, 1) := by decide +kernel
theorem dX8_putChoice_84 : decode cX8_putChoice 84 = .ok (.getfield 35, 3) := by decide +kernel
theorem dX8_putChoice_87 : decode cX8_putChoice 87 = .ok (.getfield 168, 3) := by decide +kernel
theorem dX8_putChoice_90 : decode cX8_putChoice 90 = .ok (.iload_n 2, 1) := by decide +kernel
theorem dX8_putChoice_91 : decode cX8_putChoice 91 = .ok (.aload_n 1, 1) := by decide +kernel
theorem dX8_putChoice_92 : decode cX8_putChoice 92 = .ok (.getfield 153, 3) := by decide +kernel
theorem dX8_putChoice_95 : decode cX8_putChoice 95 = .ok (.i2l, 1) := by decide +kernel
theorem dX8_putChoice_96 : decode cX8_putChoice 96 = .ok (.lastore, 1) := by decide +kernel
theorem dX8_putChoice_97 : decode cX8_putChoice 97 = .ok (.aload_n 0, 1) := by decide +kernel
theorem dX8_putChoice_98 : decode cX8_putChoice 98 = .ok (.getfield 35, 3) := by decide +kernel
theorem dX8_putChoice_101 : decode cX8_putChoice 101 = .ok (.getfield 170, 3) := by decide +kernel
theorem dX8_putChoice_104 : decode cX8_putChoice 104 = .ok (.iload_n 2, 1) := by decide +kernel
theorem dX8_putChoice_105 : decode cX8_putChoice 105 = .ok (.aload_n 1, 1) := by decide +kernel
theorem dX8_putChoice_106 : decode cX8_putChoice 106 = .ok (.getfield 157, 3) := by decide +kernel
theorem dX8_putChoice_109 : decode cX8_putChoice 109 = .ok (.i2l, 1) := by decide +kernel
theorem dX8_putChoice_110 : decode cX8_putChoice 110 = .ok (.lastore, 1) := by decide +kernel
theorem dX8_putChoice_111 : decode cX8_putChoice 111 = .ok (.iconst 0, 1) := by decide +kernel
theorem dX8_putChoice_112 : decode cX8_putChoice 112 = .ok (.ireturn, 1) := by decide +kernel
theorem fgX8_150 : q_Fg RX8 150 2 16 := q_Fg.of (C := RX2) (T := TX2) (N := 20) rfl (by decide) inX2 157 (by decide +kernel) rfl rfl
theorem fgX8_153 : q_Fg RX8 153 2 17 := q_Fg.of (C := RX2) (T := TX2) (N := 20) rfl (by decide) inX2 160 (by decide +kernel) rfl rfl
theorem fkX8_156 : Cond.constant RX8 156 (999999999 : Int32) ∈ q_tbl := q_tb 825 (by decide +kernel) rfl
theorem fgX8_157 : q_Fg RX8 157 2 18 := q_Fg.of (C := RX2) (T := TX2) (N := 20) rfl (by decide) inX2 164 (by decide +kernel) rfl rfl
theorem fcX8_160 : q_LV RX8 160 yX3_canBeChosen cX3_canBeChosen 3 (some .boolean) 2 3 := ⟨q_tb 826 (by decide +kernel) rfl, q_tb 827 (by decide +kernel) rfl, q_tb 828 (by decide +kernel) rfl, q_tb 7 (by decide +kernel) rfl, q_tb 829 (by decide +kernel) rfl, ⟨by decide +kernel, by decide +kernel, by decide +kernel⟩, TX3, 17, rfl⟩
theorem fcX8_164 : q_LS RX8 164 yX6_at cX6_at 2 (some .int) 2 := ⟨q_tb 830 (by decide +kernel) rfl, q_tb 831 (by decide +kernel) rfl, q_tb 8 (by decide +kernel) rfl, q_tb 832 (by decide +kernel) rfl, ⟨by decide +kernel, by decide +kernel, by decide +kernel⟩⟩
theorem fgX8_168 : q_Fg RX8 168 6 1 := q_Fg.of (C := RX6) (T := TX6) (N := 6) rfl (by decide) inX6 347 (by decide +kernel) rfl rfl
theorem fgX8_170 : q_Fg RX8 170 6 2 := q_Fg.of (C := RX6) (T := TX6) (N := 6) rfl (by decide) inX6 349 (by decide +kernel) rfl rfl
def fX8_putChoice_L69 (X : Mm) : Option (Int32 × Mm) :=
some ((-1 : Int32), X)
def fX8_putChoice (r0 : Nat) (r1 : Nat) (X : Mm) : Option (Int32 × Mm) :=
if mT X r0 = 8 then
if mR X r0 3 ≠ 0 then
if mT X r1 = 2 then
if mT X (mR X r0 3) = 3 then
bd (fX3_isThere ((mR X r0 3)) ((mI X r1 16)) X) fun w4 X8_5 =>
if w4 = 0 then (
fX8_putChoice_L69 X8_5
) else (
if mT X8_5 r1 = 2 then
if mT X8_5 r0 = 8 then
bd (fX8_isHolder r0 ((mI X8_5 r1 2)) X8_5) fun w8 X19_9 =>
if w8 = 0 then (
fX8_putChoice_L69 X19_9
) else (
if mT X19_9 r1 = 2 then
bd (fX11_isWithin ((mI X19_9 r1 17)) (0 : Int32) (999999999 : Int32) X19_9) fun w12 X32_13 =>
if w12 = 0 then (
fX8_putChoice_L69 X32_13
) else (
if mT X32_13 r1 = 2 then
bd (fX11_isWithin ((mI X32_13 r1 18)) (0 : Int32) (999999999 : Int32) X32_13) fun w15 X45_16 =>
if w15 = 0 then (
fX8_putChoice_L69 X45_16
) else (
if mT X45_16 r0 = 8 then
if mR X45_16 r0 3 ≠ 0 then
if mT X45_16 r1 = 2 then
if mT X45_16 (mR X45_16 r0 3) = 3 then
bd (fX3_canBeChosen ((mR X45_16 r0 3)) ((mI X45_16 r1 16)) ((mI X45_16 r0 8)) X45_16) fun w20 X63_21 =>
if w20 = 0 then (
fX8_putChoice_L69 X63_21
) else (
if mT X63_21 r1 = 2 then
bd (fX6_at ((mI X63_21 r1 16)) ((mI X63_21 r1 2)) X63_21) fun w24 X79_25 =>
if mT X79_25 r0 = 8 then
if mR X79_25 r0 4 ≠ 0 then
if mT X79_25 (mR X79_25 r0 4) = 6 then
if mR X79_25 (mR X79_25 r0 4) 1 ≠ 0 then
if mT X79_25 r1 = 2 then
if mT X79_25 (mR X79_25 (mR X79_25 r0 4) 1) = 15 then
if q_b X79_25 (mR X79_25 (mR X79_25 r0 4) 1) w24 then
nm (sJ X79_25 (mR X79_25 (mR X79_25 r0 4) 1) (w24).toNatClampNeg (((mI X79_25 r1 17)).toInt64)) fun X96_31 =>
if mT X96_31 r0 = 8 then
if mR X96_31 r0 4 ≠ 0 then
if mT X96_31 (mR X96_31 r0 4) = 6 then
if mR X96_31 (mR X96_31 r0 4) 2 ≠ 0 then
if mT X96_31 r1 = 2 then
if mT X96_31 (mR X96_31 (mR X96_31 r0 4) 2) = 15 then
if q_b X96_31 (mR X96_31 (mR X96_31 r0 4) 2) w24 then
nm (sJ X96_31 (mR X96_31 (mR X96_31 r0 4) 2) (w24).toNatClampNeg (((mI X96_31 r1 18)).toInt64)) fun X110_39 =>
some ((0 : Int32), X110_39)
else none
else none
else none
else none
else none
else none
else none
else none
else none
else none
else none
else none
else none
else none
else none
)
else none
else none
else none
else none
)
else none
)
else none
)
else none
else none
)
else none
else none
else none
else none
theorem gX8_putChoice_L69 {E : q_E} {X0 : Mm} (C : Cx E cX8_putChoice RX8 3 (some .int) (q_rm 1 22 0 0) X0) (X : Mm) : Sm E (q_fin E q_eI X0 0 0) 0 0 69 [] [] X (fX8_putChoice_L69  X) := by
  unfold fX8_putChoice_L69
  refine q_iconst C (-1 : Int32) dX8_putChoice_69 rfl ?_
  exact q_iret C dX8_putChoice_70
theorem sX8_putChoice (r0 : Nat) (r1 : Nat) : q_Ct yX8_putChoice cX8_putChoice 3 (some .int) 1 22 0 0 q_eI (fun P => [.ref (P + r0), .ref (P + r1)]) (fX8_putChoice r0 r1) := by
  refine q_meth (by decide +kernel) (fun P => Nat.le_of_ble_eq_true rfl) (fun E X C hn => ?_)
  show Sm E (q_fin E q_eI X 0 0) 0 0 0 [(0, .ref (q_P E + r0)), (1, .ref (q_P E + r1))] [] X _
  unfold fX8_putChoice
  refine q_aload_n C 0 dX8_putChoice_0 rfl rfl ?_
  refine q_chk (fun h1 => ?_)
  refine q_chk (fun h2 => ?_)
  refine p_getR C fgX8_28 rfl dX8_putChoice_1 h1 h2 ?_
  refine q_aload_n C 1 dX8_putChoice_4 rfl rfl ?_
  refine q_chk (fun h3 => ?_)
  refine p_getI C fgX8_150 rfl dX8_putChoice_5 h3 ?_
  refine q_chk (fun h6 => ?_)
  refine q_cVI (As := (fun P => [.int (mI X r1 16)])) C [] (sX3_isThere ((mR X r0 3)) ((mI X r1 16))) fcX8_84 rfl (fun _ => rfl) ⟨Nat.le_of_ble_eq_true rfl, Nat.le_of_ble_eq_true rfl⟩ ⟨Nat.le_of_ble_eq_true rfl, Nat.le_of_ble_eq_true rfl⟩ (Nat.le_of_ble_eq_true rfl) dX8_putChoice_8 h6 (fun w4 X8_5 => ?_)
  refine q_if_eq C 69 dX8_putChoice_11 (by decide) (fun _ => ?_) (fun _ => ?_)
  · refine q_sub C [] [] rfl ?_
    exact gX8_putChoice_L69 C X8_5
  · refine q_aload_n C 0 dX8_putChoice_14 rfl rfl ?_
    refine q_aload_n C 1 dX8_putChoice_15 rfl rfl ?_
    refine q_chk (fun h7 => ?_)
    refine p_getI C fgX8_121 rfl dX8_putChoice_16 h7 ?_
    refine q_chk (fun h10 => ?_)
    refine q_cVI (As := (fun P => [.int (mI X8_5 r1 2)])) C [] (sX8_isHolder r0 ((mI X8_5 r1 2))) fcX8_124 rfl (fun _ => rfl) ⟨Nat.le_of_ble_eq_true rfl, Nat.le_of_ble_eq_true rfl⟩ ⟨Nat.le_of_ble_eq_true rfl, Nat.le_of_ble_eq_true rfl⟩ (Nat.le_of_ble_eq_true rfl) dX8_putChoice_19 h10 (fun w8 X19_9 => ?_)
    refine q_if_eq C 69 dX8_putChoice_22 (by decide) (fun _ => ?_) (fun _ => ?_)
    · refine q_sub C [] [] rfl ?_
      exact gX8_putChoice_L69 C X19_9
    · refine q_aload_n C 1 dX8_putChoice_25 rfl rfl ?_
      refine q_chk (fun h11 => ?_)
      refine p_getI C fgX8_153 rfl dX8_putChoice_26 h11 ?_
      refine q_iconst C (0 : Int32) dX8_putChoice_29 rfl ?_
      refine q_ldc C dX8_putChoice_30 fkX8_156 ?_
      refine q_cNI (As := (fun P => [.int (mI X19_9 r1 17), .int (0 : Int32), .int (999999999 : Int32)])) C [] (sX11_isWithin ((mI X19_9 r1 17)) (0 : Int32) (999999999 : Int32)) fcX8_139 rfl (fun _ => rfl) ⟨Nat.le_of_ble_eq_true rfl, Nat.le_of_ble_eq_true rfl⟩ ⟨Nat.le_of_ble_eq_true rfl, Nat.le_of_ble_eq_true rfl⟩ (Nat.le_of_ble_eq_true rfl) dX8_putChoice_32 (fun w12 X32_13 => ?_)
      refine q_if_eq C 69 dX8_putChoice_35 (by decide) (fun _ => ?_) (fun _ => ?_)
      · refine q_sub C [] [] rfl ?_
        exact gX8_putChoice_L69 C X32_13
      · refine q_aload_n C 1 dX8_putChoice_38 rfl rfl ?_
        refine q_chk (fun h14 => ?_)
        refine p_getI C fgX8_157 rfl dX8_putChoice_39 h14 ?_
        refine q_iconst C (0 : Int32) dX8_putChoice_42 rfl ?_
        refine q_ldc C dX8_putChoice_43 fkX8_156 ?_
        refine q_cNI (As := (fun P => [.int (mI X32_13 r1 18), .int (0 : Int32), .int (999999999 : Int32)])) C [] (sX11_isWithin ((mI X32_13 r1 18)) (0 : Int32) (999999999 : Int32)) fcX8_139 rfl (fun _ => rfl) ⟨Nat.le_of_ble_eq_true rfl, Nat.le_of_ble_eq_true rfl⟩ ⟨Nat.le_of_ble_eq_true rfl, Nat.le_of_ble_eq_true rfl⟩ (Nat.le_of_ble_eq_true rfl) dX8_putChoice_45 (fun w15 X45_16 => ?_)
        refine q_if_eq C 69 dX8_putChoice_48 (by decide) (fun _ => ?_) (fun _ => ?_)
        · refine q_sub C [] [] rfl ?_
          exact gX8_putChoice_L69 C X45_16
        · refine q_aload_n C 0 dX8_putChoice_51 rfl rfl ?_
          refine q_chk (fun h17 => ?_)
          refine q_chk (fun h18 => ?_)
          refine p_getR C fgX8_28 rfl dX8_putChoice_52 h17 h18 ?_
          refine q_aload_n C 1 dX8_putChoice_55 rfl rfl ?_
          refine q_chk (fun h19 => ?_)
          refine p_getI C fgX8_150 rfl dX8_putChoice_56 h19 ?_
          refine q_aload_n C 0 dX8_putChoice_59 rfl rfl ?_
          refine p_getI C fgX8_68 rfl dX8_putChoice_60 h17 ?_
          refine q_chk (fun h22 => ?_)
          refine q_cVI (As := (fun P => [.int (mI X45_16 r1 16), .int (mI X45_16 r0 8)])) C [] (sX3_canBeChosen ((mR X45_16 r0 3)) ((mI X45_16 r1 16)) ((mI X45_16 r0 8))) fcX8_160 rfl (fun _ => rfl) ⟨Nat.le_of_ble_eq_true rfl, Nat.le_of_ble_eq_true rfl⟩ ⟨Nat.le_of_ble_eq_true rfl, Nat.le_of_ble_eq_true rfl⟩ (Nat.le_of_ble_eq_true rfl) dX8_putChoice_63 h22 (fun w20 X63_21 => ?_)
          refine q_if_ne C 71 dX8_putChoice_66 (by decide) (fun _ => ?_) (fun _ => ?_)
          · refine q_sub C [] [] rfl ?_
            exact gX8_putChoice_L69 C X63_21
          · refine q_aload_n C 1 dX8_putChoice_71 rfl rfl ?_
            refine q_chk (fun h23 => ?_)
            refine p_getI C fgX8_150 rfl dX8_putChoice_72 h23 ?_
            refine q_aload_n C 1 dX8_putChoice_75 rfl rfl ?_
            refine p_getI C fgX8_121 rfl dX8_putChoice_76 h23 ?_
            refine q_cSI (As := (fun P => [.int (mI X63_21 r1 16), .int (mI X63_21 r1 2)])) C [] (sX6_at ((mI X63_21 r1 16)) ((mI X63_21 r1 2))) fcX8_164 rfl (fun _ => rfl) ⟨Nat.le_of_ble_eq_true rfl, Nat.le_of_ble_eq_true rfl⟩ ⟨Nat.le_of_ble_eq_true rfl, Nat.le_of_ble_eq_true rfl⟩ (Nat.le_of_ble_eq_true rfl) dX8_putChoice_79 (fun w24 X79_25 => ?_)
            refine q_istore_n C [(2, .int w24), (0, .ref (q_P E + r0)), (1, .ref (q_P E + r1))] dX8_putChoice_82 rfl (Nat.le_of_ble_eq_true rfl) rfl ?_
            refine q_aload_n C 1 dX8_putChoice_83 rfl rfl ?_
            refine q_chk (fun h26 => ?_)
            refine q_chk (fun h27 => ?_)
            refine p_getR C fgX8_35 rfl dX8_putChoice_84 h26 h27 ?_
            refine q_chk (fun h28 => ?_)
            refine q_chk (fun h29 => ?_)
            refine p_getR C fgX8_168 rfl dX8_putChoice_87 h28 h29 ?_
            refine q_iload_n C 0 dX8_putChoice_90 rfl rfl ?_
            refine q_aload_n C 2 dX8_putChoice_91 rfl rfl ?_
            refine q_chk (fun h30 => ?_)
            refine p_getI C fgX8_153 rfl dX8_putChoice_92 h30 ?_
            refine q_i2l C dX8_putChoice_95 ?_
            refine q_chk (fun h32 => ?_)
            refine q_chk (fun h33 => ?_)
            refine p_last C dX8_putChoice_96 h32 h33 ?_
            refine q_nmX (fun X96_31 => ?_)
            refine q_aload_n C 1 dX8_putChoice_97 rfl rfl ?_
            refine q_chk (fun h34 => ?_)
            refine q_chk (fun h35 => ?_)
            refine p_getR C fgX8_35 rfl dX8_putChoice_98 h34 h35 ?_
            refine q_chk (fun h36 => ?_)
            refine q_chk (fun h37 => ?_)
            refine p_getR C fgX8_170 rfl dX8_putChoice_101 h36 h37 ?_
            refine q_iload_n C 0 dX8_putChoice_104 rfl rfl ?_
            refine q_aload_n C 2 dX8_putChoice_105 rfl rfl ?_
            refine q_chk (fun h38 => ?_)
            refine p_getI C fgX8_157 rfl dX8_putChoice_106 h38 ?_
            refine q_i2l C dX8_putChoice_109 ?_
            refine q_chk (fun h40 => ?_)
            refine q_chk (fun h41 => ?_)
            refine p_last C dX8_putChoice_110 h40 h41 ?_
            refine q_nmX (fun X110_39 => ?_)
            refine q_iconst C (0 : Int32) dX8_putChoice_111 rfl ?_
            exact q_iret C dX8_putChoice_112
/-! RecordClaims$State.daysCanPass(I)Z -/
abbrev cX8_daysCanPass : ByteArray := prog_10_method_13_code
def yX8_daysCanPass : MethodName := ⟨RX8, "daysCanPass", "(I)Z"⟩
theorem dX8_daysCanPass_0 : decode cX8_daysCanPass 0 = .ok (.iload_n 1, 1) := by decide +kernel
theorem dX8_daysCanPass_1 : decode cX8_daysCanPass 1 = .ok (.iconst 1, 1) := by decide +kernel
theorem dX8_daysCanPass_2 : decode cX8_daysCanPass 2 = .ok (.bipush 99, 2) := by decide +kernel
theorem dX8_daysCanPass_4 : decode cX8_daysCanPass 4 = .ok (.invokestatic 139, 3) := by decide +kernel
theorem dX8_daysCanPass_7 : decode cX8_daysCanPass 7 = .ok (.ifCond .eq 19, 3) := by decide +kernel
theorem dX8_daysCanPass_10 : decode cX8_daysCanPass 10 = .ok (.aload_n 0, 1) := by decide +kernel
theorem dX8_daysCanPass_11 : decode cX8_daysCanPass 11 = .ok (.getfield 68, 3) := by decide +kernel
theorem dX8_daysCanPass_14 : decode cX8_daysCanPass 14 = .ok (.iload_n 1, 1) := by decide +kernel
theorem dX8_daysCanPass_15 : decode cX8_daysCanPass 15 = .ok (.iadd, 1) := by decide +kernel
theorem dX8_daysCanPass_16 : decode cX8_daysCanPass 16 = .ok (.sipush 999, 3) := by decide +kernel
theorem dX8_daysCanPass_19 : decode cX8_daysCanPass 19 = .ok (.if_icmp .gt 7, 3) := by decide +kernel
theorem dX8_daysCanPass_22 : decode cX8_daysCanPass 22 = .ok (.iconst 1, 1) := by decide +kernel
theorem dX8_daysCanPass_23 : decode cX8_daysCanPass 23 = .ok (.goto 4, 3) := by decide +kernel
theorem dX8_daysCanPass_26 : decode cX8_daysCanPass 26 = .ok (.iconst 0, 1) := by decide +kernel
theorem dX8_daysCanPass_27 : decode cX8_daysCanPass 27 = .ok (.ireturn, 1) := by decide +kernel
def fX8_daysCanPass_L26 (X : Mm) : Option (Int32 × Mm) :=
some (0, X)
def fX8_daysCanPass (r0 : Nat) (v1 : Int32) (X : Mm) : Option (Int32 × Mm) :=
bd (fX11_isWithin v1 (1 : Int32) (99 : Int32) X) fun w1 X4_2 =>
if w1 = 0 then (
fX8_daysCanPass_L26 X4_2
) else (
if mT X4_2 r0 = 8 then
if (999 : Int32) < ((mI X4_2 r0 8) + v1) then (
fX8_daysCanPass_L26 X4_2
) else (
some (1, X4_2)
)
else none
)
theorem gX8_daysCanPass_L26 {E : q_E} {X0 : Mm} (C : Cx E cX8_daysCanPass RX8 2 (some .boolean) (q_rm 1 22 0 0) X0) (X : Mm) : Sm E (q_fin E q_eI X0 0 0) 0 0 26 [] [] X (fX8_daysCanPass_L26  X) := by
  unfold fX8_daysCanPass_L26
  refine q_iconst C (0 : Int32) dX8_daysCanPass_26 rfl ?_
  exact q_zret0 C dX8_daysCanPass_27
theorem sX8_daysCanPass (r0 : Nat) (v1 : Int32) : q_Ct yX8_daysCanPass cX8_daysCanPass 2 (some .boolean) 1 22 0 0 q_eI (fun P => [.ref (P + r0), .int v1]) (fX8_daysCanPass r0 v1) := by
  refine q_meth (by decide +kernel) (fun P => Nat.le_of_ble_eq_true rfl) (fun E X C hn => ?_)
  show Sm E (q_fin E q_eI X 0 0) 0 0 0 [(0, .ref (q_P E + r0)), (1, .int v1)] [] X _
  unfold fX8_daysCanPass
  refine q_iload_n C 1 dX8_daysCanPass_0 rfl rfl ?_
  refine q_iconst C (1 : Int32) dX8_daysCanPass_1 rfl ?_
  refine q_bipush C (99 : Int32) dX8_daysCanPass_2 rfl ?_
  refine q_cNI (As := (fun P => [.int v1, .int (1 : Int32), .int (99 : Int32)])) C [] (sX11_isWithin v1 (1 : Int32) (99 : Int32)) fcX8_139 rfl (fun _ => rfl) ⟨Nat.le_of_ble_eq_true rfl, Nat.le_of_ble_eq_true rfl⟩ ⟨Nat.le_of_ble_eq_true rfl, Nat.le_of_ble_eq_true rfl⟩ (Nat.le_of_ble_eq_true rfl) dX8_daysCanPass_4 (fun w1 X4_2 => ?_)
  refine q_if_eq C 26 dX8_daysCanPass_7 (by decide) (fun _ => ?_) (fun _ => ?_)
  · refine q_sub C [] [] rfl ?_
    exact gX8_daysCanPass_L26 C X4_2
  · refine q_aload_n C 0 dX8_daysCanPass_10 rfl rfl ?_
    refine q_chk (fun h3 => ?_)
    refine p_getI C fgX8_68 rfl dX8_daysCanPass_11 h3 ?_
    refine q_iload_n C 1 dX8_daysCanPass_14 rfl rfl ?_
    refine q_iadd C dX8_daysCanPass_15 ?_
    refine q_sipush C (999 : Int32) dX8_daysCanPass_16 rfl ?_
    refine q_icmp_gt C 26 dX8_daysCanPass_19 (by decide) (fun _ => ?_) (fun _ => ?_)
    · refine q_sub C [] [] rfl ?_
      exact gX8_daysCanPass_L26 C X4_2
    · refine q_iconst C (1 : Int32) dX8_daysCanPass_22 rfl ?_
      refine q_goto C 27 dX8_daysCanPass_23 (by decide) ?_
      exact q_zret1 C dX8_daysCanPass_27
/-! RecordClaims$State.settleTrades()V -/
abbrev cX8_settleTrades : ByteArray := prog_10_method_19_code
def yX8_settleTrades : MethodName := ⟨RX8, "settleTrades", "()V"⟩
theorem dX8_settleTrades_0 : decode cX8_settleTrades 0 = .ok (.iconst 0, 1) := by decide +kernel
theorem dX8_settleTrades_1 : decode cX8_settleTrades 1 = .ok (.istore_n 1, 1) := by decide +kernel
theorem dX8_settleTrades_2 : decode cX8_settleTrades 2 = .ok (.iload_n 1, 1) := by decide +kernel
theorem dX8_settleTrades_3 : decode cX8_settleTrades 3 = .ok (.aload_n 0, 1) := by decide +kernel
theorem dX8_settleTrades_4 : decode cX8_settleTrades 4 = .ok (.getfield 21, 3) := by decide +kernel
theorem dX8_settleTrades_7 : decode cX8_settleTrades 7 = .ok (.getfield 55, 3) := by decide +kernel
theorem dX8_settleTrades_10 : decode cX8_settleTrades 10 = .ok (.if_icmp .ge 189, 3) := by decide +kernel
theorem dX8_settleTrades_13 : decode cX8_settleTrades 13 = .ok (.aload_n 0, 1) := by decide +kernel
theorem dX8_settleTrades_14 : decode cX8_settleTrades 14 = .ok (.getfield 21, 3) := by decide +kernel
theorem dX8_settleTrades_17 : decode cX8_settleTrades 17 = .ok (.getfield 226, 3) := by decide +kernel
theorem dX8_settleTrades_20 : decode cX8_settleTrades 20 = .ok (.iload_n 1, 1) := by decide +kernel
theorem dX8_settleTrades_21 : decode cX8_settleTrades 21 = .ok (.iaload, 1) := by decide +kernel
theorem dX8_settleTrades_22 : decode cX8_settleTrades 22 = .ok (.ifCond .ne 23, 3) := by decide +kernel
theorem dX8_settleTrades_25 : decode cX8_settleTrades 25 = .ok (.aload_n 0, 1) := by decide +kernel
theorem dX8_settleTrades_26 : decode cX8_settleTrades 26 = .ok (.getfield 21, 3) := by decide +kernel
theorem dX8_settleTrades_29 : decode cX8_settleTrades 29 = .ok (.getfield 229, 3) := by decide +kernel
theorem dX8_settleTrades_32 : decode cX8_settleTrades 32 = .ok (.iload_n 1, 1) := by decide +kernel
theorem dX8_settleTrades_33 : decode cX8_settleTrades 33 = .ok (.iaload, 1) := by decide +kernel
theorem dX8_settleTrades_34 : decode cX8_settleTrades 34 = .ok (.aload_n 0, 1) := by decide +kernel
theorem dX8_settleTrades_35 : decode cX8_settleTrades 35 = .ok (.getfield 68, 3) := by decide +kernel
theorem dX8_settleTrades_38 : decode cX8_settleTrades 38 = .ok (.if_icmp .gt 7, 3) := by decide +kernel
theorem dX8_settleTrades_41 : decode cX8_settleTrades 41 = .ok (.iconst 1, 1) := by decide +kernel
theorem dX8_settleTrades_42 : decode cX8_settleTrades 42 = .ok (.goto 4, 3) := by decide +kernel
theorem dX8_settleTrades_45 : decode cX8_settleTrades 45 = .ok (.iconst 0, 1) := by decide +kernel
theorem dX8_settleTrades_46 : decode cX8_settleTrades 46 = .ok (.istore_n 2, 1) := by decide +kernel
theorem dX8_settleTrades_47 : decode cX8_settleTrades 47 = .ok (.iload_n 2, 1) := by decide +kernel
theorem dX8_settleTrades_48 : decode cX8_settleTrades 48 = .ok (.ifCond .eq 145, 3) := by decide +kernel
theorem dX8_settleTrades_51 : decode cX8_settleTrades 51 = .ok (.aload_n 0, 1) := by decide +kernel
theorem dX8_settleTrades_52 : decode cX8_settleTrades 52 = .ok (.aload_n 0, 1) := by decide +kernel
theorem dX8_settleTrades_53 : decode cX8_settleTrades 53 = .ok (.getfield 21, 3) := by decide +kernel
theorem dX8_settleTrades_56 : decode cX8_settleTrades 56 = .ok (.getfield 232, 3) := by decide +kernel
theorem dX8_settleTrades_59 : decode cX8_settleTrades 59 = .ok (.iload_n 1, 1) := by decide +kernel
theorem dX8_settleTrades_60 : decode cX8_settleTrades 60 = .ok (.iaload, 1) := by decide +kernel
theorem dX8_settleTrades_61 : decode cX8_settleTrades 61 = .ok (.aload_n 0, 1) := by decide +kernel
theorem dX8_settleTrades_62 : decode cX8_settleTrades 62 = .ok (.getfield 21, 3) := by decide +kernel
theorem dX8_settleTrades_65 : decode cX8_settleTrades 65 = .ok (.getfield 234, 3) := by decide +kernel
theorem dX8_settleTrades_68 : decode cX8_settleTrades 68 = .ok (.iload_n 1, 1) := by decide +kernel
theorem dX8_settleTrades_69 : decode cX8_settleTrades 69 = .ok (.iaload, 1) := by decide +kernel
theorem dX8_settleTrades_70 : decode cX8_settleTrades 70 = .ok (.invokevirtual 236, 3) := by decide +kernel
theorem dX8_settleTrades_73 : decode cX8_settleTrades 73 = .ok (.aload_n 0, 1) := by decide +kernel
theorem dX8_settleTrades_74 : decode cX8_settleTrades 74 = .ok (.getfield 21, 3) := by decide +kernel
theorem dX8_settleTrades_77 : decode cX8_settleTrades 77 = .ok (.getfield 240, 3) := by decide +kernel
theorem dX8_settleTrades_80 : decode cX8_settleTrades 80 = .ok (.iload_n 1, 1) := by decide +kernel
theorem dX8_settleTrades_81 : decode cX8_settleTrades 81 = .ok (.laload, 1) := by decide +kernel
theorem dX8_settleTrades_82 : decode cX8_settleTrades 82 = .ok (.lcmp, 1) := by decide +kernel
theorem dX8_settleTrades_83 : decode cX8_settleTrades 83 = .ok (.ifCond .lt 110, 3) := by decide +kernel
theorem dX8_settleTrades_86 : decode cX8_settleTrades 86 = .ok (.aload_n 0, 1) := by decide +kernel
theorem dX8_settleTrades_87 : decode cX8_settleTrades 87 = .ok (.aload_n 0, 1) := by decide +kernel
theorem dX8_settleTrades_88 : decode cX8_settleTrades 88 = .ok (.getfield 21, 3) := by decide +kernel
theorem dX8_settleTrades_91 : decode cX8_settleTrades 91 = .ok (.getfield 232, 3) := by decide +kernel
theorem dX8_settleTrades_94 : decode cX8_settleTrades 94 = .ok (.iload_n 1, 1) := by decide +kernel
theorem dX8_settleTrades_95 : decode cX8_settleTrades 95 = .ok (.iaload, 1) := by decide +kernel
theorem dX8_settleTrades_96 : decode cX8_settleTrades 96 = .ok (.aload_n 0, 1) := by decide +kernel
theorem dX8_settleTrades_97 : decode cX8_settleTrades 97 = .ok (.getfield 21, 3) := by decide +kernel
theorem dX8_settleTrades_100 : decode cX8_settleTrades 100 = .ok (.getfield 234, 3) := by decide +kernel
theorem dX8_settleTrades_103 : decode cX8_settleTrades 103 = .ok (.iload_n 1, 1) := by decide +kernel
theorem dX8_settleTrades_104 : decode cX8_settleTrades 104 = .ok (.iaload, 1) := by decide +kernel
theorem dX8_settleTrades_105 : decode cX8_settleTrades 105 = .ok (.aload_n 0, 1) := by decide +kernel
theorem dX8_settleTrades_106 : decode cX8_settleTrades 106 = .ok (.getfield 21, 3) := by decide +kernel
theorem dX8_settleTrades_109 : decode cX8_settleTrades 109 = .ok (.getfield 240, 3) := by decide +kernel
theorem dX8_settleTrades_112 : decode cX8_settleTrades 112 = .ok (.iload_n 1, 1) := by decide +kernel
theorem dX8_settleTrades_113 : decode cX8_settleTrades 113 = .ok (.laload, 1) := by decide +kernel
theorem dX8_settleTrades_114 : decode cX8_settleTrades 114 = .ok (.lneg, 1) := by decide +kernel
theorem dX8_settleTrades_115 : decode cX8_settleTrades 115 = .ok (.invokevirtual 241, 3) := by decide +kernel
theorem dX8_settleTrades_118 : decode cX8_settleTrades 118 = .ok (.aload_n 0, 1) := by decide +kernel
theorem dX8_settleTrades_119 : decode cX8_settleTrades 119 = .ok (.aload_n 0, 1) := by decide +kernel
theorem dX8_settleTrades_120 : decode cX8_settleTrades 120 = .ok (.getfield 21, 3) := by decide +kernel
theorem dX8_settleTrades_123 : decode cX8_settleTrades 123 = .ok (.getfield 245, 3) := by decide +kernel
theorem dX8_settleTrades_126 : decode cX8_settleTrades 126 = .ok (.iload_n 1, 1) := by decide +kernel
theorem dX8_settleTrades_127 : decode cX8_settleTrades 127 = .ok (.iaload, 1) := by decide +kernel
theorem dX8_settleTrades_128 : decode cX8_settleTrades 128 = .ok (.aload_n 0, 1) := by decide +kernel
theorem dX8_settleTrades_129 : decode cX8_settleTrades 129 = .ok (.getfield 21, 3) := by decide +kernel
theorem dX8_settleTrades_132 : decode cX8_settleTrades 132 = .ok (.getfield 234, 3) := by decide +kernel
theorem dX8_settleTrades_135 : decode cX8_settleTrades 135 = .ok (.iload_n 1, 1) := by decide +kernel
theorem dX8_settleTrades_136 : decode cX8_settleTrades 136 = .ok (.iaload, 1) := by decide +kernel
theorem dX8_settleTrades_137 : decode cX8_settleTrades 137 = .ok (.aload_n 0, 1) := by decide +kernel
theorem dX8_settleTrades_138 : decode cX8_settleTrades 138 = .ok (.getfield 21, 3) := by decide +kernel
theorem dX8_settleTrades_141 : decode cX8_settleTrades 141 = .ok (.getfield 240, 3) := by decide +kernel
theorem dX8_settleTrades_144 : decode cX8_settleTrades 144 = .ok (.iload_n 1, 1) := by decide +kernel
theorem dX8_settleTrades_145 : decode cX8_settleTrades 145 = .ok (.laload, 1) := by decide +kernel
theorem dX8_settleTrades_146 : decode cX8_settleTrades 146 = .ok (.invokevirtual 241, 3) := by decide +kernel
theorem dX8_settleTrades_149 : decode cX8_settleTrades 149 = .ok (.aload_n 0, 1) := by decide +kernel
theorem dX8_settleTrades_150 : decode cX8_settleTrades 150 = .ok (.aload_n 0, 1) := by decide +kernel
theorem dX8_settleTrades_151 : decode cX8_settleTrades 151 = .ok (.getfield 21, 3) := by decide +kernel
theorem dX8_settleTrades_154 : decode cX8_settleTrades 154 = .ok (.getfield 245, 3) := by decide +kernel
theorem dX8_settleTrades_157 : decode cX8_settleTrades 157 = .ok (.iload_n 1, 1) := by decide +kernel
theorem dX8_settleTrades_158 : decode cX8_settleTrades 158 = .ok (.iaload, 1) := by decide +kernel
theorem dX8_settleTrades_159 : decode cX8_settleTrades 159 = .ok (.aload_n 0, 1) := by decide +kernel
theorem dX8_settleTrades_160 : decode cX8_settleTrades 160 = .ok (.getfield 21, 3) := by decide +kernel
theorem dX8_settleTrades_163 : decode cX8_settleTrades 163 = .ok (.getfield 232, 3) := by decide +kernel
theorem dX8_settleTrades_166 : decode cX8_settleTrades 166 = .ok (.iload_n 1, 1) := by decide +kernel
theorem dX8_settleTrades_167 : decode cX8_settleTrades 167 = .ok (.iaload, 1) := by decide +kernel
theorem dX8_settleTrades_168 : decode cX8_settleTrades 168 = .ok (.aload_n 0, 1) := by decide +kernel
theorem dX8_settleTrades_169 : decode cX8_settleTrades 169 = .ok (.getfield 21, 3) := by decide +kernel
theorem dX8_settleTrades_172 : decode cX8_settleTrades 172 = .ok (.getfield 248, 3) := by decide +kernel
theorem dX8_settleTrades_175 : decode cX8_settleTrades 175 = .ok (.iload_n 1, 1) := by decide +kernel
theorem dX8_settleTrades_176 : decode cX8_settleTrades 176 = .ok (.laload, 1) := by decide +kernel
theorem dX8_settleTrades_177 : decode cX8_settleTrades 177 = .ok (.invokevirtual 250, 3) := by decide +kernel
theorem dX8_settleTrades_180 : decode cX8_settleTrades 180 = .ok (.aload_n 0, 1) := by decide +kernel
theorem dX8_settleTrades_181 : decode cX8_settleTrades 181 = .ok (.getfield 21, 3) := by decide +kernel
theorem dX8_settleTrades_184 : decode cX8_settleTrades 184 = .ok (.iload_n 1, 1) := by decide +kernel
theorem dX8_settleTrades_185 : decode cX8_settleTrades 185 = .ok (.iconst 1, 1) := by decide +kernel
theorem dX8_settleTrades_186 : decode cX8_settleTrades 186 = .ok (.aload_n 0, 1) := by decide +kernel
theorem dX8_settleTrades_187 : decode cX8_settleTrades 187 = .ok (.getfield 68, 3) := by decide +kernel
theorem dX8_settleTrades_190 : decode cX8_settleTrades 190 = .ok (.invokevirtual 253, 3) := by decide +kernel
theorem dX8_settleTrades_193 : decode cX8_settleTrades 193 = .ok (.iinc 1 1, 3) := by decide +kernel
theorem dX8_settleTrades_196 : decode cX8_settleTrades 196 = .ok (.goto (-194), 3) := by decide +kernel
theorem dX8_settleTrades_199 : decode cX8_settleTrades 199 = .ok (.return_, 1) := by decide +kernel
theorem fgX8_55 : q_Fg RX8 55 10 9 := q_Fg.of (C := RX10) (T := TX10) (N := 10) rfl (by decide) inX10 241 (by decide +kernel) rfl rfl
theorem fgX8_226 : q_Fg RX8 226 10 7 := q_Fg.of (C := RX10) (T := TX10) (N := 10) rfl (by decide) inX10 237 (by decide +kernel) rfl rfl
theorem fgX8_229 : q_Fg RX8 229 10 6 := q_Fg.of (C := RX10) (T := TX10) (N := 10) rfl (by decide) inX10 235 (by decide +kernel) rfl rfl
theorem fgX8_232 : q_Fg RX8 232 10 1 := q_Fg.of (C := RX10) (T := TX10) (N := 10) rfl (by decide) inX10 225 (by decide +kernel) rfl rfl
theorem fgX8_234 : q_Fg RX8 234 10 2 := q_Fg.of (C := RX10) (T := TX10) (N := 10) rfl (by decide) inX10 227 (by decide +kernel) rfl rfl
theorem fcX8_236 : q_LV RX8 236 yX8_sharesOf cX8_sharesOf 3 (some .long) 2 8 := ⟨q_tb 845 (by decide +kernel) rfl, q_tb 846 (by decide +kernel) rfl, q_tb 847 (by decide +kernel) rfl, q_tb 5 (by decide +kernel) rfl, q_tb 848 (by decide +kernel) rfl, ⟨by decide +kernel, by decide +kernel, by decide +kernel⟩, TX8, 9, rfl⟩
theorem fgX8_240 : q_Fg RX8 240 10 3 := q_Fg.of (C := RX10) (T := TX10) (N := 10) rfl (by decide) inX10 229 (by decide +kernel) rfl rfl
theorem fcX8_241 : q_LV RX8 241 yX8_addShares cX8_addShares 5 none 3 8 := ⟨q_tb 849 (by decide +kernel) rfl, q_tb 851 (by decide +kernel) rfl, q_tbs (q := (yX8_addShares, 9)) 23 (by decide +kernel) rfl, q_tb 5 (by decide +kernel) rfl, q_tb 852 (by decide +kernel) rfl, ⟨by decide +kernel, by decide +kernel, by decide +kernel⟩, TX8, 9, rfl⟩
theorem fgX8_245 : q_Fg RX8 245 10 0 := q_Fg.of (C := RX10) (T := TX10) (N := 10) rfl (by decide) inX10 223 (by decide +kernel) rfl rfl
theorem fgX8_248 : q_Fg RX8 248 10 4 := q_Fg.of (C := RX10) (T := TX10) (N := 10) rfl (by decide) inX10 231 (by decide +kernel) rfl rfl
theorem fcX8_250 : q_LV RX8 250 yX8_moveMoney cX8_moveMoney 5 none 3 8 := ⟨q_tb 853 (by decide +kernel) rfl, q_tb 855 (by decide +kernel) rfl, q_tbs (q := (yX8_moveMoney, 9)) 24 (by decide +kernel) rfl, q_tb 5 (by decide +kernel) rfl, q_tb 856 (by decide +kernel) rfl, ⟨by decide +kernel, by decide +kernel, by decide +kernel⟩, TX8, 9, rfl⟩
theorem fcX8_253 : q_LV RX8 253 yX10_finish cX10_finish 4 none 3 10 := ⟨q_tb 857 (by decide +kernel) rfl, q_tb 858 (by decide +kernel) rfl, q_tb 859 (by decide +kernel) rfl, q_tb 6 (by decide +kernel) rfl, q_tb 860 (by decide +kernel) rfl, ⟨by decide +kernel, by decide +kernel, by decide +kernel⟩, TX10, 10, rfl⟩
def fX8_settleTrades_L193 (n : Nat) (k2 : Nat → Int32 → Mm → Option (Unit × Mm)) (r0 : Nat) (v1 : Int32) (X : Mm) : Option (Unit × Mm) :=
nm (v1 + (1 : Int32)) fun v1_193 =>
k2 r0 v1_193 X
def fX8_settleTrades_L46 (n : Nat) (k2 : Nat → Int32 → Mm → Option (Unit × Mm)) (r0 : Nat) (v1 : Int32) (s0 : Int32) (X : Mm) : Option (Unit × Mm) :=
if s0 = 0 then (
fX8_settleTrades_L193 n k2 r0 v1 X
) else (
if mT X r0 = 8 then
if mR X r0 2 ≠ 0 then
if mT X (mR X r0 2) = 10 then
if mR X (mR X r0 2) 1 ≠ 0 then
if mT X (mR X (mR X r0 2) 1) = 14 then
if q_b X (mR X (mR X r0 2) 1) v1 then
if mR X (mR X r0 2) 2 ≠ 0 then
if mT X (mR X (mR X r0 2) 2) = 14 then
if q_b X (mR X (mR X r0 2) 2) v1 then
bd (fX8_sharesOf r0 ((mI X (mR X (mR X r0 2) 1) (v1).toNatClampNeg)) ((mI X (mR X (mR X r0 2) 2) (v1).toNatClampNeg)) X) fun w19 X70_20 =>
if mT X70_20 r0 = 8 then
if mR X70_20 r0 2 ≠ 0 then
if mT X70_20 (mR X70_20 r0 2) = 10 then
if mR X70_20 (mR X70_20 r0 2) 3 ≠ 0 then
if mT X70_20 (mR X70_20 (mR X70_20 r0 2) 3) = 15 then
if q_b X70_20 (mR X70_20 (mR X70_20 r0 2) 3) v1 then
if (lg_cmp w19 (mJ X70_20 (mR X70_20 (mR X70_20 r0 2) 3) (v1).toNatClampNeg)) < 0 then (
fX8_settleTrades_L193 n k2 r0 v1 X70_20
) else (
if mR X70_20 (mR X70_20 r0 2) 1 ≠ 0 then
if mT X70_20 (mR X70_20 (mR X70_20 r0 2) 1) = 14 then
if q_b X70_20 (mR X70_20 (mR X70_20 r0 2) 1) v1 then
if mR X70_20 (mR X70_20 r0 2) 2 ≠ 0 then
if mT X70_20 (mR X70_20 (mR X70_20 r0 2) 2) = 14 then
if q_b X70_20 (mR X70_20 (mR X70_20 r0 2) 2) v1 then
bd (fX8_addShares r0 ((mI X70_20 (mR X70_20 (mR X70_20 r0 2) 1) (v1).toNatClampNeg)) ((mI X70_20 (mR X70_20 (mR X70_20 r0 2) 2) (v1).toNatClampNeg)) ((-(mJ X70_20 (mR X70_20 (mR X70_20 r0 2) 3) (v1).toNatClampNeg))) X70_20) fun _ X115_34 =>
if mT X115_34 r0 = 8 then
if mR X115_34 r0 2 ≠ 0 then
if mT X115_34 (mR X115_34 r0 2) = 10 then
if mR X115_34 (mR X115_34 r0 2) 0 ≠ 0 then
if mT X115_34 (mR X115_34 (mR X115_34 r0 2) 0) = 14 then
if q_b X115_34 (mR X115_34 (mR X115_34 r0 2) 0) v1 then
if mR X115_34 (mR X115_34 r0 2) 2 ≠ 0 then
if mT X115_34 (mR X115_34 (mR X115_34 r0 2) 2) = 14 then
if q_b X115_34 (mR X115_34 (mR X115_34 r0 2) 2) v1 then
if mR X115_34 (mR X115_34 r0 2) 3 ≠ 0 then
if mT X115_34 (mR X115_34 (mR X115_34 r0 2) 3) = 15 then
if q_b X115_34 (mR X115_34 (mR X115_34 r0 2) 3) v1 then
bd (fX8_addShares r0 ((mI X115_34 (mR X115_34 (mR X115_34 r0 2) 0) (v1).toNatClampNeg)) ((mI X115_34 (mR X115_34 (mR X115_34 r0 2) 2) (v1).toNatClampNeg)) ((mJ X115_34 (mR X115_34 (mR X115_34 r0 2) 3) (v1).toNatClampNeg)) X115_34) fun _ X146_48 =>
if mT X146_48 r0 = 8 then
if mR X146_48 r0 2 ≠ 0 then
if mT X146_48 (mR X146_48 r0 2) = 10 then
if mR X146_48 (mR X146_48 r0 2) 0 ≠ 0 then
if mT X146_48 (mR X146_48 (mR X146_48 r0 2) 0) = 14 then
if q_b X146_48 (mR X146_48 (mR X146_48 r0 2) 0) v1 then
if mR X146_48 (mR X146_48 r0 2) 1 ≠ 0 then
if mT X146_48 (mR X146_48 (mR X146_48 r0 2) 1) = 14 then
if q_b X146_48 (mR X146_48 (mR X146_48 r0 2) 1) v1 then
if mR X146_48 (mR X146_48 r0 2) 4 ≠ 0 then
if mT X146_48 (mR X146_48 (mR X146_48 r0 2) 4) = 15 then
if q_b X146_48 (mR X146_48 (mR X146_48 r0 2) 4) v1 then
bd (fX8_moveMoney r0 ((mI X146_48 (mR X146_48 (mR X146_48 r0 2) 0) (v1).toNatClampNeg)) ((mI X146_48 (mR X146_48 (mR X146_48 r0 2) 1) (v1).toNatClampNeg)) ((mJ X146_48 (mR X146_48 (mR X146_48 r0 2) 4) (v1).toNatClampNeg)) X146_48) fun _ X177_62 =>
if mT X177_62 r0 = 8 then
if mR X177_62 r0 2 ≠ 0 then
if mT X177_62 (mR X177_62 r0 2) = 10 then
bd (fX10_finish ((mR X177_62 r0 2)) v1 (1 : Int32) ((mI X177_62 r0 8)) X177_62) fun _ X190_66 =>
fX8_settleTrades_L193 n k2 r0 v1 X190_66
else none
else none
else none
else none
else none
else none
else none
else none
else none
else none
else none
else none
else none
else none
else none
else none
else none
else none
else none
else none
else none
else none
else none
else none
else none
else none
else none
else none
else none
else none
else none
else none
else none
)
else none
else none
else none
else none
else none
else none
else none
else none
else none
else none
else none
else none
else none
else none
else none
)
def fX8_settleTrades_L45 (n : Nat) (k2 : Nat → Int32 → Mm → Option (Unit × Mm)) (r0 : Nat) (v1 : Int32) (X : Mm) : Option (Unit × Mm) :=
fX8_settleTrades_L46 n k2 r0 v1 (0 : Int32) X
def fX8_settleTrades_L2 (n : Nat) : Nat → Nat → Int32 → Mm → Option (Unit × Mm)
| 0, _, _, _ => none
| j + 1, r0, v1, X =>
if mT X r0 = 8 then
if mR X r0 2 ≠ 0 then
if mT X (mR X r0 2) = 10 then
if (mI X (mR X r0 2) 9) ≤ v1 then (
some ((), X)
) else (
if mR X (mR X r0 2) 7 ≠ 0 then
if mT X (mR X (mR X r0 2) 7) = 14 then
if q_b X (mR X (mR X r0 2) 7) v1 then
if (mI X (mR X (mR X r0 2) 7) (v1).toNatClampNeg) = 0 then (
if mR X (mR X r0 2) 6 ≠ 0 then
if mT X (mR X (mR X r0 2) 6) = 14 then
if q_b X (mR X (mR X r0 2) 6) v1 then
if (mI X r0 8) < (mI X (mR X (mR X r0 2) 6) (v1).toNatClampNeg) then (
fX8_settleTrades_L45 n (fX8_settleTrades_L2 n j) r0 v1 X
) else (
fX8_settleTrades_L46 n (fX8_settleTrades_L2 n j) r0 v1 (1 : Int32) X
)
else none
else none
else none
) else (
fX8_settleTrades_L45 n (fX8_settleTrades_L2 n j) r0 v1 X
)
else none
else none
else none
)
else none
else none
else none
def fX8_settleTrades (n : Nat) (r0 : Nat) (X : Mm) : Option (Unit × Mm) :=
fX8_settleTrades_L2 n n r0 (0 : Int32) X
theorem gX8_settleTrades_L193 {E : q_E} {X0 : Mm} (C : Cx E cX8_settleTrades RX8 3 none (q_rm 1 24 0 0) X0) (n : Nat) (k2 : Nat → Int32 → Mm → Option (Unit × Mm)) (hk2 : ∀ (r0 : Nat) (v1 : Int32) (X : Mm), Sm E (q_fin E q_eV X0 0 0) 0 0 2 [(0, .ref (q_P E + r0)), (1, .int v1)] [] X (k2 r0 v1 X)) (r0 : Nat) (v1 : Int32) (X : Mm) : Sm E (q_fin E q_eV X0 0 0) 0 0 193 [(0, .ref (q_P E + r0)), (1, .int v1)] [] X (fX8_settleTrades_L193 n k2 r0 v1 X) := by
  unfold fX8_settleTrades_L193
  refine q_iincN C (1 : Int32) 1 (fun v1_193 => [(1, .int v1_193), (0, .ref (q_P E + r0))]) dX8_settleTrades_193 rfl rfl (Nat.le_of_ble_eq_true rfl) (fun _ => rfl) (fun v1_193 => ?_)
  refine q_goto C 2 dX8_settleTrades_196 (by decide) ?_
  refine q_sub C [(0, .ref (q_P E + r0)), (1, .int v1_193)] [1, 0] rfl ?_
  exact hk2 r0 v1_193 X
theorem gX8_settleTrades_L46 {E : q_E} {X0 : Mm} (C : Cx E cX8_settleTrades RX8 3 none (q_rm 1 24 0 0) X0) (n : Nat) (k2 : Nat → Int32 → Mm → Option (Unit × Mm)) (hk2 : ∀ (r0 : Nat) (v1 : Int32) (X : Mm), Sm E (q_fin E q_eV X0 0 0) 0 0 2 [(0, .ref (q_P E + r0)), (1, .int v1)] [] X (k2 r0 v1 X)) (r0 : Nat) (v1 : Int32) (s0 : Int32) (X : Mm) : Sm E (q_fin E q_eV X0 0 0) 0 0 46 [(0, .ref (q_P E + r0)), (1, .int v1)] [.int s0] X (fX8_settleTrades_L46 n k2 r0 v1 s0 X) := by
  unfold fX8_settleTrades_L46
  refine q_istore_n C [(2, .int s0), (0, .ref (q_P E + r0)), (1, .int v1)] dX8_settleTrades_46 rfl (Nat.le_of_ble_eq_true rfl) rfl ?_
  refine q_iload_n C 0 dX8_settleTrades_47 rfl rfl ?_
  refine q_if_eq C 193 dX8_settleTrades_48 (by decide) (fun _ => ?_) (fun _ => ?_)
  · refine q_sub C [(0, .ref (q_P E + r0)), (1, .int v1)] [1, 2] rfl ?_
    exact gX8_settleTrades_L193 C n k2 hk2 r0 v1 X
  · refine q_aload_n C 1 dX8_settleTrades_51 rfl rfl ?_
    refine q_aload_n C 1 dX8_settleTrades_52 rfl rfl ?_
    refine q_chk (fun h10 => ?_)
    refine q_chk (fun h11 => ?_)
    refine p_getR C fgX8_21 rfl dX8_settleTrades_53 h10 h11 ?_
    refine q_chk (fun h12 => ?_)
    refine q_chk (fun h13 => ?_)
    refine p_getR C fgX8_232 rfl dX8_settleTrades_56 h12 h13 ?_
    refine q_iload_n C 2 dX8_settleTrades_59 rfl rfl ?_
    refine q_chk (fun h14 => ?_)
    refine q_chk (fun h15 => ?_)
    refine p_iald C dX8_settleTrades_60 h14 h15 ?_
    refine q_aload_n C 1 dX8_settleTrades_61 rfl rfl ?_
    refine p_getR C fgX8_21 rfl dX8_settleTrades_62 h10 h11 ?_
    refine q_chk (fun h16 => ?_)
    refine p_getR C fgX8_234 rfl dX8_settleTrades_65 h12 h16 ?_
    refine q_iload_n C 2 dX8_settleTrades_68 rfl rfl ?_
    refine q_chk (fun h17 => ?_)
    refine q_chk (fun h18 => ?_)
    refine p_iald C dX8_settleTrades_69 h17 h18 ?_
    refine q_cVL (As := (fun P => [.int (mI X (mR X (mR X r0 2) 1) (v1).toNatClampNeg), .int (mI X (mR X (mR X r0 2) 2) (v1).toNatClampNeg)])) C [] (sX8_sharesOf r0 ((mI X (mR X (mR X r0 2) 1) (v1).toNatClampNeg)) ((mI X (mR X (mR X r0 2) 2) (v1).toNatClampNeg))) fcX8_236 rfl (fun _ => rfl) ⟨Nat.le_of_ble_eq_true rfl, Nat.le_of_ble_eq_true rfl⟩ ⟨Nat.le_of_ble_eq_true rfl, Nat.le_of_ble_eq_true rfl⟩ (Nat.le_of_ble_eq_true rfl) dX8_settleTrades_70 h10 (fun w19 X70_20 => ?_)
    refine q_aload_n C 1 dX8_settleTrades_73 rfl rfl ?_
    refine q_chk (fun h21 => ?_)
    refine q_chk (fun h22 => ?_)
    refine p_getR C fgX8_21 rfl dX8_settleTrades_74 h21 h22 ?_
    refine q_chk (fun h23 => ?_)
    refine q_chk (fun h24 => ?_)
    refine p_getR C fgX8_240 rfl dX8_settleTrades_77 h23 h24 ?_
    refine q_iload_n C 2 dX8_settleTrades_80 rfl rfl ?_
    refine q_chk (fun h25 => ?_)
    refine q_chk (fun h26 => ?_)
    refine p_lald C dX8_settleTrades_81 h25 h26 ?_
    refine q_lcmp C dX8_settleTrades_82 ?_
    refine q_if_lt C 193 dX8_settleTrades_83 (by decide) (fun _ => ?_) (fun _ => ?_)
    · refine q_sub C [(0, .ref (q_P E + r0)), (1, .int v1)] [1, 2] rfl ?_
      exact gX8_settleTrades_L193 C n k2 hk2 r0 v1 X70_20
    · refine q_aload_n C 1 dX8_settleTrades_86 rfl rfl ?_
      refine q_aload_n C 1 dX8_settleTrades_87 rfl rfl ?_
      refine p_getR C fgX8_21 rfl dX8_settleTrades_88 h21 h22 ?_
      refine q_chk (fun h27 => ?_)
      refine p_getR C fgX8_232 rfl dX8_settleTrades_91 h23 h27 ?_
      refine q_iload_n C 2 dX8_settleTrades_94 rfl rfl ?_
      refine q_chk (fun h28 => ?_)
      refine q_chk (fun h29 => ?_)
      refine p_iald C dX8_settleTrades_95 h28 h29 ?_
      refine q_aload_n C 1 dX8_settleTrades_96 rfl rfl ?_
      refine p_getR C fgX8_21 rfl dX8_settleTrades_97 h21 h22 ?_
      refine q_chk (fun h30 => ?_)
      refine p_getR C fgX8_234 rfl dX8_settleTrades_100 h23 h30 ?_
      refine q_iload_n C 2 dX8_settleTrades_103 rfl rfl ?_
      refine q_chk (fun h31 => ?_)
      refine q_chk (fun h32 => ?_)
      refine p_iald C dX8_settleTrades_104 h31 h32 ?_
      refine q_aload_n C 1 dX8_settleTrades_105 rfl rfl ?_
      refine p_getR C fgX8_21 rfl dX8_settleTrades_106 h21 h22 ?_
      refine p_getR C fgX8_240 rfl dX8_settleTrades_109 h23 h24 ?_
      refine q_iload_n C 2 dX8_settleTrades_112 rfl rfl ?_
      refine p_lald C dX8_settleTrades_113 h25 h26 ?_
      refine q_lneg C dX8_settleTrades_114 ?_
      refine q_cVV (As := (fun P => [.int (mI X70_20 (mR X70_20 (mR X70_20 r0 2) 1) (v1).toNatClampNeg), .int (mI X70_20 (mR X70_20 (mR X70_20 r0 2) 2) (v1).toNatClampNeg), .long (-(mJ X70_20 (mR X70_20 (mR X70_20 r0 2) 3) (v1).toNatClampNeg))])) C [] (sX8_addShares r0 ((mI X70_20 (mR X70_20 (mR X70_20 r0 2) 1) (v1).toNatClampNeg)) ((mI X70_20 (mR X70_20 (mR X70_20 r0 2) 2) (v1).toNatClampNeg)) ((-(mJ X70_20 (mR X70_20 (mR X70_20 r0 2) 3) (v1).toNatClampNeg)))) fcX8_241 rfl (fun _ => rfl) ⟨Nat.le_of_ble_eq_true rfl, Nat.le_of_ble_eq_true rfl⟩ ⟨Nat.le_of_ble_eq_true rfl, Nat.le_of_ble_eq_true rfl⟩ (Nat.le_of_ble_eq_true rfl) dX8_settleTrades_115 h21 (fun _ X115_34 => ?_)
      refine q_aload_n C 1 dX8_settleTrades_118 rfl rfl ?_
      refine q_aload_n C 1 dX8_settleTrades_119 rfl rfl ?_
      refine q_chk (fun h35 => ?_)
      refine q_chk (fun h36 => ?_)
      refine p_getR C fgX8_21 rfl dX8_settleTrades_120 h35 h36 ?_
      refine q_chk (fun h37 => ?_)
      refine q_chk (fun h38 => ?_)
      refine p_getR C fgX8_245 rfl dX8_settleTrades_123 h37 h38 ?_
      refine q_iload_n C 2 dX8_settleTrades_126 rfl rfl ?_
      refine q_chk (fun h39 => ?_)
      refine q_chk (fun h40 => ?_)
      refine p_iald C dX8_settleTrades_127 h39 h40 ?_
      refine q_aload_n C 1 dX8_settleTrades_128 rfl rfl ?_
      refine p_getR C fgX8_21 rfl dX8_settleTrades_129 h35 h36 ?_
      refine q_chk (fun h41 => ?_)
      refine p_getR C fgX8_234 rfl dX8_settleTrades_132 h37 h41 ?_
      refine q_iload_n C 2 dX8_settleTrades_135 rfl rfl ?_
      refine q_chk (fun h42 => ?_)
      refine q_chk (fun h43 => ?_)
      refine p_iald C dX8_settleTrades_136 h42 h43 ?_
      refine q_aload_n C 1 dX8_settleTrades_137 rfl rfl ?_
      refine p_getR C fgX8_21 rfl dX8_settleTrades_138 h35 h36 ?_
      refine q_chk (fun h44 => ?_)
      refine p_getR C fgX8_240 rfl dX8_settleTrades_141 h37 h44 ?_
      refine q_iload_n C 2 dX8_settleTrades_144 rfl rfl ?_
      refine q_chk (fun h45 => ?_)
      refine q_chk (fun h46 => ?_)
      refine p_lald C dX8_settleTrades_145 h45 h46 ?_
      refine q_cVV (As := (fun P => [.int (mI X115_34 (mR X115_34 (mR X115_34 r0 2) 0) (v1).toNatClampNeg), .int (mI X115_34 (mR X115_34 (mR X115_34 r0 2) 2) (v1).toNatClampNeg), .long (mJ X115_34 (mR X115_34 (mR X115_34 r0 2) 3) (v1).toNatClampNeg)])) C [] (sX8_addShares r0 ((mI X115_34 (mR X115_34 (mR X115_34 r0 2) 0) (v1).toNatClampNeg)) ((mI X115_34 (mR X115_34 (mR X115_34 r0 2) 2) (v1).toNatClampNeg)) ((mJ X115_34 (mR X115_34 (mR X115_34 r0 2) 3) (v1).toNatClampNeg))) fcX8_241 rfl (fun _ => rfl) ⟨Nat.le_of_ble_eq_true rfl, Nat.le_of_ble_eq_true rfl⟩ ⟨Nat.le_of_ble_eq_true rfl, Nat.le_of_ble_eq_true rfl⟩ (Nat.le_of_ble_eq_true rfl) dX8_settleTrades_146 h35 (fun _ X146_48 => ?_)
      refine q_aload_n C 1 dX8_settleTrades_149 rfl rfl ?_
      refine q_aload_n C 1 dX8_settleTrades_150 rfl rfl ?_
      refine q_chk (fun h49 => ?_)
      refine q_chk (fun h50 => ?_)
      refine p_getR C fgX8_21 rfl dX8_settleTrades_151 h49 h50 ?_
      refine q_chk (fun h51 => ?_)
      refine q_chk (fun h52 => ?_)
      refine p_getR C fgX8_245 rfl dX8_settleTrades_154 h51 h52 ?_
      refine q_iload_n C 2 dX8_settleTrades_157 rfl rfl ?_
      refine q_chk (fun h53 => ?_)
      refine q_chk (fun h54 => ?_)
      refine p_iald C dX8_settleTrades_158 h53 h54 ?_
      refine q_aload_n C 1 dX8_settleTrades_159 rfl rfl ?_
      refine p_getR C fgX8_21 rfl dX8_settleTrades_160 h49 h50 ?_
      refine q_chk (fun h55 => ?_)
      refine p_getR C fgX8_232 rfl dX8_settleTrades_163 h51 h55 ?_
      refine q_iload_n C 2 dX8_settleTrades_166 rfl rfl ?_
      refine q_chk (fun h56 => ?_)
      refine q_chk (fun h57 => ?_)
      refine p_iald C dX8_settleTrades_167 h56 h57 ?_
      refine q_aload_n C 1 dX8_settleTrades_168 rfl rfl ?_
      refine p_getR C fgX8_21 rfl dX8_settleTrades_169 h49 h50 ?_
      refine q_chk (fun h58 => ?_)
      refine p_getR C fgX8_248 rfl dX8_settleTrades_172 h51 h58 ?_
      refine q_iload_n C 2 dX8_settleTrades_175 rfl rfl ?_
      refine q_chk (fun h59 => ?_)
      refine q_chk (fun h60 => ?_)
      refine p_lald C dX8_settleTrades_176 h59 h60 ?_
      refine q_cVV (As := (fun P => [.int (mI X146_48 (mR X146_48 (mR X146_48 r0 2) 0) (v1).toNatClampNeg), .int (mI X146_48 (mR X146_48 (mR X146_48 r0 2) 1) (v1).toNatClampNeg), .long (mJ X146_48 (mR X146_48 (mR X146_48 r0 2) 4) (v1).toNatClampNeg)])) C [] (sX8_moveMoney r0 ((mI X146_48 (mR X146_48 (mR X146_48 r0 2) 0) (v1).toNatClampNeg)) ((mI X146_48 (mR X146_48 (mR X146_48 r0 2) 1) (v1).toNatClampNeg)) ((mJ X146_48 (mR X146_48 (mR X146_48 r0 2) 4) (v1).toNatClampNeg))) fcX8_250 rfl (fun _ => rfl) ⟨Nat.le_of_ble_eq_true rfl, Nat.le_of_ble_eq_true rfl⟩ ⟨Nat.le_of_ble_eq_true rfl, Nat.le_of_ble_eq_true rfl⟩ (Nat.le_of_ble_eq_true rfl) dX8_settleTrades_177 h49 (fun _ X177_62 => ?_)
      refine q_aload_n C 1 dX8_settleTrades_180 rfl rfl ?_
      refine q_chk (fun h63 => ?_)
      refine q_chk (fun h64 => ?_)
      refine p_getR C fgX8_21 rfl dX8_settleTrades_181 h63 h64 ?_
      refine q_iload_n C 2 dX8_settleTrades_184 rfl rfl ?_
      refine q_iconst C (1 : Int32) dX8_settleTrades_185 rfl ?_
      refine q_aload_n C 1 dX8_settleTrades_186 rfl rfl ?_
      refine p_getI C fgX8_68 rfl dX8_settleTrades_187 h63 ?_
      refine q_chk (fun h67 => ?_)
      refine q_cVV (As := (fun P => [.int v1, .int (1 : Int32), .int (mI X177_62 r0 8)])) C [] (sX10_finish ((mR X177_62 r0 2)) v1 (1 : Int32) ((mI X177_62 r0 8))) fcX8_253 rfl (fun _ => rfl) ⟨Nat.le_of_ble_eq_true rfl, Nat.le_of_ble_eq_true rfl⟩ ⟨Nat.le_of_ble_eq_true rfl, Nat.le_of_ble_eq_true rfl⟩ (Nat.le_of_ble_eq_true rfl) dX8_settleTrades_190 h67 (fun _ X190_66 => ?_)
      refine q_sub C [(0, .ref (q_P E + r0)), (1, .int v1)] [1, 2] rfl ?_
      exact gX8_settleTrades_L193 C n k2 hk2 r0 v1 X190_66
theorem gX8_settleTrades_L45 {E : q_E} {X0 : Mm} (C : Cx E cX8_settleTrades RX8 3 none (q_rm 1 24 0 0) X0) (n : Nat) (k2 : Nat → Int32 → Mm → Option (Unit × Mm)) (hk2 : ∀ (r0 : Nat) (v1 : Int32) (X : Mm), Sm E (q_fin E q_eV X0 0 0) 0 0 2 [(0, .ref (q_P E + r0)), (1, .int v1)] [] X (k2 r0 v1 X)) (r0 : Nat) (v1 : Int32) (X : Mm) : Sm E (q_fin E q_eV X0 0 0) 0 0 45 [(0, .ref (q_P E + r0)), (1, .int v1)] [] X (fX8_settleTrades_L45 n k2 r0 v1 X) := by
  unfold fX8_settleTrades_L45
  refine q_iconst C (0 : Int32) dX8_settleTrades_45 rfl ?_
  exact gX8_settleTrades_L46 C n k2 hk2 r0 v1 (0 : Int32) X
theorem gX8_settleTrades_L2 {E : q_E} {X0 : Mm} (C : Cx E cX8_settleTrades RX8 3 none (q_rm 1 24 0 0) X0) (n : Nat) : ∀ (j : Nat) (r0 : Nat) (v1 : Int32) (X : Mm), Sm E (q_fin E q_eV X0 0 0) 0 0 2 [(0, .ref (q_P E + r0)), (1, .int v1)] [] X (fX8_settleTrades_L2 n j r0 v1 X) := by
  intro j
  induction j with
  | zero => intros; exact Sm.none
  | succ j ih =>
    intro r0 v1 X
    rw [fX8_settleTrades_L2]
    refine q_iload_n C 1 dX8_settleTrades_2 rfl rfl ?_
    refine q_aload_n C 0 dX8_settleTrades_3 rfl rfl ?_
    refine q_chk (fun h1 => ?_)
    refine q_chk (fun h2 => ?_)
    refine p_getR C fgX8_21 rfl dX8_settleTrades_4 h1 h2 ?_
    refine q_chk (fun h3 => ?_)
    refine p_getI C fgX8_55 rfl dX8_settleTrades_7 h3 ?_
    refine q_icmp_ge C 199 dX8_settleTrades_10 (by decide) (fun _ => ?_) (fun _ => ?_)
    · exact q_vret C dX8_settleTrades_199
    · refine q_aload_n C 0 dX8_settleTrades_13 rfl rfl ?_
      refine p_getR C fgX8_21 rfl dX8_settleTrades_14 h1 h2 ?_
      refine q_chk (fun h4 => ?_)
      refine p_getR C fgX8_226 rfl dX8_settleTrades_17 h3 h4 ?_
      refine q_iload_n C 1 dX8_settleTrades_20 rfl rfl ?_
      refine q_chk (fun h5 => ?_)
      refine q_chk (fun h6 => ?_)
      refine p_iald C dX8_settleTrades_21 h5 h6 ?_
      refine q_if_ne C 45 dX8_settleTrades_22 (by decide) (fun _ => ?_) (fun _ => ?_)
      · refine q_aload_n C 0 dX8_settleTrades_25 rfl rfl ?_
        refine p_getR C fgX8_21 rfl dX8_settleTrades_26 h1 h2 ?_
        refine q_chk (fun h7 => ?_)
        refine p_getR C fgX8_229 rfl dX8_settleTrades_29 h3 h7 ?_
        refine q_iload_n C 1 dX8_settleTrades_32 rfl rfl ?_
        refine q_chk (fun h8 => ?_)
        refine q_chk (fun h9 => ?_)
        refine p_iald C dX8_settleTrades_33 h8 h9 ?_
        refine q_aload_n C 0 dX8_settleTrades_34 rfl rfl ?_
        refine p_getI C fgX8_68 rfl dX8_settleTrades_35 h1 ?_
        refine q_icmp_gt C 45 dX8_settleTrades_38 (by decide) (fun _ => ?_) (fun _ => ?_)
        · exact gX8_settleTrades_L45 C n (fX8_settleTrades_L2 n j) ih r0 v1 X
        · refine q_iconst C (1 : Int32) dX8_settleTrades_41 rfl ?_
          refine q_goto C 46 dX8_settleTrades_42 (by decide) ?_
          exact gX8_settleTrades_L46 C n (fX8_settleTrades_L2 n j) ih r0 v1 (1 : Int32) X
      · exact gX8_settleTrades_L45 C n (fX8_settleTrades_L2 n j) ih r0 v1 X
theorem sX8_settleTrades (n : Nat) (r0 : Nat) : q_Ct yX8_settleTrades cX8_settleTrades 3 none 1 24 0 0 q_eV (fun P => [.ref (P + r0)]) (fX8_settleTrades n r0) := by
  refine q_meth (by decide +kernel) (fun P => Nat.le_of_ble_eq_true rfl) (fun E X C hn => ?_)
  show Sm E (q_fin E q_eV X 0 0) 0 0 0 [(0, .ref (q_P E + r0))] [] X _
  unfold fX8_settleTrades
  refine q_iconst C (0 : Int32) dX8_settleTrades_0 rfl ?_
  refine q_istore_n C [(1, .int (0 : Int32)), (0, .ref (q_P E + r0))] dX8_settleTrades_1 rfl (Nat.le_of_ble_eq_true rfl) rfl ?_
  refine q_sub C [(0, .ref (q_P E + r0)), (1, .int (0 : Int32))] [1, 0] rfl ?_
  exact gX8_settleTrades_L2 C n n r0 (0 : Int32) X
/-! RecordClaims$State.writeShares(I)V -/
abbrev cX8_writeShares : ByteArray := prog_10_method_21_code
def yX8_writeShares : MethodName := ⟨RX8, "writeShares", "(I)V"⟩
theorem dX8_writeShares_0 : decode cX8_writeShares 0 = .ok (.iconst 0, 1) := by decide +kernel
theorem dX8_writeShares_1 : decode cX8_writeShares 1 = .ok (.istore_n 2, 1) := by decide +kernel
theorem dX8_writeShares_2 : decode cX8_writeShares 2 = .ok (.iload_n 2, 1) := by decide +kernel
theorem dX8_writeShares_3 : decode cX8_writeShares 3 = .ok (.aload_n 0, 1) := by decide +kernel
theorem dX8_writeShares_4 : decode cX8_writeShares 4 = .ok (.getfield 63, 3) := by decide +kernel
theorem dX8_writeShares_7 : decode cX8_writeShares 7 = .ok (.if_icmp .ge 36, 3) := by decide +kernel
theorem dX8_writeShares_10 : decode cX8_writeShares 10 = .ok (.aload_n 0, 1) := by decide +kernel
theorem dX8_writeShares_11 : decode cX8_writeShares 11 = .ok (.getfield 35, 3) := by decide +kernel
theorem dX8_writeShares_14 : decode cX8_writeShares 14 = .ok (.getfield 271, 3) := by decide +kernel
theorem dX8_writeShares_17 : decode cX8_writeShares 17 = .ok (.iload_n 1, 1) := by decide +kernel
theorem dX8_writeShares_18 : decode cX8_writeShares 18 = .ok (.iload_n 2, 1) := by decide +kernel
theorem dX8_writeShares_19 : decode cX8_writeShares 19 = .ok (.invokestatic 164, 3) := by decide +kernel
theorem dX8_writeShares_22 : decode cX8_writeShares 22 = .ok (.aload_n 0, 1) := by decide +kernel
theorem dX8_writeShares_23 : decode cX8_writeShares 23 = .ok (.iload_n 2, 1) := by decide +kernel
theorem dX8_writeShares_24 : decode cX8_writeShares 24 = .ok (.aload_n 0, 1) := by decide +kernel
theorem dX8_writeShares_25 : decode cX8_writeShares 25 = .ok (.getfield 28, 3) := by decide +kernel
theorem dX8_writeShares_28 : decode cX8_writeShares 28 = .ok (.getfield 274, 3) := by decide +kernel
theorem dX8_writeShares_31 : decode cX8_writeShares 31 = .ok (.iload_n 1, 1) := by decide +kernel
theorem dX8_writeShares_32 : decode cX8_writeShares 32 = .ok (.iaload, 1) := by decide +kernel
theorem dX8_writeShares_33 : decode cX8_writeShares 33 = .ok (.invokevirtual 236, 3) := by decide +kernel
theorem dX8_writeShares_36 : decode cX8_writeShares 36 = .ok (.lastore, 1) := by decide +kernel
theorem dX8_writeShares_37 : decode cX8_writeShares 37 = .ok (.iinc 2 1, 3) := by decide +kernel
theorem dX8_writeShares_40 : decode cX8_writeShares 40 = .ok (.goto (-38), 3) := by decide +kernel
theorem dX8_writeShares_43 : decode cX8_writeShares 43 = .ok (.return_, 1) := by decide +kernel
theorem fgX8_271 : q_Fg RX8 271 6 0 := q_Fg.of (C := RX6) (T := TX6) (N := 6) rfl (by decide) inX6 345 (by decide +kernel) rfl rfl
theorem fgX8_274 : q_Fg RX8 274 3 1 := q_Fg.of (C := RX3) (T := TX3) (N := 17) rfl (by decide) inX3 273 (by decide +kernel) rfl rfl
def fX8_writeShares_L2 (n : Nat) : Nat → Nat → Int32 → Int32 → Mm → Option (Unit × Mm)
| 0, _, _, _, _ => none
| j + 1, r0, v1, v2, X =>
if mT X r0 = 8 then
if (mI X r0 6) ≤ v2 then (
some ((), X)
) else (
if mR X r0 4 ≠ 0 then
if mT X (mR X r0 4) = 6 then
if mR X (mR X r0 4) 0 ≠ 0 then
bd (fX6_at v1 v2 X) fun w5 X19_6 =>
if mT X19_6 r0 = 8 then
if mR X19_6 r0 3 ≠ 0 then
if mT X19_6 (mR X19_6 r0 3) = 3 then
if mR X19_6 (mR X19_6 r0 3) 1 ≠ 0 then
if mT X19_6 (mR X19_6 (mR X19_6 r0 3) 1) = 14 then
if q_b X19_6 (mR X19_6 (mR X19_6 r0 3) 1) v1 then
bd (fX8_sharesOf r0 v2 ((mI X19_6 (mR X19_6 (mR X19_6 r0 3) 1) (v1).toNatClampNeg)) X19_6) fun w13 X33_14 =>
if mT X33_14 (mR X (mR X r0 4) 0) = 15 then
if q_b X33_14 (mR X (mR X r0 4) 0) w5 then
nm (sJ X33_14 (mR X (mR X r0 4) 0) (w5).toNatClampNeg w13) fun X36_15 =>
nm (v2 + (1 : Int32)) fun v2_37 =>
(fX8_writeShares_L2 n j) r0 v1 v2_37 X36_15
else none
else none
else none
else none
else none
else none
else none
else none
else none
else none
else none
)
else none
def fX8_writeShares (n : Nat) (r0 : Nat) (v1 : Int32) (X : Mm) : Option (Unit × Mm) :=
fX8_writeShares_L2 n n r0 v1 (0 : Int32) X
theorem gX8_writeShares_L2 {E : q_E} {X0 : Mm} (C : Cx E cX8_writeShares RX8 3 none (q_rm 1 22 0 0) X0) (n : Nat) : ∀ (j : Nat) (r0 : Nat) (v1 : Int32) (v2 : Int32) (X : Mm), Sm E (q_fin E q_eV X0 0 0) 0 0 2 [(0, .ref (q_P E + r0)), (1, .int v1), (2, .int v2)] [] X (fX8_writeShares_L2 n j r0 v1 v2 X) := by
  intro j
  induction j with
  | zero => intros; exact Sm.none
  | succ j ih =>
    intro r0 v1 v2 X
    rw [fX8_writeShares_L2]
    refine q_iload_n C 2 dX8_writeShares_2 rfl rfl ?_
    refine q_aload_n C 0 dX8_writeShares_3 rfl rfl ?_
    refine q_chk (fun h1 => ?_)
    refine p_getI C fgX8_63 rfl dX8_writeShares_4 h1 ?_
    refine q_icmp_ge C 43 dX8_writeShares_7 (by decide) (fun _ => ?_) (fun _ => ?_)
    · exact q_vret C dX8_writeShares_43
    · refine q_aload_n C 0 dX8_writeShares_10 rfl rfl ?_
      refine q_chk (fun h2 => ?_)
      refine p_getR C fgX8_35 rfl dX8_writeShares_11 h1 h2 ?_
      refine q_chk (fun h3 => ?_)
      refine q_chk (fun h4 => ?_)
      refine p_getR C fgX8_271 rfl dX8_writeShares_14 h3 h4 ?_
      refine q_iload_n C 1 dX8_writeShares_17 rfl rfl ?_
      refine q_iload_n C 2 dX8_writeShares_18 rfl rfl ?_
      refine q_cSI (As := (fun P => [.int v1, .int v2])) C [.ref (q_P E + (mR X (mR X r0 4) 0))] (sX6_at v1 v2) fcX8_164 rfl (fun _ => rfl) ⟨Nat.le_of_ble_eq_true rfl, Nat.le_of_ble_eq_true rfl⟩ ⟨Nat.le_of_ble_eq_true rfl, Nat.le_of_ble_eq_true rfl⟩ (Nat.le_of_ble_eq_true rfl) dX8_writeShares_19 (fun w5 X19_6 => ?_)
      refine q_aload_n C 0 dX8_writeShares_22 rfl rfl ?_
      refine q_iload_n C 2 dX8_writeShares_23 rfl rfl ?_
      refine q_aload_n C 0 dX8_writeShares_24 rfl rfl ?_
      refine q_chk (fun h7 => ?_)
      refine q_chk (fun h8 => ?_)
      refine p_getR C fgX8_28 rfl dX8_writeShares_25 h7 h8 ?_
      refine q_chk (fun h9 => ?_)
      refine q_chk (fun h10 => ?_)
      refine p_getR C fgX8_274 rfl dX8_writeShares_28 h9 h10 ?_
      refine q_iload_n C 1 dX8_writeShares_31 rfl rfl ?_
      refine q_chk (fun h11 => ?_)
      refine q_chk (fun h12 => ?_)
      refine p_iald C dX8_writeShares_32 h11 h12 ?_
      refine q_cVL (As := (fun P => [.int v2, .int (mI X19_6 (mR X19_6 (mR X19_6 r0 3) 1) (v1).toNatClampNeg)])) C [.int w5, .ref (q_P E + (mR X (mR X r0 4) 0))] (sX8_sharesOf r0 v2 ((mI X19_6 (mR X19_6 (mR X19_6 r0 3) 1) (v1).toNatClampNeg))) fcX8_236 rfl (fun _ => rfl) ⟨Nat.le_of_ble_eq_true rfl, Nat.le_of_ble_eq_true rfl⟩ ⟨Nat.le_of_ble_eq_true rfl, Nat.le_of_ble_eq_true rfl⟩ (Nat.le_of_ble_eq_true rfl) dX8_writeShares_33 h7 (fun w13 X33_14 => ?_)
      refine q_chk (fun h16 => ?_)
      refine q_chk (fun h17 => ?_)
      refine p_last C dX8_writeShares_36 h16 h17 ?_
      refine q_nmX (fun X36_15 => ?_)
      refine q_iincN C (1 : Int32) 2 (fun v2_37 => [(2, .int v2_37), (0, .ref (q_P E + r0)), (1, .int v1)]) dX8_writeShares_37 rfl rfl (Nat.le_of_ble_eq_true rfl) (fun _ => rfl) (fun v2_37 => ?_)
      refine q_goto C 2 dX8_writeShares_40 (by decide) ?_
      refine q_sub C [(0, .ref (q_P E + r0)), (1, .int v1), (2, .int v2_37)] [1, 2, 0] rfl ?_
      exact ih r0 v1 v2_37 X36_15
theorem sX8_writeShares (n : Nat) (r0 : Nat) (v1 : Int32) : q_Ct yX8_writeShares cX8_writeShares 3 none 1 22 0 0 q_eV (fun P => [.ref (P + r0), .int v1]) (fX8_writeShares n r0 v1) := by
  refine q_meth (by decide +kernel) (fun P => Nat.le_of_ble_eq_true rfl) (fun E X C hn => ?_)
  show Sm E (q_fin E q_eV X 0 0) 0 0 0 [(0, .ref (q_P E + r0)), (1, .int v1)] [] X _
  unfold fX8_writeShares
  refine q_iconst C (0 : Int32) dX8_writeShares_0 rfl ?_
  refine q_istore_n C [(2, .int (0 : Int32)), (0, .ref (q_P E + r0)), (1, .int v1)] dX8_writeShares_1 rfl (Nat.le_of_ble_eq_true rfl) rfl ?_
  refine q_sub C [(0, .ref (q_P E + r0)), (1, .int v1), (2, .int (0 : Int32))] [1, 2, 0] rfl ?_
  exact gX8_writeShares_L2 C n n r0 v1 (0 : Int32) X
/-! RecordClaims$State.giveTo(IIIJ)V -/
abbrev cX8_giveTo : ByteArray := prog_10_method_26_code
def yX8_giveTo : MethodName := ⟨RX8, "giveTo", "(IIIJ)V"⟩
theorem dX8_giveTo_0 : decode cX8_giveTo 0 = .ok (.aload_n 0, 1) := by decide +kernel
theorem dX8_giveTo_1 : decode cX8_giveTo 1 = .ok (.getfield 28, 3) := by decide +kernel
theorem dX8_giveTo_4 : decode cX8_giveTo 4 = .ok (.iload_n 2, 1) := by decide +kernel
theorem dX8_giveTo_5 : decode cX8_giveTo 5 = .ok (.lload 4, 2) := by decide +kernel
theorem dX8_giveTo_7 : decode cX8_giveTo 7 = .ok (.invokevirtual 302, 3) := by decide +kernel
theorem dX8_giveTo_10 : decode cX8_giveTo 10 = .ok (.lstore 6, 2) := by decide +kernel
theorem dX8_giveTo_12 : decode cX8_giveTo 12 = .ok (.aload_n 0, 1) := by decide +kernel
theorem dX8_giveTo_13 : decode cX8_giveTo 13 = .ok (.getfield 28, 3) := by decide +kernel
theorem dX8_giveTo_16 : decode cX8_giveTo 16 = .ok (.iload_n 2, 1) := by decide +kernel
theorem dX8_giveTo_17 : decode cX8_giveTo 17 = .ok (.lload 4, 2) := by decide +kernel
theorem dX8_giveTo_19 : decode cX8_giveTo 19 = .ok (.invokevirtual 306, 3) := by decide +kernel
theorem dX8_giveTo_22 : decode cX8_giveTo 22 = .ok (.lstore 8, 2) := by decide +kernel
theorem dX8_giveTo_24 : decode cX8_giveTo 24 = .ok (.aload_n 0, 1) := by decide +kernel
theorem dX8_giveTo_25 : decode cX8_giveTo 25 = .ok (.iload_n 1, 1) := by decide +kernel
theorem dX8_giveTo_26 : decode cX8_giveTo 26 = .ok (.iload_n 3, 1) := by decide +kernel
theorem dX8_giveTo_27 : decode cX8_giveTo 27 = .ok (.lload 6, 2) := by decide +kernel
theorem dX8_giveTo_29 : decode cX8_giveTo 29 = .ok (.invokevirtual 241, 3) := by decide +kernel
theorem dX8_giveTo_32 : decode cX8_giveTo 32 = .ok (.aload_n 0, 1) := by decide +kernel
theorem dX8_giveTo_33 : decode cX8_giveTo 33 = .ok (.getfield 15, 3) := by decide +kernel
theorem dX8_giveTo_36 : decode cX8_giveTo 36 = .ok (.iload_n 1, 1) := by decide +kernel
theorem dX8_giveTo_37 : decode cX8_giveTo 37 = .ok (.dup2, 1) := by decide +kernel
theorem dX8_giveTo_38 : decode cX8_giveTo 38 = .ok (.laload, 1) := by decide +kernel
theorem dX8_giveTo_39 : decode cX8_giveTo 39 = .ok (.lload 8, 2) := by decide +kernel
theorem dX8_giveTo_41 : decode cX8_giveTo 41 = .ok (.ladd, 1) := by decide +kernel
theorem dX8_giveTo_42 : decode cX8_giveTo 42 = .ok (.lastore, 1) := by decide +kernel
theorem dX8_giveTo_43 : decode cX8_giveTo 43 = .ok (.aload_n 0, 1) := by decide +kernel
theorem dX8_giveTo_44 : decode cX8_giveTo 44 = .ok (.getfield 28, 3) := by decide +kernel
theorem dX8_giveTo_47 : decode cX8_giveTo 47 = .ok (.iload_n 2, 1) := by decide +kernel
theorem dX8_giveTo_48 : decode cX8_giveTo 48 = .ok (.lload 6, 2) := by decide +kernel
theorem dX8_giveTo_50 : decode cX8_giveTo 50 = .ok (.lload 8, 2) := by decide +kernel
theorem dX8_giveTo_52 : decode cX8_giveTo 52 = .ok (.invokevirtual 309, 3) := by decide +kernel
theorem dX8_giveTo_55 : decode cX8_giveTo 55 = .ok (.return_, 1) := by decide +kernel
theorem fcX8_302 : q_LV RX8 302 yX3_sharesFor cX3_sharesFor 5 (some .long) 2 3 := ⟨q_tb 877 (by decide +kernel) rfl, q_tb 878 (by decide +kernel) rfl, q_tb 879 (by decide +kernel) rfl, q_tb 7 (by decide +kernel) rfl, q_tb 880 (by decide +kernel) rfl, ⟨by decide +kernel, by decide +kernel, by decide +kernel⟩, TX3, 17, rfl⟩
theorem fcX8_306 : q_LV RX8 306 yX3_moneyFor cX3_moneyFor 5 (some .long) 2 3 := ⟨q_tb 881 (by decide +kernel) rfl, q_tb 882 (by decide +kernel) rfl, q_tb 883 (by decide +kernel) rfl, q_tb 7 (by decide +kernel) rfl, q_tb 884 (by decide +kernel) rfl, ⟨by decide +kernel, by decide +kernel, by decide +kernel⟩, TX3, 17, rfl⟩
theorem fcX8_309 : q_LV RX8 309 yX3_issue cX3_issue 6 none 3 3 := ⟨q_tb 885 (by decide +kernel) rfl, q_tb 886 (by decide +kernel) rfl, q_tb 887 (by decide +kernel) rfl, q_tb 7 (by decide +kernel) rfl, q_tb 888 (by decide +kernel) rfl, ⟨by decide +kernel, by decide +kernel, by decide +kernel⟩, TX3, 17, rfl⟩
def fX8_giveTo (r0 : Nat) (v1 : Int32) (v2 : Int32) (v3 : Int32) (v4 : Int64) (X : Mm) : Option (Unit × Mm) :=
if mT X r0 = 8 then
if mR X r0 3 ≠ 0 then
if mT X (mR X r0 3) = 3 then
bd (fX3_sharesFor ((mR X r0 3)) v2 v4 X) fun w3 X7_4 =>
if mT X7_4 r0 = 8 then
if mR X7_4 r0 3 ≠ 0 then
if mT X7_4 (mR X7_4 r0 3) = 3 then
bd (fX3_moneyFor ((mR X7_4 r0 3)) v2 v4 X7_4) fun w8 X19_9 =>
if mT X19_9 r0 = 8 then
bd (fX8_addShares r0 v1 v3 w3 X19_9) fun _ X29_12 =>
if mT X29_12 r0 = 8 then
if mR X29_12 r0 1 ≠ 0 then
if mT X29_12 (mR X29_12 r0 1) = 15 then
if q_b X29_12 (mR X29_12 r0 1) v1 then
nm (sJ X29_12 (mR X29_12 r0 1) (v1).toNatClampNeg ((mJ X29_12 (mR X29_12 r0 1) (v1).toNatClampNeg) + w8)) fun X42_18 =>
if mT X42_18 r0 = 8 then
if mR X42_18 r0 3 ≠ 0 then
if mT X42_18 (mR X42_18 r0 3) = 3 then
bd (fX3_issue ((mR X42_18 r0 3)) v2 w3 w8 X42_18) fun _ X52_22 =>
some ((), X52_22)
else none
else none
else none
else none
else none
else none
else none
else none
else none
else none
else none
else none
else none
else none
theorem sX8_giveTo (r0 : Nat) (v1 : Int32) (v2 : Int32) (v3 : Int32) (v4 : Int64) : q_Ct yX8_giveTo cX8_giveTo 10 none 1 25 0 0 q_eV (fun P => [.ref (P + r0), .int v1, .int v2, .int v3, .long v4]) (fX8_giveTo r0 v1 v2 v3 v4) := by
  refine q_meth (by decide +kernel) (fun P => Nat.le_of_ble_eq_true rfl) (fun E X C hn => ?_)
  show Sm E (q_fin E q_eV X 0 0) 0 0 0 [(0, .ref (q_P E + r0)), (1, .int v1), (2, .int v2), (3, .int v3), (4, .long v4)] [] X _
  unfold fX8_giveTo
  refine q_aload_n C 0 dX8_giveTo_0 rfl rfl ?_
  refine q_chk (fun h1 => ?_)
  refine q_chk (fun h2 => ?_)
  refine p_getR C fgX8_28 rfl dX8_giveTo_1 h1 h2 ?_
  refine q_iload_n C 2 dX8_giveTo_4 rfl rfl ?_
  refine q_lload C 4 dX8_giveTo_5 rfl ?_
  refine q_chk (fun h5 => ?_)
  refine q_cVL (As := (fun P => [.int v2, .long v4])) C [] (sX3_sharesFor ((mR X r0 3)) v2 v4) fcX8_302 rfl (fun _ => rfl) ⟨Nat.le_of_ble_eq_true rfl, Nat.le_of_ble_eq_true rfl⟩ ⟨Nat.le_of_ble_eq_true rfl, Nat.le_of_ble_eq_true rfl⟩ (Nat.le_of_ble_eq_true rfl) dX8_giveTo_7 h5 (fun w3 X7_4 => ?_)
  refine q_lstore C [(6, .long w3), (0, .ref (q_P E + r0)), (1, .int v1), (2, .int v2), (3, .int v3), (4, .long v4)] dX8_giveTo_10 (Nat.le_of_ble_eq_true rfl) rfl ?_
  refine q_aload_n C 1 dX8_giveTo_12 rfl rfl ?_
  refine q_chk (fun h6 => ?_)
  refine q_chk (fun h7 => ?_)
  refine p_getR C fgX8_28 rfl dX8_giveTo_13 h6 h7 ?_
  refine q_iload_n C 3 dX8_giveTo_16 rfl rfl ?_
  refine q_lload C 5 dX8_giveTo_17 rfl ?_
  refine q_chk (fun h10 => ?_)
  refine q_cVL (As := (fun P => [.int v2, .long v4])) C [] (sX3_moneyFor ((mR X7_4 r0 3)) v2 v4) fcX8_306 rfl (fun _ => rfl) ⟨Nat.le_of_ble_eq_true rfl, Nat.le_of_ble_eq_true rfl⟩ ⟨Nat.le_of_ble_eq_true rfl, Nat.le_of_ble_eq_true rfl⟩ (Nat.le_of_ble_eq_true rfl) dX8_giveTo_19 h10 (fun w8 X19_9 => ?_)
  refine q_lstore C [(8, .long w8), (6, .long w3), (0, .ref (q_P E + r0)), (1, .int v1), (2, .int v2), (3, .int v3), (4, .long v4)] dX8_giveTo_22 (Nat.le_of_ble_eq_true rfl) rfl ?_
  refine q_aload_n C 2 dX8_giveTo_24 rfl rfl ?_
  refine q_iload_n C 3 dX8_giveTo_25 rfl rfl ?_
  refine q_iload_n C 5 dX8_giveTo_26 rfl rfl ?_
  refine q_lload C 1 dX8_giveTo_27 rfl ?_
  refine q_chk (fun h13 => ?_)
  refine q_cVV (As := (fun P => [.int v1, .int v3, .long w3])) C [] (sX8_addShares r0 v1 v3 w3) fcX8_241 rfl (fun _ => rfl) ⟨Nat.le_of_ble_eq_true rfl, Nat.le_of_ble_eq_true rfl⟩ ⟨Nat.le_of_ble_eq_true rfl, Nat.le_of_ble_eq_true rfl⟩ (Nat.le_of_ble_eq_true rfl) dX8_giveTo_29 h13 (fun _ X29_12 => ?_)
  refine q_aload_n C 2 dX8_giveTo_32 rfl rfl ?_
  refine q_chk (fun h14 => ?_)
  refine q_chk (fun h15 => ?_)
  refine p_getR C fgX8_15 rfl dX8_giveTo_33 h14 h15 ?_
  refine q_iload_n C 3 dX8_giveTo_36 rfl rfl ?_
  refine q_dup2_11 C dX8_giveTo_37 rfl rfl ?_
  refine q_chk (fun h16 => ?_)
  refine q_chk (fun h17 => ?_)
  refine p_lald C dX8_giveTo_38 h16 h17 ?_
  refine q_lload C 0 dX8_giveTo_39 rfl ?_
  refine q_ladd C dX8_giveTo_41 ?_
  refine p_last C dX8_giveTo_42 h16 h17 ?_
  refine q_nmX (fun X42_18 => ?_)
  refine q_aload_n C 2 dX8_giveTo_43 rfl rfl ?_
  refine q_chk (fun h19 => ?_)
  refine q_chk (fun h20 => ?_)
  refine p_getR C fgX8_28 rfl dX8_giveTo_44 h19 h20 ?_
  refine q_iload_n C 4 dX8_giveTo_47 rfl rfl ?_
  refine q_lload C 1 dX8_giveTo_48 rfl ?_
  refine q_lload C 0 dX8_giveTo_50 rfl ?_
  refine q_chk (fun h23 => ?_)
  refine q_cVV (As := (fun P => [.int v2, .long w3, .long w8])) C [] (sX3_issue ((mR X42_18 r0 3)) v2 w3 w8) fcX8_309 rfl (fun _ => rfl) ⟨Nat.le_of_ble_eq_true rfl, Nat.le_of_ble_eq_true rfl⟩ ⟨Nat.le_of_ble_eq_true rfl, Nat.le_of_ble_eq_true rfl⟩ (Nat.le_of_ble_eq_true rfl) dX8_giveTo_52 h23 (fun _ X52_22 => ?_)
  exact q_vret C dX8_giveTo_55
/-! RecordClaims$State.turnTrade(II)V -/
abbrev cX8_turnTrade : ByteArray := prog_10_method_25_code
def yX8_turnTrade : MethodName := ⟨RX8, "turnTrade", "(II)V"⟩
theorem dX8_turnTrade_0 : decode cX8_turnTrade 0 = .ok (.aload_n 0, 1) := by decide +kernel
theorem dX8_turnTrade_1 : decode cX8_turnTrade 1 = .ok (.getfield 21, 3) := by decide +kernel
theorem dX8_turnTrade_4 : decode cX8_turnTrade 4 = .ok (.getfield 240, 3) := by decide +kernel
theorem dX8_turnTrade_7 : decode cX8_turnTrade 7 = .ok (.iload_n 2, 1) := by decide +kernel
theorem dX8_turnTrade_8 : decode cX8_turnTrade 8 = .ok (.laload, 1) := by decide +kernel
theorem dX8_turnTrade_9 : decode cX8_turnTrade 9 = .ok (.lstore_n 3, 1) := by decide +kernel
theorem dX8_turnTrade_10 : decode cX8_turnTrade 10 = .ok (.aload_n 0, 1) := by decide +kernel
theorem dX8_turnTrade_11 : decode cX8_turnTrade 11 = .ok (.getfield 21, 3) := by decide +kernel
theorem dX8_turnTrade_14 : decode cX8_turnTrade 14 = .ok (.getfield 234, 3) := by decide +kernel
theorem dX8_turnTrade_17 : decode cX8_turnTrade 17 = .ok (.iload_n 2, 1) := by decide +kernel
theorem dX8_turnTrade_18 : decode cX8_turnTrade 18 = .ok (.aload_n 0, 1) := by decide +kernel
theorem dX8_turnTrade_19 : decode cX8_turnTrade 19 = .ok (.getfield 28, 3) := by decide +kernel
theorem dX8_turnTrade_22 : decode cX8_turnTrade 22 = .ok (.getfield 289, 3) := by decide +kernel
theorem dX8_turnTrade_25 : decode cX8_turnTrade 25 = .ok (.iload_n 1, 1) := by decide +kernel
theorem dX8_turnTrade_26 : decode cX8_turnTrade 26 = .ok (.iaload, 1) := by decide +kernel
theorem dX8_turnTrade_27 : decode cX8_turnTrade 27 = .ok (.iastore, 1) := by decide +kernel
theorem dX8_turnTrade_28 : decode cX8_turnTrade 28 = .ok (.aload_n 0, 1) := by decide +kernel
theorem dX8_turnTrade_29 : decode cX8_turnTrade 29 = .ok (.getfield 21, 3) := by decide +kernel
theorem dX8_turnTrade_32 : decode cX8_turnTrade 32 = .ok (.getfield 240, 3) := by decide +kernel
theorem dX8_turnTrade_35 : decode cX8_turnTrade 35 = .ok (.iload_n 2, 1) := by decide +kernel
theorem dX8_turnTrade_36 : decode cX8_turnTrade 36 = .ok (.aload_n 0, 1) := by decide +kernel
theorem dX8_turnTrade_37 : decode cX8_turnTrade 37 = .ok (.getfield 28, 3) := by decide +kernel
theorem dX8_turnTrade_40 : decode cX8_turnTrade 40 = .ok (.iload_n 1, 1) := by decide +kernel
theorem dX8_turnTrade_41 : decode cX8_turnTrade 41 = .ok (.lload_n 3, 1) := by decide +kernel
theorem dX8_turnTrade_42 : decode cX8_turnTrade 42 = .ok (.invokevirtual 302, 3) := by decide +kernel
theorem dX8_turnTrade_45 : decode cX8_turnTrade 45 = .ok (.lastore, 1) := by decide +kernel
theorem dX8_turnTrade_46 : decode cX8_turnTrade 46 = .ok (.aload_n 0, 1) := by decide +kernel
theorem dX8_turnTrade_47 : decode cX8_turnTrade 47 = .ok (.getfield 21, 3) := by decide +kernel
theorem dX8_turnTrade_50 : decode cX8_turnTrade 50 = .ok (.getfield 248, 3) := by decide +kernel
theorem dX8_turnTrade_53 : decode cX8_turnTrade 53 = .ok (.iload_n 2, 1) := by decide +kernel
theorem dX8_turnTrade_54 : decode cX8_turnTrade 54 = .ok (.dup2, 1) := by decide +kernel
theorem dX8_turnTrade_55 : decode cX8_turnTrade 55 = .ok (.laload, 1) := by decide +kernel
theorem dX8_turnTrade_56 : decode cX8_turnTrade 56 = .ok (.aload_n 0, 1) := by decide +kernel
theorem dX8_turnTrade_57 : decode cX8_turnTrade 57 = .ok (.getfield 28, 3) := by decide +kernel
theorem dX8_turnTrade_60 : decode cX8_turnTrade 60 = .ok (.iload_n 1, 1) := by decide +kernel
theorem dX8_turnTrade_61 : decode cX8_turnTrade 61 = .ok (.lload_n 3, 1) := by decide +kernel
theorem dX8_turnTrade_62 : decode cX8_turnTrade 62 = .ok (.invokevirtual 306, 3) := by decide +kernel
theorem dX8_turnTrade_65 : decode cX8_turnTrade 65 = .ok (.lsub, 1) := by decide +kernel
theorem dX8_turnTrade_66 : decode cX8_turnTrade 66 = .ok (.lastore, 1) := by decide +kernel
theorem dX8_turnTrade_67 : decode cX8_turnTrade 67 = .ok (.aload_n 0, 1) := by decide +kernel
theorem dX8_turnTrade_68 : decode cX8_turnTrade 68 = .ok (.getfield 21, 3) := by decide +kernel
theorem dX8_turnTrade_71 : decode cX8_turnTrade 71 = .ok (.getfield 240, 3) := by decide +kernel
theorem dX8_turnTrade_74 : decode cX8_turnTrade 74 = .ok (.iload_n 2, 1) := by decide +kernel
theorem dX8_turnTrade_75 : decode cX8_turnTrade 75 = .ok (.laload, 1) := by decide +kernel
theorem dX8_turnTrade_76 : decode cX8_turnTrade 76 = .ok (.lconst 0, 1) := by decide +kernel
theorem dX8_turnTrade_77 : decode cX8_turnTrade 77 = .ok (.lcmp, 1) := by decide +kernel
theorem dX8_turnTrade_78 : decode cX8_turnTrade 78 = .ok (.ifCond .ne 47, 3) := by decide +kernel
theorem dX8_turnTrade_81 : decode cX8_turnTrade 81 = .ok (.aload_n 0, 1) := by decide +kernel
theorem dX8_turnTrade_82 : decode cX8_turnTrade 82 = .ok (.aload_n 0, 1) := by decide +kernel
theorem dX8_turnTrade_83 : decode cX8_turnTrade 83 = .ok (.getfield 21, 3) := by decide +kernel
theorem dX8_turnTrade_86 : decode cX8_turnTrade 86 = .ok (.getfield 245, 3) := by decide +kernel
theorem dX8_turnTrade_89 : decode cX8_turnTrade 89 = .ok (.iload_n 2, 1) := by decide +kernel
theorem dX8_turnTrade_90 : decode cX8_turnTrade 90 = .ok (.iaload, 1) := by decide +kernel
theorem dX8_turnTrade_91 : decode cX8_turnTrade 91 = .ok (.aload_n 0, 1) := by decide +kernel
theorem dX8_turnTrade_92 : decode cX8_turnTrade 92 = .ok (.getfield 21, 3) := by decide +kernel
theorem dX8_turnTrade_95 : decode cX8_turnTrade 95 = .ok (.getfield 232, 3) := by decide +kernel
theorem dX8_turnTrade_98 : decode cX8_turnTrade 98 = .ok (.iload_n 2, 1) := by decide +kernel
theorem dX8_turnTrade_99 : decode cX8_turnTrade 99 = .ok (.iaload, 1) := by decide +kernel
theorem dX8_turnTrade_100 : decode cX8_turnTrade 100 = .ok (.aload_n 0, 1) := by decide +kernel
theorem dX8_turnTrade_101 : decode cX8_turnTrade 101 = .ok (.getfield 21, 3) := by decide +kernel
theorem dX8_turnTrade_104 : decode cX8_turnTrade 104 = .ok (.getfield 248, 3) := by decide +kernel
theorem dX8_turnTrade_107 : decode cX8_turnTrade 107 = .ok (.iload_n 2, 1) := by decide +kernel
theorem dX8_turnTrade_108 : decode cX8_turnTrade 108 = .ok (.laload, 1) := by decide +kernel
theorem dX8_turnTrade_109 : decode cX8_turnTrade 109 = .ok (.invokevirtual 250, 3) := by decide +kernel
theorem dX8_turnTrade_112 : decode cX8_turnTrade 112 = .ok (.aload_n 0, 1) := by decide +kernel
theorem dX8_turnTrade_113 : decode cX8_turnTrade 113 = .ok (.getfield 21, 3) := by decide +kernel
theorem dX8_turnTrade_116 : decode cX8_turnTrade 116 = .ok (.iload_n 2, 1) := by decide +kernel
theorem dX8_turnTrade_117 : decode cX8_turnTrade 117 = .ok (.iconst 2, 1) := by decide +kernel
theorem dX8_turnTrade_118 : decode cX8_turnTrade 118 = .ok (.aload_n 0, 1) := by decide +kernel
theorem dX8_turnTrade_119 : decode cX8_turnTrade 119 = .ok (.getfield 68, 3) := by decide +kernel
theorem dX8_turnTrade_122 : decode cX8_turnTrade 122 = .ok (.invokevirtual 253, 3) := by decide +kernel
theorem dX8_turnTrade_125 : decode cX8_turnTrade 125 = .ok (.return_, 1) := by decide +kernel
theorem fgX8_289 : q_Fg RX8 289 3 2 := q_Fg.of (C := RX3) (T := TX3) (N := 17) rfl (by decide) inX3 275 (by decide +kernel) rfl rfl
def fX8_turnTrade (r0 : Nat) (v1 : Int32) (v2 : Int32) (X : Mm) : Option (Unit × Mm) :=
if mT X r0 = 8 then
if mR X r0 2 ≠ 0 then
if mT X (mR X r0 2) = 10 then
if mR X (mR X r0 2) 3 ≠ 0 then
if mT X (mR X (mR X r0 2) 3) = 15 then
if q_b X (mR X (mR X r0 2) 3) v2 then
nm ((mJ X (mR X (mR X r0 2) 3) (v2).toNatClampNeg)) fun v3_9 =>
if mR X (mR X r0 2) 2 ≠ 0 then
if mR X r0 3 ≠ 0 then
if mT X (mR X r0 3) = 3 then
if mR X (mR X r0 3) 2 ≠ 0 then
if mT X (mR X (mR X r0 3) 2) = 14 then
if q_b X (mR X (mR X r0 3) 2) v1 then
if mT X (mR X (mR X r0 2) 2) = 14 then
if q_b X (mR X (mR X r0 2) 2) v2 then
nm (sI X (mR X (mR X r0 2) 2) (v2).toNatClampNeg (mI X (mR X (mR X r0 3) 2) (v1).toNatClampNeg)) fun X27_14 =>
if mT X27_14 r0 = 8 then
if mR X27_14 r0 2 ≠ 0 then
if mT X27_14 (mR X27_14 r0 2) = 10 then
if mR X27_14 (mR X27_14 r0 2) 3 ≠ 0 then
if mR X27_14 r0 3 ≠ 0 then
if mT X27_14 (mR X27_14 r0 3) = 3 then
bd (fX3_sharesFor ((mR X27_14 r0 3)) v1 v3_9 X27_14) fun w22 X42_23 =>
if mT X42_23 (mR X27_14 (mR X27_14 r0 2) 3) = 15 then
if q_b X42_23 (mR X27_14 (mR X27_14 r0 2) 3) v2 then
nm (sJ X42_23 (mR X27_14 (mR X27_14 r0 2) 3) (v2).toNatClampNeg w22) fun X45_25 =>
if mT X45_25 r0 = 8 then
if mR X45_25 r0 2 ≠ 0 then
if mT X45_25 (mR X45_25 r0 2) = 10 then
if mR X45_25 (mR X45_25 r0 2) 4 ≠ 0 then
if mT X45_25 (mR X45_25 (mR X45_25 r0 2) 4) = 15 then
if q_b X45_25 (mR X45_25 (mR X45_25 r0 2) 4) v2 then
if mR X45_25 r0 3 ≠ 0 then
if mT X45_25 (mR X45_25 r0 3) = 3 then
bd (fX3_moneyFor ((mR X45_25 r0 3)) v1 v3_9 X45_25) fun w35 X62_36 =>
if mT X62_36 (mR X45_25 (mR X45_25 r0 2) 4) = 15 then
if q_b X62_36 (mR X45_25 (mR X45_25 r0 2) 4) v2 then
nm (sJ X62_36 (mR X45_25 (mR X45_25 r0 2) 4) (v2).toNatClampNeg ((mJ X45_25 (mR X45_25 (mR X45_25 r0 2) 4) (v2).toNatClampNeg) - w35)) fun X66_38 =>
if mT X66_38 r0 = 8 then
if mR X66_38 r0 2 ≠ 0 then
if mT X66_38 (mR X66_38 r0 2) = 10 then
if mR X66_38 (mR X66_38 r0 2) 3 ≠ 0 then
if mT X66_38 (mR X66_38 (mR X66_38 r0 2) 3) = 15 then
if q_b X66_38 (mR X66_38 (mR X66_38 r0 2) 3) v2 then
if (lg_cmp (mJ X66_38 (mR X66_38 (mR X66_38 r0 2) 3) (v2).toNatClampNeg) (0 : Int64)) = 0 then (
if mR X66_38 (mR X66_38 r0 2) 0 ≠ 0 then
if mT X66_38 (mR X66_38 (mR X66_38 r0 2) 0) = 14 then
if q_b X66_38 (mR X66_38 (mR X66_38 r0 2) 0) v2 then
if mR X66_38 (mR X66_38 r0 2) 1 ≠ 0 then
if mT X66_38 (mR X66_38 (mR X66_38 r0 2) 1) = 14 then
if q_b X66_38 (mR X66_38 (mR X66_38 r0 2) 1) v2 then
if mR X66_38 (mR X66_38 r0 2) 4 ≠ 0 then
if mT X66_38 (mR X66_38 (mR X66_38 r0 2) 4) = 15 then
if q_b X66_38 (mR X66_38 (mR X66_38 r0 2) 4) v2 then
bd (fX8_moveMoney r0 ((mI X66_38 (mR X66_38 (mR X66_38 r0 2) 0) (v2).toNatClampNeg)) ((mI X66_38 (mR X66_38 (mR X66_38 r0 2) 1) (v2).toNatClampNeg)) ((mJ X66_38 (mR X66_38 (mR X66_38 r0 2) 4) (v2).toNatClampNeg)) X66_38) fun _ X109_57 =>
if mT X109_57 r0 = 8 then
if mR X109_57 r0 2 ≠ 0 then
if mT X109_57 (mR X109_57 r0 2) = 10 then
bd (fX10_finish ((mR X109_57 r0 2)) v2 (2 : Int32) ((mI X109_57 r0 8)) X109_57) fun _ X122_61 =>
some ((), X122_61)
else none
else none
else none
else none
else none
else none
else none
else none
else none
else none
else none
else none
) else (
some ((), X66_38)
)
else none
else none
else none
else none
else none
else none
else none
else none
else none
else none
else none
else none
else none
else none
else none
else none
else none
else none
else none
else none
else none
else none
else none
else none
else none
else none
else none
else none
else none
else none
else none
else none
else none
else none
else none
else none
else none
else none
theorem sX8_turnTrade (r0 : Nat) (v1 : Int32) (v2 : Int32) : q_Ct yX8_turnTrade cX8_turnTrade 5 none 1 24 0 0 q_eV (fun P => [.ref (P + r0), .int v1, .int v2]) (fX8_turnTrade r0 v1 v2) := by
  refine q_meth (by decide +kernel) (fun P => Nat.le_of_ble_eq_true rfl) (fun E X C hn => ?_)
  show Sm E (q_fin E q_eV X 0 0) 0 0 0 [(0, .ref (q_P E + r0)), (1, .int v1), (2, .int v2)] [] X _
  unfold fX8_turnTrade
  refine q_aload_n C 0 dX8_turnTrade_0 rfl rfl ?_
  refine q_chk (fun h1 => ?_)
  refine q_chk (fun h2 => ?_)
  refine p_getR C fgX8_21 rfl dX8_turnTrade_1 h1 h2 ?_
  refine q_chk (fun h3 => ?_)
  refine q_chk (fun h4 => ?_)
  refine p_getR C fgX8_240 rfl dX8_turnTrade_4 h3 h4 ?_
  refine q_iload_n C 2 dX8_turnTrade_7 rfl rfl ?_
  refine q_chk (fun h5 => ?_)
  refine q_chk (fun h6 => ?_)
  refine p_lald C dX8_turnTrade_8 h5 h6 ?_
  refine q_nml (fun v3_9 => ?_)
  refine q_lstore_n C [(3, .long v3_9), (0, .ref (q_P E + r0)), (1, .int v1), (2, .int v2)] dX8_turnTrade_9 rfl (Nat.le_of_ble_eq_true rfl) rfl ?_
  refine q_aload_n C 1 dX8_turnTrade_10 rfl rfl ?_
  refine p_getR C fgX8_21 rfl dX8_turnTrade_11 h1 h2 ?_
  refine q_chk (fun h8 => ?_)
  refine p_getR C fgX8_234 rfl dX8_turnTrade_14 h3 h8 ?_
  refine q_iload_n C 3 dX8_turnTrade_17 rfl rfl ?_
  refine q_aload_n C 1 dX8_turnTrade_18 rfl rfl ?_
  refine q_chk (fun h9 => ?_)
  refine p_getR C fgX8_28 rfl dX8_turnTrade_19 h1 h9 ?_
  refine q_chk (fun h10 => ?_)
  refine q_chk (fun h11 => ?_)
  refine p_getR C fgX8_289 rfl dX8_turnTrade_22 h10 h11 ?_
  refine q_iload_n C 2 dX8_turnTrade_25 rfl rfl ?_
  refine q_chk (fun h12 => ?_)
  refine q_chk (fun h13 => ?_)
  refine p_iald C dX8_turnTrade_26 h12 h13 ?_
  refine q_chk (fun h15 => ?_)
  refine q_chk (fun h16 => ?_)
  refine p_iast C dX8_turnTrade_27 h15 h16 ?_
  refine q_nmX (fun X27_14 => ?_)
  refine q_aload_n C 1 dX8_turnTrade_28 rfl rfl ?_
  refine q_chk (fun h17 => ?_)
  refine q_chk (fun h18 => ?_)
  refine p_getR C fgX8_21 rfl dX8_turnTrade_29 h17 h18 ?_
  refine q_chk (fun h19 => ?_)
  refine q_chk (fun h20 => ?_)
  refine p_getR C fgX8_240 rfl dX8_turnTrade_32 h19 h20 ?_
  refine q_iload_n C 3 dX8_turnTrade_35 rfl rfl ?_
  refine q_aload_n C 1 dX8_turnTrade_36 rfl rfl ?_
  refine q_chk (fun h21 => ?_)
  refine p_getR C fgX8_28 rfl dX8_turnTrade_37 h17 h21 ?_
  refine q_iload_n C 2 dX8_turnTrade_40 rfl rfl ?_
  refine q_lload_n C 0 dX8_turnTrade_41 rfl rfl ?_
  refine q_chk (fun h24 => ?_)
  refine q_cVL (As := (fun P => [.int v1, .long v3_9])) C [.int v2, .ref (q_P E + (mR X27_14 (mR X27_14 r0 2) 3))] (sX3_sharesFor ((mR X27_14 r0 3)) v1 v3_9) fcX8_302 rfl (fun _ => rfl) ⟨Nat.le_of_ble_eq_true rfl, Nat.le_of_ble_eq_true rfl⟩ ⟨Nat.le_of_ble_eq_true rfl, Nat.le_of_ble_eq_true rfl⟩ (Nat.le_of_ble_eq_true rfl) dX8_turnTrade_42 h24 (fun w22 X42_23 => ?_)
  refine q_chk (fun h26 => ?_)
  refine q_chk (fun h27 => ?_)
  refine p_last C dX8_turnTrade_45 h26 h27 ?_
  refine q_nmX (fun X45_25 => ?_)
  refine q_aload_n C 1 dX8_turnTrade_46 rfl rfl ?_
  refine q_chk (fun h28 => ?_)
  refine q_chk (fun h29 => ?_)
  refine p_getR C fgX8_21 rfl dX8_turnTrade_47 h28 h29 ?_
  refine q_chk (fun h30 => ?_)
  refine q_chk (fun h31 => ?_)
  refine p_getR C fgX8_248 rfl dX8_turnTrade_50 h30 h31 ?_
  refine q_iload_n C 3 dX8_turnTrade_53 rfl rfl ?_
  refine q_dup2_11 C dX8_turnTrade_54 rfl rfl ?_
  refine q_chk (fun h32 => ?_)
  refine q_chk (fun h33 => ?_)
  refine p_lald C dX8_turnTrade_55 h32 h33 ?_
  refine q_aload_n C 1 dX8_turnTrade_56 rfl rfl ?_
  refine q_chk (fun h34 => ?_)
  refine p_getR C fgX8_28 rfl dX8_turnTrade_57 h28 h34 ?_
  refine q_iload_n C 2 dX8_turnTrade_60 rfl rfl ?_
  refine q_lload_n C 0 dX8_turnTrade_61 rfl rfl ?_
  refine q_chk (fun h37 => ?_)
  refine q_cVL (As := (fun P => [.int v1, .long v3_9])) C [.long (mJ X45_25 (mR X45_25 (mR X45_25 r0 2) 4) (v2).toNatClampNeg), .int v2, .ref (q_P E + (mR X45_25 (mR X45_25 r0 2) 4))] (sX3_moneyFor ((mR X45_25 r0 3)) v1 v3_9) fcX8_306 rfl (fun _ => rfl) ⟨Nat.le_of_ble_eq_true rfl, Nat.le_of_ble_eq_true rfl⟩ ⟨Nat.le_of_ble_eq_true rfl, Nat.le_of_ble_eq_true rfl⟩ (Nat.le_of_ble_eq_true rfl) dX8_turnTrade_62 h37 (fun w35 X62_36 => ?_)
  refine q_lsub C dX8_turnTrade_65 ?_
  refine q_chk (fun h39 => ?_)
  refine q_chk (fun h40 => ?_)
  refine p_last C dX8_turnTrade_66 h39 h40 ?_
  refine q_nmX (fun X66_38 => ?_)
  refine q_aload_n C 1 dX8_turnTrade_67 rfl rfl ?_
  refine q_chk (fun h41 => ?_)
  refine q_chk (fun h42 => ?_)
  refine p_getR C fgX8_21 rfl dX8_turnTrade_68 h41 h42 ?_
  refine q_chk (fun h43 => ?_)
  refine q_chk (fun h44 => ?_)
  refine p_getR C fgX8_240 rfl dX8_turnTrade_71 h43 h44 ?_
  refine q_iload_n C 3 dX8_turnTrade_74 rfl rfl ?_
  refine q_chk (fun h45 => ?_)
  refine q_chk (fun h46 => ?_)
  refine p_lald C dX8_turnTrade_75 h45 h46 ?_
  refine q_lconst C (0 : Int64) dX8_turnTrade_76 rfl ?_
  refine q_lcmp C dX8_turnTrade_77 ?_
  refine q_if_ne C 125 dX8_turnTrade_78 (by decide) (fun _ => ?_) (fun _ => ?_)
  · refine q_aload_n C 1 dX8_turnTrade_81 rfl rfl ?_
    refine q_aload_n C 1 dX8_turnTrade_82 rfl rfl ?_
    refine p_getR C fgX8_21 rfl dX8_turnTrade_83 h41 h42 ?_
    refine q_chk (fun h47 => ?_)
    refine p_getR C fgX8_245 rfl dX8_turnTrade_86 h43 h47 ?_
    refine q_iload_n C 3 dX8_turnTrade_89 rfl rfl ?_
    refine q_chk (fun h48 => ?_)
    refine q_chk (fun h49 => ?_)
    refine p_iald C dX8_turnTrade_90 h48 h49 ?_
    refine q_aload_n C 1 dX8_turnTrade_91 rfl rfl ?_
    refine p_getR C fgX8_21 rfl dX8_turnTrade_92 h41 h42 ?_
    refine q_chk (fun h50 => ?_)
    refine p_getR C fgX8_232 rfl dX8_turnTrade_95 h43 h50 ?_
    refine q_iload_n C 3 dX8_turnTrade_98 rfl rfl ?_
    refine q_chk (fun h51 => ?_)
    refine q_chk (fun h52 => ?_)
    refine p_iald C dX8_turnTrade_99 h51 h52 ?_
    refine q_aload_n C 1 dX8_turnTrade_100 rfl rfl ?_
    refine p_getR C fgX8_21 rfl dX8_turnTrade_101 h41 h42 ?_
    refine q_chk (fun h53 => ?_)
    refine p_getR C fgX8_248 rfl dX8_turnTrade_104 h43 h53 ?_
    refine q_iload_n C 3 dX8_turnTrade_107 rfl rfl ?_
    refine q_chk (fun h54 => ?_)
    refine q_chk (fun h55 => ?_)
    refine p_lald C dX8_turnTrade_108 h54 h55 ?_
    refine q_cVV (As := (fun P => [.int (mI X66_38 (mR X66_38 (mR X66_38 r0 2) 0) (v2).toNatClampNeg), .int (mI X66_38 (mR X66_38 (mR X66_38 r0 2) 1) (v2).toNatClampNeg), .long (mJ X66_38 (mR X66_38 (mR X66_38 r0 2) 4) (v2).toNatClampNeg)])) C [] (sX8_moveMoney r0 ((mI X66_38 (mR X66_38 (mR X66_38 r0 2) 0) (v2).toNatClampNeg)) ((mI X66_38 (mR X66_38 (mR X66_38 r0 2) 1) (v2).toNatClampNeg)) ((mJ X66_38 (mR X66_38 (mR X66_38 r0 2) 4) (v2).toNatClampNeg))) fcX8_250 rfl (fun _ => rfl) ⟨Nat.le_of_ble_eq_true rfl, Nat.le_of_ble_eq_true rfl⟩ ⟨Nat.le_of_ble_eq_true rfl, Nat.le_of_ble_eq_true rfl⟩ (Nat.le_of_ble_eq_true rfl) dX8_turnTrade_109 h41 (fun _ X109_57 => ?_)
    refine q_aload_n C 1 dX8_turnTrade_112 rfl rfl ?_
    refine q_chk (fun h58 => ?_)
    refine q_chk (fun h59 => ?_)
    refine p_getR C fgX8_21 rfl dX8_turnTrade_113 h58 h59 ?_
    refine q_iload_n C 3 dX8_turnTrade_116 rfl rfl ?_
    refine q_iconst C (2 : Int32) dX8_turnTrade_117 rfl ?_
    refine q_aload_n C 1 dX8_turnTrade_118 rfl rfl ?_
    refine p_getI C fgX8_68 rfl dX8_turnTrade_119 h58 ?_
    refine q_chk (fun h62 => ?_)
    refine q_cVV (As := (fun P => [.int v2, .int (2 : Int32), .int (mI X109_57 r0 8)])) C [] (sX10_finish ((mR X109_57 r0 2)) v2 (2 : Int32) ((mI X109_57 r0 8))) fcX8_253 rfl (fun _ => rfl) ⟨Nat.le_of_ble_eq_true rfl, Nat.le_of_ble_eq_true rfl⟩ ⟨Nat.le_of_ble_eq_true rfl, Nat.le_of_ble_eq_true rfl⟩ (Nat.le_of_ble_eq_true rfl) dX8_turnTrade_122 h62 (fun _ X122_61 => ?_)
    exact q_vret C dX8_turnTrade_125
  · exact q_vret C dX8_turnTrade_125
