/-! RecordClaims$History.<init>()V -/
abbrev cX4_init : ByteArray := prog_6_method_1_code
def yX4_init : MethodName := ⟨RX4, "<init>", "()V"⟩
theorem dX4_init_0 : decode cX4_init 0 = .ok (.aload_n 0, 1) := by decide +kernel
theorem dX4_init_1 : decode cX4_init 1 = .ok (.invokespecial 3, 3) := by decide +kernel
theorem dX4_init_4 : decode cX4_init 4 = .ok (.aload_n 0, 1) := by decide +kernel
theorem dX4_init_5 : decode cX4_init 5 = .ok (.bipush 7, 2) := by decide +kernel
theorem dX4_init_7 : decode cX4_init 7 = .ok (.anewarray 9, 3) := by decide +kernel
theorem dX4_init_10 : decode cX4_init 10 = .ok (.putfield 11, 3) := by decide +kernel
theorem dX4_init_13 : decode cX4_init 13 = .ok (.iconst 0, 1) := by decide +kernel
theorem dX4_init_14 : decode cX4_init 14 = .ok (.istore_n 1, 1) := by decide +kernel
theorem dX4_init_15 : decode cX4_init 15 = .ok (.iload_n 1, 1) := by decide +kernel
theorem dX4_init_16 : decode cX4_init 16 = .ok (.bipush 6, 2) := by decide +kernel
theorem dX4_init_18 : decode cX4_init 18 = .ok (.if_icmp .gt 22, 3) := by decide +kernel
theorem dX4_init_21 : decode cX4_init 21 = .ok (.aload_n 0, 1) := by decide +kernel
theorem dX4_init_22 : decode cX4_init 22 = .ok (.getfield 11, 3) := by decide +kernel
theorem dX4_init_25 : decode cX4_init 25 = .ok (.iload_n 1, 1) := by decide +kernel
theorem dX4_init_26 : decode cX4_init 26 = .ok (.new 9, 3) := by decide +kernel
theorem dX4_init_29 : decode cX4_init 29 = .ok (.dup, 1) := by decide +kernel
theorem dX4_init_30 : decode cX4_init 30 = .ok (.invokespecial 17, 3) := by decide +kernel
theorem dX4_init_33 : decode cX4_init 33 = .ok (.aastore, 1) := by decide +kernel
theorem dX4_init_34 : decode cX4_init 34 = .ok (.iinc 1 1, 3) := by decide +kernel
theorem dX4_init_37 : decode cX4_init 37 = .ok (.goto (-22), 3) := by decide +kernel
theorem dX4_init_40 : decode cX4_init 40 = .ok (.return_, 1) := by decide +kernel
theorem fwX4_3_oi : Cond.methodLink RX4 3 Lib.objectInit ∈ q_tbl := q_tb 437 (by decide +kernel) rfl
theorem fqX4_9 : Cond.classLink RX4 9 "RecordClaims$State" ∈ q_tbl := q_tb 438 (by decide +kernel) rfl
theorem fpX4_11 : q_Fp RX4 11 4 0 (.array (.object "RecordClaims$State")) true := ⟨RX4, TX4, 3, tyX4, rfl, by decide, inX4, q_tb 441 (by decide +kernel) rfl, tyX4_ok, nmX4, rfl, rfl, fun h => by first | rfl | cases h⟩
theorem fgX4_11 : q_Fg RX4 11 4 0 := q_Fg.of (C := RX4) (T := TX4) (N := 3) rfl (by decide) inX4 441 (by decide +kernel) rfl rfl
theorem fnX4_9 : q_LN RX4 9 8 9 := ⟨RX8, TX8, tyX8, rfl, inX8, tyX8_ok, q_tb 438 (by decide +kernel) rfl, q_tb 211 (by decide +kernel) rfl, q_tb 5 (by decide +kernel) rfl, fun P j hj => by
  have h : ∀ j, j < 9 → defaultValue (tyX8 j) = q_fv 0 (fun _ => 0) (fun _ => 0) (fun _ => 0) 8 j := by decide +kernel
  exact h j hj⟩
theorem fcX4_17 : q_LI RX4 17 yX8_init cX8_init 1 0 := ⟨Or.inr ⟨"RecordClaims", List.mem_append_right _ (List.mem_of_getElem? (i := 440) (by decide +kernel))⟩, q_tb 213 (by decide +kernel) rfl, q_tb 5 (by decide +kernel) rfl, q_tb 214 (by decide +kernel) rfl, rfl, ⟨by decide +kernel, by decide +kernel, by decide +kernel⟩⟩
def fX4_init (r0 : Nat) (X : Mm) : Option (Unit × Mm) :=
nm (mN X + 1) fun rN2 =>
nm (q_nw X 17 7) fun X7_1 =>
if mT X7_1 r0 = 4 then
if rN2 ≠ 0 then
nm (sR X7_1 r0 0 rN2) fun X10_3 =>
if (6 : Int32) < (0 : Int32) then none else
if mT X10_3 r0 = 4 then
if mR X10_3 r0 0 ≠ 0 then
nm (mN X10_3 + 1) fun rN9 =>
nm (q_nw X10_3 8 9) fun X26_8 =>
bd (fX8_init rN9 X26_8) fun _ X30_11 =>
if mT X30_11 (mR X10_3 r0 0) = 17 then
if q_b X30_11 (mR X10_3 r0 0) (0 : Int32) then
if mT X30_11 rN9 = 8 then
nm (sR X30_11 (mR X10_3 r0 0) ((0 : Int32)).toNatClampNeg rN9) fun X33_12 =>
if (6 : Int32) < (1 : Int32) then none else
if mT X33_12 r0 = 4 then
if mR X33_12 r0 0 ≠ 0 then
nm (mN X33_12 + 1) fun rN19 =>
nm (q_nw X33_12 8 9) fun X26_18 =>
bd (fX8_init rN19 X26_18) fun _ X30_21 =>
if mT X30_21 (mR X33_12 r0 0) = 17 then
if q_b X30_21 (mR X33_12 r0 0) (1 : Int32) then
if mT X30_21 rN19 = 8 then
nm (sR X30_21 (mR X33_12 r0 0) ((1 : Int32)).toNatClampNeg rN19) fun X33_22 =>
if (6 : Int32) < (2 : Int32) then none else
if mT X33_22 r0 = 4 then
if mR X33_22 r0 0 ≠ 0 then
nm (mN X33_22 + 1) fun rN29 =>
nm (q_nw X33_22 8 9) fun X26_28 =>
bd (fX8_init rN29 X26_28) fun _ X30_31 =>
if mT X30_31 (mR X33_22 r0 0) = 17 then
if q_b X30_31 (mR X33_22 r0 0) (2 : Int32) then
if mT X30_31 rN29 = 8 then
nm (sR X30_31 (mR X33_22 r0 0) ((2 : Int32)).toNatClampNeg rN29) fun X33_32 =>
if (6 : Int32) < (3 : Int32) then none else
if mT X33_32 r0 = 4 then
if mR X33_32 r0 0 ≠ 0 then
nm (mN X33_32 + 1) fun rN39 =>
nm (q_nw X33_32 8 9) fun X26_38 =>
bd (fX8_init rN39 X26_38) fun _ X30_41 =>
if mT X30_41 (mR X33_32 r0 0) = 17 then
if q_b X30_41 (mR X33_32 r0 0) (3 : Int32) then
if mT X30_41 rN39 = 8 then
nm (sR X30_41 (mR X33_32 r0 0) ((3 : Int32)).toNatClampNeg rN39) fun X33_42 =>
if (6 : Int32) < (4 : Int32) then none else
if mT X33_42 r0 = 4 then
if mR X33_42 r0 0 ≠ 0 then
nm (mN X33_42 + 1) fun rN49 =>
nm (q_nw X33_42 8 9) fun X26_48 =>
bd (fX8_init rN49 X26_48) fun _ X30_51 =>
if mT X30_51 (mR X33_42 r0 0) = 17 then
if q_b X30_51 (mR X33_42 r0 0) (4 : Int32) then
if mT X30_51 rN49 = 8 then
nm (sR X30_51 (mR X33_42 r0 0) ((4 : Int32)).toNatClampNeg rN49) fun X33_52 =>
if (6 : Int32) < (5 : Int32) then none else
if mT X33_52 r0 = 4 then
if mR X33_52 r0 0 ≠ 0 then
nm (mN X33_52 + 1) fun rN59 =>
nm (q_nw X33_52 8 9) fun X26_58 =>
bd (fX8_init rN59 X26_58) fun _ X30_61 =>
if mT X30_61 (mR X33_52 r0 0) = 17 then
if q_b X30_61 (mR X33_52 r0 0) (5 : Int32) then
if mT X30_61 rN59 = 8 then
nm (sR X30_61 (mR X33_52 r0 0) ((5 : Int32)).toNatClampNeg rN59) fun X33_62 =>
if (6 : Int32) < (6 : Int32) then none else
if mT X33_62 r0 = 4 then
if mR X33_62 r0 0 ≠ 0 then
nm (mN X33_62 + 1) fun rN69 =>
nm (q_nw X33_62 8 9) fun X26_68 =>
bd (fX8_init rN69 X26_68) fun _ X30_71 =>
if mT X30_71 (mR X33_62 r0 0) = 17 then
if q_b X30_71 (mR X33_62 r0 0) (6 : Int32) then
if mT X30_71 rN69 = 8 then
nm (sR X30_71 (mR X33_62 r0 0) ((6 : Int32)).toNatClampNeg rN69) fun X33_72 =>
if (6 : Int32) < (7 : Int32) then
some ((), X33_72)
else none
else none
else none
else none
else none
else none
else none
else none
else none
else none
else none
else none
else none
else none
else none
else none
else none
else none
else none
else none
else none
else none
else none
else none
else none
else none
else none
else none
else none
else none
else none
else none
else none
else none
else none
else none
else none
else none
theorem sX4_init (r0 : Nat) : q_Ct yX4_init cX4_init 2 none 3 60 302 25592 q_eV (fun P => [.ref (P + r0)]) (fX4_init r0) := by
  refine q_meth (by decide +kernel) (fun P => Nat.le_of_ble_eq_true rfl) (fun E X C hn => ?_)
  show Sm E (q_fin E q_eV X 302 25592) 0 0 0 [(0, .ref (q_P E + r0))] [] X _
  unfold fX4_init
  refine q_aload_n C 0 dX4_init_0 rfl rfl ?_
  refine q_objInit C fwX4_3_oi fw_oi2 fw_oi3 ⟨Nat.le_of_ble_eq_true rfl, Nat.le_of_ble_eq_true rfl⟩ dX4_init_1 ?_
  refine q_aload_n C 0 dX4_init_4 rfl rfl ?_
  refine q_bipush C (7 : Int32) dX4_init_5 rfl ?_
  refine q_newq (N := 7) C fqX4_9 (by decide) rfl (Nat.le_of_ble_eq_true rfl) ⟨Nat.le_of_ble_eq_true rfl, Nat.le_of_ble_eq_true rfl⟩ dX4_init_7 ?_
  refine q_nmr (fun rN2 => ?_)
  refine q_nmX (fun X7_1 => ?_)
  refine q_chk (fun h4 => ?_)
  refine q_chk (fun h5 => ?_)
  refine p_putF C fpX4_11 hn (fun _ => rfl) (fun _ => rfl) rfl dX4_init_10 h4 h5 ?_
  refine q_nmX (fun X10_3 => ?_)
  refine q_iconst C (0 : Int32) dX4_init_13 rfl ?_
  refine q_istore_n C [(1, .int (0 : Int32)), (0, .ref (q_P E + r0))] dX4_init_14 rfl (Nat.le_of_ble_eq_true rfl) rfl ?_
  refine q_iload_n C 0 dX4_init_15 rfl rfl ?_
  refine q_bipush C (6 : Int32) dX4_init_16 rfl ?_
  refine q_icmp_gt C 40 dX4_init_18 (by decide) (fun h => absurd h (by decide)) (fun _ => ?_)
  refine q_aload_n C 1 dX4_init_21 rfl rfl ?_
  refine q_chk (fun h6 => ?_)
  refine q_chk (fun h7 => ?_)
  refine p_getR C fgX4_11 rfl dX4_init_22 h6 h7 ?_
  refine q_iload_n C 0 dX4_init_25 rfl rfl ?_
  refine q_new C fnX4_9 ⟨Nat.le_of_ble_eq_true rfl, Nat.le_of_ble_eq_true rfl⟩ dX4_init_26 ?_
  refine q_nmr (fun rN9 => ?_)
  refine q_nmX (fun X26_8 => ?_)
  refine q_dup C dX4_init_29 rfl ?_
  refine q_callI (As := (fun P => [])) (st := [.ref (q_P E + rN9), .int (0 : Int32), .ref (q_P E + (mR X10_3 r0 0))]) C (sX8_init rN9) fcX4_17 rfl (fun _ => rfl) ⟨Nat.le_of_ble_eq_true rfl, Nat.le_of_ble_eq_true rfl⟩ ⟨Nat.le_of_ble_eq_true rfl, Nat.le_of_ble_eq_true rfl⟩ (Nat.le_of_ble_eq_true rfl) dX4_init_30 (fun X30_11 => ?_)
  show Sm E (q_fin E q_eV X 302 25592) 44 3662 33 [(1, .int (0 : Int32)), (0, .ref (q_P E + r0))] [.ref (q_P E + rN9), .int (0 : Int32), .ref (q_P E + (mR X10_3 r0 0))] X30_11 _
  refine q_chk (fun h13 => ?_)
  refine q_chk (fun h14 => ?_)
  refine q_chk (fun h15 => ?_)
  refine p_aast C dX4_init_33 h13 h14 h15 ?_
  refine q_nmX (fun X33_12 => ?_)
  refine q_iinc C 0 [(1, .int (1 : Int32)), (0, .ref (q_P E + r0))] dX4_init_34 rfl (v := (1 : Int32)) rfl (Nat.le_of_ble_eq_true rfl) rfl ?_
  refine q_goto C 15 dX4_init_37 (by decide) ?_
  refine q_iload_n C 0 dX4_init_15 rfl rfl ?_
  refine q_bipush C (6 : Int32) dX4_init_16 rfl ?_
  refine q_icmp_gt C 40 dX4_init_18 (by decide) (fun h => absurd h (by decide)) (fun _ => ?_)
  refine q_aload_n C 1 dX4_init_21 rfl rfl ?_
  refine q_chk (fun h16 => ?_)
  refine q_chk (fun h17 => ?_)
  refine p_getR C fgX4_11 rfl dX4_init_22 h16 h17 ?_
  refine q_iload_n C 0 dX4_init_25 rfl rfl ?_
  refine q_new C fnX4_9 ⟨Nat.le_of_ble_eq_true rfl, Nat.le_of_ble_eq_true rfl⟩ dX4_init_26 ?_
  refine q_nmr (fun rN19 => ?_)
  refine q_nmX (fun X26_18 => ?_)
  refine q_dup C dX4_init_29 rfl ?_
  refine q_callI (As := (fun P => [])) (st := [.ref (q_P E + rN19), .int (1 : Int32), .ref (q_P E + (mR X33_12 r0 0))]) C (sX8_init rN19) fcX4_17 rfl (fun _ => rfl) ⟨Nat.le_of_ble_eq_true rfl, Nat.le_of_ble_eq_true rfl⟩ ⟨Nat.le_of_ble_eq_true rfl, Nat.le_of_ble_eq_true rfl⟩ (Nat.le_of_ble_eq_true rfl) dX4_init_30 (fun X30_21 => ?_)
  show Sm E (q_fin E q_eV X 302 25592) 87 7317 33 [(1, .int (1 : Int32)), (0, .ref (q_P E + r0))] [.ref (q_P E + rN19), .int (1 : Int32), .ref (q_P E + (mR X33_12 r0 0))] X30_21 _
  refine q_chk (fun h23 => ?_)
  refine q_chk (fun h24 => ?_)
  refine q_chk (fun h25 => ?_)
  refine p_aast C dX4_init_33 h23 h24 h25 ?_
  refine q_nmX (fun X33_22 => ?_)
  refine q_iinc C 0 [(1, .int (2 : Int32)), (0, .ref (q_P E + r0))] dX4_init_34 rfl (v := (2 : Int32)) rfl (Nat.le_of_ble_eq_true rfl) rfl ?_
  refine q_goto C 15 dX4_init_37 (by decide) ?_
  refine q_iload_n C 0 dX4_init_15 rfl rfl ?_
  refine q_bipush C (6 : Int32) dX4_init_16 rfl ?_
  refine q_icmp_gt C 40 dX4_init_18 (by decide) (fun h => absurd h (by decide)) (fun _ => ?_)
  refine q_aload_n C 1 dX4_init_21 rfl rfl ?_
  refine q_chk (fun h26 => ?_)
  refine q_chk (fun h27 => ?_)
  refine p_getR C fgX4_11 rfl dX4_init_22 h26 h27 ?_
  refine q_iload_n C 0 dX4_init_25 rfl rfl ?_
  refine q_new C fnX4_9 ⟨Nat.le_of_ble_eq_true rfl, Nat.le_of_ble_eq_true rfl⟩ dX4_init_26 ?_
  refine q_nmr (fun rN29 => ?_)
  refine q_nmX (fun X26_28 => ?_)
  refine q_dup C dX4_init_29 rfl ?_
  refine q_callI (As := (fun P => [])) (st := [.ref (q_P E + rN29), .int (2 : Int32), .ref (q_P E + (mR X33_22 r0 0))]) C (sX8_init rN29) fcX4_17 rfl (fun _ => rfl) ⟨Nat.le_of_ble_eq_true rfl, Nat.le_of_ble_eq_true rfl⟩ ⟨Nat.le_of_ble_eq_true rfl, Nat.le_of_ble_eq_true rfl⟩ (Nat.le_of_ble_eq_true rfl) dX4_init_30 (fun X30_31 => ?_)
  show Sm E (q_fin E q_eV X 302 25592) 130 10972 33 [(1, .int (2 : Int32)), (0, .ref (q_P E + r0))] [.ref (q_P E + rN29), .int (2 : Int32), .ref (q_P E + (mR X33_22 r0 0))] X30_31 _
  refine q_chk (fun h33 => ?_)
  refine q_chk (fun h34 => ?_)
  refine q_chk (fun h35 => ?_)
  refine p_aast C dX4_init_33 h33 h34 h35 ?_
  refine q_nmX (fun X33_32 => ?_)
  refine q_iinc C 0 [(1, .int (3 : Int32)), (0, .ref (q_P E + r0))] dX4_init_34 rfl (v := (3 : Int32)) rfl (Nat.le_of_ble_eq_true rfl) rfl ?_
  refine q_goto C 15 dX4_init_37 (by decide) ?_
  refine q_iload_n C 0 dX4_init_15 rfl rfl ?_
  refine q_bipush C (6 : Int32) dX4_init_16 rfl ?_
  refine q_icmp_gt C 40 dX4_init_18 (by decide) (fun h => absurd h (by decide)) (fun _ => ?_)
  refine q_aload_n C 1 dX4_init_21 rfl rfl ?_
  refine q_chk (fun h36 => ?_)
  refine q_chk (fun h37 => ?_)
  refine p_getR C fgX4_11 rfl dX4_init_22 h36 h37 ?_
  refine q_iload_n C 0 dX4_init_25 rfl rfl ?_
  refine q_new C fnX4_9 ⟨Nat.le_of_ble_eq_true rfl, Nat.le_of_ble_eq_true rfl⟩ dX4_init_26 ?_
  refine q_nmr (fun rN39 => ?_)
  refine q_nmX (fun X26_38 => ?_)
  refine q_dup C dX4_init_29 rfl ?_
  refine q_callI (As := (fun P => [])) (st := [.ref (q_P E + rN39), .int (3 : Int32), .ref (q_P E + (mR X33_32 r0 0))]) C (sX8_init rN39) fcX4_17 rfl (fun _ => rfl) ⟨Nat.le_of_ble_eq_true rfl, Nat.le_of_ble_eq_true rfl⟩ ⟨Nat.le_of_ble_eq_true rfl, Nat.le_of_ble_eq_true rfl⟩ (Nat.le_of_ble_eq_true rfl) dX4_init_30 (fun X30_41 => ?_)
  show Sm E (q_fin E q_eV X 302 25592) 173 14627 33 [(1, .int (3 : Int32)), (0, .ref (q_P E + r0))] [.ref (q_P E + rN39), .int (3 : Int32), .ref (q_P E + (mR X33_32 r0 0))] X30_41 _
  refine q_chk (fun h43 => ?_)
  refine q_chk (fun h44 => ?_)
  refine q_chk (fun h45 => ?_)
  refine p_aast C dX4_init_33 h43 h44 h45 ?_
  refine q_nmX (fun X33_42 => ?_)
  refine q_iinc C 0 [(1, .int (4 : Int32)), (0, .ref (q_P E + r0))] dX4_init_34 rfl (v := (4 : Int32)) rfl (Nat.le_of_ble_eq_true rfl) rfl ?_
  refine q_goto C 15 dX4_init_37 (by decide) ?_
  refine q_iload_n C 0 dX4_init_15 rfl rfl ?_
  refine q_bipush C (6 : Int32) dX4_init_16 rfl ?_
  refine q_icmp_gt C 40 dX4_init_18 (by decide) (fun h => absurd h (by decide)) (fun _ => ?_)
  refine q_aload_n C 1 dX4_init_21 rfl rfl ?_
  refine q_chk (fun h46 => ?_)
  refine q_chk (fun h47 => ?_)
  refine p_getR C fgX4_11 rfl dX4_init_22 h46 h47 ?_
  refine q_iload_n C 0 dX4_init_25 rfl rfl ?_
  refine q_new C fnX4_9 ⟨Nat.le_of_ble_eq_true rfl, Nat.le_of_ble_eq_true rfl⟩ dX4_init_26 ?_
  refine q_nmr (fun rN49 => ?_)
  refine q_nmX (fun X26_48 => ?_)
  refine q_dup C dX4_init_29 rfl ?_
  refine q_callI (As := (fun P => [])) (st := [.ref (q_P E + rN49), .int (4 : Int32), .ref (q_P E + (mR X33_42 r0 0))]) C (sX8_init rN49) fcX4_17 rfl (fun _ => rfl) ⟨Nat.le_of_ble_eq_true rfl, Nat.le_of_ble_eq_true rfl⟩ ⟨Nat.le_of_ble_eq_true rfl, Nat.le_of_ble_eq_true rfl⟩ (Nat.le_of_ble_eq_true rfl) dX4_init_30 (fun X30_51 => ?_)
  show Sm E (q_fin E q_eV X 302 25592) 216 18282 33 [(1, .int (4 : Int32)), (0, .ref (q_P E + r0))] [.ref (q_P E + rN49), .int (4 : Int32), .ref (q_P E + (mR X33_42 r0 0))] X30_51 _
  refine q_chk (fun h53 => ?_)
  refine q_chk (fun h54 => ?_)
  refine q_chk (fun h55 => ?_)
  refine p_aast C dX4_init_33 h53 h54 h55 ?_
  refine q_nmX (fun X33_52 => ?_)
  refine q_iinc C 0 [(1, .int (5 : Int32)), (0, .ref (q_P E + r0))] dX4_init_34 rfl (v := (5 : Int32)) rfl (Nat.le_of_ble_eq_true rfl) rfl ?_
  refine q_goto C 15 dX4_init_37 (by decide) ?_
  refine q_iload_n C 0 dX4_init_15 rfl rfl ?_
  refine q_bipush C (6 : Int32) dX4_init_16 rfl ?_
  refine q_icmp_gt C 40 dX4_init_18 (by decide) (fun h => absurd h (by decide)) (fun _ => ?_)
  refine q_aload_n C 1 dX4_init_21 rfl rfl ?_
  refine q_chk (fun h56 => ?_)
  refine q_chk (fun h57 => ?_)
  refine p_getR C fgX4_11 rfl dX4_init_22 h56 h57 ?_
  refine q_iload_n C 0 dX4_init_25 rfl rfl ?_
  refine q_new C fnX4_9 ⟨Nat.le_of_ble_eq_true rfl, Nat.le_of_ble_eq_true rfl⟩ dX4_init_26 ?_
  refine q_nmr (fun rN59 => ?_)
  refine q_nmX (fun X26_58 => ?_)
  refine q_dup C dX4_init_29 rfl ?_
  refine q_callI (As := (fun P => [])) (st := [.ref (q_P E + rN59), .int (5 : Int32), .ref (q_P E + (mR X33_52 r0 0))]) C (sX8_init rN59) fcX4_17 rfl (fun _ => rfl) ⟨Nat.le_of_ble_eq_true rfl, Nat.le_of_ble_eq_true rfl⟩ ⟨Nat.le_of_ble_eq_true rfl, Nat.le_of_ble_eq_true rfl⟩ (Nat.le_of_ble_eq_true rfl) dX4_init_30 (fun X30_61 => ?_)
  show Sm E (q_fin E q_eV X 302 25592) 259 21937 33 [(1, .int (5 : Int32)), (0, .ref (q_P E + r0))] [.ref (q_P E + rN59), .int (5 : Int32), .ref (q_P E + (mR X33_52 r0 0))] X30_61 _
  refine q_chk (fun h63 => ?_)
  refine q_chk (fun h64 => ?_)
  refine q_chk (fun h65 => ?_)
  refine p_aast C dX4_init_33 h63 h64 h65 ?_
  refine q_nmX (fun X33_62 => ?_)
  refine q_iinc C 0 [(1, .int (6 : Int32)), (0, .ref (q_P E + r0))] dX4_init_34 rfl (v := (6 : Int32)) rfl (Nat.le_of_ble_eq_true rfl) rfl ?_
  refine q_goto C 15 dX4_init_37 (by decide) ?_
  refine q_iload_n C 0 dX4_init_15 rfl rfl ?_
  refine q_bipush C (6 : Int32) dX4_init_16 rfl ?_
  refine q_icmp_gt C 40 dX4_init_18 (by decide) (fun h => absurd h (by decide)) (fun _ => ?_)
  refine q_aload_n C 1 dX4_init_21 rfl rfl ?_
  refine q_chk (fun h66 => ?_)
  refine q_chk (fun h67 => ?_)
  refine p_getR C fgX4_11 rfl dX4_init_22 h66 h67 ?_
  refine q_iload_n C 0 dX4_init_25 rfl rfl ?_
  refine q_new C fnX4_9 ⟨Nat.le_of_ble_eq_true rfl, Nat.le_of_ble_eq_true rfl⟩ dX4_init_26 ?_
  refine q_nmr (fun rN69 => ?_)
  refine q_nmX (fun X26_68 => ?_)
  refine q_dup C dX4_init_29 rfl ?_
  refine q_callI (As := (fun P => [])) (st := [.ref (q_P E + rN69), .int (6 : Int32), .ref (q_P E + (mR X33_62 r0 0))]) C (sX8_init rN69) fcX4_17 rfl (fun _ => rfl) ⟨Nat.le_of_ble_eq_true rfl, Nat.le_of_ble_eq_true rfl⟩ ⟨Nat.le_of_ble_eq_true rfl, Nat.le_of_ble_eq_true rfl⟩ (Nat.le_of_ble_eq_true rfl) dX4_init_30 (fun X30_71 => ?_)
  show Sm E (q_fin E q_eV X 302 25592) 302 25592 33 [(1, .int (6 : Int32)), (0, .ref (q_P E + r0))] [.ref (q_P E + rN69), .int (6 : Int32), .ref (q_P E + (mR X33_62 r0 0))] X30_71 _
  refine q_chk (fun h73 => ?_)
  refine q_chk (fun h74 => ?_)
  refine q_chk (fun h75 => ?_)
  refine p_aast C dX4_init_33 h73 h74 h75 ?_
  refine q_nmX (fun X33_72 => ?_)
  refine q_iinc C 0 [(1, .int (7 : Int32)), (0, .ref (q_P E + r0))] dX4_init_34 rfl (v := (7 : Int32)) rfl (Nat.le_of_ble_eq_true rfl) rfl ?_
  refine q_goto C 15 dX4_init_37 (by decide) ?_
  refine q_iload_n C 0 dX4_init_15 rfl rfl ?_
  refine q_bipush C (6 : Int32) dX4_init_16 rfl ?_
  refine q_icmp_gt C 40 dX4_init_18 (by decide) (fun _ => ?_) (fun h => absurd (by decide) h)
  exact q_vret C dX4_init_40
/-! RecordClaims$History.spare()LRecordClaims$State; -/
abbrev cX4_spare : ByteArray := prog_6_method_2_code
def yX4_spare : MethodName := ⟨RX4, "spare", "()LRecordClaims$State;"⟩
theorem dX4_spare_0 : decode cX4_spare 0 = .ok (.aload_n 0, 1) := by decide +kernel
theorem dX4_spare_1 : decode cX4_spare 1 = .ok (.getfield 11, 3) := by decide +kernel
theorem dX4_spare_4 : decode cX4_spare 4 = .ok (.aload_n 0, 1) := by decide +kernel
theorem dX4_spare_5 : decode cX4_spare 5 = .ok (.getfield 18, 3) := by decide +kernel
theorem dX4_spare_8 : decode cX4_spare 8 = .ok (.aaload, 1) := by decide +kernel
theorem dX4_spare_9 : decode cX4_spare 9 = .ok (.areturn, 1) := by decide +kernel
theorem fgX4_18 : q_Fg RX4 18 4 1 := q_Fg.of (C := RX4) (T := TX4) (N := 3) rfl (by decide) inX4 442 (by decide +kernel) rfl rfl
def fX4_spare (r0 : Nat) (X : Mm) : Option (Nat × Mm) :=
if mT X r0 = 4 then
if mR X r0 0 ≠ 0 then
if mT X (mR X r0 0) = 17 then
if q_b X (mR X r0 0) (mI X r0 1) then
if mR X (mR X r0 0) ((mI X r0 1)).toNatClampNeg ≠ 0 then
some ((mR X (mR X r0 0) ((mI X r0 1)).toNatClampNeg), X)
else none
else none
else none
else none
else none
theorem sX4_spare (r0 : Nat) : q_Ct yX4_spare cX4_spare 1 (some (.object "RecordClaims$State")) 0 0 0 0 q_eR (fun P => [.ref (P + r0)]) (fX4_spare r0) := by
  refine q_meth (by decide +kernel) (fun P => Nat.le_of_ble_eq_true rfl) (fun E X C hn => ?_)
  show Sm E (q_fin E q_eR X 0 0) 0 0 0 [(0, .ref (q_P E + r0))] [] X _
  unfold fX4_spare
  refine q_aload_n C 0 dX4_spare_0 rfl rfl ?_
  refine q_chk (fun h1 => ?_)
  refine q_chk (fun h2 => ?_)
  refine p_getR C fgX4_11 rfl dX4_spare_1 h1 h2 ?_
  refine q_aload_n C 0 dX4_spare_4 rfl rfl ?_
  refine p_getI C fgX4_18 rfl dX4_spare_5 h1 ?_
  refine q_chk (fun h3 => ?_)
  refine q_chk (fun h4 => ?_)
  refine q_chk (fun h5 => ?_)
  refine p_aald C dX4_spare_8 h3 h4 h5 ?_
  exact q_aret C dX4_spare_9
/-! RecordClaims$History.keepSpare()V -/
abbrev cX4_keepSpare : ByteArray := prog_6_method_3_code
def yX4_keepSpare : MethodName := ⟨RX4, "keepSpare", "()V"⟩
theorem dX4_keepSpare_0 : decode cX4_keepSpare 0 = .ok (.aload_n 0, 1) := by decide +kernel
theorem dX4_keepSpare_1 : decode cX4_keepSpare 1 = .ok (.aload_n 0, 1) := by decide +kernel
theorem dX4_keepSpare_2 : decode cX4_keepSpare 2 = .ok (.getfield 18, 3) := by decide +kernel
theorem dX4_keepSpare_5 : decode cX4_keepSpare 5 = .ok (.bipush 6, 2) := by decide +kernel
theorem dX4_keepSpare_7 : decode cX4_keepSpare 7 = .ok (.if_icmp .ne 7, 3) := by decide +kernel
theorem dX4_keepSpare_10 : decode cX4_keepSpare 10 = .ok (.iconst 0, 1) := by decide +kernel
theorem dX4_keepSpare_11 : decode cX4_keepSpare 11 = .ok (.goto 9, 3) := by decide +kernel
theorem dX4_keepSpare_14 : decode cX4_keepSpare 14 = .ok (.aload_n 0, 1) := by decide +kernel
theorem dX4_keepSpare_15 : decode cX4_keepSpare 15 = .ok (.getfield 18, 3) := by decide +kernel
theorem dX4_keepSpare_18 : decode cX4_keepSpare 18 = .ok (.iconst 1, 1) := by decide +kernel
theorem dX4_keepSpare_19 : decode cX4_keepSpare 19 = .ok (.iadd, 1) := by decide +kernel
theorem dX4_keepSpare_20 : decode cX4_keepSpare 20 = .ok (.putfield 18, 3) := by decide +kernel
theorem dX4_keepSpare_23 : decode cX4_keepSpare 23 = .ok (.aload_n 0, 1) := by decide +kernel
theorem dX4_keepSpare_24 : decode cX4_keepSpare 24 = .ok (.aload_n 0, 1) := by decide +kernel
theorem dX4_keepSpare_25 : decode cX4_keepSpare 25 = .ok (.getfield 22, 3) := by decide +kernel
theorem dX4_keepSpare_28 : decode cX4_keepSpare 28 = .ok (.iconst 1, 1) := by decide +kernel
theorem dX4_keepSpare_29 : decode cX4_keepSpare 29 = .ok (.iadd, 1) := by decide +kernel
theorem dX4_keepSpare_30 : decode cX4_keepSpare 30 = .ok (.bipush 6, 2) := by decide +kernel
theorem dX4_keepSpare_32 : decode cX4_keepSpare 32 = .ok (.invokestatic 25, 3) := by decide +kernel
theorem dX4_keepSpare_35 : decode cX4_keepSpare 35 = .ok (.putfield 22, 3) := by decide +kernel
theorem dX4_keepSpare_38 : decode cX4_keepSpare 38 = .ok (.return_, 1) := by decide +kernel
theorem fpX4_18 : q_Fp RX4 18 4 1 .int false := ⟨RX4, TX4, 3, tyX4, rfl, by decide, inX4, q_tb 442 (by decide +kernel) rfl, tyX4_ok, nmX4, rfl, rfl, fun h => by first | rfl | cases h⟩
theorem fgX4_22 : q_Fg RX4 22 4 2 := q_Fg.of (C := RX4) (T := TX4) (N := 3) rfl (by decide) inX4 443 (by decide +kernel) rfl rfl
theorem fmX4_25 : q_LM RX4 25 Lib.Math.min.name Lib.Math.min.code 2 .int := ⟨q_tb 975 (by decide +kernel) rfl, q_tb 976 (by decide +kernel) rfl, q_tb 19 (by decide +kernel) rfl, q_tb 977 (by decide +kernel) rfl⟩
theorem fpX4_22 : q_Fp RX4 22 4 2 .int false := ⟨RX4, TX4, 3, tyX4, rfl, by decide, inX4, q_tb 443 (by decide +kernel) rfl, tyX4_ok, nmX4, rfl, rfl, fun h => by first | rfl | cases h⟩
def fX4_keepSpare_L20 (r0 : Nat) (s0 : Int32) (rs1 : Nat) (X : Mm) : Option (Unit × Mm) :=
if mT X rs1 = 4 then
nm (sI X rs1 1 s0) fun X20_2 =>
if mT X20_2 r0 = 4 then
nm (sI X20_2 r0 2 (if (6 : Int32) < ((mI X20_2 r0 2) + (1 : Int32)) then (6 : Int32) else ((mI X20_2 r0 2) + (1 : Int32)))) fun X35_5 =>
some ((), X35_5)
else none
else none
def fX4_keepSpare (r0 : Nat) (X : Mm) : Option (Unit × Mm) :=
if mT X r0 = 4 then
if (mI X r0 1) = (6 : Int32) then (
fX4_keepSpare_L20 r0 (0 : Int32) r0 X
) else (
fX4_keepSpare_L20 r0 (((mI X r0 1) + (1 : Int32))) r0 X
)
else none
theorem gX4_keepSpare_L20 {E : q_E} {X0 : Mm} (C : Cx E cX4_keepSpare RX4 1 none (q_rm 1 23 0 0) X0) (r0 : Nat) (s0 : Int32) (rs1 : Nat) (X : Mm) : Sm E (q_fin E q_eV X0 0 0) 0 0 20 [(0, .ref (q_P E + r0))] [.int s0, .ref (q_P E + rs1)] X (fX4_keepSpare_L20 r0 s0 rs1 X) := by
  unfold fX4_keepSpare_L20
  refine q_chk (fun h3 => ?_)
  refine p_putI C fpX4_18 rfl dX4_keepSpare_20 h3 ?_
  refine q_nmX (fun X20_2 => ?_)
  refine q_aload_n C 0 dX4_keepSpare_23 rfl rfl ?_
  refine q_aload_n C 0 dX4_keepSpare_24 rfl rfl ?_
  refine q_chk (fun h4 => ?_)
  refine p_getI C fgX4_22 rfl dX4_keepSpare_25 h4 ?_
  refine q_iconst C (1 : Int32) dX4_keepSpare_28 rfl ?_
  refine q_iadd C dX4_keepSpare_29 ?_
  refine q_bipush C (6 : Int32) dX4_keepSpare_30 rfl ?_
  refine q_minI C fmX4_25 ⟨Nat.le_of_ble_eq_true rfl, Nat.le_of_ble_eq_true rfl, Nat.le_of_ble_eq_true rfl, Nat.le_of_ble_eq_true rfl⟩ dX4_keepSpare_32 ?_
  refine p_putI C fpX4_22 rfl dX4_keepSpare_35 h4 ?_
  refine q_nmX (fun X35_5 => ?_)
  exact q_vret C dX4_keepSpare_38
theorem sX4_keepSpare (r0 : Nat) : q_Ct yX4_keepSpare cX4_keepSpare 1 none 1 23 0 0 q_eV (fun P => [.ref (P + r0)]) (fX4_keepSpare r0) := by
  refine q_meth (by decide +kernel) (fun P => Nat.le_of_ble_eq_true rfl) (fun E X C hn => ?_)
  show Sm E (q_fin E q_eV X 0 0) 0 0 0 [(0, .ref (q_P E + r0))] [] X _
  unfold fX4_keepSpare
  refine q_aload_n C 0 dX4_keepSpare_0 rfl rfl ?_
  refine q_aload_n C 0 dX4_keepSpare_1 rfl rfl ?_
  refine q_chk (fun h1 => ?_)
  refine p_getI C fgX4_18 rfl dX4_keepSpare_2 h1 ?_
  refine q_bipush C (6 : Int32) dX4_keepSpare_5 rfl ?_
  refine q_icmp_ne C 14 dX4_keepSpare_7 (by decide) (fun _ => ?_) (fun _ => ?_)
  · refine q_iconst C (0 : Int32) dX4_keepSpare_10 rfl ?_
    refine q_goto C 20 dX4_keepSpare_11 (by decide) ?_
    exact gX4_keepSpare_L20 C r0 (0 : Int32) r0 X
  · refine q_aload_n C 0 dX4_keepSpare_14 rfl rfl ?_
    refine p_getI C fgX4_18 rfl dX4_keepSpare_15 h1 ?_
    refine q_iconst C (1 : Int32) dX4_keepSpare_18 rfl ?_
    refine q_iadd C dX4_keepSpare_19 ?_
    exact gX4_keepSpare_L20 C r0 (((mI X r0 1) + (1 : Int32))) r0 X
/-! RecordClaims$History.takeLatest()LRecordClaims$State; -/
abbrev cX4_takeLatest : ByteArray := prog_6_method_4_code
def yX4_takeLatest : MethodName := ⟨RX4, "takeLatest", "()LRecordClaims$State;"⟩
theorem dX4_takeLatest_0 : decode cX4_takeLatest 0 = .ok (.aload_n 0, 1) := by decide +kernel
theorem dX4_takeLatest_1 : decode cX4_takeLatest 1 = .ok (.aload_n 0, 1) := by decide +kernel
theorem dX4_takeLatest_2 : decode cX4_takeLatest 2 = .ok (.getfield 18, 3) := by decide +kernel
theorem dX4_takeLatest_5 : decode cX4_takeLatest 5 = .ok (.ifCond .ne 8, 3) := by decide +kernel
theorem dX4_takeLatest_8 : decode cX4_takeLatest 8 = .ok (.bipush 6, 2) := by decide +kernel
theorem dX4_takeLatest_10 : decode cX4_takeLatest 10 = .ok (.goto 9, 3) := by decide +kernel
theorem dX4_takeLatest_13 : decode cX4_takeLatest 13 = .ok (.aload_n 0, 1) := by decide +kernel
theorem dX4_takeLatest_14 : decode cX4_takeLatest 14 = .ok (.getfield 18, 3) := by decide +kernel
theorem dX4_takeLatest_17 : decode cX4_takeLatest 17 = .ok (.iconst 1, 1) := by decide +kernel
theorem dX4_takeLatest_18 : decode cX4_takeLatest 18 = .ok (.isub, 1) := by decide +kernel
theorem dX4_takeLatest_19 : decode cX4_takeLatest 19 = .ok (.putfield 18, 3) := by decide +kernel
theorem dX4_takeLatest_22 : decode cX4_takeLatest 22 = .ok (.aload_n 0, 1) := by decide +kernel
theorem dX4_takeLatest_23 : decode cX4_takeLatest 23 = .ok (.dup, 1) := by decide +kernel
theorem dX4_takeLatest_24 : decode cX4_takeLatest 24 = .ok (.getfield 22, 3) := by decide +kernel
theorem dX4_takeLatest_27 : decode cX4_takeLatest 27 = .ok (.iconst 1, 1) := by decide +kernel
theorem dX4_takeLatest_28 : decode cX4_takeLatest 28 = .ok (.isub, 1) := by decide +kernel
theorem dX4_takeLatest_29 : decode cX4_takeLatest 29 = .ok (.putfield 22, 3) := by decide +kernel
theorem dX4_takeLatest_32 : decode cX4_takeLatest 32 = .ok (.aload_n 0, 1) := by decide +kernel
theorem dX4_takeLatest_33 : decode cX4_takeLatest 33 = .ok (.getfield 11, 3) := by decide +kernel
theorem dX4_takeLatest_36 : decode cX4_takeLatest 36 = .ok (.aload_n 0, 1) := by decide +kernel
theorem dX4_takeLatest_37 : decode cX4_takeLatest 37 = .ok (.getfield 18, 3) := by decide +kernel
theorem dX4_takeLatest_40 : decode cX4_takeLatest 40 = .ok (.aaload, 1) := by decide +kernel
theorem dX4_takeLatest_41 : decode cX4_takeLatest 41 = .ok (.areturn, 1) := by decide +kernel
def fX4_takeLatest_L19 (r0 : Nat) (s0 : Int32) (rs1 : Nat) (X : Mm) : Option (Nat × Mm) :=
if mT X rs1 = 4 then
nm (sI X rs1 1 s0) fun X19_2 =>
if mT X19_2 r0 = 4 then
nm (sI X19_2 r0 2 ((mI X19_2 r0 2) - (1 : Int32))) fun X29_5 =>
if mT X29_5 r0 = 4 then
if mR X29_5 r0 0 ≠ 0 then
if mT X29_5 (mR X29_5 r0 0) = 17 then
if q_b X29_5 (mR X29_5 r0 0) (mI X29_5 r0 1) then
if mR X29_5 (mR X29_5 r0 0) ((mI X29_5 r0 1)).toNatClampNeg ≠ 0 then
some ((mR X29_5 (mR X29_5 r0 0) ((mI X29_5 r0 1)).toNatClampNeg), X29_5)
else none
else none
else none
else none
else none
else none
else none
def fX4_takeLatest (r0 : Nat) (X : Mm) : Option (Nat × Mm) :=
if mT X r0 = 4 then
if (mI X r0 1) = 0 then (
fX4_takeLatest_L19 r0 (6 : Int32) r0 X
) else (
fX4_takeLatest_L19 r0 (((mI X r0 1) - (1 : Int32))) r0 X
)
else none
theorem gX4_takeLatest_L19 {E : q_E} {X0 : Mm} (C : Cx E cX4_takeLatest RX4 1 (some (.object "RecordClaims$State")) (q_rm 0 0 0 0) X0) (r0 : Nat) (s0 : Int32) (rs1 : Nat) (X : Mm) : Sm E (q_fin E q_eR X0 0 0) 0 0 19 [(0, .ref (q_P E + r0))] [.int s0, .ref (q_P E + rs1)] X (fX4_takeLatest_L19 r0 s0 rs1 X) := by
  unfold fX4_takeLatest_L19
  refine q_chk (fun h3 => ?_)
  refine p_putI C fpX4_18 rfl dX4_takeLatest_19 h3 ?_
  refine q_nmX (fun X19_2 => ?_)
  refine q_aload_n C 0 dX4_takeLatest_22 rfl rfl ?_
  refine q_dup C dX4_takeLatest_23 rfl ?_
  refine q_chk (fun h4 => ?_)
  refine p_getI C fgX4_22 rfl dX4_takeLatest_24 h4 ?_
  refine q_iconst C (1 : Int32) dX4_takeLatest_27 rfl ?_
  refine q_isub C dX4_takeLatest_28 ?_
  refine p_putI C fpX4_22 rfl dX4_takeLatest_29 h4 ?_
  refine q_nmX (fun X29_5 => ?_)
  refine q_aload_n C 0 dX4_takeLatest_32 rfl rfl ?_
  refine q_chk (fun h6 => ?_)
  refine q_chk (fun h7 => ?_)
  refine p_getR C fgX4_11 rfl dX4_takeLatest_33 h6 h7 ?_
  refine q_aload_n C 0 dX4_takeLatest_36 rfl rfl ?_
  refine p_getI C fgX4_18 rfl dX4_takeLatest_37 h6 ?_
  refine q_chk (fun h8 => ?_)
  refine q_chk (fun h9 => ?_)
  refine q_chk (fun h10 => ?_)
  refine p_aald C dX4_takeLatest_40 h8 h9 h10 ?_
  exact q_aret C dX4_takeLatest_41
theorem sX4_takeLatest (r0 : Nat) : q_Ct yX4_takeLatest cX4_takeLatest 1 (some (.object "RecordClaims$State")) 0 0 0 0 q_eR (fun P => [.ref (P + r0)]) (fX4_takeLatest r0) := by
  refine q_meth (by decide +kernel) (fun P => Nat.le_of_ble_eq_true rfl) (fun E X C hn => ?_)
  show Sm E (q_fin E q_eR X 0 0) 0 0 0 [(0, .ref (q_P E + r0))] [] X _
  unfold fX4_takeLatest
  refine q_aload_n C 0 dX4_takeLatest_0 rfl rfl ?_
  refine q_aload_n C 0 dX4_takeLatest_1 rfl rfl ?_
  refine q_chk (fun h1 => ?_)
  refine p_getI C fgX4_18 rfl dX4_takeLatest_2 h1 ?_
  refine q_if_ne C 13 dX4_takeLatest_5 (by decide) (fun _ => ?_) (fun _ => ?_)
  · refine q_bipush C (6 : Int32) dX4_takeLatest_8 rfl ?_
    refine q_goto C 19 dX4_takeLatest_10 (by decide) ?_
    exact gX4_takeLatest_L19 C r0 (6 : Int32) r0 X
  · refine q_aload_n C 0 dX4_takeLatest_13 rfl rfl ?_
    refine p_getI C fgX4_18 rfl dX4_takeLatest_14 h1 ?_
    refine q_iconst C (1 : Int32) dX4_takeLatest_17 rfl ?_
    refine q_isub C dX4_takeLatest_18 ?_
    exact gX4_takeLatest_L19 C r0 (((mI X r0 1) - (1 : Int32))) r0 X
