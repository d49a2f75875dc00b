/-! RecordClaims$Claims.<init>()V -/
abbrev cX1_init : ByteArray := prog_3_method_1_code
def yX1_init : MethodName := ⟨RX1, "<init>", "()V"⟩
theorem dX1_init_0 : decode cX1_init 0 = .ok (.aload_n 0, 1) := by decide +kernel
theorem dX1_init_1 : decode cX1_init 1 = .ok (.invokespecial 3, 3) := by decide +kernel
theorem dX1_init_4 : decode cX1_init 4 = .ok (.aload_n 0, 1) := by decide +kernel
theorem dX1_init_5 : decode cX1_init 5 = .ok (.sipush 480, 3) := by decide +kernel
theorem dX1_init_8 : decode cX1_init 8 = .ok (.newarray .int, 2) := by decide +kernel
theorem dX1_init_10 : decode cX1_init 10 = .ok (.putfield 9, 3) := by decide +kernel
theorem dX1_init_13 : decode cX1_init 13 = .ok (.aload_n 0, 1) := by decide +kernel
theorem dX1_init_14 : decode cX1_init 14 = .ok (.sipush 480, 3) := by decide +kernel
theorem dX1_init_17 : decode cX1_init 17 = .ok (.newarray .int, 2) := by decide +kernel
theorem dX1_init_19 : decode cX1_init 19 = .ok (.putfield 15, 3) := by decide +kernel
theorem dX1_init_22 : decode cX1_init 22 = .ok (.aload_n 0, 1) := by decide +kernel
theorem dX1_init_23 : decode cX1_init 23 = .ok (.sipush 480, 3) := by decide +kernel
theorem dX1_init_26 : decode cX1_init 26 = .ok (.newarray .long, 2) := by decide +kernel
theorem dX1_init_28 : decode cX1_init 28 = .ok (.putfield 18, 3) := by decide +kernel
theorem dX1_init_31 : decode cX1_init 31 = .ok (.aload_n 0, 1) := by decide +kernel
theorem dX1_init_32 : decode cX1_init 32 = .ok (.sipush 480, 3) := by decide +kernel
theorem dX1_init_35 : decode cX1_init 35 = .ok (.newarray .int, 2) := by decide +kernel
theorem dX1_init_37 : decode cX1_init 37 = .ok (.putfield 22, 3) := by decide +kernel
theorem dX1_init_40 : decode cX1_init 40 = .ok (.aload_n 0, 1) := by decide +kernel
theorem dX1_init_41 : decode cX1_init 41 = .ok (.sipush 480, 3) := by decide +kernel
theorem dX1_init_44 : decode cX1_init 44 = .ok (.newarray .int, 2) := by decide +kernel
theorem dX1_init_46 : decode cX1_init 46 = .ok (.putfield 25, 3) := by decide +kernel
theorem dX1_init_49 : decode cX1_init 49 = .ok (.return_, 1) := by decide +kernel
theorem fwX1_3_oi : Cond.methodLink RX1 3 Lib.objectInit ∈ q_tbl := q_tb 374 (by decide +kernel) rfl
theorem fw_oi2 : Cond.instanceMethod Lib.objectInit ∈ q_tbl := q_tb 26 (by decide +kernel) rfl
theorem fw_oi3 : Cond.code Lib.objectInit ⟨#[0xb1]⟩ 1 none ∈ q_tbl := q_tb 27 (by decide +kernel) rfl
theorem faint : Cond.arrayClass .int ∈ q_tbl := q_tb 64 (by decide +kernel) rfl
theorem fpX1_9 : q_Fp RX1 9 1 0 (.array .int) true := ⟨RX1, TX1, 5, tyX1, rfl, by decide, inX1, q_tb 375 (by decide +kernel) rfl, tyX1_ok, nmX1, rfl, rfl, fun h => by first | rfl | cases h⟩
theorem fpX1_15 : q_Fp RX1 15 1 1 (.array .int) true := ⟨RX1, TX1, 5, tyX1, rfl, by decide, inX1, q_tb 377 (by decide +kernel) rfl, tyX1_ok, nmX1, rfl, rfl, fun h => by first | rfl | cases h⟩
theorem falong : Cond.arrayClass .long ∈ q_tbl := q_tb 92 (by decide +kernel) rfl
theorem fpX1_18 : q_Fp RX1 18 1 2 (.array .long) true := ⟨RX1, TX1, 5, tyX1, rfl, by decide, inX1, q_tb 379 (by decide +kernel) rfl, tyX1_ok, nmX1, rfl, rfl, fun h => by first | rfl | cases h⟩
theorem fpX1_22 : q_Fp RX1 22 1 3 (.array .int) true := ⟨RX1, TX1, 5, tyX1, rfl, by decide, inX1, q_tb 381 (by decide +kernel) rfl, tyX1_ok, nmX1, rfl, rfl, fun h => by first | rfl | cases h⟩
theorem fpX1_25 : q_Fp RX1 25 1 4 (.array .int) true := ⟨RX1, TX1, 5, tyX1, rfl, by decide, inX1, q_tb 383 (by decide +kernel) rfl, tyX1_ok, nmX1, rfl, rfl, fun h => by first | rfl | cases h⟩
def fX1_init (r0 : Nat) (X : Mm) : Option (Unit × Mm) :=
nm (mN X + 1) fun rN2 =>
nm (q_nw X 14 480) fun X8_1 =>
if mT X8_1 r0 = 1 then
if rN2 ≠ 0 then
nm (sR X8_1 r0 0 rN2) fun X10_3 =>
nm (mN X10_3 + 1) fun rN7 =>
nm (q_nw X10_3 14 480) fun X17_6 =>
if mT X17_6 r0 = 1 then
if rN7 ≠ 0 then
nm (sR X17_6 r0 1 rN7) fun X19_8 =>
nm (mN X19_8 + 1) fun rN12 =>
nm (q_nw X19_8 15 480) fun X26_11 =>
if mT X26_11 r0 = 1 then
if rN12 ≠ 0 then
nm (sR X26_11 r0 2 rN12) fun X28_13 =>
nm (mN X28_13 + 1) fun rN17 =>
nm (q_nw X28_13 14 480) fun X35_16 =>
if mT X35_16 r0 = 1 then
if rN17 ≠ 0 then
nm (sR X35_16 r0 3 rN17) fun X37_18 =>
nm (mN X37_18 + 1) fun rN22 =>
nm (q_nw X37_18 14 480) fun X44_21 =>
if mT X44_21 r0 = 1 then
if rN22 ≠ 0 then
nm (sR X44_21 r0 4 rN22) fun X46_23 =>
some ((), X46_23)
else none
else none
else none
else none
else none
else none
else none
else none
else none
else none
theorem sX1_init (r0 : Nat) : q_Ct yX1_init cX1_init 1 none 1 20 5 2400 q_eV (fun P => [.ref (P + r0)]) (fX1_init r0) := by
  refine q_meth (by decide +kernel) (fun P => Nat.le_of_ble_eq_true rfl) (fun E X C hn => ?_)
  show Sm E (q_fin E q_eV X 5 2400) 0 0 0 [(0, .ref (q_P E + r0))] [] X _
  unfold fX1_init
  refine q_aload_n C 0 dX1_init_0 rfl rfl ?_
  refine q_objInit C fwX1_3_oi fw_oi2 fw_oi3 ⟨Nat.le_of_ble_eq_true rfl, Nat.le_of_ble_eq_true rfl⟩ dX1_init_1 ?_
  refine q_aload_n C 0 dX1_init_4 rfl rfl ?_
  refine q_sipush C (480 : Int32) dX1_init_5 rfl ?_
  refine q_newa (atype := .int) (ty := .int) (tg := 14) (N := 480) C rfl faint (Or.inl ⟨rfl, rfl⟩) (by decide) rfl (Nat.le_of_ble_eq_true rfl) ⟨Nat.le_of_ble_eq_true rfl, Nat.le_of_ble_eq_true rfl⟩ dX1_init_8 ?_
  refine q_nmr (fun rN2 => ?_)
  refine q_nmX (fun X8_1 => ?_)
  refine q_chk (fun h4 => ?_)
  refine q_chk (fun h5 => ?_)
  refine p_putF C fpX1_9 hn (fun _ => rfl) (fun _ => rfl) rfl dX1_init_10 h4 h5 ?_
  refine q_nmX (fun X10_3 => ?_)
  refine q_aload_n C 0 dX1_init_13 rfl rfl ?_
  refine q_sipush C (480 : Int32) dX1_init_14 rfl ?_
  refine q_newa (atype := .int) (ty := .int) (tg := 14) (N := 480) C rfl faint (Or.inl ⟨rfl, rfl⟩) (by decide) rfl (Nat.le_of_ble_eq_true rfl) ⟨Nat.le_of_ble_eq_true rfl, Nat.le_of_ble_eq_true rfl⟩ dX1_init_17 ?_
  refine q_nmr (fun rN7 => ?_)
  refine q_nmX (fun X17_6 => ?_)
  refine q_chk (fun h9 => ?_)
  refine q_chk (fun h10 => ?_)
  refine p_putF C fpX1_15 hn (fun _ => rfl) (fun _ => rfl) rfl dX1_init_19 h9 h10 ?_
  refine q_nmX (fun X19_8 => ?_)
  refine q_aload_n C 0 dX1_init_22 rfl rfl ?_
  refine q_sipush C (480 : Int32) dX1_init_23 rfl ?_
  refine q_newa (atype := .long) (ty := .long) (tg := 15) (N := 480) C rfl falong (Or.inr (Or.inl ⟨rfl, rfl⟩)) (by decide) rfl (Nat.le_of_ble_eq_true rfl) ⟨Nat.le_of_ble_eq_true rfl, Nat.le_of_ble_eq_true rfl⟩ dX1_init_26 ?_
  refine q_nmr (fun rN12 => ?_)
  refine q_nmX (fun X26_11 => ?_)
  refine q_chk (fun h14 => ?_)
  refine q_chk (fun h15 => ?_)
  refine p_putF C fpX1_18 hn (fun _ => rfl) (fun _ => rfl) rfl dX1_init_28 h14 h15 ?_
  refine q_nmX (fun X28_13 => ?_)
  refine q_aload_n C 0 dX1_init_31 rfl rfl ?_
  refine q_sipush C (480 : Int32) dX1_init_32 rfl ?_
  refine q_newa (atype := .int) (ty := .int) (tg := 14) (N := 480) C rfl faint (Or.inl ⟨rfl, rfl⟩) (by decide) rfl (Nat.le_of_ble_eq_true rfl) ⟨Nat.le_of_ble_eq_true rfl, Nat.le_of_ble_eq_true rfl⟩ dX1_init_35 ?_
  refine q_nmr (fun rN17 => ?_)
  refine q_nmX (fun X35_16 => ?_)
  refine q_chk (fun h19 => ?_)
  refine q_chk (fun h20 => ?_)
  refine p_putF C fpX1_22 hn (fun _ => rfl) (fun _ => rfl) rfl dX1_init_37 h19 h20 ?_
  refine q_nmX (fun X37_18 => ?_)
  refine q_aload_n C 0 dX1_init_40 rfl rfl ?_
  refine q_sipush C (480 : Int32) dX1_init_41 rfl ?_
  refine q_newa (atype := .int) (ty := .int) (tg := 14) (N := 480) C rfl faint (Or.inl ⟨rfl, rfl⟩) (by decide) rfl (Nat.le_of_ble_eq_true rfl) ⟨Nat.le_of_ble_eq_true rfl, Nat.le_of_ble_eq_true rfl⟩ dX1_init_44 ?_
  refine q_nmr (fun rN22 => ?_)
  refine q_nmX (fun X44_21 => ?_)
  refine q_chk (fun h24 => ?_)
  refine q_chk (fun h25 => ?_)
  refine p_putF C fpX1_25 hn (fun _ => rfl) (fun _ => rfl) rfl dX1_init_46 h24 h25 ?_
  refine q_nmX (fun X46_23 => ?_)
  exact q_vret C dX1_init_49
/-! RecordClaims$Claims.at(II)I -/
abbrev cX1_at : ByteArray := prog_3_method_2_code
def yX1_at : MethodName := ⟨RX1, "at", "(II)I"⟩
theorem dX1_at_0 : decode cX1_at 0 = .ok (.iload_n 0, 1) := by decide +kernel
theorem dX1_at_1 : decode cX1_at 1 = .ok (.bipush 60, 2) := by decide +kernel
theorem dX1_at_3 : decode cX1_at 3 = .ok (.imul, 1) := by decide +kernel
theorem dX1_at_4 : decode cX1_at 4 = .ok (.iload_n 1, 1) := by decide +kernel
theorem dX1_at_5 : decode cX1_at 5 = .ok (.iadd, 1) := by decide +kernel
theorem dX1_at_6 : decode cX1_at 6 = .ok (.ireturn, 1) := by decide +kernel
def fX1_at (v0 : Int32) (v1 : Int32) (X : Mm) : Option (Int32 × Mm) :=
some (((v0 * (60 : Int32)) + v1), X)
theorem sX1_at (v0 : Int32) (v1 : Int32) : q_Ct yX1_at cX1_at 2 (some .int) 0 0 0 0 q_eI (fun P => [.int v0, .int v1]) (fX1_at v0 v1) := by
  refine q_meth (by decide +kernel) (fun P => Nat.le_of_ble_eq_true rfl) (fun E X C hn => ?_)
  show Sm E (q_fin E q_eI X 0 0) 0 0 0 [(0, .int v0), (1, .int v1)] [] X _
  unfold fX1_at
  refine q_iload_n C 0 dX1_at_0 rfl rfl ?_
  refine q_bipush C (60 : Int32) dX1_at_1 rfl ?_
  refine q_imul C dX1_at_3 ?_
  refine q_iload_n C 1 dX1_at_4 rfl rfl ?_
  refine q_iadd C dX1_at_5 ?_
  exact q_iret C dX1_at_6
/-! RecordClaims$Claims.copyFrom(LRecordClaims$Claims;)V -/
abbrev cX1_copyFrom : ByteArray := prog_3_method_3_code
def yX1_copyFrom : MethodName := ⟨RX1, "copyFrom", "(LRecordClaims$Claims;)V"⟩
theorem dX1_copyFrom_0 : decode cX1_copyFrom 0 = .ok (.aload_n 1, 1) := by decide +kernel
theorem dX1_copyFrom_1 : decode cX1_copyFrom 1 = .ok (.getfield 9, 3) := by decide +kernel
theorem dX1_copyFrom_4 : decode cX1_copyFrom 4 = .ok (.iconst 0, 1) := by decide +kernel
theorem dX1_copyFrom_5 : decode cX1_copyFrom 5 = .ok (.aload_n 0, 1) := by decide +kernel
theorem dX1_copyFrom_6 : decode cX1_copyFrom 6 = .ok (.getfield 9, 3) := by decide +kernel
theorem dX1_copyFrom_9 : decode cX1_copyFrom 9 = .ok (.iconst 0, 1) := by decide +kernel
theorem dX1_copyFrom_10 : decode cX1_copyFrom 10 = .ok (.sipush 480, 3) := by decide +kernel
theorem dX1_copyFrom_13 : decode cX1_copyFrom 13 = .ok (.invokestatic 28, 3) := by decide +kernel
theorem dX1_copyFrom_16 : decode cX1_copyFrom 16 = .ok (.aload_n 1, 1) := by decide +kernel
theorem dX1_copyFrom_17 : decode cX1_copyFrom 17 = .ok (.getfield 15, 3) := by decide +kernel
theorem dX1_copyFrom_20 : decode cX1_copyFrom 20 = .ok (.iconst 0, 1) := by decide +kernel
theorem dX1_copyFrom_21 : decode cX1_copyFrom 21 = .ok (.aload_n 0, 1) := by decide +kernel
theorem dX1_copyFrom_22 : decode cX1_copyFrom 22 = .ok (.getfield 15, 3) := by decide +kernel
theorem dX1_copyFrom_25 : decode cX1_copyFrom 25 = .ok (.iconst 0, 1) := by decide +kernel
theorem dX1_copyFrom_26 : decode cX1_copyFrom 26 = .ok (.sipush 480, 3) := by decide +kernel
theorem dX1_copyFrom_29 : decode cX1_copyFrom 29 = .ok (.invokestatic 28, 3) := by decide +kernel
theorem dX1_copyFrom_32 : decode cX1_copyFrom 32 = .ok (.aload_n 1, 1) := by decide +kernel
theorem dX1_copyFrom_33 : decode cX1_copyFrom 33 = .ok (.getfield 18, 3) := by decide +kernel
theorem dX1_copyFrom_36 : decode cX1_copyFrom 36 = .ok (.iconst 0, 1) := by decide +kernel
theorem dX1_copyFrom_37 : decode cX1_copyFrom 37 = .ok (.aload_n 0, 1) := by decide +kernel
theorem dX1_copyFrom_38 : decode cX1_copyFrom 38 = .ok (.getfield 18, 3) := by decide +kernel
theorem dX1_copyFrom_41 : decode cX1_copyFrom 41 = .ok (.iconst 0, 1) := by decide +kernel
theorem dX1_copyFrom_42 : decode cX1_copyFrom 42 = .ok (.sipush 480, 3) := by decide +kernel
theorem dX1_copyFrom_45 : decode cX1_copyFrom 45 = .ok (.invokestatic 28, 3) := by decide +kernel
theorem dX1_copyFrom_48 : decode cX1_copyFrom 48 = .ok (.aload_n 1, 1) := by decide +kernel
theorem dX1_copyFrom_49 : decode cX1_copyFrom 49 = .ok (.getfield 22, 3) := by decide +kernel
theorem dX1_copyFrom_52 : decode cX1_copyFrom 52 = .ok (.iconst 0, 1) := by decide +kernel
theorem dX1_copyFrom_53 : decode cX1_copyFrom 53 = .ok (.aload_n 0, 1) := by decide +kernel
theorem dX1_copyFrom_54 : decode cX1_copyFrom 54 = .ok (.getfield 22, 3) := by decide +kernel
theorem dX1_copyFrom_57 : decode cX1_copyFrom 57 = .ok (.iconst 0, 1) := by decide +kernel
theorem dX1_copyFrom_58 : decode cX1_copyFrom 58 = .ok (.sipush 480, 3) := by decide +kernel
theorem dX1_copyFrom_61 : decode cX1_copyFrom 61 = .ok (.invokestatic 28, 3) := by decide +kernel
theorem dX1_copyFrom_64 : decode cX1_copyFrom 64 = .ok (.aload_n 1, 1) := by decide +kernel
theorem dX1_copyFrom_65 : decode cX1_copyFrom 65 = .ok (.getfield 25, 3) := by decide +kernel
theorem dX1_copyFrom_68 : decode cX1_copyFrom 68 = .ok (.iconst 0, 1) := by decide +kernel
theorem dX1_copyFrom_69 : decode cX1_copyFrom 69 = .ok (.aload_n 0, 1) := by decide +kernel
theorem dX1_copyFrom_70 : decode cX1_copyFrom 70 = .ok (.getfield 25, 3) := by decide +kernel
theorem dX1_copyFrom_73 : decode cX1_copyFrom 73 = .ok (.iconst 0, 1) := by decide +kernel
theorem dX1_copyFrom_74 : decode cX1_copyFrom 74 = .ok (.sipush 480, 3) := by decide +kernel
theorem dX1_copyFrom_77 : decode cX1_copyFrom 77 = .ok (.invokestatic 28, 3) := by decide +kernel
theorem dX1_copyFrom_80 : decode cX1_copyFrom 80 = .ok (.return_, 1) := by decide +kernel
theorem fgX1_9 : q_Fg RX1 9 1 0 := q_Fg.of (C := RX1) (T := TX1) (N := 5) rfl (by decide) inX1 375 (by decide +kernel) rfl rfl
theorem fwX1_28_ac : Cond.methodLink RX1 28 arraycopyName ∈ q_tbl := q_tb 790 (by decide +kernel) rfl
theorem fw_ac2 : Cond.native arraycopyName ∈ q_tbl := q_tb 696 (by decide +kernel) rfl
theorem fw_ac3 : Cond.static arraycopyName ∈ q_tbl := q_tb 695 (by decide +kernel) rfl
theorem fw_ac4 : Cond.initialized "java/lang/System" ∈ q_tbl := q_tb 18 (by decide +kernel) rfl
theorem fgX1_15 : q_Fg RX1 15 1 1 := q_Fg.of (C := RX1) (T := TX1) (N := 5) rfl (by decide) inX1 377 (by decide +kernel) rfl rfl
theorem fgX1_18 : q_Fg RX1 18 1 2 := q_Fg.of (C := RX1) (T := TX1) (N := 5) rfl (by decide) inX1 379 (by decide +kernel) rfl rfl
theorem fgX1_22 : q_Fg RX1 22 1 3 := q_Fg.of (C := RX1) (T := TX1) (N := 5) rfl (by decide) inX1 381 (by decide +kernel) rfl rfl
theorem fgX1_25 : q_Fg RX1 25 1 4 := q_Fg.of (C := RX1) (T := TX1) (N := 5) rfl (by decide) inX1 383 (by decide +kernel) rfl rfl
def fX1_copyFrom (r0 : Nat) (r1 : Nat) (X : Mm) : Option (Unit × Mm) :=
if mT X r1 = 1 then
if mR X r1 0 ≠ 0 then
if mT X r0 = 1 then
if mR X r0 0 ≠ 0 then
if q_cpok X (mR X r1 0) (mR X r0 0) 14 (0 : Int32) (0 : Int32) (480 : Int32) then
nm (wI X (mR X r0 0) (va_cpy (mI X (mR X r1 0)) (mI X (mR X r0 0)) ((0 : Int32)).toNatClampNeg ((0 : Int32)).toNatClampNeg ((480 : Int32)).toNatClampNeg)) fun X13_5 =>
if mT X13_5 r1 = 1 then
if mR X13_5 r1 1 ≠ 0 then
if mT X13_5 r0 = 1 then
if mR X13_5 r0 1 ≠ 0 then
if q_cpok X13_5 (mR X13_5 r1 1) (mR X13_5 r0 1) 14 (0 : Int32) (0 : Int32) (480 : Int32) then
nm (wI X13_5 (mR X13_5 r0 1) (va_cpy (mI X13_5 (mR X13_5 r1 1)) (mI X13_5 (mR X13_5 r0 1)) ((0 : Int32)).toNatClampNeg ((0 : Int32)).toNatClampNeg ((480 : Int32)).toNatClampNeg)) fun X29_11 =>
if mT X29_11 r1 = 1 then
if mR X29_11 r1 2 ≠ 0 then
if mT X29_11 r0 = 1 then
if mR X29_11 r0 2 ≠ 0 then
if q_cpok X29_11 (mR X29_11 r1 2) (mR X29_11 r0 2) 15 (0 : Int32) (0 : Int32) (480 : Int32) then
nm (wJ X29_11 (mR X29_11 r0 2) (va_cpy (mJ X29_11 (mR X29_11 r1 2)) (mJ X29_11 (mR X29_11 r0 2)) ((0 : Int32)).toNatClampNeg ((0 : Int32)).toNatClampNeg ((480 : Int32)).toNatClampNeg)) fun X45_17 =>
if mT X45_17 r1 = 1 then
if mR X45_17 r1 3 ≠ 0 then
if mT X45_17 r0 = 1 then
if mR X45_17 r0 3 ≠ 0 then
if q_cpok X45_17 (mR X45_17 r1 3) (mR X45_17 r0 3) 14 (0 : Int32) (0 : Int32) (480 : Int32) then
nm (wI X45_17 (mR X45_17 r0 3) (va_cpy (mI X45_17 (mR X45_17 r1 3)) (mI X45_17 (mR X45_17 r0 3)) ((0 : Int32)).toNatClampNeg ((0 : Int32)).toNatClampNeg ((480 : Int32)).toNatClampNeg)) fun X61_23 =>
if mT X61_23 r1 = 1 then
if mR X61_23 r1 4 ≠ 0 then
if mT X61_23 r0 = 1 then
if mR X61_23 r0 4 ≠ 0 then
if q_cpok X61_23 (mR X61_23 r1 4) (mR X61_23 r0 4) 14 (0 : Int32) (0 : Int32) (480 : Int32) then
nm (wI X61_23 (mR X61_23 r0 4) (va_cpy (mI X61_23 (mR X61_23 r1 4)) (mI X61_23 (mR X61_23 r0 4)) ((0 : Int32)).toNatClampNeg ((0 : Int32)).toNatClampNeg ((480 : Int32)).toNatClampNeg)) fun X77_29 =>
some ((), X77_29)
else none
else none
else none
else none
else none
else none
else none
else none
else none
else none
else none
else none
else none
else none
else none
else none
else none
else none
else none
else none
else none
else none
else none
else none
else none
theorem sX1_copyFrom (r0 : Nat) (r1 : Nat) : q_Ct yX1_copyFrom cX1_copyFrom 2 none 1 26 0 0 q_eV (fun P => [.ref (P + r0), .ref (P + r1)]) (fX1_copyFrom r0 r1) := by
  refine q_meth (by decide +kernel) (fun P => Nat.le_of_ble_eq_true rfl) (fun E X C hn => ?_)
  show Sm E (q_fin E q_eV X 0 0) 0 0 0 [(0, .ref (q_P E + r0)), (1, .ref (q_P E + r1))] [] X _
  unfold fX1_copyFrom
  refine q_aload_n C 1 dX1_copyFrom_0 rfl rfl ?_
  refine q_chk (fun h1 => ?_)
  refine q_chk (fun h2 => ?_)
  refine p_getR C fgX1_9 rfl dX1_copyFrom_1 h1 h2 ?_
  refine q_iconst C (0 : Int32) dX1_copyFrom_4 rfl ?_
  refine q_aload_n C 0 dX1_copyFrom_5 rfl rfl ?_
  refine q_chk (fun h3 => ?_)
  refine q_chk (fun h4 => ?_)
  refine p_getR C fgX1_9 rfl dX1_copyFrom_6 h3 h4 ?_
  refine q_iconst C (0 : Int32) dX1_copyFrom_9 rfl ?_
  refine q_sipush C (480 : Int32) dX1_copyFrom_10 rfl ?_
  refine q_chk (fun h6 => ?_)
  refine p_cpI C fwX1_28_ac fw_ac2 fw_ac3 fw_ac4 ⟨Nat.le_of_ble_eq_true rfl, Nat.le_of_ble_eq_true rfl⟩ dX1_copyFrom_13 h6 ?_
  refine q_nmX (fun X13_5 => ?_)
  refine q_aload_n C 1 dX1_copyFrom_16 rfl rfl ?_
  refine q_chk (fun h7 => ?_)
  refine q_chk (fun h8 => ?_)
  refine p_getR C fgX1_15 rfl dX1_copyFrom_17 h7 h8 ?_
  refine q_iconst C (0 : Int32) dX1_copyFrom_20 rfl ?_
  refine q_aload_n C 0 dX1_copyFrom_21 rfl rfl ?_
  refine q_chk (fun h9 => ?_)
  refine q_chk (fun h10 => ?_)
  refine p_getR C fgX1_15 rfl dX1_copyFrom_22 h9 h10 ?_
  refine q_iconst C (0 : Int32) dX1_copyFrom_25 rfl ?_
  refine q_sipush C (480 : Int32) dX1_copyFrom_26 rfl ?_
  refine q_chk (fun h12 => ?_)
  refine p_cpI C fwX1_28_ac fw_ac2 fw_ac3 fw_ac4 ⟨Nat.le_of_ble_eq_true rfl, Nat.le_of_ble_eq_true rfl⟩ dX1_copyFrom_29 h12 ?_
  refine q_nmX (fun X29_11 => ?_)
  refine q_aload_n C 1 dX1_copyFrom_32 rfl rfl ?_
  refine q_chk (fun h13 => ?_)
  refine q_chk (fun h14 => ?_)
  refine p_getR C fgX1_18 rfl dX1_copyFrom_33 h13 h14 ?_
  refine q_iconst C (0 : Int32) dX1_copyFrom_36 rfl ?_
  refine q_aload_n C 0 dX1_copyFrom_37 rfl rfl ?_
  refine q_chk (fun h15 => ?_)
  refine q_chk (fun h16 => ?_)
  refine p_getR C fgX1_18 rfl dX1_copyFrom_38 h15 h16 ?_
  refine q_iconst C (0 : Int32) dX1_copyFrom_41 rfl ?_
  refine q_sipush C (480 : Int32) dX1_copyFrom_42 rfl ?_
  refine q_chk (fun h18 => ?_)
  refine p_cpJ C fwX1_28_ac fw_ac2 fw_ac3 fw_ac4 ⟨Nat.le_of_ble_eq_true rfl, Nat.le_of_ble_eq_true rfl⟩ dX1_copyFrom_45 h18 ?_
  refine q_nmX (fun X45_17 => ?_)
  refine q_aload_n C 1 dX1_copyFrom_48 rfl rfl ?_
  refine q_chk (fun h19 => ?_)
  refine q_chk (fun h20 => ?_)
  refine p_getR C fgX1_22 rfl dX1_copyFrom_49 h19 h20 ?_
  refine q_iconst C (0 : Int32) dX1_copyFrom_52 rfl ?_
  refine q_aload_n C 0 dX1_copyFrom_53 rfl rfl ?_
  refine q_chk (fun h21 => ?_)
  refine q_chk (fun h22 => ?_)
  refine p_getR C fgX1_22 rfl dX1_copyFrom_54 h21 h22 ?_
  refine q_iconst C (0 : Int32) dX1_copyFrom_57 rfl ?_
  refine q_sipush C (480 : Int32) dX1_copyFrom_58 rfl ?_
  refine q_chk (fun h24 => ?_)
  refine p_cpI C fwX1_28_ac fw_ac2 fw_ac3 fw_ac4 ⟨Nat.le_of_ble_eq_true rfl, Nat.le_of_ble_eq_true rfl⟩ dX1_copyFrom_61 h24 ?_
  refine q_nmX (fun X61_23 => ?_)
  refine q_aload_n C 1 dX1_copyFrom_64 rfl rfl ?_
  refine q_chk (fun h25 => ?_)
  refine q_chk (fun h26 => ?_)
  refine p_getR C fgX1_25 rfl dX1_copyFrom_65 h25 h26 ?_
  refine q_iconst C (0 : Int32) dX1_copyFrom_68 rfl ?_
  refine q_aload_n C 0 dX1_copyFrom_69 rfl rfl ?_
  refine q_chk (fun h27 => ?_)
  refine q_chk (fun h28 => ?_)
  refine p_getR C fgX1_25 rfl dX1_copyFrom_70 h27 h28 ?_
  refine q_iconst C (0 : Int32) dX1_copyFrom_73 rfl ?_
  refine q_sipush C (480 : Int32) dX1_copyFrom_74 rfl ?_
  refine q_chk (fun h30 => ?_)
  refine p_cpI C fwX1_28_ac fw_ac2 fw_ac3 fw_ac4 ⟨Nat.le_of_ble_eq_true rfl, Nat.le_of_ble_eq_true rfl⟩ dX1_copyFrom_77 h30 ?_
  refine q_nmX (fun X77_29 => ?_)
  exact q_vret C dX1_copyFrom_80
/-! RecordClaims$Claims.put(IIIJI)V -/
abbrev cX1_put : ByteArray := prog_3_method_4_code
def yX1_put : MethodName := ⟨RX1, "put", "(IIIJI)V"⟩
theorem dX1_put_0 : decode cX1_put 0 = .ok (.aload_n 0, 1) := by decide +kernel
theorem dX1_put_1 : decode cX1_put 1 = .ok (.getfield 9, 3) := by decide +kernel
theorem dX1_put_4 : decode cX1_put 4 = .ok (.iload_n 1, 1) := by decide +kernel
theorem dX1_put_5 : decode cX1_put 5 = .ok (.iload_n 2, 1) := by decide +kernel
theorem dX1_put_6 : decode cX1_put 6 = .ok (.iastore, 1) := by decide +kernel
theorem dX1_put_7 : decode cX1_put 7 = .ok (.aload_n 0, 1) := by decide +kernel
theorem dX1_put_8 : decode cX1_put 8 = .ok (.getfield 15, 3) := by decide +kernel
theorem dX1_put_11 : decode cX1_put 11 = .ok (.iload_n 1, 1) := by decide +kernel
theorem dX1_put_12 : decode cX1_put 12 = .ok (.iload_n 3, 1) := by decide +kernel
theorem dX1_put_13 : decode cX1_put 13 = .ok (.iastore, 1) := by decide +kernel
theorem dX1_put_14 : decode cX1_put 14 = .ok (.aload_n 0, 1) := by decide +kernel
theorem dX1_put_15 : decode cX1_put 15 = .ok (.getfield 18, 3) := by decide +kernel
theorem dX1_put_18 : decode cX1_put 18 = .ok (.iload_n 1, 1) := by decide +kernel
theorem dX1_put_19 : decode cX1_put 19 = .ok (.lload 4, 2) := by decide +kernel
theorem dX1_put_21 : decode cX1_put 21 = .ok (.lastore, 1) := by decide +kernel
theorem dX1_put_22 : decode cX1_put 22 = .ok (.aload_n 0, 1) := by decide +kernel
theorem dX1_put_23 : decode cX1_put 23 = .ok (.getfield 22, 3) := by decide +kernel
theorem dX1_put_26 : decode cX1_put 26 = .ok (.iload_n 1, 1) := by decide +kernel
theorem dX1_put_27 : decode cX1_put 27 = .ok (.iload 6, 2) := by decide +kernel
theorem dX1_put_29 : decode cX1_put 29 = .ok (.iastore, 1) := by decide +kernel
theorem dX1_put_30 : decode cX1_put 30 = .ok (.aload_n 0, 1) := by decide +kernel
theorem dX1_put_31 : decode cX1_put 31 = .ok (.getfield 25, 3) := by decide +kernel
theorem dX1_put_34 : decode cX1_put 34 = .ok (.iload_n 1, 1) := by decide +kernel
theorem dX1_put_35 : decode cX1_put 35 = .ok (.iconst 0, 1) := by decide +kernel
theorem dX1_put_36 : decode cX1_put 36 = .ok (.iastore, 1) := by decide +kernel
theorem dX1_put_37 : decode cX1_put 37 = .ok (.return_, 1) := by decide +kernel
def fX1_put (r0 : Nat) (v1 : Int32) (v2 : Int32) (v3 : Int32) (v4 : Int64) (v6 : Int32) (X : Mm) : Option (Unit × Mm) :=
if mT X r0 = 1 then
if mR X r0 0 ≠ 0 then
if mT X (mR X r0 0) = 14 then
if q_b X (mR X r0 0) v1 then
nm (sI X (mR X r0 0) (v1).toNatClampNeg v2) fun X6_3 =>
if mT X6_3 r0 = 1 then
if mR X6_3 r0 1 ≠ 0 then
if mT X6_3 (mR X6_3 r0 1) = 14 then
if q_b X6_3 (mR X6_3 r0 1) v1 then
nm (sI X6_3 (mR X6_3 r0 1) (v1).toNatClampNeg v3) fun X13_8 =>
if mT X13_8 r0 = 1 then
if mR X13_8 r0 2 ≠ 0 then
if mT X13_8 (mR X13_8 r0 2) = 15 then
if q_b X13_8 (mR X13_8 r0 2) v1 then
nm (sJ X13_8 (mR X13_8 r0 2) (v1).toNatClampNeg v4) fun X21_13 =>
if mT X21_13 r0 = 1 then
if mR X21_13 r0 3 ≠ 0 then
if mT X21_13 (mR X21_13 r0 3) = 14 then
if q_b X21_13 (mR X21_13 r0 3) v1 then
nm (sI X21_13 (mR X21_13 r0 3) (v1).toNatClampNeg v6) fun X29_18 =>
if mT X29_18 r0 = 1 then
if mR X29_18 r0 4 ≠ 0 then
if mT X29_18 (mR X29_18 r0 4) = 14 then
if q_b X29_18 (mR X29_18 r0 4) v1 then
nm (sI X29_18 (mR X29_18 r0 4) (v1).toNatClampNeg (0 : Int32)) fun X36_23 =>
some ((), X36_23)
else none
else none
else none
else none
else none
else none
else none
else none
else none
else none
else none
else none
else none
else none
else none
else none
else none
else none
else none
else none
theorem sX1_put (r0 : Nat) (v1 : Int32) (v2 : Int32) (v3 : Int32) (v4 : Int64) (v6 : Int32) : q_Ct yX1_put cX1_put 7 none 0 0 0 0 q_eV (fun P => [.ref (P + r0), .int v1, .int v2, .int v3, .long v4, .int v6]) (fX1_put r0 v1 v2 v3 v4 v6) := by
  refine q_meth (by decide +kernel) (fun P => Nat.le_of_ble_eq_true rfl) (fun E X C hn => ?_)
  show Sm E (q_fin E q_eV X 0 0) 0 0 0 [(0, .ref (q_P E + r0)), (1, .int v1), (2, .int v2), (3, .int v3), (4, .long v4), (6, .int v6)] [] X _
  unfold fX1_put
  refine q_aload_n C 0 dX1_put_0 rfl rfl ?_
  refine q_chk (fun h1 => ?_)
  refine q_chk (fun h2 => ?_)
  refine p_getR C fgX1_9 rfl dX1_put_1 h1 h2 ?_
  refine q_iload_n C 1 dX1_put_4 rfl rfl ?_
  refine q_iload_n C 2 dX1_put_5 rfl rfl ?_
  refine q_chk (fun h4 => ?_)
  refine q_chk (fun h5 => ?_)
  refine p_iast C dX1_put_6 h4 h5 ?_
  refine q_nmX (fun X6_3 => ?_)
  refine q_aload_n C 0 dX1_put_7 rfl rfl ?_
  refine q_chk (fun h6 => ?_)
  refine q_chk (fun h7 => ?_)
  refine p_getR C fgX1_15 rfl dX1_put_8 h6 h7 ?_
  refine q_iload_n C 1 dX1_put_11 rfl rfl ?_
  refine q_iload_n C 3 dX1_put_12 rfl rfl ?_
  refine q_chk (fun h9 => ?_)
  refine q_chk (fun h10 => ?_)
  refine p_iast C dX1_put_13 h9 h10 ?_
  refine q_nmX (fun X13_8 => ?_)
  refine q_aload_n C 0 dX1_put_14 rfl rfl ?_
  refine q_chk (fun h11 => ?_)
  refine q_chk (fun h12 => ?_)
  refine p_getR C fgX1_18 rfl dX1_put_15 h11 h12 ?_
  refine q_iload_n C 1 dX1_put_18 rfl rfl ?_
  refine q_lload C 4 dX1_put_19 rfl ?_
  refine q_chk (fun h14 => ?_)
  refine q_chk (fun h15 => ?_)
  refine p_last C dX1_put_21 h14 h15 ?_
  refine q_nmX (fun X21_13 => ?_)
  refine q_aload_n C 0 dX1_put_22 rfl rfl ?_
  refine q_chk (fun h16 => ?_)
  refine q_chk (fun h17 => ?_)
  refine p_getR C fgX1_22 rfl dX1_put_23 h16 h17 ?_
  refine q_iload_n C 1 dX1_put_26 rfl rfl ?_
  refine q_iload C 5 dX1_put_27 rfl ?_
  refine q_chk (fun h19 => ?_)
  refine q_chk (fun h20 => ?_)
  refine p_iast C dX1_put_29 h19 h20 ?_
  refine q_nmX (fun X29_18 => ?_)
  refine q_aload_n C 0 dX1_put_30 rfl rfl ?_
  refine q_chk (fun h21 => ?_)
  refine q_chk (fun h22 => ?_)
  refine p_getR C fgX1_25 rfl dX1_put_31 h21 h22 ?_
  refine q_iload_n C 1 dX1_put_34 rfl rfl ?_
  refine q_iconst C (0 : Int32) dX1_put_35 rfl ?_
  refine q_chk (fun h24 => ?_)
  refine q_chk (fun h25 => ?_)
  refine p_iast C dX1_put_36 h24 h25 ?_
  refine q_nmX (fun X36_23 => ?_)
  exact q_vret C dX1_put_37
