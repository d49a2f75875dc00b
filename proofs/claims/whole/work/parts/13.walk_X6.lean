/-! RecordClaims$Notes.<init>()V -/
abbrev cX6_init : ByteArray := prog_8_method_1_code
def yX6_init : MethodName := ⟨RX6, "<init>", "()V"⟩
theorem dX6_init_0 : decode cX6_init 0 = .ok (.aload_n 0, 1) := by decide +kernel
theorem dX6_init_1 : decode cX6_init 1 = .ok (.invokespecial 3, 3) := by decide +kernel
theorem dX6_init_4 : decode cX6_init 4 = .ok (.aload_n 0, 1) := by decide +kernel
theorem dX6_init_5 : decode cX6_init 5 = .ok (.bipush 80, 2) := by decide +kernel
theorem dX6_init_7 : decode cX6_init 7 = .ok (.newarray .long, 2) := by decide +kernel
theorem dX6_init_9 : decode cX6_init 9 = .ok (.putfield 9, 3) := by decide +kernel
theorem dX6_init_12 : decode cX6_init 12 = .ok (.aload_n 0, 1) := by decide +kernel
theorem dX6_init_13 : decode cX6_init 13 = .ok (.bipush 80, 2) := by decide +kernel
theorem dX6_init_15 : decode cX6_init 15 = .ok (.newarray .long, 2) := by decide +kernel
theorem dX6_init_17 : decode cX6_init 17 = .ok (.putfield 15, 3) := by decide +kernel
theorem dX6_init_20 : decode cX6_init 20 = .ok (.aload_n 0, 1) := by decide +kernel
theorem dX6_init_21 : decode cX6_init 21 = .ok (.bipush 80, 2) := by decide +kernel
theorem dX6_init_23 : decode cX6_init 23 = .ok (.newarray .long, 2) := by decide +kernel
theorem dX6_init_25 : decode cX6_init 25 = .ok (.putfield 18, 3) := by decide +kernel
theorem dX6_init_28 : decode cX6_init 28 = .ok (.aload_n 0, 1) := by decide +kernel
theorem dX6_init_29 : decode cX6_init 29 = .ok (.bipush 80, 2) := by decide +kernel
theorem dX6_init_31 : decode cX6_init 31 = .ok (.newarray .long, 2) := by decide +kernel
theorem dX6_init_33 : decode cX6_init 33 = .ok (.putfield 21, 3) := by decide +kernel
theorem dX6_init_36 : decode cX6_init 36 = .ok (.aload_n 0, 1) := by decide +kernel
theorem dX6_init_37 : decode cX6_init 37 = .ok (.bipush 80, 2) := by decide +kernel
theorem dX6_init_39 : decode cX6_init 39 = .ok (.newarray .long, 2) := by decide +kernel
theorem dX6_init_41 : decode cX6_init 41 = .ok (.putfield 24, 3) := by decide +kernel
theorem dX6_init_44 : decode cX6_init 44 = .ok (.aload_n 0, 1) := by decide +kernel
theorem dX6_init_45 : decode cX6_init 45 = .ok (.bipush 80, 2) := by decide +kernel
theorem dX6_init_47 : decode cX6_init 47 = .ok (.newarray .long, 2) := by decide +kernel
theorem dX6_init_49 : decode cX6_init 49 = .ok (.putfield 27, 3) := by decide +kernel
theorem dX6_init_52 : decode cX6_init 52 = .ok (.return_, 1) := by decide +kernel
theorem fwX6_3_oi : Cond.methodLink RX6 3 Lib.objectInit ∈ q_tbl := q_tb 343 (by decide +kernel) rfl
theorem fpX6_9 : q_Fp RX6 9 6 0 (.array .long) true := ⟨RX6, TX6, 6, tyX6, rfl, by decide, inX6, q_tb 344 (by decide +kernel) rfl, tyX6_ok, nmX6, rfl, rfl, fun h => by first | rfl | cases h⟩
theorem fpX6_15 : q_Fp RX6 15 6 1 (.array .long) true := ⟨RX6, TX6, 6, tyX6, rfl, by decide, inX6, q_tb 346 (by decide +kernel) rfl, tyX6_ok, nmX6, rfl, rfl, fun h => by first | rfl | cases h⟩
theorem fpX6_18 : q_Fp RX6 18 6 2 (.array .long) true := ⟨RX6, TX6, 6, tyX6, rfl, by decide, inX6, q_tb 348 (by decide +kernel) rfl, tyX6_ok, nmX6, rfl, rfl, fun h => by first | rfl | cases h⟩
theorem fpX6_21 : q_Fp RX6 21 6 3 (.array .long) true := ⟨RX6, TX6, 6, tyX6, rfl, by decide, inX6, q_tb 350 (by decide +kernel) rfl, tyX6_ok, nmX6, rfl, rfl, fun h => by first | rfl | cases h⟩
theorem fpX6_24 : q_Fp RX6 24 6 4 (.array .long) true := ⟨RX6, TX6, 6, tyX6, rfl, by decide, inX6, q_tb 352 (by decide +kernel) rfl, tyX6_ok, nmX6, rfl, rfl, fun h => by first | rfl | cases h⟩
theorem fpX6_27 : q_Fp RX6 27 6 5 (.array .long) true := ⟨RX6, TX6, 6, tyX6, rfl, by decide, inX6, q_tb 354 (by decide +kernel) rfl, tyX6_ok, nmX6, rfl, rfl, fun h => by first | rfl | cases h⟩
def fX6_init (r0 : Nat) (X : Mm) : Option (Unit × Mm) :=
nm (mN X + 1) fun rN2 =>
nm (q_nw X 15 80) fun X7_1 =>
if mT X7_1 r0 = 6 then
if rN2 ≠ 0 then
nm (sR X7_1 r0 0 rN2) fun X9_3 =>
nm (mN X9_3 + 1) fun rN7 =>
nm (q_nw X9_3 15 80) fun X15_6 =>
if mT X15_6 r0 = 6 then
if rN7 ≠ 0 then
nm (sR X15_6 r0 1 rN7) fun X17_8 =>
nm (mN X17_8 + 1) fun rN12 =>
nm (q_nw X17_8 15 80) fun X23_11 =>
if mT X23_11 r0 = 6 then
if rN12 ≠ 0 then
nm (sR X23_11 r0 2 rN12) fun X25_13 =>
nm (mN X25_13 + 1) fun rN17 =>
nm (q_nw X25_13 15 80) fun X31_16 =>
if mT X31_16 r0 = 6 then
if rN17 ≠ 0 then
nm (sR X31_16 r0 3 rN17) fun X33_18 =>
nm (mN X33_18 + 1) fun rN22 =>
nm (q_nw X33_18 15 80) fun X39_21 =>
if mT X39_21 r0 = 6 then
if rN22 ≠ 0 then
nm (sR X39_21 r0 4 rN22) fun X41_23 =>
nm (mN X41_23 + 1) fun rN27 =>
nm (q_nw X41_23 15 80) fun X47_26 =>
if mT X47_26 r0 = 6 then
if rN27 ≠ 0 then
nm (sR X47_26 r0 5 rN27) fun X49_28 =>
some ((), X49_28)
else none
else none
else none
else none
else none
else none
else none
else none
else none
else none
else none
else none
theorem sX6_init (r0 : Nat) : q_Ct yX6_init cX6_init 1 none 1 20 6 480 q_eV (fun P => [.ref (P + r0)]) (fX6_init r0) := by
  refine q_meth (by decide +kernel) (fun P => Nat.le_of_ble_eq_true rfl) (fun E X C hn => ?_)
  show Sm E (q_fin E q_eV X 6 480) 0 0 0 [(0, .ref (q_P E + r0))] [] X _
  unfold fX6_init
  refine q_aload_n C 0 dX6_init_0 rfl rfl ?_
  refine q_objInit C fwX6_3_oi fw_oi2 fw_oi3 ⟨Nat.le_of_ble_eq_true rfl, Nat.le_of_ble_eq_true rfl⟩ dX6_init_1 ?_
  refine q_aload_n C 0 dX6_init_4 rfl rfl ?_
  refine q_bipush C (80 : Int32) dX6_init_5 rfl ?_
  refine q_newa (atype := .long) (ty := .long) (tg := 15) (N := 80) C rfl falong (Or.inr (Or.inl ⟨rfl, rfl⟩)) (by decide) rfl (Nat.le_of_ble_eq_true rfl) ⟨Nat.le_of_ble_eq_true rfl, Nat.le_of_ble_eq_true rfl⟩ dX6_init_7 ?_
  refine q_nmr (fun rN2 => ?_)
  refine q_nmX (fun X7_1 => ?_)
  refine q_chk (fun h4 => ?_)
  refine q_chk (fun h5 => ?_)
  refine p_putF C fpX6_9 hn (fun _ => rfl) (fun _ => rfl) rfl dX6_init_9 h4 h5 ?_
  refine q_nmX (fun X9_3 => ?_)
  refine q_aload_n C 0 dX6_init_12 rfl rfl ?_
  refine q_bipush C (80 : Int32) dX6_init_13 rfl ?_
  refine q_newa (atype := .long) (ty := .long) (tg := 15) (N := 80) C rfl falong (Or.inr (Or.inl ⟨rfl, rfl⟩)) (by decide) rfl (Nat.le_of_ble_eq_true rfl) ⟨Nat.le_of_ble_eq_true rfl, Nat.le_of_ble_eq_true rfl⟩ dX6_init_15 ?_
  refine q_nmr (fun rN7 => ?_)
  refine q_nmX (fun X15_6 => ?_)
  refine q_chk (fun h9 => ?_)
  refine q_chk (fun h10 => ?_)
  refine p_putF C fpX6_15 hn (fun _ => rfl) (fun _ => rfl) rfl dX6_init_17 h9 h10 ?_
  refine q_nmX (fun X17_8 => ?_)
  refine q_aload_n C 0 dX6_init_20 rfl rfl ?_
  refine q_bipush C (80 : Int32) dX6_init_21 rfl ?_
  refine q_newa (atype := .long) (ty := .long) (tg := 15) (N := 80) C rfl falong (Or.inr (Or.inl ⟨rfl, rfl⟩)) (by decide) rfl (Nat.le_of_ble_eq_true rfl) ⟨Nat.le_of_ble_eq_true rfl, Nat.le_of_ble_eq_true rfl⟩ dX6_init_23 ?_
  refine q_nmr (fun rN12 => ?_)
  refine q_nmX (fun X23_11 => ?_)
  refine q_chk (fun h14 => ?_)
  refine q_chk (fun h15 => ?_)
  refine p_putF C fpX6_18 hn (fun _ => rfl) (fun _ => rfl) rfl dX6_init_25 h14 h15 ?_
  refine q_nmX (fun X25_13 => ?_)
  refine q_aload_n C 0 dX6_init_28 rfl rfl ?_
  refine q_bipush C (80 : Int32) dX6_init_29 rfl ?_
  refine q_newa (atype := .long) (ty := .long) (tg := 15) (N := 80) C rfl falong (Or.inr (Or.inl ⟨rfl, rfl⟩)) (by decide) rfl (Nat.le_of_ble_eq_true rfl) ⟨Nat.le_of_ble_eq_true rfl, Nat.le_of_ble_eq_true rfl⟩ dX6_init_31 ?_
  refine q_nmr (fun rN17 => ?_)
  refine q_nmX (fun X31_16 => ?_)
  refine q_chk (fun h19 => ?_)
  refine q_chk (fun h20 => ?_)
  refine p_putF C fpX6_21 hn (fun _ => rfl) (fun _ => rfl) rfl dX6_init_33 h19 h20 ?_
  refine q_nmX (fun X33_18 => ?_)
  refine q_aload_n C 0 dX6_init_36 rfl rfl ?_
  refine q_bipush C (80 : Int32) dX6_init_37 rfl ?_
  refine q_newa (atype := .long) (ty := .long) (tg := 15) (N := 80) C rfl falong (Or.inr (Or.inl ⟨rfl, rfl⟩)) (by decide) rfl (Nat.le_of_ble_eq_true rfl) ⟨Nat.le_of_ble_eq_true rfl, Nat.le_of_ble_eq_true rfl⟩ dX6_init_39 ?_
  refine q_nmr (fun rN22 => ?_)
  refine q_nmX (fun X39_21 => ?_)
  refine q_chk (fun h24 => ?_)
  refine q_chk (fun h25 => ?_)
  refine p_putF C fpX6_24 hn (fun _ => rfl) (fun _ => rfl) rfl dX6_init_41 h24 h25 ?_
  refine q_nmX (fun X41_23 => ?_)
  refine q_aload_n C 0 dX6_init_44 rfl rfl ?_
  refine q_bipush C (80 : Int32) dX6_init_45 rfl ?_
  refine q_newa (atype := .long) (ty := .long) (tg := 15) (N := 80) C rfl falong (Or.inr (Or.inl ⟨rfl, rfl⟩)) (by decide) rfl (Nat.le_of_ble_eq_true rfl) ⟨Nat.le_of_ble_eq_true rfl, Nat.le_of_ble_eq_true rfl⟩ dX6_init_47 ?_
  refine q_nmr (fun rN27 => ?_)
  refine q_nmX (fun X47_26 => ?_)
  refine q_chk (fun h29 => ?_)
  refine q_chk (fun h30 => ?_)
  refine p_putF C fpX6_27 hn (fun _ => rfl) (fun _ => rfl) rfl dX6_init_49 h29 h30 ?_
  refine q_nmX (fun X49_28 => ?_)
  exact q_vret C dX6_init_52
/-! RecordClaims$Notes.at(II)I -/
abbrev cX6_at : ByteArray := prog_8_method_2_code
def yX6_at : MethodName := ⟨RX6, "at", "(II)I"⟩
theorem dX6_at_0 : decode cX6_at 0 = .ok (.iload_n 0, 1) := by decide +kernel
theorem dX6_at_1 : decode cX6_at 1 = .ok (.bipush 10, 2) := by decide +kernel
theorem dX6_at_3 : decode cX6_at 3 = .ok (.imul, 1) := by decide +kernel
theorem dX6_at_4 : decode cX6_at 4 = .ok (.iload_n 1, 1) := by decide +kernel
theorem dX6_at_5 : decode cX6_at 5 = .ok (.iadd, 1) := by decide +kernel
theorem dX6_at_6 : decode cX6_at 6 = .ok (.ireturn, 1) := by decide +kernel
def fX6_at (v0 : Int32) (v1 : Int32) (X : Mm) : Option (Int32 × Mm) :=
some (((v0 * (10 : Int32)) + v1), X)
theorem sX6_at (v0 : Int32) (v1 : Int32) : q_Ct yX6_at cX6_at 2 (some .int) 0 0 0 0 q_eI (fun P => [.int v0, .int v1]) (fX6_at v0 v1) := by
  refine q_meth (by decide +kernel) (fun P => Nat.le_of_ble_eq_true rfl) (fun E X C hn => ?_)
  show Sm E (q_fin E q_eI X 0 0) 0 0 0 [(0, .int v0), (1, .int v1)] [] X _
  unfold fX6_at
  refine q_iload_n C 0 dX6_at_0 rfl rfl ?_
  refine q_bipush C (10 : Int32) dX6_at_1 rfl ?_
  refine q_imul C dX6_at_3 ?_
  refine q_iload_n C 1 dX6_at_4 rfl rfl ?_
  refine q_iadd C dX6_at_5 ?_
  exact q_iret C dX6_at_6
/-! RecordClaims$Notes.copyFrom(LRecordClaims$Notes;)V -/
abbrev cX6_copyFrom : ByteArray := prog_8_method_3_code
def yX6_copyFrom : MethodName := ⟨RX6, "copyFrom", "(LRecordClaims$Notes;)V"⟩
theorem dX6_copyFrom_0 : decode cX6_copyFrom 0 = .ok (.aload_n 1, 1) := by decide +kernel
theorem dX6_copyFrom_1 : decode cX6_copyFrom 1 = .ok (.getfield 9, 3) := by decide +kernel
theorem dX6_copyFrom_4 : decode cX6_copyFrom 4 = .ok (.iconst 0, 1) := by decide +kernel
theorem dX6_copyFrom_5 : decode cX6_copyFrom 5 = .ok (.aload_n 0, 1) := by decide +kernel
theorem dX6_copyFrom_6 : decode cX6_copyFrom 6 = .ok (.getfield 9, 3) := by decide +kernel
theorem dX6_copyFrom_9 : decode cX6_copyFrom 9 = .ok (.iconst 0, 1) := by decide +kernel
theorem dX6_copyFrom_10 : decode cX6_copyFrom 10 = .ok (.bipush 80, 2) := by decide +kernel
theorem dX6_copyFrom_12 : decode cX6_copyFrom 12 = .ok (.invokestatic 30, 3) := by decide +kernel
theorem dX6_copyFrom_15 : decode cX6_copyFrom 15 = .ok (.aload_n 1, 1) := by decide +kernel
theorem dX6_copyFrom_16 : decode cX6_copyFrom 16 = .ok (.getfield 15, 3) := by decide +kernel
theorem dX6_copyFrom_19 : decode cX6_copyFrom 19 = .ok (.iconst 0, 1) := by decide +kernel
theorem dX6_copyFrom_20 : decode cX6_copyFrom 20 = .ok (.aload_n 0, 1) := by decide +kernel
theorem dX6_copyFrom_21 : decode cX6_copyFrom 21 = .ok (.getfield 15, 3) := by decide +kernel
theorem dX6_copyFrom_24 : decode cX6_copyFrom 24 = .ok (.iconst 0, 1) := by decide +kernel
theorem dX6_copyFrom_25 : decode cX6_copyFrom 25 = .ok (.bipush 80, 2) := by decide +kernel
theorem dX6_copyFrom_27 : decode cX6_copyFrom 27 = .ok (.invokestatic 30, 3) := by decide +kernel
theorem dX6_copyFrom_30 : decode cX6_copyFrom 30 = .ok (.aload_n 1, 1) := by decide +kernel
theorem dX6_copyFrom_31 : decode cX6_copyFrom 31 = .ok (.getfield 18, 3) := by decide +kernel
theorem dX6_copyFrom_34 : decode cX6_copyFrom 34 = .ok (.iconst 0, 1) := by decide +kernel
theorem dX6_copyFrom_35 : decode cX6_copyFrom 35 = .ok (.aload_n 0, 1) := by decide +kernel
theorem dX6_copyFrom_36 : decode cX6_copyFrom 36 = .ok (.getfield 18, 3) := by decide +kernel
theorem dX6_copyFrom_39 : decode cX6_copyFrom 39 = .ok (.iconst 0, 1) := by decide +kernel
theorem dX6_copyFrom_40 : decode cX6_copyFrom 40 = .ok (.bipush 80, 2) := by decide +kernel
theorem dX6_copyFrom_42 : decode cX6_copyFrom 42 = .ok (.invokestatic 30, 3) := by decide +kernel
theorem dX6_copyFrom_45 : decode cX6_copyFrom 45 = .ok (.aload_n 1, 1) := by decide +kernel
theorem dX6_copyFrom_46 : decode cX6_copyFrom 46 = .ok (.getfield 21, 3) := by decide +kernel
theorem dX6_copyFrom_49 : decode cX6_copyFrom 49 = .ok (.iconst 0, 1) := by decide +kernel
theorem dX6_copyFrom_50 : decode cX6_copyFrom 50 = .ok (.aload_n 0, 1) := by decide +kernel
theorem dX6_copyFrom_51 : decode cX6_copyFrom 51 = .ok (.getfield 21, 3) := by decide +kernel
theorem dX6_copyFrom_54 : decode cX6_copyFrom 54 = .ok (.iconst 0, 1) := by decide +kernel
theorem dX6_copyFrom_55 : decode cX6_copyFrom 55 = .ok (.bipush 80, 2) := by decide +kernel
theorem dX6_copyFrom_57 : decode cX6_copyFrom 57 = .ok (.invokestatic 30, 3) := by decide +kernel
theorem dX6_copyFrom_60 : decode cX6_copyFrom 60 = .ok (.aload_n 1, 1) := by decide +kernel
theorem dX6_copyFrom_61 : decode cX6_copyFrom 61 = .ok (.getfield 24, 3) := by decide +kernel
theorem dX6_copyFrom_64 : decode cX6_copyFrom 64 = .ok (.iconst 0, 1) := by decide +kernel
theorem dX6_copyFrom_65 : decode cX6_copyFrom 65 = .ok (.aload_n 0, 1) := by decide +kernel
theorem dX6_copyFrom_66 : decode cX6_copyFrom 66 = .ok (.getfield 24, 3) := by decide +kernel
theorem dX6_copyFrom_69 : decode cX6_copyFrom 69 = .ok (.iconst 0, 1) := by decide +kernel
theorem dX6_copyFrom_70 : decode cX6_copyFrom 70 = .ok (.bipush 80, 2) := by decide +kernel
theorem dX6_copyFrom_72 : decode cX6_copyFrom 72 = .ok (.invokestatic 30, 3) := by decide +kernel
theorem dX6_copyFrom_75 : decode cX6_copyFrom 75 = .ok (.aload_n 1, 1) := by decide +kernel
theorem dX6_copyFrom_76 : decode cX6_copyFrom 76 = .ok (.getfield 27, 3) := by decide +kernel
theorem dX6_copyFrom_79 : decode cX6_copyFrom 79 = .ok (.iconst 0, 1) := by decide +kernel
theorem dX6_copyFrom_80 : decode cX6_copyFrom 80 = .ok (.aload_n 0, 1) := by decide +kernel
theorem dX6_copyFrom_81 : decode cX6_copyFrom 81 = .ok (.getfield 27, 3) := by decide +kernel
theorem dX6_copyFrom_84 : decode cX6_copyFrom 84 = .ok (.iconst 0, 1) := by decide +kernel
theorem dX6_copyFrom_85 : decode cX6_copyFrom 85 = .ok (.bipush 80, 2) := by decide +kernel
theorem dX6_copyFrom_87 : decode cX6_copyFrom 87 = .ok (.invokestatic 30, 3) := by decide +kernel
theorem dX6_copyFrom_90 : decode cX6_copyFrom 90 = .ok (.return_, 1) := by decide +kernel
theorem fgX6_9 : q_Fg RX6 9 6 0 := q_Fg.of (C := RX6) (T := TX6) (N := 6) rfl (by decide) inX6 344 (by decide +kernel) rfl rfl
theorem fwX6_30_ac : Cond.methodLink RX6 30 arraycopyName ∈ q_tbl := q_tb 785 (by decide +kernel) rfl
theorem fgX6_15 : q_Fg RX6 15 6 1 := q_Fg.of (C := RX6) (T := TX6) (N := 6) rfl (by decide) inX6 346 (by decide +kernel) rfl rfl
theorem fgX6_18 : q_Fg RX6 18 6 2 := q_Fg.of (C := RX6) (T := TX6) (N := 6) rfl (by decide) inX6 348 (by decide +kernel) rfl rfl
theorem fgX6_21 : q_Fg RX6 21 6 3 := q_Fg.of (C := RX6) (T := TX6) (N := 6) rfl (by decide) inX6 350 (by decide +kernel) rfl rfl
theorem fgX6_24 : q_Fg RX6 24 6 4 := q_Fg.of (C := RX6) (T := TX6) (N := 6) rfl (by decide) inX6 352 (by decide +kernel) rfl rfl
theorem fgX6_27 : q_Fg RX6 27 6 5 := q_Fg.of (C := RX6) (T := TX6) (N := 6) rfl (by decide) inX6 354 (by decide +kernel) rfl rfl
def fX6_copyFrom (r0 : Nat) (r1 : Nat) (X : Mm) : Option (Unit × Mm) :=
if mT X r1 = 6 then
if mR X r1 0 ≠ 0 then
if mT X r0 = 6 then
if mR X r0 0 ≠ 0 then
if q_cpok X (mR X r1 0) (mR X r0 0) 15 (0 : Int32) (0 : Int32) (80 : Int32) then
nm (wJ X (mR X r0 0) (va_cpy (mJ X (mR X r1 0)) (mJ X (mR X r0 0)) ((0 : Int32)).toNatClampNeg ((0 : Int32)).toNatClampNeg ((80 : Int32)).toNatClampNeg)) fun X12_5 =>
if mT X12_5 r1 = 6 then
if mR X12_5 r1 1 ≠ 0 then
if mT X12_5 r0 = 6 then
if mR X12_5 r0 1 ≠ 0 then
if q_cpok X12_5 (mR X12_5 r1 1) (mR X12_5 r0 1) 15 (0 : Int32) (0 : Int32) (80 : Int32) then
nm (wJ X12_5 (mR X12_5 r0 1) (va_cpy (mJ X12_5 (mR X12_5 r1 1)) (mJ X12_5 (mR X12_5 r0 1)) ((0 : Int32)).toNatClampNeg ((0 : Int32)).toNatClampNeg ((80 : Int32)).toNatClampNeg)) fun X27_11 =>
if mT X27_11 r1 = 6 then
if mR X27_11 r1 2 ≠ 0 then
if mT X27_11 r0 = 6 then
if mR X27_11 r0 2 ≠ 0 then
if q_cpok X27_11 (mR X27_11 r1 2) (mR X27_11 r0 2) 15 (0 : Int32) (0 : Int32) (80 : Int32) then
nm (wJ X27_11 (mR X27_11 r0 2) (va_cpy (mJ X27_11 (mR X27_11 r1 2)) (mJ X27_11 (mR X27_11 r0 2)) ((0 : Int32)).toNatClampNeg ((0 : Int32)).toNatClampNeg ((80 : Int32)).toNatClampNeg)) fun X42_17 =>
if mT X42_17 r1 = 6 then
if mR X42_17 r1 3 ≠ 0 then
if mT X42_17 r0 = 6 then
if mR X42_17 r0 3 ≠ 0 then
if q_cpok X42_17 (mR X42_17 r1 3) (mR X42_17 r0 3) 15 (0 : Int32) (0 : Int32) (80 : Int32) then
nm (wJ X42_17 (mR X42_17 r0 3) (va_cpy (mJ X42_17 (mR X42_17 r1 3)) (mJ X42_17 (mR X42_17 r0 3)) ((0 : Int32)).toNatClampNeg ((0 : Int32)).toNatClampNeg ((80 : Int32)).toNatClampNeg)) fun X57_23 =>
if mT X57_23 r1 = 6 then
if mR X57_23 r1 4 ≠ 0 then
if mT X57_23 r0 = 6 then
if mR X57_23 r0 4 ≠ 0 then
if q_cpok X57_23 (mR X57_23 r1 4) (mR X57_23 r0 4) 15 (0 : Int32) (0 : Int32) (80 : Int32) then
nm (wJ X57_23 (mR X57_23 r0 4) (va_cpy (mJ X57_23 (mR X57_23 r1 4)) (mJ X57_23 (mR X57_23 r0 4)) ((0 : Int32)).toNatClampNeg ((0 : Int32)).toNatClampNeg ((80 : Int32)).toNatClampNeg)) fun X72_29 =>
if mT X72_29 r1 = 6 then
if mR X72_29 r1 5 ≠ 0 then
if mT X72_29 r0 = 6 then
if mR X72_29 r0 5 ≠ 0 then
if q_cpok X72_29 (mR X72_29 r1 5) (mR X72_29 r0 5) 15 (0 : Int32) (0 : Int32) (80 : Int32) then
nm (wJ X72_29 (mR X72_29 r0 5) (va_cpy (mJ X72_29 (mR X72_29 r1 5)) (mJ X72_29 (mR X72_29 r0 5)) ((0 : Int32)).toNatClampNeg ((0 : Int32)).toNatClampNeg ((80 : Int32)).toNatClampNeg)) fun X87_35 =>
some ((), X87_35)
else none
else none
else none
else none
else none
else none
else none
else none
else none
else none
else none
else none
else none
else none
else none
else none
else none
else none
else none
else none
else none
else none
else none
else none
else none
else none
else none
else none
else none
else none
theorem sX6_copyFrom (r0 : Nat) (r1 : Nat) : q_Ct yX6_copyFrom cX6_copyFrom 2 none 1 26 0 0 q_eV (fun P => [.ref (P + r0), .ref (P + r1)]) (fX6_copyFrom r0 r1) := by
  refine q_meth (by decide +kernel) (fun P => Nat.le_of_ble_eq_true rfl) (fun E X C hn => ?_)
  show Sm E (q_fin E q_eV X 0 0) 0 0 0 [(0, .ref (q_P E + r0)), (1, .ref (q_P E + r1))] [] X _
  unfold fX6_copyFrom
  refine q_aload_n C 1 dX6_copyFrom_0 rfl rfl ?_
  refine q_chk (fun h1 => ?_)
  refine q_chk (fun h2 => ?_)
  refine p_getR C fgX6_9 rfl dX6_copyFrom_1 h1 h2 ?_
  refine q_iconst C (0 : Int32) dX6_copyFrom_4 rfl ?_
  refine q_aload_n C 0 dX6_copyFrom_5 rfl rfl ?_
  refine q_chk (fun h3 => ?_)
  refine q_chk (fun h4 => ?_)
  refine p_getR C fgX6_9 rfl dX6_copyFrom_6 h3 h4 ?_
  refine q_iconst C (0 : Int32) dX6_copyFrom_9 rfl ?_
  refine q_bipush C (80 : Int32) dX6_copyFrom_10 rfl ?_
  refine q_chk (fun h6 => ?_)
  refine p_cpJ C fwX6_30_ac fw_ac2 fw_ac3 fw_ac4 ⟨Nat.le_of_ble_eq_true rfl, Nat.le_of_ble_eq_true rfl⟩ dX6_copyFrom_12 h6 ?_
  refine q_nmX (fun X12_5 => ?_)
  refine q_aload_n C 1 dX6_copyFrom_15 rfl rfl ?_
  refine q_chk (fun h7 => ?_)
  refine q_chk (fun h8 => ?_)
  refine p_getR C fgX6_15 rfl dX6_copyFrom_16 h7 h8 ?_
  refine q_iconst C (0 : Int32) dX6_copyFrom_19 rfl ?_
  refine q_aload_n C 0 dX6_copyFrom_20 rfl rfl ?_
  refine q_chk (fun h9 => ?_)
  refine q_chk (fun h10 => ?_)
  refine p_getR C fgX6_15 rfl dX6_copyFrom_21 h9 h10 ?_
  refine q_iconst C (0 : Int32) dX6_copyFrom_24 rfl ?_
  refine q_bipush C (80 : Int32) dX6_copyFrom_25 rfl ?_
  refine q_chk (fun h12 => ?_)
  refine p_cpJ C fwX6_30_ac fw_ac2 fw_ac3 fw_ac4 ⟨Nat.le_of_ble_eq_true rfl, Nat.le_of_ble_eq_true rfl⟩ dX6_copyFrom_27 h12 ?_
  refine q_nmX (fun X27_11 => ?_)
  refine q_aload_n C 1 dX6_copyFrom_30 rfl rfl ?_
  refine q_chk (fun h13 => ?_)
  refine q_chk (fun h14 => ?_)
  refine p_getR C fgX6_18 rfl dX6_copyFrom_31 h13 h14 ?_
  refine q_iconst C (0 : Int32) dX6_copyFrom_34 rfl ?_
  refine q_aload_n C 0 dX6_copyFrom_35 rfl rfl ?_
  refine q_chk (fun h15 => ?_)
  refine q_chk (fun h16 => ?_)
  refine p_getR C fgX6_18 rfl dX6_copyFrom_36 h15 h16 ?_
  refine q_iconst C (0 : Int32) dX6_copyFrom_39 rfl ?_
  refine q_bipush C (80 : Int32) dX6_copyFrom_40 rfl ?_
  refine q_chk (fun h18 => ?_)
  refine p_cpJ C fwX6_30_ac fw_ac2 fw_ac3 fw_ac4 ⟨Nat.le_of_ble_eq_true rfl, Nat.le_of_ble_eq_true rfl⟩ dX6_copyFrom_42 h18 ?_
  refine q_nmX (fun X42_17 => ?_)
  refine q_aload_n C 1 dX6_copyFrom_45 rfl rfl ?_
  refine q_chk (fun h19 => ?_)
  refine q_chk (fun h20 => ?_)
  refine p_getR C fgX6_21 rfl dX6_copyFrom_46 h19 h20 ?_
  refine q_iconst C (0 : Int32) dX6_copyFrom_49 rfl ?_
  refine q_aload_n C 0 dX6_copyFrom_50 rfl rfl ?_
  refine q_chk (fun h21 => ?_)
  refine q_chk (fun h22 => ?_)
  refine p_getR C fgX6_21 rfl dX6_copyFrom_51 h21 h22 ?_
  refine q_iconst C (0 : Int32) dX6_copyFrom_54 rfl ?_
  refine q_bipush C (80 : Int32) dX6_copyFrom_55 rfl ?_
  refine q_chk (fun h24 => ?_)
  refine p_cpJ C fwX6_30_ac fw_ac2 fw_ac3 fw_ac4 ⟨Nat.le_of_ble_eq_true rfl, Nat.le_of_ble_eq_true rfl⟩ dX6_copyFrom_57 h24 ?_
  refine q_nmX (fun X57_23 => ?_)
  refine q_aload_n C 1 dX6_copyFrom_60 rfl rfl ?_
  refine q_chk (fun h25 => ?_)
  refine q_chk (fun h26 => ?_)
  refine p_getR C fgX6_24 rfl dX6_copyFrom_61 h25 h26 ?_
  refine q_iconst C (0 : Int32) dX6_copyFrom_64 rfl ?_
  refine q_aload_n C 0 dX6_copyFrom_65 rfl rfl ?_
  refine q_chk (fun h27 => ?_)
  refine q_chk (fun h28 => ?_)
  refine p_getR C fgX6_24 rfl dX6_copyFrom_66 h27 h28 ?_
  refine q_iconst C (0 : Int32) dX6_copyFrom_69 rfl ?_
  refine q_bipush C (80 : Int32) dX6_copyFrom_70 rfl ?_
  refine q_chk (fun h30 => ?_)
  refine p_cpJ C fwX6_30_ac fw_ac2 fw_ac3 fw_ac4 ⟨Nat.le_of_ble_eq_true rfl, Nat.le_of_ble_eq_true rfl⟩ dX6_copyFrom_72 h30 ?_
  refine q_nmX (fun X72_29 => ?_)
  refine q_aload_n C 1 dX6_copyFrom_75 rfl rfl ?_
  refine q_chk (fun h31 => ?_)
  refine q_chk (fun h32 => ?_)
  refine p_getR C fgX6_27 rfl dX6_copyFrom_76 h31 h32 ?_
  refine q_iconst C (0 : Int32) dX6_copyFrom_79 rfl ?_
  refine q_aload_n C 0 dX6_copyFrom_80 rfl rfl ?_
  refine q_chk (fun h33 => ?_)
  refine q_chk (fun h34 => ?_)
  refine p_getR C fgX6_27 rfl dX6_copyFrom_81 h33 h34 ?_
  refine q_iconst C (0 : Int32) dX6_copyFrom_84 rfl ?_
  refine q_bipush C (80 : Int32) dX6_copyFrom_85 rfl ?_
  refine q_chk (fun h36 => ?_)
  refine p_cpJ C fwX6_30_ac fw_ac2 fw_ac3 fw_ac4 ⟨Nat.le_of_ble_eq_true rfl, Nat.le_of_ble_eq_true rfl⟩ dX6_copyFrom_87 h36 ?_
  refine q_nmX (fun X87_35 => ?_)
  exact q_vret C dX6_copyFrom_90
/-! RecordClaims$Notes.wipe(I)V -/
abbrev cX6_wipe : ByteArray := prog_8_method_4_code
def yX6_wipe : MethodName := ⟨RX6, "wipe", "(I)V"⟩
theorem dX6_wipe_0 : decode cX6_wipe 0 = .ok (.iconst 0, 1) := by decide +kernel
theorem dX6_wipe_1 : decode cX6_wipe 1 = .ok (.istore_n 2, 1) := by decide +kernel
theorem dX6_wipe_2 : decode cX6_wipe 2 = .ok (.iload_n 2, 1) := by decide +kernel
theorem dX6_wipe_3 : decode cX6_wipe 3 = .ok (.bipush 10, 2) := by decide +kernel
theorem dX6_wipe_5 : decode cX6_wipe 5 = .ok (.if_icmp .ge 57, 3) := by decide +kernel
theorem dX6_wipe_8 : decode cX6_wipe 8 = .ok (.iload_n 1, 1) := by decide +kernel
theorem dX6_wipe_9 : decode cX6_wipe 9 = .ok (.iload_n 2, 1) := by decide +kernel
theorem dX6_wipe_10 : decode cX6_wipe 10 = .ok (.invokestatic 36, 3) := by decide +kernel
theorem dX6_wipe_13 : decode cX6_wipe 13 = .ok (.istore_n 3, 1) := by decide +kernel
theorem dX6_wipe_14 : decode cX6_wipe 14 = .ok (.aload_n 0, 1) := by decide +kernel
theorem dX6_wipe_15 : decode cX6_wipe 15 = .ok (.getfield 9, 3) := by decide +kernel
theorem dX6_wipe_18 : decode cX6_wipe 18 = .ok (.iload_n 3, 1) := by decide +kernel
theorem dX6_wipe_19 : decode cX6_wipe 19 = .ok (.lconst 0, 1) := by decide +kernel
theorem dX6_wipe_20 : decode cX6_wipe 20 = .ok (.lastore, 1) := by decide +kernel
theorem dX6_wipe_21 : decode cX6_wipe 21 = .ok (.aload_n 0, 1) := by decide +kernel
theorem dX6_wipe_22 : decode cX6_wipe 22 = .ok (.getfield 15, 3) := by decide +kernel
theorem dX6_wipe_25 : decode cX6_wipe 25 = .ok (.iload_n 3, 1) := by decide +kernel
theorem dX6_wipe_26 : decode cX6_wipe 26 = .ok (.lconst 0, 1) := by decide +kernel
theorem dX6_wipe_27 : decode cX6_wipe 27 = .ok (.lastore, 1) := by decide +kernel
theorem dX6_wipe_28 : decode cX6_wipe 28 = .ok (.aload_n 0, 1) := by decide +kernel
theorem dX6_wipe_29 : decode cX6_wipe 29 = .ok (.getfield 18, 3) := by decide +kernel
theorem dX6_wipe_32 : decode cX6_wipe 32 = .ok (.iload_n 3, 1) := by decide +kernel
theorem dX6_wipe_33 : decode cX6_wipe 33 = .ok (.lconst 0, 1) := by decide +kernel
theorem dX6_wipe_34 : decode cX6_wipe 34 = .ok (.lastore, 1) := by decide +kernel
theorem dX6_wipe_35 : decode cX6_wipe 35 = .ok (.aload_n 0, 1) := by decide +kernel
theorem dX6_wipe_36 : decode cX6_wipe 36 = .ok (.getfield 21, 3) := by decide +kernel
theorem dX6_wipe_39 : decode cX6_wipe 39 = .ok (.iload_n 3, 1) := by decide +kernel
theorem dX6_wipe_40 : decode cX6_wipe 40 = .ok (.lconst 0, 1) := by decide +kernel
theorem dX6_wipe_41 : decode cX6_wipe 41 = .ok (.lastore, 1) := by decide +kernel
theorem dX6_wipe_42 : decode cX6_wipe 42 = .ok (.aload_n 0, 1) := by decide +kernel
theorem dX6_wipe_43 : decode cX6_wipe 43 = .ok (.getfield 24, 3) := by decide +kernel
theorem dX6_wipe_46 : decode cX6_wipe 46 = .ok (.iload_n 3, 1) := by decide +kernel
theorem dX6_wipe_47 : decode cX6_wipe 47 = .ok (.lconst 0, 1) := by decide +kernel
theorem dX6_wipe_48 : decode cX6_wipe 48 = .ok (.lastore, 1) := by decide +kernel
theorem dX6_wipe_49 : decode cX6_wipe 49 = .ok (.aload_n 0, 1) := by decide +kernel
theorem dX6_wipe_50 : decode cX6_wipe 50 = .ok (.getfield 27, 3) := by decide +kernel
theorem dX6_wipe_53 : decode cX6_wipe 53 = .ok (.iload_n 3, 1) := by decide +kernel
theorem dX6_wipe_54 : decode cX6_wipe 54 = .ok (.lconst 0, 1) := by decide +kernel
theorem dX6_wipe_55 : decode cX6_wipe 55 = .ok (.lastore, 1) := by decide +kernel
theorem dX6_wipe_56 : decode cX6_wipe 56 = .ok (.iinc 2 1, 3) := by decide +kernel
theorem dX6_wipe_59 : decode cX6_wipe 59 = .ok (.goto (-57), 3) := by decide +kernel
theorem dX6_wipe_62 : decode cX6_wipe 62 = .ok (.return_, 1) := by decide +kernel
theorem fcX6_36 : q_LS RX6 36 yX6_at cX6_at 2 (some .int) 2 := ⟨q_tb 970 (by decide +kernel) rfl, q_tb 831 (by decide +kernel) rfl, q_tb 8 (by decide +kernel) rfl, q_tb 832 (by decide +kernel) rfl, ⟨by decide +kernel, by decide +kernel, by decide +kernel⟩⟩
def fX6_wipe_L2 (n : Nat) : Nat → Nat → Int32 → Int32 → Mm → Option (Unit × Mm)
| 0, _, _, _, _ => none
| j + 1, r0, v1, v2, X =>
if (10 : Int32) ≤ v2 then (
some ((), X)
) else (
bd (fX6_at v1 v2 X) fun w1 X10_2 =>
if mT X10_2 r0 = 6 then
if mR X10_2 r0 0 ≠ 0 then
if mT X10_2 (mR X10_2 r0 0) = 15 then
if q_b X10_2 (mR X10_2 r0 0) w1 then
nm (sJ X10_2 (mR X10_2 r0 0) (w1).toNatClampNeg (0 : Int64)) fun X20_5 =>
if mT X20_5 r0 = 6 then
if mR X20_5 r0 1 ≠ 0 then
if mT X20_5 (mR X20_5 r0 1) = 15 then
if q_b X20_5 (mR X20_5 r0 1) w1 then
nm (sJ X20_5 (mR X20_5 r0 1) (w1).toNatClampNeg (0 : Int64)) fun X27_10 =>
if mT X27_10 r0 = 6 then
if mR X27_10 r0 2 ≠ 0 then
if mT X27_10 (mR X27_10 r0 2) = 15 then
if q_b X27_10 (mR X27_10 r0 2) w1 then
nm (sJ X27_10 (mR X27_10 r0 2) (w1).toNatClampNeg (0 : Int64)) fun X34_15 =>
if mT X34_15 r0 = 6 then
if mR X34_15 r0 3 ≠ 0 then
if mT X34_15 (mR X34_15 r0 3) = 15 then
if q_b X34_15 (mR X34_15 r0 3) w1 then
nm (sJ X34_15 (mR X34_15 r0 3) (w1).toNatClampNeg (0 : Int64)) fun X41_20 =>
if mT X41_20 r0 = 6 then
if mR X41_20 r0 4 ≠ 0 then
if mT X41_20 (mR X41_20 r0 4) = 15 then
if q_b X41_20 (mR X41_20 r0 4) w1 then
nm (sJ X41_20 (mR X41_20 r0 4) (w1).toNatClampNeg (0 : Int64)) fun X48_25 =>
if mT X48_25 r0 = 6 then
if mR X48_25 r0 5 ≠ 0 then
if mT X48_25 (mR X48_25 r0 5) = 15 then
if q_b X48_25 (mR X48_25 r0 5) w1 then
nm (sJ X48_25 (mR X48_25 r0 5) (w1).toNatClampNeg (0 : Int64)) fun X55_30 =>
nm (v2 + (1 : Int32)) fun v2_56 =>
(fX6_wipe_L2 n j) r0 v1 v2_56 X55_30
else none
else none
else none
else none
else none
else none
else none
else none
else none
else none
else none
else none
else none
else none
else none
else none
else none
else none
else none
else none
else none
else none
else none
else none
)
def fX6_wipe (n : Nat) (r0 : Nat) (v1 : Int32) (X : Mm) : Option (Unit × Mm) :=
fX6_wipe_L2 n n r0 v1 (0 : Int32) X
theorem gX6_wipe_L2 {E : q_E} {X0 : Mm} (C : Cx E cX6_wipe RX6 4 none (q_rm 1 21 0 0) X0) (n : Nat) : ∀ (j : Nat) (r0 : Nat) (v1 : Int32) (v2 : Int32) (X : Mm), Sm E (q_fin E q_eV X0 0 0) 0 0 2 [(0, .ref (q_P E + r0)), (1, .int v1), (2, .int v2)] [] X (fX6_wipe_L2 n j r0 v1 v2 X) := by
  intro j
  induction j with
  | zero => intros; exact Sm.none
  | succ j ih =>
    intro r0 v1 v2 X
    rw [fX6_wipe_L2]
    refine q_iload_n C 2 dX6_wipe_2 rfl rfl ?_
    refine q_bipush C (10 : Int32) dX6_wipe_3 rfl ?_
    refine q_icmp_ge C 62 dX6_wipe_5 (by decide) (fun _ => ?_) (fun _ => ?_)
    · exact q_vret C dX6_wipe_62
    · refine q_iload_n C 1 dX6_wipe_8 rfl rfl ?_
      refine q_iload_n C 2 dX6_wipe_9 rfl rfl ?_
      refine q_cSI (As := (fun P => [.int v1, .int v2])) C [] (sX6_at v1 v2) fcX6_36 rfl (fun _ => rfl) ⟨Nat.le_of_ble_eq_true rfl, Nat.le_of_ble_eq_true rfl⟩ ⟨Nat.le_of_ble_eq_true rfl, Nat.le_of_ble_eq_true rfl⟩ (Nat.le_of_ble_eq_true rfl) dX6_wipe_10 (fun w1 X10_2 => ?_)
      refine q_istore_n C [(3, .int w1), (0, .ref (q_P E + r0)), (1, .int v1), (2, .int v2)] dX6_wipe_13 rfl (Nat.le_of_ble_eq_true rfl) rfl ?_
      refine q_aload_n C 1 dX6_wipe_14 rfl rfl ?_
      refine q_chk (fun h3 => ?_)
      refine q_chk (fun h4 => ?_)
      refine p_getR C fgX6_9 rfl dX6_wipe_15 h3 h4 ?_
      refine q_iload_n C 0 dX6_wipe_18 rfl rfl ?_
      refine q_lconst C (0 : Int64) dX6_wipe_19 rfl ?_
      refine q_chk (fun h6 => ?_)
      refine q_chk (fun h7 => ?_)
      refine p_last C dX6_wipe_20 h6 h7 ?_
      refine q_nmX (fun X20_5 => ?_)
      refine q_aload_n C 1 dX6_wipe_21 rfl rfl ?_
      refine q_chk (fun h8 => ?_)
      refine q_chk (fun h9 => ?_)
      refine p_getR C fgX6_15 rfl dX6_wipe_22 h8 h9 ?_
      refine q_iload_n C 0 dX6_wipe_25 rfl rfl ?_
      refine q_lconst C (0 : Int64) dX6_wipe_26 rfl ?_
      refine q_chk (fun h11 => ?_)
      refine q_chk (fun h12 => ?_)
      refine p_last C dX6_wipe_27 h11 h12 ?_
      refine q_nmX (fun X27_10 => ?_)
      refine q_aload_n C 1 dX6_wipe_28 rfl rfl ?_
      refine q_chk (fun h13 => ?_)
      refine q_chk (fun h14 => ?_)
      refine p_getR C fgX6_18 rfl dX6_wipe_29 h13 h14 ?_
      refine q_iload_n C 0 dX6_wipe_32 rfl rfl ?_
      refine q_lconst C (0 : Int64) dX6_wipe_33 rfl ?_
      refine q_chk (fun h16 => ?_)
      refine q_chk (fun h17 => ?_)
      refine p_last C dX6_wipe_34 h16 h17 ?_
      refine q_nmX (fun X34_15 => ?_)
      refine q_aload_n C 1 dX6_wipe_35 rfl rfl ?_
      refine q_chk (fun h18 => ?_)
      refine q_chk (fun h19 => ?_)
      refine p_getR C fgX6_21 rfl dX6_wipe_36 h18 h19 ?_
      refine q_iload_n C 0 dX6_wipe_39 rfl rfl ?_
      refine q_lconst C (0 : Int64) dX6_wipe_40 rfl ?_
      refine q_chk (fun h21 => ?_)
      refine q_chk (fun h22 => ?_)
      refine p_last C dX6_wipe_41 h21 h22 ?_
      refine q_nmX (fun X41_20 => ?_)
      refine q_aload_n C 1 dX6_wipe_42 rfl rfl ?_
      refine q_chk (fun h23 => ?_)
      refine q_chk (fun h24 => ?_)
      refine p_getR C fgX6_24 rfl dX6_wipe_43 h23 h24 ?_
      refine q_iload_n C 0 dX6_wipe_46 rfl rfl ?_
      refine q_lconst C (0 : Int64) dX6_wipe_47 rfl ?_
      refine q_chk (fun h26 => ?_)
      refine q_chk (fun h27 => ?_)
      refine p_last C dX6_wipe_48 h26 h27 ?_
      refine q_nmX (fun X48_25 => ?_)
      refine q_aload_n C 1 dX6_wipe_49 rfl rfl ?_
      refine q_chk (fun h28 => ?_)
      refine q_chk (fun h29 => ?_)
      refine p_getR C fgX6_27 rfl dX6_wipe_50 h28 h29 ?_
      refine q_iload_n C 0 dX6_wipe_53 rfl rfl ?_
      refine q_lconst C (0 : Int64) dX6_wipe_54 rfl ?_
      refine q_chk (fun h31 => ?_)
      refine q_chk (fun h32 => ?_)
      refine p_last C dX6_wipe_55 h31 h32 ?_
      refine q_nmX (fun X55_30 => ?_)
      refine q_iincN C (1 : Int32) 3 (fun v2_56 => [(2, .int v2_56), (3, .int w1), (0, .ref (q_P E + r0)), (1, .int v1)]) dX6_wipe_56 rfl rfl (Nat.le_of_ble_eq_true rfl) (fun _ => rfl) (fun v2_56 => ?_)
      refine q_goto C 2 dX6_wipe_59 (by decide) ?_
      refine q_sub C [(0, .ref (q_P E + r0)), (1, .int v1), (2, .int v2_56)] [2, 3, 0] rfl ?_
      exact ih r0 v1 v2_56 X55_30
theorem sX6_wipe (n : Nat) (r0 : Nat) (v1 : Int32) : q_Ct yX6_wipe cX6_wipe 4 none 1 21 0 0 q_eV (fun P => [.ref (P + r0), .int v1]) (fX6_wipe n r0 v1) := by
  refine q_meth (by decide +kernel) (fun P => Nat.le_of_ble_eq_true rfl) (fun E X C hn => ?_)
  show Sm E (q_fin E q_eV X 0 0) 0 0 0 [(0, .ref (q_P E + r0)), (1, .int v1)] [] X _
  unfold fX6_wipe
  refine q_iconst C (0 : Int32) dX6_wipe_0 rfl ?_
  refine q_istore_n C [(2, .int (0 : Int32)), (0, .ref (q_P E + r0)), (1, .int v1)] dX6_wipe_1 rfl (Nat.le_of_ble_eq_true rfl) rfl ?_
  refine q_sub C [(0, .ref (q_P E + r0)), (1, .int v1), (2, .int (0 : Int32))] [1, 2, 0] rfl ?_
  exact gX6_wipe_L2 C n n r0 v1 (0 : Int32) X
