/-! RecordClaims.<init>()V -/
abbrev cX11_init : ByteArray := prog_1_method_1_code
def yX11_init : MethodName := ⟨RX11, "<init>", "()V"⟩
theorem dX11_init_0 : decode cX11_init 0 = .ok (.aload_n 0, 1) := by decide +kernel
theorem dX11_init_1 : decode cX11_init 1 = .ok (.invokespecial 1, 3) := by decide +kernel
theorem dX11_init_4 : decode cX11_init 4 = .ok (.aload_n 0, 1) := by decide +kernel
theorem dX11_init_5 : decode cX11_init 5 = .ok (.new 7, 3) := by decide +kernel
theorem dX11_init_8 : decode cX11_init 8 = .ok (.dup, 1) := by decide +kernel
theorem dX11_init_9 : decode cX11_init 9 = .ok (.invokespecial 9, 3) := by decide +kernel
theorem dX11_init_12 : decode cX11_init 12 = .ok (.putfield 10, 3) := by decide +kernel
theorem dX11_init_15 : decode cX11_init 15 = .ok (.aload_n 0, 1) := by decide +kernel
theorem dX11_init_16 : decode cX11_init 16 = .ok (.new 16, 3) := by decide +kernel
theorem dX11_init_19 : decode cX11_init 19 = .ok (.dup, 1) := by decide +kernel
theorem dX11_init_20 : decode cX11_init 20 = .ok (.invokespecial 18, 3) := by decide +kernel
theorem dX11_init_23 : decode cX11_init 23 = .ok (.putfield 19, 3) := by decide +kernel
theorem dX11_init_26 : decode cX11_init 26 = .ok (.aload_n 0, 1) := by decide +kernel
theorem dX11_init_27 : decode cX11_init 27 = .ok (.new 16, 3) := by decide +kernel
theorem dX11_init_30 : decode cX11_init 30 = .ok (.dup, 1) := by decide +kernel
theorem dX11_init_31 : decode cX11_init 31 = .ok (.invokespecial 18, 3) := by decide +kernel
theorem dX11_init_34 : decode cX11_init 34 = .ok (.putfield 23, 3) := by decide +kernel
theorem dX11_init_37 : decode cX11_init 37 = .ok (.aload_n 0, 1) := by decide +kernel
theorem dX11_init_38 : decode cX11_init 38 = .ok (.new 26, 3) := by decide +kernel
theorem dX11_init_41 : decode cX11_init 41 = .ok (.dup, 1) := by decide +kernel
theorem dX11_init_42 : decode cX11_init 42 = .ok (.invokespecial 28, 3) := by decide +kernel
theorem dX11_init_45 : decode cX11_init 45 = .ok (.putfield 29, 3) := by decide +kernel
theorem dX11_init_48 : decode cX11_init 48 = .ok (.aload_n 0, 1) := by decide +kernel
theorem dX11_init_49 : decode cX11_init 49 = .ok (.new 33, 3) := by decide +kernel
theorem dX11_init_52 : decode cX11_init 52 = .ok (.dup, 1) := by decide +kernel
theorem dX11_init_53 : decode cX11_init 53 = .ok (.invokespecial 35, 3) := by decide +kernel
theorem dX11_init_56 : decode cX11_init 56 = .ok (.putfield 36, 3) := by decide +kernel
theorem dX11_init_59 : decode cX11_init 59 = .ok (.aload_n 0, 1) := by decide +kernel
theorem dX11_init_60 : decode cX11_init 60 = .ok (.new 40, 3) := by decide +kernel
theorem dX11_init_63 : decode cX11_init 63 = .ok (.dup, 1) := by decide +kernel
theorem dX11_init_64 : decode cX11_init 64 = .ok (.invokespecial 42, 3) := by decide +kernel
theorem dX11_init_67 : decode cX11_init 67 = .ok (.putfield 43, 3) := by decide +kernel
theorem dX11_init_70 : decode cX11_init 70 = .ok (.aload_n 0, 1) := by decide +kernel
theorem dX11_init_71 : decode cX11_init 71 = .ok (.new 47, 3) := by decide +kernel
theorem dX11_init_74 : decode cX11_init 74 = .ok (.dup, 1) := by decide +kernel
theorem dX11_init_75 : decode cX11_init 75 = .ok (.invokespecial 49, 3) := by decide +kernel
theorem dX11_init_78 : decode cX11_init 78 = .ok (.putfield 50, 3) := by decide +kernel
theorem dX11_init_81 : decode cX11_init 81 = .ok (.aload_n 0, 1) := by decide +kernel
theorem dX11_init_82 : decode cX11_init 82 = .ok (.new 54, 3) := by decide +kernel
theorem dX11_init_85 : decode cX11_init 85 = .ok (.dup, 1) := by decide +kernel
theorem dX11_init_86 : decode cX11_init 86 = .ok (.invokespecial 56, 3) := by decide +kernel
theorem dX11_init_89 : decode cX11_init 89 = .ok (.putfield 57, 3) := by decide +kernel
theorem dX11_init_92 : decode cX11_init 92 = .ok (.return_, 1) := by decide +kernel
theorem fwX11_1_oi : Cond.methodLink RX11 1 Lib.objectInit ∈ q_tbl := q_tb 25 (by decide +kernel) rfl
theorem fnX11_7 : q_LN RX11 7 9 8 := ⟨RX9, TX9, tyX9, rfl, inX9, tyX9_ok, q_tb 28 (by decide +kernel) rfl, q_tb 29 (by decide +kernel) rfl, q_tb 2 (by decide +kernel) rfl, fun P j hj => by
  have h : ∀ j, j < 8 → defaultValue (tyX9 j) = q_fv 0 (fun _ => 0) (fun _ => 0) (fun _ => 0) 9 j := by decide +kernel
  exact h j hj⟩
theorem fcX11_9 : q_LI RX11 9 yX9_init cX9_init 1 0 := ⟨Or.inr ⟨"RecordClaims", List.mem_append_right _ (List.mem_of_getElem? (i := 30) (by decide +kernel))⟩, q_tb 31 (by decide +kernel) rfl, q_tb 2 (by decide +kernel) rfl, q_tb 32 (by decide +kernel) rfl, rfl, ⟨by decide +kernel, by decide +kernel, by decide +kernel⟩⟩
theorem fpX11_10 : q_Fp RX11 10 11 0 (.object "RecordClaims$Tape") true := ⟨RX11, TX11, 8, tyX11, rfl, by decide, inX11, q_tb 477 (by decide +kernel) rfl, tyX11_ok, nmX11, rfl, rfl, fun h => by first | rfl | cases h⟩
theorem fnX11_16 : q_LN RX11 16 0 5 := ⟨RX0, TX0, tyX0, rfl, inX0, tyX0_ok, q_tb 65 (by decide +kernel) rfl, q_tb 66 (by decide +kernel) rfl, q_tb 3 (by decide +kernel) rfl, fun P j hj => by
  have h : ∀ j, j < 5 → defaultValue (tyX0 j) = q_fv 0 (fun _ => 0) (fun _ => 0) (fun _ => 0) 0 j := by decide +kernel
  exact h j hj⟩
theorem fcX11_18 : q_LI RX11 18 yX0_init cX0_init 1 0 := ⟨Or.inr ⟨"RecordClaims", List.mem_append_right _ (List.mem_of_getElem? (i := 67) (by decide +kernel))⟩, q_tb 68 (by decide +kernel) rfl, q_tb 3 (by decide +kernel) rfl, q_tb 69 (by decide +kernel) rfl, rfl, ⟨by decide +kernel, by decide +kernel, by decide +kernel⟩⟩
theorem fpX11_19 : q_Fp RX11 19 11 1 (.object "RecordClaims$Book") false := ⟨RX11, TX11, 8, tyX11, rfl, by decide, inX11, q_tb 478 (by decide +kernel) rfl, tyX11_ok, nmX11, rfl, rfl, fun h => by first | rfl | cases h⟩
theorem fpX11_23 : q_Fp RX11 23 11 2 (.object "RecordClaims$Book") false := ⟨RX11, TX11, 8, tyX11, rfl, by decide, inX11, q_tb 479 (by decide +kernel) rfl, tyX11_ok, nmX11, rfl, rfl, fun h => by first | rfl | cases h⟩
theorem fnX11_26 : q_LN RX11 26 2 20 := ⟨RX2, TX2, tyX2, rfl, inX2, tyX2_ok, q_tb 93 (by decide +kernel) rfl, q_tb 94 (by decide +kernel) rfl, q_tb 4 (by decide +kernel) rfl, fun P j hj => by
  have h : ∀ j, j < 20 → defaultValue (tyX2 j) = q_fv 0 (fun _ => 0) (fun _ => 0) (fun _ => 0) 2 j := by decide +kernel
  exact h j hj⟩
theorem fcX11_28 : q_LI RX11 28 yX2_init cX2_init 1 0 := ⟨Or.inr ⟨"RecordClaims", List.mem_append_right _ (List.mem_of_getElem? (i := 95) (by decide +kernel))⟩, q_tb 96 (by decide +kernel) rfl, q_tb 4 (by decide +kernel) rfl, q_tb 97 (by decide +kernel) rfl, rfl, ⟨by decide +kernel, by decide +kernel, by decide +kernel⟩⟩
theorem fpX11_29 : q_Fp RX11 29 11 3 (.object "RecordClaims$Deed") true := ⟨RX11, TX11, 8, tyX11, rfl, by decide, inX11, q_tb 480 (by decide +kernel) rfl, tyX11_ok, nmX11, rfl, rfl, fun h => by first | rfl | cases h⟩
theorem fnX11_33 : q_LN RX11 33 8 9 := ⟨RX8, TX8, tyX8, rfl, inX8, tyX8_ok, q_tb 210 (by decide +kernel) rfl, q_tb 211 (by decide +kernel) rfl, q_tb 5 (by decide +kernel) rfl, fun P j hj => by
  have h : ∀ j, j < 9 → defaultValue (tyX8 j) = q_fv 0 (fun _ => 0) (fun _ => 0) (fun _ => 0) 8 j := by decide +kernel
  exact h j hj⟩
theorem fcX11_35 : q_LI RX11 35 yX8_init cX8_init 1 0 := ⟨Or.inr ⟨"RecordClaims", List.mem_append_right _ (List.mem_of_getElem? (i := 212) (by decide +kernel))⟩, q_tb 213 (by decide +kernel) rfl, q_tb 5 (by decide +kernel) rfl, q_tb 214 (by decide +kernel) rfl, rfl, ⟨by decide +kernel, by decide +kernel, by decide +kernel⟩⟩
theorem fpX11_36 : q_Fp RX11 36 11 4 (.object "RecordClaims$State") true := ⟨RX11, TX11, 8, tyX11, rfl, by decide, inX11, q_tb 481 (by decide +kernel) rfl, tyX11_ok, nmX11, rfl, rfl, fun h => by first | rfl | cases h⟩
theorem fnX11_40 : q_LN RX11 40 4 3 := ⟨RX4, TX4, tyX4, rfl, inX4, tyX4_ok, q_tb 432 (by decide +kernel) rfl, q_tb 433 (by decide +kernel) rfl, q_tb 10 (by decide +kernel) rfl, fun P j hj => by
  have h : ∀ j, j < 3 → defaultValue (tyX4 j) = q_fv 0 (fun _ => 0) (fun _ => 0) (fun _ => 0) 4 j := by decide +kernel
  exact h j hj⟩
theorem fcX11_42 : q_LI RX11 42 yX4_init cX4_init 2 0 := ⟨Or.inl (q_tb 434 (by decide +kernel) rfl), q_tb 435 (by decide +kernel) rfl, q_tb 10 (by decide +kernel) rfl, q_tb 436 (by decide +kernel) rfl, rfl, ⟨by decide +kernel, by decide +kernel, by decide +kernel⟩⟩
theorem fpX11_43 : q_Fp RX11 43 11 5 (.object "RecordClaims$History") true := ⟨RX11, TX11, 8, tyX11, rfl, by decide, inX11, q_tb 482 (by decide +kernel) rfl, tyX11_ok, nmX11, rfl, rfl, fun h => by first | rfl | cases h⟩
theorem fnX11_47 : q_LN RX11 47 7 2 := ⟨RX7, TX7, tyX7, rfl, inX7, tyX7_ok, q_tb 452 (by decide +kernel) rfl, q_tb 453 (by decide +kernel) rfl, q_tb 11 (by decide +kernel) rfl, fun P j hj => by
  have h : ∀ j, j < 2 → defaultValue (tyX7 j) = q_fv 0 (fun _ => 0) (fun _ => 0) (fun _ => 0) 7 j := by decide +kernel
  exact h j hj⟩
theorem fcX11_49 : q_LI RX11 49 yX7_init cX7_init 1 0 := ⟨Or.inr ⟨"RecordClaims", List.mem_append_right _ (List.mem_of_getElem? (i := 454) (by decide +kernel))⟩, q_tb 455 (by decide +kernel) rfl, q_tb 11 (by decide +kernel) rfl, q_tb 456 (by decide +kernel) rfl, rfl, ⟨by decide +kernel, by decide +kernel, by decide +kernel⟩⟩
theorem fpX11_50 : q_Fp RX11 50 11 6 (.object "RecordClaims$Shown") true := ⟨RX11, TX11, 8, tyX11, rfl, by decide, inX11, q_tb 483 (by decide +kernel) rfl, tyX11_ok, nmX11, rfl, rfl, fun h => by first | rfl | cases h⟩
theorem fnX11_54 : q_LN RX11 54 5 1 := ⟨RX5, TX5, tyX5, rfl, inX5, tyX5_ok, q_tb 467 (by decide +kernel) rfl, q_tb 468 (by decide +kernel) rfl, q_tb 12 (by decide +kernel) rfl, fun P j hj => by
  have h : ∀ j, j < 1 → defaultValue (tyX5 j) = q_fv 0 (fun _ => 0) (fun _ => 0) (fun _ => 0) 5 j := by decide +kernel
  exact h j hj⟩
theorem fcX11_56 : q_LI RX11 56 yX5_init cX5_init 1 0 := ⟨Or.inr ⟨"RecordClaims", List.mem_append_right _ (List.mem_of_getElem? (i := 469) (by decide +kernel))⟩, q_tb 470 (by decide +kernel) rfl, q_tb 12 (by decide +kernel) rfl, q_tb 471 (by decide +kernel) rfl, rfl, ⟨by decide +kernel, by decide +kernel, by decide +kernel⟩⟩
theorem fpX11_57 : q_Fp RX11 57 11 7 (.object "RecordClaims$Netting") true := ⟨RX11, TX11, 8, tyX11, rfl, by decide, inX11, q_tb 484 (by decide +kernel) rfl, tyX11_ok, nmX11, rfl, rfl, fun h => by first | rfl | cases h⟩
def fX11_init (r0 : Nat) (X : Mm) : Option (Unit × Mm) :=
nm (mN X + 1) fun rN2 =>
nm (q_nw X 9 8) fun X5_1 =>
bd (fX9_init rN2 X5_1) fun _ X9_4 =>
if mT X9_4 r0 = 11 then
if rN2 ≠ 0 then
nm (sR X9_4 r0 0 rN2) fun X12_5 =>
nm (mN X12_5 + 1) fun rN9 =>
nm (q_nw X12_5 0 5) fun X16_8 =>
bd (fX0_init rN9 X16_8) fun _ X20_11 =>
if mT X20_11 r0 = 11 then
if rN9 ≠ 0 then
nm (sR X20_11 r0 1 rN9) fun X23_12 =>
nm (mN X23_12 + 1) fun rN16 =>
nm (q_nw X23_12 0 5) fun X27_15 =>
bd (fX0_init rN16 X27_15) fun _ X31_18 =>
if mT X31_18 r0 = 11 then
if rN16 ≠ 0 then
nm (sR X31_18 r0 2 rN16) fun X34_19 =>
nm (mN X34_19 + 1) fun rN23 =>
nm (q_nw X34_19 2 20) fun X38_22 =>
bd (fX2_init rN23 X38_22) fun _ X42_25 =>
if mT X42_25 r0 = 11 then
if rN23 ≠ 0 then
nm (sR X42_25 r0 3 rN23) fun X45_26 =>
nm (mN X45_26 + 1) fun rN30 =>
nm (q_nw X45_26 8 9) fun X49_29 =>
bd (fX8_init rN30 X49_29) fun _ X53_32 =>
if mT X53_32 r0 = 11 then
if rN30 ≠ 0 then
nm (sR X53_32 r0 4 rN30) fun X56_33 =>
nm (mN X56_33 + 1) fun rN37 =>
nm (q_nw X56_33 4 3) fun X60_36 =>
bd (fX4_init rN37 X60_36) fun _ X64_39 =>
if mT X64_39 r0 = 11 then
if rN37 ≠ 0 then
nm (sR X64_39 r0 5 rN37) fun X67_40 =>
nm (mN X67_40 + 1) fun rN44 =>
nm (q_nw X67_40 7 2) fun X71_43 =>
bd (fX7_init rN44 X71_43) fun _ X75_46 =>
if mT X75_46 r0 = 11 then
if rN44 ≠ 0 then
nm (sR X75_46 r0 6 rN44) fun X78_47 =>
nm (mN X78_47 + 1) fun rN51 =>
nm (q_nw X78_47 5 1) fun X82_50 =>
bd (fX5_init rN51 X82_50) fun _ X86_53 =>
if mT X86_53 r0 = 11 then
if rN51 ≠ 0 then
nm (sR X86_53 r0 7 rN51) fun X89_54 =>
some ((), X89_54)
else none
else none
else none
else none
else none
else none
else none
else none
else none
else none
else none
else none
else none
else none
else none
else none
theorem sX11_init (r0 : Nat) : q_Ct yX11_init cX11_init 1 none 4 81 364 32534 q_eV (fun P => [.ref (P + r0)]) (fX11_init r0) := by
  refine q_meth (by decide +kernel) (fun P => Nat.le_of_ble_eq_true rfl) (fun E X C hn => ?_)
  show Sm E (q_fin E q_eV X 364 32534) 0 0 0 [(0, .ref (q_P E + r0))] [] X _
  unfold fX11_init
  refine q_aload_n C 0 dX11_init_0 rfl rfl ?_
  refine q_objInit C fwX11_1_oi fw_oi2 fw_oi3 ⟨Nat.le_of_ble_eq_true rfl, Nat.le_of_ble_eq_true rfl⟩ dX11_init_1 ?_
  refine q_aload_n C 0 dX11_init_4 rfl rfl ?_
  refine q_new C fnX11_7 ⟨Nat.le_of_ble_eq_true rfl, Nat.le_of_ble_eq_true rfl⟩ dX11_init_5 ?_
  refine q_nmr (fun rN2 => ?_)
  refine q_nmX (fun X5_1 => ?_)
  refine q_dup C dX11_init_8 rfl ?_
  refine q_callI (As := (fun P => [])) (st := [.ref (q_P E + rN2), .ref (q_P E + r0)]) C (sX9_init rN2) fcX11_9 rfl (fun _ => rfl) ⟨Nat.le_of_ble_eq_true rfl, Nat.le_of_ble_eq_true rfl⟩ ⟨Nat.le_of_ble_eq_true rfl, Nat.le_of_ble_eq_true rfl⟩ (Nat.le_of_ble_eq_true rfl) dX11_init_9 (fun X9_4 => ?_)
  show Sm E (q_fin E q_eV X 364 32534) 5 2811 12 [(0, .ref (q_P E + r0))] [.ref (q_P E + rN2), .ref (q_P E + r0)] X9_4 _
  refine q_chk (fun h6 => ?_)
  refine q_chk (fun h7 => ?_)
  refine p_putF C fpX11_10 hn (fun _ => rfl) (fun _ => rfl) rfl dX11_init_12 h6 h7 ?_
  refine q_nmX (fun X12_5 => ?_)
  refine q_aload_n C 0 dX11_init_15 rfl rfl ?_
  refine q_new C fnX11_16 ⟨Nat.le_of_ble_eq_true rfl, Nat.le_of_ble_eq_true rfl⟩ dX11_init_16 ?_
  refine q_nmr (fun rN9 => ?_)
  refine q_nmX (fun X16_8 => ?_)
  refine q_dup C dX11_init_19 rfl ?_
  refine q_callI (As := (fun P => [])) (st := [.ref (q_P E + rN9), .ref (q_P E + r0)]) C (sX0_init rN9) fcX11_18 rfl (fun _ => rfl) ⟨Nat.le_of_ble_eq_true rfl, Nat.le_of_ble_eq_true rfl⟩ ⟨Nat.le_of_ble_eq_true rfl, Nat.le_of_ble_eq_true rfl⟩ (Nat.le_of_ble_eq_true rfl) dX11_init_20 (fun X20_11 => ?_)
  show Sm E (q_fin E q_eV X 364 32534) 9 2881 23 [(0, .ref (q_P E + r0))] [.ref (q_P E + rN9), .ref (q_P E + r0)] X20_11 _
  refine q_chk (fun h13 => ?_)
  refine q_chk (fun h14 => ?_)
  refine p_putR C fpX11_19 (fun _ => rfl) (fun _ => rfl) rfl dX11_init_23 h13 h14 ?_
  refine q_nmX (fun X23_12 => ?_)
  refine q_aload_n C 0 dX11_init_26 rfl rfl ?_
  refine q_new C fnX11_16 ⟨Nat.le_of_ble_eq_true rfl, Nat.le_of_ble_eq_true rfl⟩ dX11_init_27 ?_
  refine q_nmr (fun rN16 => ?_)
  refine q_nmX (fun X27_15 => ?_)
  refine q_dup C dX11_init_30 rfl ?_
  refine q_callI (As := (fun P => [])) (st := [.ref (q_P E + rN16), .ref (q_P E + r0)]) C (sX0_init rN16) fcX11_18 rfl (fun _ => rfl) ⟨Nat.le_of_ble_eq_true rfl, Nat.le_of_ble_eq_true rfl⟩ ⟨Nat.le_of_ble_eq_true rfl, Nat.le_of_ble_eq_true rfl⟩ (Nat.le_of_ble_eq_true rfl) dX11_init_31 (fun X31_18 => ?_)
  show Sm E (q_fin E q_eV X 364 32534) 13 2951 34 [(0, .ref (q_P E + r0))] [.ref (q_P E + rN16), .ref (q_P E + r0)] X31_18 _
  refine q_chk (fun h20 => ?_)
  refine q_chk (fun h21 => ?_)
  refine p_putR C fpX11_23 (fun _ => rfl) (fun _ => rfl) rfl dX11_init_34 h20 h21 ?_
  refine q_nmX (fun X34_19 => ?_)
  refine q_aload_n C 0 dX11_init_37 rfl rfl ?_
  refine q_new C fnX11_26 ⟨Nat.le_of_ble_eq_true rfl, Nat.le_of_ble_eq_true rfl⟩ dX11_init_38 ?_
  refine q_nmr (fun rN23 => ?_)
  refine q_nmX (fun X38_22 => ?_)
  refine q_dup C dX11_init_41 rfl ?_
  refine q_callI (As := (fun P => [])) (st := [.ref (q_P E + rN23), .ref (q_P E + r0)]) C (sX2_init rN23) fcX11_28 rfl (fun _ => rfl) ⟨Nat.le_of_ble_eq_true rfl, Nat.le_of_ble_eq_true rfl⟩ ⟨Nat.le_of_ble_eq_true rfl, Nat.le_of_ble_eq_true rfl⟩ (Nat.le_of_ble_eq_true rfl) dX11_init_42 (fun X42_25 => ?_)
  refine q_chk (fun h27 => ?_)
  refine q_chk (fun h28 => ?_)
  refine p_putF C fpX11_29 hn (fun _ => rfl) (fun _ => rfl) rfl dX11_init_45 h27 h28 ?_
  refine q_nmX (fun X45_26 => ?_)
  refine q_aload_n C 0 dX11_init_48 rfl rfl ?_
  refine q_new C fnX11_33 ⟨Nat.le_of_ble_eq_true rfl, Nat.le_of_ble_eq_true rfl⟩ dX11_init_49 ?_
  refine q_nmr (fun rN30 => ?_)
  refine q_nmX (fun X49_29 => ?_)
  refine q_dup C dX11_init_52 rfl ?_
  refine q_callI (As := (fun P => [])) (st := [.ref (q_P E + rN30), .ref (q_P E + r0)]) C (sX8_init rN30) fcX11_35 rfl (fun _ => rfl) ⟨Nat.le_of_ble_eq_true rfl, Nat.le_of_ble_eq_true rfl⟩ ⟨Nat.le_of_ble_eq_true rfl, Nat.le_of_ble_eq_true rfl⟩ (Nat.le_of_ble_eq_true rfl) dX11_init_53 (fun X53_32 => ?_)
  show Sm E (q_fin E q_eV X 364 32534) 57 6626 56 [(0, .ref (q_P E + r0))] [.ref (q_P E + rN30), .ref (q_P E + r0)] X53_32 _
  refine q_chk (fun h34 => ?_)
  refine q_chk (fun h35 => ?_)
  refine p_putF C fpX11_36 hn (fun _ => rfl) (fun _ => rfl) rfl dX11_init_56 h34 h35 ?_
  refine q_nmX (fun X56_33 => ?_)
  refine q_aload_n C 0 dX11_init_59 rfl rfl ?_
  refine q_new C fnX11_40 ⟨Nat.le_of_ble_eq_true rfl, Nat.le_of_ble_eq_true rfl⟩ dX11_init_60 ?_
  refine q_nmr (fun rN37 => ?_)
  refine q_nmX (fun X60_36 => ?_)
  refine q_dup C dX11_init_63 rfl ?_
  refine q_callI (As := (fun P => [])) (st := [.ref (q_P E + rN37), .ref (q_P E + r0)]) C (sX4_init rN37) fcX11_42 rfl (fun _ => rfl) ⟨Nat.le_of_ble_eq_true rfl, Nat.le_of_ble_eq_true rfl⟩ ⟨Nat.le_of_ble_eq_true rfl, Nat.le_of_ble_eq_true rfl⟩ (Nat.le_of_ble_eq_true rfl) dX11_init_64 (fun X64_39 => ?_)
  show Sm E (q_fin E q_eV X 364 32534) 360 32221 67 [(0, .ref (q_P E + r0))] [.ref (q_P E + rN37), .ref (q_P E + r0)] X64_39 _
  refine q_chk (fun h41 => ?_)
  refine q_chk (fun h42 => ?_)
  refine p_putF C fpX11_43 hn (fun _ => rfl) (fun _ => rfl) rfl dX11_init_67 h41 h42 ?_
  refine q_nmX (fun X67_40 => ?_)
  refine q_aload_n C 0 dX11_init_70 rfl rfl ?_
  refine q_new C fnX11_47 ⟨Nat.le_of_ble_eq_true rfl, Nat.le_of_ble_eq_true rfl⟩ dX11_init_71 ?_
  refine q_nmr (fun rN44 => ?_)
  refine q_nmX (fun X71_43 => ?_)
  refine q_dup C dX11_init_74 rfl ?_
  refine q_callI (As := (fun P => [])) (st := [.ref (q_P E + rN44), .ref (q_P E + r0)]) C (sX7_init rN44) fcX11_49 rfl (fun _ => rfl) ⟨Nat.le_of_ble_eq_true rfl, Nat.le_of_ble_eq_true rfl⟩ ⟨Nat.le_of_ble_eq_true rfl, Nat.le_of_ble_eq_true rfl⟩ (Nat.le_of_ble_eq_true rfl) dX11_init_75 (fun X75_46 => ?_)
  show Sm E (q_fin E q_eV X 364 32534) 362 32523 78 [(0, .ref (q_P E + r0))] [.ref (q_P E + rN44), .ref (q_P E + r0)] X75_46 _
  refine q_chk (fun h48 => ?_)
  refine q_chk (fun h49 => ?_)
  refine p_putF C fpX11_50 hn (fun _ => rfl) (fun _ => rfl) rfl dX11_init_78 h48 h49 ?_
  refine q_nmX (fun X78_47 => ?_)
  refine q_aload_n C 0 dX11_init_81 rfl rfl ?_
  refine q_new C fnX11_54 ⟨Nat.le_of_ble_eq_true rfl, Nat.le_of_ble_eq_true rfl⟩ dX11_init_82 ?_
  refine q_nmr (fun rN51 => ?_)
  refine q_nmX (fun X82_50 => ?_)
  refine q_dup C dX11_init_85 rfl ?_
  refine q_callI (As := (fun P => [])) (st := [.ref (q_P E + rN51), .ref (q_P E + r0)]) C (sX5_init rN51) fcX11_56 rfl (fun _ => rfl) ⟨Nat.le_of_ble_eq_true rfl, Nat.le_of_ble_eq_true rfl⟩ ⟨Nat.le_of_ble_eq_true rfl, Nat.le_of_ble_eq_true rfl⟩ (Nat.le_of_ble_eq_true rfl) dX11_init_86 (fun X86_53 => ?_)
  show Sm E (q_fin E q_eV X 364 32534) 364 32534 89 [(0, .ref (q_P E + r0))] [.ref (q_P E + rN51), .ref (q_P E + r0)] X86_53 _
  refine q_chk (fun h55 => ?_)
  refine q_chk (fun h56 => ?_)
  refine p_putF C fpX11_57 hn (fun _ => rfl) (fun _ => rfl) rfl dX11_init_89 h55 h56 ?_
  refine q_nmX (fun X89_54 => ?_)
  exact q_vret C dX11_init_92
/-! RecordClaims.feed(IIIII)I -/
abbrev cX11_feed : ByteArray := prog_1_method_2_code
def yX11_feed : MethodName := ⟨RX11, "feed", "(IIIII)I"⟩
theorem dX11_feed_0 : decode cX11_feed 0 = .ok (.aload_n 0, 1) := by decide +kernel
theorem dX11_feed_1 : decode cX11_feed 1 = .ok (.getfield 10, 3) := by decide +kernel
theorem dX11_feed_4 : decode cX11_feed 4 = .ok (.getfield 61, 3) := by decide +kernel
theorem dX11_feed_7 : decode cX11_feed 7 = .ok (.sipush 680, 3) := by decide +kernel
theorem dX11_feed_10 : decode cX11_feed 10 = .ok (.if_icmp .le 5, 3) := by decide +kernel
theorem dX11_feed_13 : decode cX11_feed 13 = .ok (.iconst (-1), 1) := by decide +kernel
theorem dX11_feed_14 : decode cX11_feed 14 = .ok (.ireturn, 1) := by decide +kernel
theorem dX11_feed_15 : decode cX11_feed 15 = .ok (.aload_n 0, 1) := by decide +kernel
theorem dX11_feed_16 : decode cX11_feed 16 = .ok (.getfield 10, 3) := by decide +kernel
theorem dX11_feed_19 : decode cX11_feed 19 = .ok (.iload_n 1, 1) := by decide +kernel
theorem dX11_feed_20 : decode cX11_feed 20 = .ok (.invokevirtual 65, 3) := by decide +kernel
theorem dX11_feed_23 : decode cX11_feed 23 = .ok (.aload_n 0, 1) := by decide +kernel
theorem dX11_feed_24 : decode cX11_feed 24 = .ok (.getfield 10, 3) := by decide +kernel
theorem dX11_feed_27 : decode cX11_feed 27 = .ok (.iload_n 2, 1) := by decide +kernel
theorem dX11_feed_28 : decode cX11_feed 28 = .ok (.invokevirtual 65, 3) := by decide +kernel
theorem dX11_feed_31 : decode cX11_feed 31 = .ok (.aload_n 0, 1) := by decide +kernel
theorem dX11_feed_32 : decode cX11_feed 32 = .ok (.getfield 10, 3) := by decide +kernel
theorem dX11_feed_35 : decode cX11_feed 35 = .ok (.iload_n 3, 1) := by decide +kernel
theorem dX11_feed_36 : decode cX11_feed 36 = .ok (.invokevirtual 65, 3) := by decide +kernel
theorem dX11_feed_39 : decode cX11_feed 39 = .ok (.aload_n 0, 1) := by decide +kernel
theorem dX11_feed_40 : decode cX11_feed 40 = .ok (.getfield 10, 3) := by decide +kernel
theorem dX11_feed_43 : decode cX11_feed 43 = .ok (.iload 4, 2) := by decide +kernel
theorem dX11_feed_45 : decode cX11_feed 45 = .ok (.invokevirtual 65, 3) := by decide +kernel
theorem dX11_feed_48 : decode cX11_feed 48 = .ok (.aload_n 0, 1) := by decide +kernel
theorem dX11_feed_49 : decode cX11_feed 49 = .ok (.getfield 10, 3) := by decide +kernel
theorem dX11_feed_52 : decode cX11_feed 52 = .ok (.iload 5, 2) := by decide +kernel
theorem dX11_feed_54 : decode cX11_feed 54 = .ok (.invokevirtual 65, 3) := by decide +kernel
theorem dX11_feed_57 : decode cX11_feed 57 = .ok (.aload_n 0, 1) := by decide +kernel
theorem dX11_feed_58 : decode cX11_feed 58 = .ok (.getfield 10, 3) := by decide +kernel
theorem dX11_feed_61 : decode cX11_feed 61 = .ok (.getfield 61, 3) := by decide +kernel
theorem dX11_feed_64 : decode cX11_feed 64 = .ok (.ireturn, 1) := by decide +kernel
theorem fgX11_10 : q_Fg RX11 10 11 0 := q_Fg.of (C := RX11) (T := TX11) (N := 8) rfl (by decide) inX11 477 (by decide +kernel) rfl rfl
theorem fgX11_61 : q_Fg RX11 61 9 1 := q_Fg.of (C := RX9) (T := TX9) (N := 8) rfl (by decide) inX9 35 (by decide +kernel) rfl rfl
theorem fcX11_65 : q_LV RX11 65 yX9_addBytes cX9_addBytes 3 none 1 9 := ⟨q_tb 506 (by decide +kernel) rfl, q_tb 507 (by decide +kernel) rfl, q_tb 508 (by decide +kernel) rfl, q_tb 2 (by decide +kernel) rfl, q_tb 509 (by decide +kernel) rfl, ⟨by decide +kernel, by decide +kernel, by decide +kernel⟩, TX9, 8, rfl⟩
def fX11_feed (n : Nat) (r0 : Nat) (v1 : Int32) (v2 : Int32) (v3 : Int32) (v4 : Int32) (v5 : Int32) (X : Mm) : Option (Int32 × Mm) :=
if mT X r0 = 11 then
if mR X r0 0 ≠ 0 then
if mT X (mR X r0 0) = 9 then
if (mI X (mR X r0 0) 1) ≤ (680 : Int32) then (
bd (fX9_addBytes n ((mR X r0 0)) v1 X) fun _ X20_5 =>
if mT X20_5 r0 = 11 then
if mR X20_5 r0 0 ≠ 0 then
if mT X20_5 (mR X20_5 r0 0) = 9 then
bd (fX9_addBytes n ((mR X20_5 r0 0)) v2 X20_5) fun _ X28_9 =>
if mT X28_9 r0 = 11 then
if mR X28_9 r0 0 ≠ 0 then
if mT X28_9 (mR X28_9 r0 0) = 9 then
bd (fX9_addBytes n ((mR X28_9 r0 0)) v3 X28_9) fun _ X36_14 =>
if mT X36_14 r0 = 11 then
if mR X36_14 r0 0 ≠ 0 then
if mT X36_14 (mR X36_14 r0 0) = 9 then
bd (fX9_addBytes n ((mR X36_14 r0 0)) v4 X36_14) fun _ X45_19 =>
if mT X45_19 r0 = 11 then
if mR X45_19 r0 0 ≠ 0 then
if mT X45_19 (mR X45_19 r0 0) = 9 then
bd (fX9_addBytes n ((mR X45_19 r0 0)) v5 X45_19) fun _ X54_24 =>
if mT X54_24 r0 = 11 then
if mR X54_24 r0 0 ≠ 0 then
if mT X54_24 (mR X54_24 r0 0) = 9 then
some ((mI X54_24 (mR X54_24 r0 0) 1), X54_24)
else none
else none
else none
else none
else none
else none
else none
else none
else none
else none
else none
else none
else none
else none
else none
) else (
some ((-1 : Int32), X)
)
else none
else none
else none
theorem sX11_feed (n : Nat) (r0 : Nat) (v1 : Int32) (v2 : Int32) (v3 : Int32) (v4 : Int32) (v5 : Int32) : q_Ct yX11_feed cX11_feed 6 (some .int) 1 22 0 0 q_eI (fun P => [.ref (P + r0), .int v1, .int v2, .int v3, .int v4, .int v5]) (fX11_feed n r0 v1 v2 v3 v4 v5) := by
  refine q_meth (by decide +kernel) (fun P => Nat.le_of_ble_eq_true rfl) (fun E X C hn => ?_)
  show Sm E (q_fin E q_eI X 0 0) 0 0 0 [(0, .ref (q_P E + r0)), (1, .int v1), (2, .int v2), (3, .int v3), (4, .int v4), (5, .int v5)] [] X _
  unfold fX11_feed
  refine q_aload_n C 0 dX11_feed_0 rfl rfl ?_
  refine q_chk (fun h1 => ?_)
  refine q_chk (fun h2 => ?_)
  refine p_getR C fgX11_10 rfl dX11_feed_1 h1 h2 ?_
  refine q_chk (fun h3 => ?_)
  refine p_getI C fgX11_61 rfl dX11_feed_4 h3 ?_
  refine q_sipush C (680 : Int32) dX11_feed_7 rfl ?_
  refine q_icmp_le C 15 dX11_feed_10 (by decide) (fun _ => ?_) (fun _ => ?_)
  · refine q_aload_n C 0 dX11_feed_15 rfl rfl ?_
    refine p_getR C fgX11_10 rfl dX11_feed_16 h1 h2 ?_
    refine q_iload_n C 1 dX11_feed_19 rfl rfl ?_
    refine q_cVV (As := (fun P => [.int v1])) C [] (sX9_addBytes n ((mR X r0 0)) v1) fcX11_65 rfl (fun _ => rfl) ⟨Nat.le_of_ble_eq_true rfl, Nat.le_of_ble_eq_true rfl⟩ ⟨Nat.le_of_ble_eq_true rfl, Nat.le_of_ble_eq_true rfl⟩ (Nat.le_of_ble_eq_true rfl) dX11_feed_20 h3 (fun _ X20_5 => ?_)
    refine q_aload_n C 0 dX11_feed_23 rfl rfl ?_
    refine q_chk (fun h6 => ?_)
    refine q_chk (fun h7 => ?_)
    refine p_getR C fgX11_10 rfl dX11_feed_24 h6 h7 ?_
    refine q_iload_n C 2 dX11_feed_27 rfl rfl ?_
    refine q_chk (fun h10 => ?_)
    refine q_cVV (As := (fun P => [.int v2])) C [] (sX9_addBytes n ((mR X20_5 r0 0)) v2) fcX11_65 rfl (fun _ => rfl) ⟨Nat.le_of_ble_eq_true rfl, Nat.le_of_ble_eq_true rfl⟩ ⟨Nat.le_of_ble_eq_true rfl, Nat.le_of_ble_eq_true rfl⟩ (Nat.le_of_ble_eq_true rfl) dX11_feed_28 h10 (fun _ X28_9 => ?_)
    refine q_aload_n C 0 dX11_feed_31 rfl rfl ?_
    refine q_chk (fun h11 => ?_)
    refine q_chk (fun h12 => ?_)
    refine p_getR C fgX11_10 rfl dX11_feed_32 h11 h12 ?_
    refine q_iload_n C 3 dX11_feed_35 rfl rfl ?_
    refine q_chk (fun h15 => ?_)
    refine q_cVV (As := (fun P => [.int v3])) C [] (sX9_addBytes n ((mR X28_9 r0 0)) v3) fcX11_65 rfl (fun _ => rfl) ⟨Nat.le_of_ble_eq_true rfl, Nat.le_of_ble_eq_true rfl⟩ ⟨Nat.le_of_ble_eq_true rfl, Nat.le_of_ble_eq_true rfl⟩ (Nat.le_of_ble_eq_true rfl) dX11_feed_36 h15 (fun _ X36_14 => ?_)
    refine q_aload_n C 0 dX11_feed_39 rfl rfl ?_
    refine q_chk (fun h16 => ?_)
    refine q_chk (fun h17 => ?_)
    refine p_getR C fgX11_10 rfl dX11_feed_40 h16 h17 ?_
    refine q_iload C 4 dX11_feed_43 rfl ?_
    refine q_chk (fun h20 => ?_)
    refine q_cVV (As := (fun P => [.int v4])) C [] (sX9_addBytes n ((mR X36_14 r0 0)) v4) fcX11_65 rfl (fun _ => rfl) ⟨Nat.le_of_ble_eq_true rfl, Nat.le_of_ble_eq_true rfl⟩ ⟨Nat.le_of_ble_eq_true rfl, Nat.le_of_ble_eq_true rfl⟩ (Nat.le_of_ble_eq_true rfl) dX11_feed_45 h20 (fun _ X45_19 => ?_)
    refine q_aload_n C 0 dX11_feed_48 rfl rfl ?_
    refine q_chk (fun h21 => ?_)
    refine q_chk (fun h22 => ?_)
    refine p_getR C fgX11_10 rfl dX11_feed_49 h21 h22 ?_
    refine q_iload C 5 dX11_feed_52 rfl ?_
    refine q_chk (fun h25 => ?_)
    refine q_cVV (As := (fun P => [.int v5])) C [] (sX9_addBytes n ((mR X45_19 r0 0)) v5) fcX11_65 rfl (fun _ => rfl) ⟨Nat.le_of_ble_eq_true rfl, Nat.le_of_ble_eq_true rfl⟩ ⟨Nat.le_of_ble_eq_true rfl, Nat.le_of_ble_eq_true rfl⟩ (Nat.le_of_ble_eq_true rfl) dX11_feed_54 h25 (fun _ X54_24 => ?_)
    refine q_aload_n C 0 dX11_feed_57 rfl rfl ?_
    refine q_chk (fun h26 => ?_)
    refine q_chk (fun h27 => ?_)
    refine p_getR C fgX11_10 rfl dX11_feed_58 h26 h27 ?_
    refine q_chk (fun h28 => ?_)
    refine p_getI C fgX11_61 rfl dX11_feed_61 h28 ?_
    exact q_iret C dX11_feed_64
  · refine q_iconst C (-1 : Int32) dX11_feed_13 rfl ?_
    exact q_iret C dX11_feed_14
/-! RecordClaims.end(I)Z -/
abbrev cX11_end : ByteArray := prog_1_method_3_code
def yX11_end : MethodName := ⟨RX11, "end", "(I)Z"⟩
theorem dX11_end_0 : decode cX11_end 0 = .ok (.iload_n 1, 1) := by decide +kernel
theorem dX11_end_1 : decode cX11_end 1 = .ok (.ifCond .lt 14, 3) := by decide +kernel
theorem dX11_end_4 : decode cX11_end 4 = .ok (.iload_n 1, 1) := by decide +kernel
theorem dX11_end_5 : decode cX11_end 5 = .ok (.aload_n 0, 1) := by decide +kernel
theorem dX11_end_6 : decode cX11_end 6 = .ok (.getfield 10, 3) := by decide +kernel
theorem dX11_end_9 : decode cX11_end 9 = .ok (.getfield 61, 3) := by decide +kernel
theorem dX11_end_12 : decode cX11_end 12 = .ok (.if_icmp .le 5, 3) := by decide +kernel
theorem dX11_end_15 : decode cX11_end 15 = .ok (.iconst 0, 1) := by decide +kernel
theorem dX11_end_16 : decode cX11_end 16 = .ok (.ireturn, 1) := by decide +kernel
theorem dX11_end_17 : decode cX11_end 17 = .ok (.aload_n 0, 1) := by decide +kernel
theorem dX11_end_18 : decode cX11_end 18 = .ok (.getfield 10, 3) := by decide +kernel
theorem dX11_end_21 : decode cX11_end 21 = .ok (.iload_n 1, 1) := by decide +kernel
theorem dX11_end_22 : decode cX11_end 22 = .ok (.putfield 61, 3) := by decide +kernel
theorem dX11_end_25 : decode cX11_end 25 = .ok (.iconst 1, 1) := by decide +kernel
theorem dX11_end_26 : decode cX11_end 26 = .ok (.ireturn, 1) := by decide +kernel
theorem fpX11_61 : q_Fp RX11 61 9 1 .int false := ⟨RX9, TX9, 8, tyX9, rfl, by decide, inX9, q_tb 35 (by decide +kernel) rfl, tyX9_ok, nmX9, rfl, rfl, fun h => by first | rfl | cases h⟩
def fX11_end_L15 (X : Mm) : Option (Int32 × Mm) :=
some (0, X)
def fX11_end (r0 : Nat) (v1 : Int32) (X : Mm) : Option (Int32 × Mm) :=
if v1 < 0 then (
fX11_end_L15 X
) else (
if mT X r0 = 11 then
if mR X r0 0 ≠ 0 then
if mT X (mR X r0 0) = 9 then
if v1 ≤ (mI X (mR X r0 0) 1) then (
nm (sI X (mR X r0 0) 1 v1) fun X22_4 =>
some (1, X22_4)
) else (
fX11_end_L15 X
)
else none
else none
else none
)
theorem gX11_end_L15 {E : q_E} {X0 : Mm} (C : Cx E cX11_end RX11 2 (some .boolean) (q_rm 0 0 0 0) X0) (X : Mm) : Sm E (q_fin E q_eI X0 0 0) 0 0 15 [] [] X (fX11_end_L15  X) := by
  unfold fX11_end_L15
  refine q_iconst C (0 : Int32) dX11_end_15 rfl ?_
  exact q_zret0 C dX11_end_16
theorem sX11_end (r0 : Nat) (v1 : Int32) : q_Ct yX11_end cX11_end 2 (some .boolean) 0 0 0 0 q_eI (fun P => [.ref (P + r0), .int v1]) (fX11_end r0 v1) := by
  refine q_meth (by decide +kernel) (fun P => Nat.le_of_ble_eq_true rfl) (fun E X C hn => ?_)
  show Sm E (q_fin E q_eI X 0 0) 0 0 0 [(0, .ref (q_P E + r0)), (1, .int v1)] [] X _
  unfold fX11_end
  refine q_iload_n C 1 dX11_end_0 rfl rfl ?_
  refine q_if_lt C 15 dX11_end_1 (by decide) (fun _ => ?_) (fun _ => ?_)
  · refine q_sub C [] [] rfl ?_
    exact gX11_end_L15 C X
  · refine q_iload_n C 1 dX11_end_4 rfl rfl ?_
    refine q_aload_n C 0 dX11_end_5 rfl rfl ?_
    refine q_chk (fun h1 => ?_)
    refine q_chk (fun h2 => ?_)
    refine p_getR C fgX11_10 rfl dX11_end_6 h1 h2 ?_
    refine q_chk (fun h3 => ?_)
    refine p_getI C fgX11_61 rfl dX11_end_9 h3 ?_
    refine q_icmp_le C 17 dX11_end_12 (by decide) (fun _ => ?_) (fun _ => ?_)
    · refine q_aload_n C 0 dX11_end_17 rfl rfl ?_
      refine p_getR C fgX11_10 rfl dX11_end_18 h1 h2 ?_
      refine q_iload_n C 1 dX11_end_21 rfl rfl ?_
      refine p_putI C fpX11_61 rfl dX11_end_22 h3 ?_
      refine q_nmX (fun X22_4 => ?_)
      refine q_iconst C (1 : Int32) dX11_end_25 rfl ?_
      exact q_zret1 C dX11_end_26
    · refine q_sub C [] [] rfl ?_
      exact gX11_end_L15 C X
/-! RecordClaims.book()I -/
abbrev cX11_book : ByteArray := prog_1_method_4_code
def yX11_book : MethodName := ⟨RX11, "book", "()I"⟩
theorem dX11_book_0 : decode cX11_book 0 = .ok (.aload_n 0, 1) := by decide +kernel
theorem dX11_book_1 : decode cX11_book 1 = .ok (.getfield 23, 3) := by decide +kernel
theorem dX11_book_4 : decode cX11_book 4 = .ok (.aload_n 0, 1) := by decide +kernel
theorem dX11_book_5 : decode cX11_book 5 = .ok (.getfield 10, 3) := by decide +kernel
theorem dX11_book_8 : decode cX11_book 8 = .ok (.invokevirtual 69, 3) := by decide +kernel
theorem dX11_book_11 : decode cX11_book 11 = .ok (.istore_n 1, 1) := by decide +kernel
theorem dX11_book_12 : decode cX11_book 12 = .ok (.aload_n 0, 1) := by decide +kernel
theorem dX11_book_13 : decode cX11_book 13 = .ok (.getfield 10, 3) := by decide +kernel
theorem dX11_book_16 : decode cX11_book 16 = .ok (.iconst 0, 1) := by decide +kernel
theorem dX11_book_17 : decode cX11_book 17 = .ok (.putfield 61, 3) := by decide +kernel
theorem dX11_book_20 : decode cX11_book 20 = .ok (.iload_n 1, 1) := by decide +kernel
theorem dX11_book_21 : decode cX11_book 21 = .ok (.iconst (-1), 1) := by decide +kernel
theorem dX11_book_22 : decode cX11_book 22 = .ok (.if_icmp .eq 40, 3) := by decide +kernel
theorem dX11_book_25 : decode cX11_book 25 = .ok (.aload_n 0, 1) := by decide +kernel
theorem dX11_book_26 : decode cX11_book 26 = .ok (.getfield 23, 3) := by decide +kernel
theorem dX11_book_29 : decode cX11_book 29 = .ok (.astore_n 2, 1) := by decide +kernel
theorem dX11_book_30 : decode cX11_book 30 = .ok (.aload_n 0, 1) := by decide +kernel
theorem dX11_book_31 : decode cX11_book 31 = .ok (.aload_n 0, 1) := by decide +kernel
theorem dX11_book_32 : decode cX11_book 32 = .ok (.getfield 19, 3) := by decide +kernel
theorem dX11_book_35 : decode cX11_book 35 = .ok (.putfield 23, 3) := by decide +kernel
theorem dX11_book_38 : decode cX11_book 38 = .ok (.aload_n 0, 1) := by decide +kernel
theorem dX11_book_39 : decode cX11_book 39 = .ok (.aload_n 2, 1) := by decide +kernel
theorem dX11_book_40 : decode cX11_book 40 = .ok (.putfield 19, 3) := by decide +kernel
theorem dX11_book_43 : decode cX11_book 43 = .ok (.aload_n 0, 1) := by decide +kernel
theorem dX11_book_44 : decode cX11_book 44 = .ok (.getfield 36, 3) := by decide +kernel
theorem dX11_book_47 : decode cX11_book 47 = .ok (.aload_n 0, 1) := by decide +kernel
theorem dX11_book_48 : decode cX11_book 48 = .ok (.getfield 19, 3) := by decide +kernel
theorem dX11_book_51 : decode cX11_book 51 = .ok (.invokevirtual 73, 3) := by decide +kernel
theorem dX11_book_54 : decode cX11_book 54 = .ok (.aload_n 0, 1) := by decide +kernel
theorem dX11_book_55 : decode cX11_book 55 = .ok (.getfield 43, 3) := by decide +kernel
theorem dX11_book_58 : decode cX11_book 58 = .ok (.iconst 0, 1) := by decide +kernel
theorem dX11_book_59 : decode cX11_book 59 = .ok (.putfield 77, 3) := by decide +kernel
theorem dX11_book_62 : decode cX11_book 62 = .ok (.iload_n 1, 1) := by decide +kernel
theorem dX11_book_63 : decode cX11_book 63 = .ok (.ireturn, 1) := by decide +kernel
theorem fgX11_23 : q_Fg RX11 23 11 2 := q_Fg.of (C := RX11) (T := TX11) (N := 8) rfl (by decide) inX11 479 (by decide +kernel) rfl rfl
theorem fcX11_69 : q_LV RX11 69 yX0_readBook cX0_readBook 4 (some .int) 1 0 := ⟨q_tb 518 (by decide +kernel) rfl, q_tb 519 (by decide +kernel) rfl, q_tb 520 (by decide +kernel) rfl, q_tb 3 (by decide +kernel) rfl, q_tb 521 (by decide +kernel) rfl, ⟨by decide +kernel, by decide +kernel, by decide +kernel⟩, TX0, 5, rfl⟩
theorem fgX11_19 : q_Fg RX11 19 11 1 := q_Fg.of (C := RX11) (T := TX11) (N := 8) rfl (by decide) inX11 478 (by decide +kernel) rfl rfl
theorem fgX11_36 : q_Fg RX11 36 11 4 := q_Fg.of (C := RX11) (T := TX11) (N := 8) rfl (by decide) inX11 481 (by decide +kernel) rfl rfl
theorem fcX11_73 : q_LV RX11 73 yX8_startWith cX8_startWith 3 none 1 8 := ⟨q_tb 690 (by decide +kernel) rfl, q_tb 691 (by decide +kernel) rfl, q_tb 692 (by decide +kernel) rfl, q_tb 5 (by decide +kernel) rfl, q_tb 693 (by decide +kernel) rfl, ⟨by decide +kernel, by decide +kernel, by decide +kernel⟩, TX8, 9, rfl⟩
theorem fgX11_43 : q_Fg RX11 43 11 5 := q_Fg.of (C := RX11) (T := TX11) (N := 8) rfl (by decide) inX11 482 (by decide +kernel) rfl rfl
theorem fpX11_77 : q_Fp RX11 77 4 2 .int false := ⟨RX4, TX4, 3, tyX4, rfl, by decide, inX4, q_tb 444 (by decide +kernel) rfl, tyX4_ok, nmX4, rfl, rfl, fun h => by first | rfl | cases h⟩
def fX11_book_L62 (n : Nat) (v1 : Int32) (X : Mm) : Option (Int32 × Mm) :=
some (v1, X)
def fX11_book (n : Nat) (r0 : Nat) (X : Mm) : Option (Int32 × Mm) :=
if mT X r0 = 11 then
if mR X r0 2 ≠ 0 then
if mR X r0 0 ≠ 0 then
if mT X (mR X r0 2) = 0 then
bd (fX0_readBook n ((mR X r0 2)) ((mR X r0 0)) X) fun w4 X8_5 =>
if mT X8_5 r0 = 11 then
if mR X8_5 r0 0 ≠ 0 then
if mT X8_5 (mR X8_5 r0 0) = 9 then
nm (sI X8_5 (mR X8_5 r0 0) 1 (0 : Int32)) fun X17_9 =>
if w4 = (-1 : Int32) then (
fX11_book_L62 n w4 X17_9
) else (
if mT X17_9 r0 = 11 then
if mR X17_9 r0 2 ≠ 0 then
nm ((mR X17_9 r0 2)) fun r2_29 =>
if mR X17_9 r0 1 ≠ 0 then
if (mR X17_9 r0 1) ≠ 0 then
nm (sR X17_9 r0 2 (mR X17_9 r0 1)) fun X35_15 =>
if mT X35_15 r0 = 11 then
if r2_29 ≠ 0 then
nm (sR X35_15 r0 1 r2_29) fun X40_17 =>
if mT X40_17 r0 = 11 then
if mR X40_17 r0 4 ≠ 0 then
if mR X40_17 r0 1 ≠ 0 then
if mT X40_17 (mR X40_17 r0 4) = 8 then
bd (fX8_startWith n ((mR X40_17 r0 4)) ((mR X40_17 r0 1)) X40_17) fun _ X51_24 =>
if mT X51_24 r0 = 11 then
if mR X51_24 r0 5 ≠ 0 then
if mT X51_24 (mR X51_24 r0 5) = 4 then
nm (sI X51_24 (mR X51_24 r0 5) 2 (0 : Int32)) fun X59_28 =>
fX11_book_L62 n w4 X59_28
else none
else none
else none
else none
else none
else none
else none
else none
else none
else none
else none
else none
else none
)
else none
else none
else none
else none
else none
else none
else none
theorem gX11_book_L62 {E : q_E} {X0 : Mm} (C : Cx E cX11_book RX11 3 (some .int) (q_rm 12 256 0 0) X0) (n : Nat) (v1 : Int32) (X : Mm) : Sm E (q_fin E q_eI X0 0 0) 0 0 62 [(1, .int v1)] [] X (fX11_book_L62 n v1 X) := by
  unfold fX11_book_L62
  refine q_iload_n C 0 dX11_book_62 rfl rfl ?_
  exact q_iret C dX11_book_63
theorem sX11_book (n : Nat) (r0 : Nat) : q_Ct yX11_book cX11_book 3 (some .int) 12 256 0 0 q_eI (fun P => [.ref (P + r0)]) (fX11_book n r0) := by
  refine q_meth (by decide +kernel) (fun P => Nat.le_of_ble_eq_true rfl) (fun E X C hn => ?_)
  show Sm E (q_fin E q_eI X 0 0) 0 0 0 [(0, .ref (q_P E + r0))] [] X _
  unfold fX11_book
  refine q_aload_n C 0 dX11_book_0 rfl rfl ?_
  refine q_chk (fun h1 => ?_)
  refine q_chk (fun h2 => ?_)
  refine p_getR C fgX11_23 rfl dX11_book_1 h1 h2 ?_
  refine q_aload_n C 0 dX11_book_4 rfl rfl ?_
  refine q_chk (fun h3 => ?_)
  refine p_getR C fgX11_10 rfl dX11_book_5 h1 h3 ?_
  refine q_chk (fun h6 => ?_)
  refine q_cVI (As := (fun P => [.ref (P + (mR X r0 0))])) C [] (sX0_readBook n ((mR X r0 2)) ((mR X r0 0))) fcX11_69 rfl (fun _ => rfl) ⟨Nat.le_of_ble_eq_true rfl, Nat.le_of_ble_eq_true rfl⟩ ⟨Nat.le_of_ble_eq_true rfl, Nat.le_of_ble_eq_true rfl⟩ (Nat.le_of_ble_eq_true rfl) dX11_book_8 h6 (fun w4 X8_5 => ?_)
  refine q_istore_n C [(1, .int w4), (0, .ref (q_P E + r0))] dX11_book_11 rfl (Nat.le_of_ble_eq_true rfl) rfl ?_
  refine q_aload_n C 1 dX11_book_12 rfl rfl ?_
  refine q_chk (fun h7 => ?_)
  refine q_chk (fun h8 => ?_)
  refine p_getR C fgX11_10 rfl dX11_book_13 h7 h8 ?_
  refine q_iconst C (0 : Int32) dX11_book_16 rfl ?_
  refine q_chk (fun h10 => ?_)
  refine p_putI C fpX11_61 rfl dX11_book_17 h10 ?_
  refine q_nmX (fun X17_9 => ?_)
  refine q_iload_n C 0 dX11_book_20 rfl rfl ?_
  refine q_iconst C (-1 : Int32) dX11_book_21 rfl ?_
  refine q_icmp_eq C 62 dX11_book_22 (by decide) (fun _ => ?_) (fun _ => ?_)
  · refine q_sub C [(1, .int w4)] [0] rfl ?_
    exact gX11_book_L62 C n w4 X17_9
  · refine q_aload_n C 1 dX11_book_25 rfl rfl ?_
    refine q_chk (fun h11 => ?_)
    refine q_chk (fun h12 => ?_)
    refine p_getR C fgX11_23 rfl dX11_book_26 h11 h12 ?_
    refine q_nmr (fun r2_29 => ?_)
    refine q_astore_n C [(2, .ref (q_P E + r2_29)), (1, .int w4), (0, .ref (q_P E + r0))] dX11_book_29 rfl (Nat.le_of_ble_eq_true rfl) rfl ?_
    refine q_aload_n C 2 dX11_book_30 rfl rfl ?_
    refine q_aload_n C 2 dX11_book_31 rfl rfl ?_
    refine q_chk (fun h14 => ?_)
    refine p_getR C fgX11_19 rfl dX11_book_32 h11 h14 ?_
    refine q_chk (fun h16 => ?_)
    refine p_putR C fpX11_23 (fun _ => rfl) (fun _ => rfl) rfl dX11_book_35 h11 h16 ?_
    refine q_nmX (fun X35_15 => ?_)
    refine q_aload_n C 2 dX11_book_38 rfl rfl ?_
    refine q_aload_n C 0 dX11_book_39 rfl rfl ?_
    refine q_chk (fun h18 => ?_)
    refine q_chk (fun h19 => ?_)
    refine p_putR C fpX11_19 (fun _ => rfl) (fun _ => rfl) rfl dX11_book_40 h18 h19 ?_
    refine q_nmX (fun X40_17 => ?_)
    refine q_aload_n C 2 dX11_book_43 rfl rfl ?_
    refine q_chk (fun h20 => ?_)
    refine q_chk (fun h21 => ?_)
    refine p_getR C fgX11_36 rfl dX11_book_44 h20 h21 ?_
    refine q_aload_n C 2 dX11_book_47 rfl rfl ?_
    refine q_chk (fun h22 => ?_)
    refine p_getR C fgX11_19 rfl dX11_book_48 h20 h22 ?_
    refine q_chk (fun h25 => ?_)
    refine q_cVV (As := (fun P => [.ref (P + (mR X40_17 r0 1))])) C [] (sX8_startWith n ((mR X40_17 r0 4)) ((mR X40_17 r0 1))) fcX11_73 rfl (fun _ => rfl) ⟨Nat.le_of_ble_eq_true rfl, Nat.le_of_ble_eq_true rfl⟩ ⟨Nat.le_of_ble_eq_true rfl, Nat.le_of_ble_eq_true rfl⟩ (Nat.le_of_ble_eq_true rfl) dX11_book_51 h25 (fun _ X51_24 => ?_)
    refine q_aload_n C 2 dX11_book_54 rfl rfl ?_
    refine q_chk (fun h26 => ?_)
    refine q_chk (fun h27 => ?_)
    refine p_getR C fgX11_43 rfl dX11_book_55 h26 h27 ?_
    refine q_iconst C (0 : Int32) dX11_book_58 rfl ?_
    refine q_chk (fun h29 => ?_)
    refine p_putI C fpX11_77 rfl dX11_book_59 h29 ?_
    refine q_nmX (fun X59_28 => ?_)
    refine q_sub C [(1, .int w4)] [1] rfl ?_
    exact gX11_book_L62 C n w4 X59_28
/-! RecordClaims.readAhead()I -/
abbrev cX11_readAhead : ByteArray := prog_1_method_6_code
def yX11_readAhead : MethodName := ⟨RX11, "readAhead", "()I"⟩
theorem dX11_readAhead_0 : decode cX11_readAhead 0 = .ok (.iconst 0, 1) := by decide +kernel
theorem dX11_readAhead_1 : decode cX11_readAhead 1 = .ok (.istore_n 1, 1) := by decide +kernel
theorem dX11_readAhead_2 : decode cX11_readAhead 2 = .ok (.aload_n 0, 1) := by decide +kernel
theorem dX11_readAhead_3 : decode cX11_readAhead 3 = .ok (.getfield 10, 3) := by decide +kernel
theorem dX11_readAhead_6 : decode cX11_readAhead 6 = .ok (.invokevirtual 88, 3) := by decide +kernel
theorem dX11_readAhead_9 : decode cX11_readAhead 9 = .ok (.iload_n 1, 1) := by decide +kernel
theorem dX11_readAhead_10 : decode cX11_readAhead 10 = .ok (.sipush 700, 3) := by decide +kernel
theorem dX11_readAhead_13 : decode cX11_readAhead 13 = .ok (.if_icmp .ge 34, 3) := by decide +kernel
theorem dX11_readAhead_16 : decode cX11_readAhead 16 = .ok (.aload_n 0, 1) := by decide +kernel
theorem dX11_readAhead_17 : decode cX11_readAhead 17 = .ok (.getfield 10, 3) := by decide +kernel
theorem dX11_readAhead_20 : decode cX11_readAhead 20 = .ok (.invokevirtual 91, 3) := by decide +kernel
theorem dX11_readAhead_23 : decode cX11_readAhead 23 = .ok (.ifCond .eq 24, 3) := by decide +kernel
theorem dX11_readAhead_26 : decode cX11_readAhead 26 = .ok (.aload_n 0, 1) := by decide +kernel
theorem dX11_readAhead_27 : decode cX11_readAhead 27 = .ok (.getfield 29, 3) := by decide +kernel
theorem dX11_readAhead_30 : decode cX11_readAhead 30 = .ok (.aload_n 0, 1) := by decide +kernel
theorem dX11_readAhead_31 : decode cX11_readAhead 31 = .ok (.getfield 10, 3) := by decide +kernel
theorem dX11_readAhead_34 : decode cX11_readAhead 34 = .ok (.aload_n 0, 1) := by decide +kernel
theorem dX11_readAhead_35 : decode cX11_readAhead 35 = .ok (.getfield 19, 3) := by decide +kernel
theorem dX11_readAhead_38 : decode cX11_readAhead 38 = .ok (.invokevirtual 95, 3) := by decide +kernel
theorem dX11_readAhead_41 : decode cX11_readAhead 41 = .ok (.iinc 1 1, 3) := by decide +kernel
theorem dX11_readAhead_44 : decode cX11_readAhead 44 = .ok (.goto (-35), 3) := by decide +kernel
theorem dX11_readAhead_47 : decode cX11_readAhead 47 = .ok (.aload_n 0, 1) := by decide +kernel
theorem dX11_readAhead_48 : decode cX11_readAhead 48 = .ok (.getfield 10, 3) := by decide +kernel
theorem dX11_readAhead_51 : decode cX11_readAhead 51 = .ok (.getfield 99, 3) := by decide +kernel
theorem dX11_readAhead_54 : decode cX11_readAhead 54 = .ok (.ifCond .ne 7, 3) := by decide +kernel
theorem dX11_readAhead_57 : decode cX11_readAhead 57 = .ok (.iload_n 1, 1) := by decide +kernel
theorem dX11_readAhead_58 : decode cX11_readAhead 58 = .ok (.goto 4, 3) := by decide +kernel
theorem dX11_readAhead_61 : decode cX11_readAhead 61 = .ok (.iconst (-1), 1) := by decide +kernel
theorem dX11_readAhead_62 : decode cX11_readAhead 62 = .ok (.ireturn, 1) := by decide +kernel
theorem fcX11_88 : q_LV RX11 88 yX9_startReading cX9_startReading 1 none 0 9 := ⟨q_tb 705 (by decide +kernel) rfl, q_tb 523 (by decide +kernel) rfl, q_tb 524 (by decide +kernel) rfl, q_tb 2 (by decide +kernel) rfl, q_tb 525 (by decide +kernel) rfl, ⟨by decide +kernel, by decide +kernel, by decide +kernel⟩, TX9, 8, rfl⟩
theorem fgX11_99 : q_Fg RX11 99 9 6 := q_Fg.of (C := RX9) (T := TX9) (N := 8) rfl (by decide) inX9 42 (by decide +kernel) rfl rfl
theorem fcX11_91 : q_LV RX11 91 yX9_goesOn cX9_goesOn 1 (some .boolean) 0 9 := ⟨q_tb 706 (by decide +kernel) rfl, q_tb 608 (by decide +kernel) rfl, q_tb 609 (by decide +kernel) rfl, q_tb 2 (by decide +kernel) rfl, q_tb 610 (by decide +kernel) rfl, ⟨by decide +kernel, by decide +kernel, by decide +kernel⟩, TX9, 8, rfl⟩
theorem fgX11_29 : q_Fg RX11 29 11 3 := q_Fg.of (C := RX11) (T := TX11) (N := 8) rfl (by decide) inX11 480 (by decide +kernel) rfl rfl
theorem fcX11_95 : q_LV RX11 95 yX2_readFrom cX2_readFrom 3 none 2 2 := ⟨q_tb 707 (by decide +kernel) rfl, q_tb 708 (by decide +kernel) rfl, q_tb 709 (by decide +kernel) rfl, q_tb 4 (by decide +kernel) rfl, q_tb 710 (by decide +kernel) rfl, ⟨by decide +kernel, by decide +kernel, by decide +kernel⟩, TX2, 20, rfl⟩
def fX11_readAhead_L47 (n : Nat) (r0 : Nat) (v1 : Int32) (X : Mm) : Option (Int32 × Mm) :=
if mT X r0 = 11 then
if mR X r0 0 ≠ 0 then
if mT X (mR X r0 0) = 9 then
if (mI X (mR X r0 0) 6) = 0 then (
some (v1, X)
) else (
some ((-1 : Int32), X)
)
else none
else none
else none
def fX11_readAhead_L9 (n : Nat) : Nat → Nat → Int32 → Mm → Option (Int32 × Mm)
| 0, _, _, _ => none
| j + 1, r0, v1, X =>
if (700 : Int32) ≤ v1 then (
fX11_readAhead_L47 n r0 v1 X
) else (
if mT X r0 = 11 then
if mR X r0 0 ≠ 0 then
if mT X (mR X r0 0) = 9 then
bd (fX9_goesOn ((mR X r0 0)) X) fun w11 X20_12 =>
if w11 = 0 then (
fX11_readAhead_L47 n r0 v1 X20_12
) else (
if mT X20_12 r0 = 11 then
if mR X20_12 r0 3 ≠ 0 then
if mR X20_12 r0 0 ≠ 0 then
if mR X20_12 r0 1 ≠ 0 then
if mT X20_12 (mR X20_12 r0 3) = 2 then
bd (fX2_readFrom n ((mR X20_12 r0 3)) ((mR X20_12 r0 0)) ((mR X20_12 r0 1)) X20_12) fun _ X38_19 =>
nm (v1 + (1 : Int32)) fun v1_41 =>
(fX11_readAhead_L9 n j) r0 v1_41 X38_19
else none
else none
else none
else none
else none
)
else none
else none
else none
)
def fX11_readAhead (n : Nat) (r0 : Nat) (X : Mm) : Option (Int32 × Mm) :=
if mT X r0 = 11 then
if mR X r0 0 ≠ 0 then
if mT X (mR X r0 0) = 9 then
bd (fX9_startReading n ((mR X r0 0)) X) fun _ X6_4 =>
fX11_readAhead_L9 n n r0 (0 : Int32) X6_4
else none
else none
else none
theorem gX11_readAhead_L47 {E : q_E} {X0 : Mm} (C : Cx E cX11_readAhead RX11 2 (some .int) (q_rm 11 233 0 0) X0) (n : Nat) (r0 : Nat) (v1 : Int32) (X : Mm) : Sm E (q_fin E q_eI X0 0 0) 0 0 47 [(0, .ref (q_P E + r0)), (1, .int v1)] [] X (fX11_readAhead_L47 n r0 v1 X) := by
  unfold fX11_readAhead_L47
  refine q_aload_n C 0 dX11_readAhead_47 rfl rfl ?_
  refine q_chk (fun h6 => ?_)
  refine q_chk (fun h7 => ?_)
  refine p_getR C fgX11_10 rfl dX11_readAhead_48 h6 h7 ?_
  refine q_chk (fun h8 => ?_)
  refine p_getI C fgX11_99 rfl dX11_readAhead_51 h8 ?_
  refine q_if_ne C 61 dX11_readAhead_54 (by decide) (fun _ => ?_) (fun _ => ?_)
  · refine q_iload_n C 1 dX11_readAhead_57 rfl rfl ?_
    refine q_goto C 62 dX11_readAhead_58 (by decide) ?_
    exact q_iret C dX11_readAhead_62
  · refine q_iconst C (-1 : Int32) dX11_readAhead_61 rfl ?_
    exact q_iret C dX11_readAhead_62
theorem gX11_readAhead_L9 {E : q_E} {X0 : Mm} (C : Cx E cX11_readAhead RX11 2 (some .int) (q_rm 11 233 0 0) X0) (n : Nat) : ∀ (j : Nat) (r0 : Nat) (v1 : Int32) (X : Mm), Sm E (q_fin E q_eI X0 0 0) 0 0 9 [(0, .ref (q_P E + r0)), (1, .int v1)] [] X (fX11_readAhead_L9 n j r0 v1 X) := by
  intro j
  induction j with
  | zero => intros; exact Sm.none
  | succ j ih =>
    intro r0 v1 X
    rw [fX11_readAhead_L9]
    refine q_iload_n C 1 dX11_readAhead_9 rfl rfl ?_
    refine q_sipush C (700 : Int32) dX11_readAhead_10 rfl ?_
    refine q_icmp_ge C 47 dX11_readAhead_13 (by decide) (fun _ => ?_) (fun _ => ?_)
    · exact gX11_readAhead_L47 C n r0 v1 X
    · refine q_aload_n C 0 dX11_readAhead_16 rfl rfl ?_
      refine q_chk (fun h9 => ?_)
      refine q_chk (fun h10 => ?_)
      refine p_getR C fgX11_10 rfl dX11_readAhead_17 h9 h10 ?_
      refine q_chk (fun h13 => ?_)
      refine q_cVI (As := (fun P => [])) C [] (sX9_goesOn ((mR X r0 0))) fcX11_91 rfl (fun _ => rfl) ⟨Nat.le_of_ble_eq_true rfl, Nat.le_of_ble_eq_true rfl⟩ ⟨Nat.le_of_ble_eq_true rfl, Nat.le_of_ble_eq_true rfl⟩ (Nat.le_of_ble_eq_true rfl) dX11_readAhead_20 h13 (fun w11 X20_12 => ?_)
      refine q_if_eq C 47 dX11_readAhead_23 (by decide) (fun _ => ?_) (fun _ => ?_)
      · exact gX11_readAhead_L47 C n r0 v1 X20_12
      · refine q_aload_n C 0 dX11_readAhead_26 rfl rfl ?_
        refine q_chk (fun h14 => ?_)
        refine q_chk (fun h15 => ?_)
        refine p_getR C fgX11_29 rfl dX11_readAhead_27 h14 h15 ?_
        refine q_aload_n C 0 dX11_readAhead_30 rfl rfl ?_
        refine q_chk (fun h16 => ?_)
        refine p_getR C fgX11_10 rfl dX11_readAhead_31 h14 h16 ?_
        refine q_aload_n C 0 dX11_readAhead_34 rfl rfl ?_
        refine q_chk (fun h17 => ?_)
        refine p_getR C fgX11_19 rfl dX11_readAhead_35 h14 h17 ?_
        refine q_chk (fun h20 => ?_)
        refine q_cVV (As := (fun P => [.ref (P + (mR X20_12 r0 0)), .ref (P + (mR X20_12 r0 1))])) C [] (sX2_readFrom n ((mR X20_12 r0 3)) ((mR X20_12 r0 0)) ((mR X20_12 r0 1))) fcX11_95 rfl (fun _ => rfl) ⟨Nat.le_of_ble_eq_true rfl, Nat.le_of_ble_eq_true rfl⟩ ⟨Nat.le_of_ble_eq_true rfl, Nat.le_of_ble_eq_true rfl⟩ (Nat.le_of_ble_eq_true rfl) dX11_readAhead_38 h20 (fun _ X38_19 => ?_)
        refine q_iincN C (1 : Int32) 1 (fun v1_41 => [(1, .int v1_41), (0, .ref (q_P E + r0))]) dX11_readAhead_41 rfl rfl (Nat.le_of_ble_eq_true rfl) (fun _ => rfl) (fun v1_41 => ?_)
        refine q_goto C 9 dX11_readAhead_44 (by decide) ?_
        refine q_sub C [(0, .ref (q_P E + r0)), (1, .int v1_41)] [1, 0] rfl ?_
        exact ih r0 v1_41 X38_19
theorem sX11_readAhead (n : Nat) (r0 : Nat) : q_Ct yX11_readAhead cX11_readAhead 2 (some .int) 11 233 0 0 q_eI (fun P => [.ref (P + r0)]) (fX11_readAhead n r0) := by
  refine q_meth (by decide +kernel) (fun P => Nat.le_of_ble_eq_true rfl) (fun E X C hn => ?_)
  show Sm E (q_fin E q_eI X 0 0) 0 0 0 [(0, .ref (q_P E + r0))] [] X _
  unfold fX11_readAhead
  refine q_iconst C (0 : Int32) dX11_readAhead_0 rfl ?_
  refine q_istore_n C [(1, .int (0 : Int32)), (0, .ref (q_P E + r0))] dX11_readAhead_1 rfl (Nat.le_of_ble_eq_true rfl) rfl ?_
  refine q_aload_n C 1 dX11_readAhead_2 rfl rfl ?_
  refine q_chk (fun h1 => ?_)
  refine q_chk (fun h2 => ?_)
  refine p_getR C fgX11_10 rfl dX11_readAhead_3 h1 h2 ?_
  refine q_chk (fun h5 => ?_)
  refine q_cVV (As := (fun P => [])) C [] (sX9_startReading n ((mR X r0 0))) fcX11_88 rfl (fun _ => rfl) ⟨Nat.le_of_ble_eq_true rfl, Nat.le_of_ble_eq_true rfl⟩ ⟨Nat.le_of_ble_eq_true rfl, Nat.le_of_ble_eq_true rfl⟩ (Nat.le_of_ble_eq_true rfl) dX11_readAhead_6 h5 (fun _ X6_4 => ?_)
  refine q_sub C [(0, .ref (q_P E + r0)), (1, .int (0 : Int32))] [1, 0] rfl ?_
  exact gX11_readAhead_L9 C n n r0 (0 : Int32) X6_4
/-! RecordClaims.doWhatWasRead(I)I -/
abbrev cX11_doWhatWasRead : ByteArray := prog_1_method_7_code
def yX11_doWhatWasRead : MethodName := ⟨RX11, "doWhatWasRead", "(I)I"⟩
theorem dX11_doWhatWasRead_0 : decode cX11_doWhatWasRead 0 = .ok (.iconst 0, 1) := by decide +kernel
theorem dX11_doWhatWasRead_1 : decode cX11_doWhatWasRead 1 = .ok (.istore_n 2, 1) := by decide +kernel
theorem dX11_doWhatWasRead_2 : decode cX11_doWhatWasRead 2 = .ok (.aload_n 0, 1) := by decide +kernel
theorem dX11_doWhatWasRead_3 : decode cX11_doWhatWasRead 3 = .ok (.getfield 43, 3) := by decide +kernel
theorem dX11_doWhatWasRead_6 : decode cX11_doWhatWasRead 6 = .ok (.invokevirtual 102, 3) := by decide +kernel
theorem dX11_doWhatWasRead_9 : decode cX11_doWhatWasRead 9 = .ok (.aload_n 0, 1) := by decide +kernel
theorem dX11_doWhatWasRead_10 : decode cX11_doWhatWasRead 10 = .ok (.getfield 36, 3) := by decide +kernel
theorem dX11_doWhatWasRead_13 : decode cX11_doWhatWasRead 13 = .ok (.invokevirtual 106, 3) := by decide +kernel
theorem dX11_doWhatWasRead_16 : decode cX11_doWhatWasRead 16 = .ok (.aload_n 0, 1) := by decide +kernel
theorem dX11_doWhatWasRead_17 : decode cX11_doWhatWasRead 17 = .ok (.getfield 10, 3) := by decide +kernel
theorem dX11_doWhatWasRead_20 : decode cX11_doWhatWasRead 20 = .ok (.invokevirtual 110, 3) := by decide +kernel
theorem dX11_doWhatWasRead_23 : decode cX11_doWhatWasRead 23 = .ok (.iload_n 2, 1) := by decide +kernel
theorem dX11_doWhatWasRead_24 : decode cX11_doWhatWasRead 24 = .ok (.iload_n 1, 1) := by decide +kernel
theorem dX11_doWhatWasRead_25 : decode cX11_doWhatWasRead 25 = .ok (.if_icmp .ge 42, 3) := by decide +kernel
theorem dX11_doWhatWasRead_28 : decode cX11_doWhatWasRead 28 = .ok (.aload_n 0, 1) := by decide +kernel
theorem dX11_doWhatWasRead_29 : decode cX11_doWhatWasRead 29 = .ok (.getfield 29, 3) := by decide +kernel
theorem dX11_doWhatWasRead_32 : decode cX11_doWhatWasRead 32 = .ok (.aload_n 0, 1) := by decide +kernel
theorem dX11_doWhatWasRead_33 : decode cX11_doWhatWasRead 33 = .ok (.getfield 10, 3) := by decide +kernel
theorem dX11_doWhatWasRead_36 : decode cX11_doWhatWasRead 36 = .ok (.aload_n 0, 1) := by decide +kernel
theorem dX11_doWhatWasRead_37 : decode cX11_doWhatWasRead 37 = .ok (.getfield 19, 3) := by decide +kernel
theorem dX11_doWhatWasRead_40 : decode cX11_doWhatWasRead 40 = .ok (.invokevirtual 95, 3) := by decide +kernel
theorem dX11_doWhatWasRead_43 : decode cX11_doWhatWasRead 43 = .ok (.aload_n 0, 1) := by decide +kernel
theorem dX11_doWhatWasRead_44 : decode cX11_doWhatWasRead 44 = .ok (.getfield 36, 3) := by decide +kernel
theorem dX11_doWhatWasRead_47 : decode cX11_doWhatWasRead 47 = .ok (.aload_n 0, 1) := by decide +kernel
theorem dX11_doWhatWasRead_48 : decode cX11_doWhatWasRead 48 = .ok (.getfield 29, 3) := by decide +kernel
theorem dX11_doWhatWasRead_51 : decode cX11_doWhatWasRead 51 = .ok (.invokevirtual 113, 3) := by decide +kernel
theorem dX11_doWhatWasRead_54 : decode cX11_doWhatWasRead 54 = .ok (.iconst (-1), 1) := by decide +kernel
theorem dX11_doWhatWasRead_55 : decode cX11_doWhatWasRead 55 = .ok (.if_icmp .ne 6, 3) := by decide +kernel
theorem dX11_doWhatWasRead_58 : decode cX11_doWhatWasRead 58 = .ok (.goto 9, 3) := by decide +kernel
theorem dX11_doWhatWasRead_61 : decode cX11_doWhatWasRead 61 = .ok (.iinc 2 1, 3) := by decide +kernel
theorem dX11_doWhatWasRead_64 : decode cX11_doWhatWasRead 64 = .ok (.goto (-41), 3) := by decide +kernel
theorem dX11_doWhatWasRead_67 : decode cX11_doWhatWasRead 67 = .ok (.iload_n 2, 1) := by decide +kernel
theorem dX11_doWhatWasRead_68 : decode cX11_doWhatWasRead 68 = .ok (.ifCond .le 10, 3) := by decide +kernel
theorem dX11_doWhatWasRead_71 : decode cX11_doWhatWasRead 71 = .ok (.aload_n 0, 1) := by decide +kernel
theorem dX11_doWhatWasRead_72 : decode cX11_doWhatWasRead 72 = .ok (.getfield 43, 3) := by decide +kernel
theorem dX11_doWhatWasRead_75 : decode cX11_doWhatWasRead 75 = .ok (.invokevirtual 117, 3) := by decide +kernel
theorem dX11_doWhatWasRead_78 : decode cX11_doWhatWasRead 78 = .ok (.iload_n 2, 1) := by decide +kernel
theorem dX11_doWhatWasRead_79 : decode cX11_doWhatWasRead 79 = .ok (.ireturn, 1) := by decide +kernel
theorem fcX11_102 : q_LV RX11 102 yX4_spare cX4_spare 1 (some (.object "RecordClaims$State")) 0 4 := ⟨q_tb 763 (by decide +kernel) rfl, q_tb 764 (by decide +kernel) rfl, q_tb 765 (by decide +kernel) rfl, q_tb 10 (by decide +kernel) rfl, q_tb 766 (by decide +kernel) rfl, ⟨by decide +kernel, by decide +kernel, by decide +kernel⟩, TX4, 3, rfl⟩
theorem fcX11_106 : q_LV RX11 106 yX8_copyFrom cX8_copyFrom 2 none 1 8 := ⟨q_tb 767 (by decide +kernel) rfl, q_tb 768 (by decide +kernel) rfl, q_tb 769 (by decide +kernel) rfl, q_tb 5 (by decide +kernel) rfl, q_tb 770 (by decide +kernel) rfl, ⟨by decide +kernel, by decide +kernel, by decide +kernel⟩, TX8, 9, rfl⟩
theorem fcX11_110 : q_LV RX11 110 yX9_startAgain cX9_startAgain 1 none 0 9 := ⟨q_tb 791 (by decide +kernel) rfl, q_tb 604 (by decide +kernel) rfl, q_tb 605 (by decide +kernel) rfl, q_tb 2 (by decide +kernel) rfl, q_tb 606 (by decide +kernel) rfl, ⟨by decide +kernel, by decide +kernel, by decide +kernel⟩, TX9, 8, rfl⟩
theorem fcX11_117 : q_LV RX11 117 yX4_keepSpare cX4_keepSpare 1 none 0 4 := ⟨q_tb 971 (by decide +kernel) rfl, q_tb 972 (by decide +kernel) rfl, q_tb 973 (by decide +kernel) rfl, q_tb 10 (by decide +kernel) rfl, q_tb 974 (by decide +kernel) rfl, ⟨by decide +kernel, by decide +kernel, by decide +kernel⟩, TX4, 3, rfl⟩
theorem fcX11_113 : q_LV RX11 113 yX8_perform cX8_perform 2 (some .int) 1 8 := ⟨q_tb 792 (by decide +kernel) rfl, q_tb 793 (by decide +kernel) rfl, q_tb 794 (by decide +kernel) rfl, q_tb 5 (by decide +kernel) rfl, q_tb 795 (by decide +kernel) rfl, ⟨by decide +kernel, by decide +kernel, by decide +kernel⟩, TX8, 9, rfl⟩
def fX11_doWhatWasRead_L78 (n : Nat) (v2 : Int32) (X : Mm) : Option (Int32 × Mm) :=
some (v2, X)
def fX11_doWhatWasRead_L67 (n : Nat) (r0 : Nat) (v2 : Int32) (X : Mm) : Option (Int32 × Mm) :=
if v2 ≤ 0 then (
fX11_doWhatWasRead_L78 n v2 X
) else (
if mT X r0 = 11 then
if mR X r0 5 ≠ 0 then
if mT X (mR X r0 5) = 4 then
bd (fX4_keepSpare ((mR X r0 5)) X) fun _ X75_19 =>
fX11_doWhatWasRead_L78 n v2 X75_19
else none
else none
else none
)
def fX11_doWhatWasRead_L23 (n : Nat) : Nat → Nat → Int32 → Int32 → Mm → Option (Int32 × Mm)
| 0, _, _, _, _ => none
| j + 1, r0, v1, v2, X =>
if v1 ≤ v2 then (
fX11_doWhatWasRead_L67 n r0 v2 X
) else (
if mT X r0 = 11 then
if mR X r0 3 ≠ 0 then
if mR X r0 0 ≠ 0 then
if mR X r0 1 ≠ 0 then
if mT X (mR X r0 3) = 2 then
bd (fX2_readFrom n ((mR X r0 3)) ((mR X r0 0)) ((mR X r0 1)) X) fun _ X40_26 =>
if mT X40_26 r0 = 11 then
if mR X40_26 r0 4 ≠ 0 then
if mR X40_26 r0 3 ≠ 0 then
if mT X40_26 (mR X40_26 r0 4) = 8 then
bd (fX8_perform n ((mR X40_26 r0 4)) ((mR X40_26 r0 3)) X40_26) fun w31 X51_32 =>
if w31 = (-1 : Int32) then (
fX11_doWhatWasRead_L67 n r0 v2 X51_32
) else (
nm (v2 + (1 : Int32)) fun v2_61 =>
(fX11_doWhatWasRead_L23 n j) r0 v1 v2_61 X51_32
)
else none
else none
else none
else none
else none
else none
else none
else none
else none
)
def fX11_doWhatWasRead (n : Nat) (r0 : Nat) (v1 : Int32) (X : Mm) : Option (Int32 × Mm) :=
if mT X r0 = 11 then
if mR X r0 5 ≠ 0 then
if mT X (mR X r0 5) = 4 then
bd (fX4_spare ((mR X r0 5)) X) fun w3 X6_4 =>
if mT X6_4 r0 = 11 then
if mR X6_4 r0 4 ≠ 0 then
if mT X6_4 w3 = 8 then
bd (fX8_copyFrom w3 ((mR X6_4 r0 4)) X6_4) fun _ X13_9 =>
if mT X13_9 r0 = 11 then
if mR X13_9 r0 0 ≠ 0 then
if mT X13_9 (mR X13_9 r0 0) = 9 then
bd (fX9_startAgain ((mR X13_9 r0 0)) X13_9) fun _ X20_14 =>
fX11_doWhatWasRead_L23 n n r0 v1 (0 : Int32) X20_14
else none
else none
else none
else none
else none
else none
else none
else none
else none
theorem gX11_doWhatWasRead_L78 {E : q_E} {X0 : Mm} (C : Cx E cX11_doWhatWasRead RX11 3 (some .int) (q_rm 6 144 0 0) X0) (n : Nat) (v2 : Int32) (X : Mm) : Sm E (q_fin E q_eI X0 0 0) 0 0 78 [(2, .int v2)] [] X (fX11_doWhatWasRead_L78 n v2 X) := by
  unfold fX11_doWhatWasRead_L78
  refine q_iload_n C 0 dX11_doWhatWasRead_78 rfl rfl ?_
  exact q_iret C dX11_doWhatWasRead_79
theorem gX11_doWhatWasRead_L67 {E : q_E} {X0 : Mm} (C : Cx E cX11_doWhatWasRead RX11 3 (some .int) (q_rm 6 144 0 0) X0) (n : Nat) (r0 : Nat) (v2 : Int32) (X : Mm) : Sm E (q_fin E q_eI X0 0 0) 0 0 67 [(0, .ref (q_P E + r0)), (2, .int v2)] [] X (fX11_doWhatWasRead_L67 n r0 v2 X) := by
  unfold fX11_doWhatWasRead_L67
  refine q_iload_n C 1 dX11_doWhatWasRead_67 rfl rfl ?_
  refine q_if_le C 78 dX11_doWhatWasRead_68 (by decide) (fun _ => ?_) (fun _ => ?_)
  · refine q_sub C [(2, .int v2)] [1] rfl ?_
    exact gX11_doWhatWasRead_L78 C n v2 X
  · refine q_aload_n C 0 dX11_doWhatWasRead_71 rfl rfl ?_
    refine q_chk (fun h16 => ?_)
    refine q_chk (fun h17 => ?_)
    refine p_getR C fgX11_43 rfl dX11_doWhatWasRead_72 h16 h17 ?_
    refine q_chk (fun h20 => ?_)
    refine q_cVV (As := (fun P => [])) C [] (sX4_keepSpare ((mR X r0 5))) fcX11_117 rfl (fun _ => rfl) ⟨Nat.le_of_ble_eq_true rfl, Nat.le_of_ble_eq_true rfl⟩ ⟨Nat.le_of_ble_eq_true rfl, Nat.le_of_ble_eq_true rfl⟩ (Nat.le_of_ble_eq_true rfl) dX11_doWhatWasRead_75 h20 (fun _ X75_19 => ?_)
    refine q_sub C [(2, .int v2)] [1] rfl ?_
    exact gX11_doWhatWasRead_L78 C n v2 X75_19
theorem gX11_doWhatWasRead_L23 {E : q_E} {X0 : Mm} (C : Cx E cX11_doWhatWasRead RX11 3 (some .int) (q_rm 6 144 0 0) X0) (n : Nat) : ∀ (j : Nat) (r0 : Nat) (v1 : Int32) (v2 : Int32) (X : Mm), Sm E (q_fin E q_eI X0 0 0) 0 0 23 [(0, .ref (q_P E + r0)), (1, .int v1), (2, .int v2)] [] X (fX11_doWhatWasRead_L23 n j r0 v1 v2 X) := by
  intro j
  induction j with
  | zero => intros; exact Sm.none
  | succ j ih =>
    intro r0 v1 v2 X
    rw [fX11_doWhatWasRead_L23]
    refine q_iload_n C 2 dX11_doWhatWasRead_23 rfl rfl ?_
    refine q_iload_n C 1 dX11_doWhatWasRead_24 rfl rfl ?_
    refine q_icmp_ge C 67 dX11_doWhatWasRead_25 (by decide) (fun _ => ?_) (fun _ => ?_)
    · refine q_sub C [(0, .ref (q_P E + r0)), (2, .int v2)] [0, 2] rfl ?_
      exact gX11_doWhatWasRead_L67 C n r0 v2 X
    · refine q_aload_n C 0 dX11_doWhatWasRead_28 rfl rfl ?_
      refine q_chk (fun h21 => ?_)
      refine q_chk (fun h22 => ?_)
      refine p_getR C fgX11_29 rfl dX11_doWhatWasRead_29 h21 h22 ?_
      refine q_aload_n C 0 dX11_doWhatWasRead_32 rfl rfl ?_
      refine q_chk (fun h23 => ?_)
      refine p_getR C fgX11_10 rfl dX11_doWhatWasRead_33 h21 h23 ?_
      refine q_aload_n C 0 dX11_doWhatWasRead_36 rfl rfl ?_
      refine q_chk (fun h24 => ?_)
      refine p_getR C fgX11_19 rfl dX11_doWhatWasRead_37 h21 h24 ?_
      refine q_chk (fun h27 => ?_)
      refine q_cVV (As := (fun P => [.ref (P + (mR X r0 0)), .ref (P + (mR X r0 1))])) C [] (sX2_readFrom n ((mR X r0 3)) ((mR X r0 0)) ((mR X r0 1))) fcX11_95 rfl (fun _ => rfl) ⟨Nat.le_of_ble_eq_true rfl, Nat.le_of_ble_eq_true rfl⟩ ⟨Nat.le_of_ble_eq_true rfl, Nat.le_of_ble_eq_true rfl⟩ (Nat.le_of_ble_eq_true rfl) dX11_doWhatWasRead_40 h27 (fun _ X40_26 => ?_)
      refine q_aload_n C 0 dX11_doWhatWasRead_43 rfl rfl ?_
      refine q_chk (fun h28 => ?_)
      refine q_chk (fun h29 => ?_)
      refine p_getR C fgX11_36 rfl dX11_doWhatWasRead_44 h28 h29 ?_
      refine q_aload_n C 0 dX11_doWhatWasRead_47 rfl rfl ?_
      refine q_chk (fun h30 => ?_)
      refine p_getR C fgX11_29 rfl dX11_doWhatWasRead_48 h28 h30 ?_
      refine q_chk (fun h33 => ?_)
      refine q_cVI (As := (fun P => [.ref (P + (mR X40_26 r0 3))])) C [] (sX8_perform n ((mR X40_26 r0 4)) ((mR X40_26 r0 3))) fcX11_113 rfl (fun _ => rfl) ⟨Nat.le_of_ble_eq_true rfl, Nat.le_of_ble_eq_true rfl⟩ ⟨Nat.le_of_ble_eq_true rfl, Nat.le_of_ble_eq_true rfl⟩ (Nat.le_of_ble_eq_true rfl) dX11_doWhatWasRead_51 h33 (fun w31 X51_32 => ?_)
      refine q_iconst C (-1 : Int32) dX11_doWhatWasRead_54 rfl ?_
      refine q_icmp_ne C 61 dX11_doWhatWasRead_55 (by decide) (fun _ => ?_) (fun _ => ?_)
      · refine q_goto C 67 dX11_doWhatWasRead_58 (by decide) ?_
        refine q_sub C [(0, .ref (q_P E + r0)), (2, .int v2)] [0, 2] rfl ?_
        exact gX11_doWhatWasRead_L67 C n r0 v2 X51_32
      · refine q_iincN C (1 : Int32) 2 (fun v2_61 => [(2, .int v2_61), (0, .ref (q_P E + r0)), (1, .int v1)]) dX11_doWhatWasRead_61 rfl rfl (Nat.le_of_ble_eq_true rfl) (fun _ => rfl) (fun v2_61 => ?_)
        refine q_goto C 23 dX11_doWhatWasRead_64 (by decide) ?_
        refine q_sub C [(0, .ref (q_P E + r0)), (1, .int v1), (2, .int v2_61)] [1, 2, 0] rfl ?_
        exact ih r0 v1 v2_61 X51_32
theorem sX11_doWhatWasRead (n : Nat) (r0 : Nat) (v1 : Int32) : q_Ct yX11_doWhatWasRead cX11_doWhatWasRead 3 (some .int) 6 144 0 0 q_eI (fun P => [.ref (P + r0), .int v1]) (fX11_doWhatWasRead n r0 v1) := by
  refine q_meth (by decide +kernel) (fun P => Nat.le_of_ble_eq_true rfl) (fun E X C hn => ?_)
  show Sm E (q_fin E q_eI X 0 0) 0 0 0 [(0, .ref (q_P E + r0)), (1, .int v1)] [] X _
  unfold fX11_doWhatWasRead
  refine q_iconst C (0 : Int32) dX11_doWhatWasRead_0 rfl ?_
  refine q_istore_n C [(2, .int (0 : Int32)), (0, .ref (q_P E + r0)), (1, .int v1)] dX11_doWhatWasRead_1 rfl (Nat.le_of_ble_eq_true rfl) rfl ?_
  refine q_aload_n C 1 dX11_doWhatWasRead_2 rfl rfl ?_
  refine q_chk (fun h1 => ?_)
  refine q_chk (fun h2 => ?_)
  refine p_getR C fgX11_43 rfl dX11_doWhatWasRead_3 h1 h2 ?_
  refine q_chk (fun h5 => ?_)
  refine q_cVR (As := (fun P => [])) C [] (sX4_spare ((mR X r0 5))) fcX11_102 rfl (fun _ => rfl) ⟨Nat.le_of_ble_eq_true rfl, Nat.le_of_ble_eq_true rfl⟩ ⟨Nat.le_of_ble_eq_true rfl, Nat.le_of_ble_eq_true rfl⟩ (Nat.le_of_ble_eq_true rfl) dX11_doWhatWasRead_6 h5 (fun w3 X6_4 => ?_)
  refine q_aload_n C 1 dX11_doWhatWasRead_9 rfl rfl ?_
  refine q_chk (fun h6 => ?_)
  refine q_chk (fun h7 => ?_)
  refine p_getR C fgX11_36 rfl dX11_doWhatWasRead_10 h6 h7 ?_
  refine q_chk (fun h10 => ?_)
  refine q_cVV (As := (fun P => [.ref (P + (mR X6_4 r0 4))])) C [] (sX8_copyFrom w3 ((mR X6_4 r0 4))) fcX11_106 rfl (fun _ => rfl) ⟨Nat.le_of_ble_eq_true rfl, Nat.le_of_ble_eq_true rfl⟩ ⟨Nat.le_of_ble_eq_true rfl, Nat.le_of_ble_eq_true rfl⟩ (Nat.le_of_ble_eq_true rfl) dX11_doWhatWasRead_13 h10 (fun _ X13_9 => ?_)
  refine q_aload_n C 1 dX11_doWhatWasRead_16 rfl rfl ?_
  refine q_chk (fun h11 => ?_)
  refine q_chk (fun h12 => ?_)
  refine p_getR C fgX11_10 rfl dX11_doWhatWasRead_17 h11 h12 ?_
  refine q_chk (fun h15 => ?_)
  refine q_cVV (As := (fun P => [])) C [] (sX9_startAgain ((mR X13_9 r0 0))) fcX11_110 rfl (fun _ => rfl) ⟨Nat.le_of_ble_eq_true rfl, Nat.le_of_ble_eq_true rfl⟩ ⟨Nat.le_of_ble_eq_true rfl, Nat.le_of_ble_eq_true rfl⟩ (Nat.le_of_ble_eq_true rfl) dX11_doWhatWasRead_20 h15 (fun _ X20_14 => ?_)
  refine q_sub C [(0, .ref (q_P E + r0)), (1, .int v1), (2, .int (0 : Int32))] [1, 2, 0] rfl ?_
  exact gX11_doWhatWasRead_L23 C n n r0 v1 (0 : Int32) X20_14
/-! RecordClaims.deeds()I -/
abbrev cX11_deeds : ByteArray := prog_1_method_5_code
def yX11_deeds : MethodName := ⟨RX11, "deeds", "()I"⟩
theorem dX11_deeds_0 : decode cX11_deeds 0 = .ok (.aload_n 0, 1) := by decide +kernel
theorem dX11_deeds_1 : decode cX11_deeds 1 = .ok (.invokevirtual 80, 3) := by decide +kernel
theorem dX11_deeds_4 : decode cX11_deeds 4 = .ok (.istore_n 1, 1) := by decide +kernel
theorem dX11_deeds_5 : decode cX11_deeds 5 = .ok (.iload_n 1, 1) := by decide +kernel
theorem dX11_deeds_6 : decode cX11_deeds 6 = .ok (.iconst (-1), 1) := by decide +kernel
theorem dX11_deeds_7 : decode cX11_deeds 7 = .ok (.if_icmp .ne 7, 3) := by decide +kernel
theorem dX11_deeds_10 : decode cX11_deeds 10 = .ok (.iconst (-1), 1) := by decide +kernel
theorem dX11_deeds_11 : decode cX11_deeds 11 = .ok (.goto 8, 3) := by decide +kernel
theorem dX11_deeds_14 : decode cX11_deeds 14 = .ok (.aload_n 0, 1) := by decide +kernel
theorem dX11_deeds_15 : decode cX11_deeds 15 = .ok (.iload_n 1, 1) := by decide +kernel
theorem dX11_deeds_16 : decode cX11_deeds 16 = .ok (.invokevirtual 84, 3) := by decide +kernel
theorem dX11_deeds_19 : decode cX11_deeds 19 = .ok (.istore_n 2, 1) := by decide +kernel
theorem dX11_deeds_20 : decode cX11_deeds 20 = .ok (.aload_n 0, 1) := by decide +kernel
theorem dX11_deeds_21 : decode cX11_deeds 21 = .ok (.getfield 10, 3) := by decide +kernel
theorem dX11_deeds_24 : decode cX11_deeds 24 = .ok (.iconst 0, 1) := by decide +kernel
theorem dX11_deeds_25 : decode cX11_deeds 25 = .ok (.putfield 61, 3) := by decide +kernel
theorem dX11_deeds_28 : decode cX11_deeds 28 = .ok (.iload_n 2, 1) := by decide +kernel
theorem dX11_deeds_29 : decode cX11_deeds 29 = .ok (.ireturn, 1) := by decide +kernel
theorem fcX11_80 : q_LV RX11 80 yX11_readAhead cX11_readAhead 2 (some .int) 0 11 := ⟨q_tb 701 (by decide +kernel) rfl, q_tb 703 (by decide +kernel) rfl, q_tbs (q := (yX11_readAhead, 8)) 9 (by decide +kernel) rfl, q_tb 1 (by decide +kernel) rfl, q_tb 704 (by decide +kernel) rfl, ⟨by decide +kernel, by decide +kernel, by decide +kernel⟩, TX11, 8, rfl⟩
theorem fcX11_84 : q_LV RX11 84 yX11_doWhatWasRead cX11_doWhatWasRead 3 (some .int) 1 11 := ⟨q_tb 759 (by decide +kernel) rfl, q_tb 761 (by decide +kernel) rfl, q_tbs (q := (yX11_doWhatWasRead, 8)) 18 (by decide +kernel) rfl, q_tb 1 (by decide +kernel) rfl, q_tb 762 (by decide +kernel) rfl, ⟨by decide +kernel, by decide +kernel, by decide +kernel⟩, TX11, 8, rfl⟩
def fX11_deeds_L19 (n : Nat) (r0 : Nat) (s0 : Int32) (X : Mm) : Option (Int32 × Mm) :=
if mT X r0 = 11 then
if mR X r0 0 ≠ 0 then
if mT X (mR X r0 0) = 9 then
nm (sI X (mR X r0 0) 1 (0 : Int32)) fun X25_6 =>
some (s0, X25_6)
else none
else none
else none
def fX11_deeds (n : Nat) (r0 : Nat) (X : Mm) : Option (Int32 × Mm) :=
if mT X r0 = 11 then
bd (fX11_readAhead n r0 X) fun w1 X1_2 =>
if w1 = (-1 : Int32) then (
fX11_deeds_L19 n r0 (-1 : Int32) X1_2
) else (
if mT X1_2 r0 = 11 then
bd (fX11_doWhatWasRead n r0 w1 X1_2) fun w8 X16_9 =>
fX11_deeds_L19 n r0 w8 X16_9
else none
)
else none
theorem gX11_deeds_L19 {E : q_E} {X0 : Mm} (C : Cx E cX11_deeds RX11 3 (some .int) (q_rm 12 254 0 0) X0) (n : Nat) (r0 : Nat) (s0 : Int32) (X : Mm) : Sm E (q_fin E q_eI X0 0 0) 0 0 19 [(0, .ref (q_P E + r0))] [.int s0] X (fX11_deeds_L19 n r0 s0 X) := by
  unfold fX11_deeds_L19
  refine q_istore_n C [(2, .int s0), (0, .ref (q_P E + r0))] dX11_deeds_19 rfl (Nat.le_of_ble_eq_true rfl) rfl ?_
  refine q_aload_n C 1 dX11_deeds_20 rfl rfl ?_
  refine q_chk (fun h4 => ?_)
  refine q_chk (fun h5 => ?_)
  refine p_getR C fgX11_10 rfl dX11_deeds_21 h4 h5 ?_
  refine q_iconst C (0 : Int32) dX11_deeds_24 rfl ?_
  refine q_chk (fun h7 => ?_)
  refine p_putI C fpX11_61 rfl dX11_deeds_25 h7 ?_
  refine q_nmX (fun X25_6 => ?_)
  refine q_iload_n C 0 dX11_deeds_28 rfl rfl ?_
  exact q_iret C dX11_deeds_29
theorem sX11_deeds (n : Nat) (r0 : Nat) : q_Ct yX11_deeds cX11_deeds 3 (some .int) 12 254 0 0 q_eI (fun P => [.ref (P + r0)]) (fX11_deeds n r0) := by
  refine q_meth (by decide +kernel) (fun P => Nat.le_of_ble_eq_true rfl) (fun E X C hn => ?_)
  show Sm E (q_fin E q_eI X 0 0) 0 0 0 [(0, .ref (q_P E + r0))] [] X _
  unfold fX11_deeds
  refine q_aload_n C 0 dX11_deeds_0 rfl rfl ?_
  refine q_chk (fun h3 => ?_)
  refine q_cVI (As := (fun P => [])) C [] (sX11_readAhead n r0) fcX11_80 rfl (fun _ => rfl) ⟨Nat.le_of_ble_eq_true rfl, Nat.le_of_ble_eq_true rfl⟩ ⟨Nat.le_of_ble_eq_true rfl, Nat.le_of_ble_eq_true rfl⟩ (Nat.le_of_ble_eq_true rfl) dX11_deeds_1 h3 (fun w1 X1_2 => ?_)
  refine q_istore_n C [(1, .int w1), (0, .ref (q_P E + r0))] dX11_deeds_4 rfl (Nat.le_of_ble_eq_true rfl) rfl ?_
  refine q_iload_n C 0 dX11_deeds_5 rfl rfl ?_
  refine q_iconst C (-1 : Int32) dX11_deeds_6 rfl ?_
  refine q_icmp_ne C 14 dX11_deeds_7 (by decide) (fun _ => ?_) (fun _ => ?_)
  · refine q_iconst C (-1 : Int32) dX11_deeds_10 rfl ?_
    refine q_goto C 19 dX11_deeds_11 (by decide) ?_
    refine q_sub C [(0, .ref (q_P E + r0))] [1] rfl ?_
    exact gX11_deeds_L19 C n r0 (-1 : Int32) X1_2
  · refine q_aload_n C 1 dX11_deeds_14 rfl rfl ?_
    refine q_iload_n C 0 dX11_deeds_15 rfl rfl ?_
    refine q_chk (fun h10 => ?_)
    refine q_cVI (As := (fun P => [.int w1])) C [] (sX11_doWhatWasRead n r0 w1) fcX11_84 rfl (fun _ => rfl) ⟨Nat.le_of_ble_eq_true rfl, Nat.le_of_ble_eq_true rfl⟩ ⟨Nat.le_of_ble_eq_true rfl, Nat.le_of_ble_eq_true rfl⟩ (Nat.le_of_ble_eq_true rfl) dX11_deeds_16 h10 (fun w8 X16_9 => ?_)
    refine q_sub C [(0, .ref (q_P E + r0))] [1] rfl ?_
    exact gX11_deeds_L19 C n r0 w8 X16_9
/-! RecordClaims.fault(I)I -/
abbrev cX11_fault : ByteArray := prog_1_method_8_code
def yX11_fault : MethodName := ⟨RX11, "fault", "(I)I"⟩
theorem dX11_fault_0 : decode cX11_fault 0 = .ok (.iload_n 1, 1) := by decide +kernel
theorem dX11_fault_1 : decode cX11_fault 1 = .ok (.lookupswitch 43 #[(0, 27), (1, 35)], 27) := by decide +kernel
theorem dX11_fault_28 : decode cX11_fault 28 = .ok (.aload_n 0, 1) := by decide +kernel
theorem dX11_fault_29 : decode cX11_fault 29 = .ok (.getfield 10, 3) := by decide +kernel
theorem dX11_fault_32 : decode cX11_fault 32 = .ok (.getfield 99, 3) := by decide +kernel
theorem dX11_fault_35 : decode cX11_fault 35 = .ok (.ireturn, 1) := by decide +kernel
theorem dX11_fault_36 : decode cX11_fault 36 = .ok (.aload_n 0, 1) := by decide +kernel
theorem dX11_fault_37 : decode cX11_fault 37 = .ok (.getfield 10, 3) := by decide +kernel
theorem dX11_fault_40 : decode cX11_fault 40 = .ok (.getfield 120, 3) := by decide +kernel
theorem dX11_fault_43 : decode cX11_fault 43 = .ok (.ireturn, 1) := by decide +kernel
theorem dX11_fault_44 : decode cX11_fault 44 = .ok (.iconst (-1), 1) := by decide +kernel
theorem dX11_fault_45 : decode cX11_fault 45 = .ok (.ireturn, 1) := by decide +kernel
theorem fgX11_120 : q_Fg RX11 120 9 7 := q_Fg.of (C := RX9) (T := TX9) (N := 8) rfl (by decide) inX9 45 (by decide +kernel) rfl rfl
def fX11_fault (r0 : Nat) (v1 : Int32) (X : Mm) : Option (Int32 × Mm) :=
if v1 = (0 : Int32) then (
if mT X r0 = 11 then
if mR X r0 0 ≠ 0 then
if mT X (mR X r0 0) = 9 then
some ((mI X (mR X r0 0) 6), X)
else none
else none
else none
) else (
if v1 = (1 : Int32) then (
if mT X r0 = 11 then
if mR X r0 0 ≠ 0 then
if mT X (mR X r0 0) = 9 then
some ((mI X (mR X r0 0) 7), X)
else none
else none
else none
) else (
some ((-1 : Int32), X)
)
)
theorem sX11_fault (r0 : Nat) (v1 : Int32) : q_Ct yX11_fault cX11_fault 2 (some .int) 0 0 0 0 q_eI (fun P => [.ref (P + r0), .int v1]) (fX11_fault r0 v1) := by
  refine q_meth (by decide +kernel) (fun P => Nat.le_of_ble_eq_true rfl) (fun E X C hn => ?_)
  show Sm E (q_fin E q_eI X 0 0) 0 0 0 [(0, .ref (q_P E + r0)), (1, .int v1)] [] X _
  unfold fX11_fault
  refine q_iload_n C 1 dX11_fault_0 rfl rfl ?_
  refine q_ite (fun e0 => ?_) (fun e0 => ?_)
  · refine q_lookup C (off := 27) 28 dX11_fault_1 (by decide) (by rw [e0]; rfl) (by decide) ?_
    refine q_aload_n C 0 dX11_fault_28 rfl rfl ?_
    refine q_chk (fun h1 => ?_)
    refine q_chk (fun h2 => ?_)
    refine p_getR C fgX11_10 rfl dX11_fault_29 h1 h2 ?_
    refine q_chk (fun h3 => ?_)
    refine p_getI C fgX11_99 rfl dX11_fault_32 h3 ?_
    exact q_iret C dX11_fault_35
  · refine q_ite (fun e1 => ?_) (fun e1 => ?_)
    · refine q_lookup C (off := 35) 36 dX11_fault_1 (by decide) (by rw [e1]; rfl) (by decide) ?_
      refine q_aload_n C 0 dX11_fault_36 rfl rfl ?_
      refine q_chk (fun h4 => ?_)
      refine q_chk (fun h5 => ?_)
      refine p_getR C fgX11_10 rfl dX11_fault_37 h4 h5 ?_
      refine q_chk (fun h6 => ?_)
      refine p_getI C fgX11_120 rfl dX11_fault_40 h6 ?_
      exact q_iret C dX11_fault_43
    · have n0 := q_ne e0 (i := 0) rfl
      have n1 := q_ne e1 (i := 1) rfl
      refine q_lookup C (off := 43) 44 dX11_fault_1 (by decide) (q_lkout (by simp [Op.lookupswitch.offset, n0, Ne.symm n0, n1, Ne.symm n1])) (by decide) ?_
      refine q_iconst C (-1 : Int32) dX11_fault_44 rfl ?_
      exact q_iret C dX11_fault_45
/-! RecordClaims.doDeed()I -/
abbrev cX11_doDeed : ByteArray := prog_1_method_16_code
def yX11_doDeed : MethodName := ⟨RX11, "doDeed", "()I"⟩
theorem dX11_doDeed_0 : decode cX11_doDeed 0 = .ok (.aload_n 0, 1) := by decide +kernel
theorem dX11_doDeed_1 : decode cX11_doDeed 1 = .ok (.getfield 43, 3) := by decide +kernel
theorem dX11_doDeed_4 : decode cX11_doDeed 4 = .ok (.invokevirtual 102, 3) := by decide +kernel
theorem dX11_doDeed_7 : decode cX11_doDeed 7 = .ok (.aload_n 0, 1) := by decide +kernel
theorem dX11_doDeed_8 : decode cX11_doDeed 8 = .ok (.getfield 36, 3) := by decide +kernel
theorem dX11_doDeed_11 : decode cX11_doDeed 11 = .ok (.invokevirtual 106, 3) := by decide +kernel
theorem dX11_doDeed_14 : decode cX11_doDeed 14 = .ok (.aload_n 0, 1) := by decide +kernel
theorem dX11_doDeed_15 : decode cX11_doDeed 15 = .ok (.getfield 36, 3) := by decide +kernel
theorem dX11_doDeed_18 : decode cX11_doDeed 18 = .ok (.aload_n 0, 1) := by decide +kernel
theorem dX11_doDeed_19 : decode cX11_doDeed 19 = .ok (.getfield 29, 3) := by decide +kernel
theorem dX11_doDeed_22 : decode cX11_doDeed 22 = .ok (.invokevirtual 113, 3) := by decide +kernel
theorem dX11_doDeed_25 : decode cX11_doDeed 25 = .ok (.istore_n 1, 1) := by decide +kernel
theorem dX11_doDeed_26 : decode cX11_doDeed 26 = .ok (.iload_n 1, 1) := by decide +kernel
theorem dX11_doDeed_27 : decode cX11_doDeed 27 = .ok (.iconst (-1), 1) := by decide +kernel
theorem dX11_doDeed_28 : decode cX11_doDeed 28 = .ok (.if_icmp .eq 10, 3) := by decide +kernel
theorem dX11_doDeed_31 : decode cX11_doDeed 31 = .ok (.aload_n 0, 1) := by decide +kernel
theorem dX11_doDeed_32 : decode cX11_doDeed 32 = .ok (.getfield 43, 3) := by decide +kernel
theorem dX11_doDeed_35 : decode cX11_doDeed 35 = .ok (.invokevirtual 117, 3) := by decide +kernel
theorem dX11_doDeed_38 : decode cX11_doDeed 38 = .ok (.iload_n 1, 1) := by decide +kernel
theorem dX11_doDeed_39 : decode cX11_doDeed 39 = .ok (.ireturn, 1) := by decide +kernel
def fX11_doDeed_L38 (n : Nat) (v1 : Int32) (X : Mm) : Option (Int32 × Mm) :=
some (v1, X)
def fX11_doDeed (n : Nat) (r0 : Nat) (X : Mm) : Option (Int32 × Mm) :=
if mT X r0 = 11 then
if mR X r0 5 ≠ 0 then
if mT X (mR X r0 5) = 4 then
bd (fX4_spare ((mR X r0 5)) X) fun w3 X4_4 =>
if mT X4_4 r0 = 11 then
if mR X4_4 r0 4 ≠ 0 then
if mT X4_4 w3 = 8 then
bd (fX8_copyFrom w3 ((mR X4_4 r0 4)) X4_4) fun _ X11_9 =>
if mT X11_9 r0 = 11 then
if mR X11_9 r0 4 ≠ 0 then
if mR X11_9 r0 3 ≠ 0 then
if mT X11_9 (mR X11_9 r0 4) = 8 then
bd (fX8_perform n ((mR X11_9 r0 4)) ((mR X11_9 r0 3)) X11_9) fun w14 X22_15 =>
if w14 = (-1 : Int32) then (
fX11_doDeed_L38 n w14 X22_15
) else (
if mT X22_15 r0 = 11 then
if mR X22_15 r0 5 ≠ 0 then
if mT X22_15 (mR X22_15 r0 5) = 4 then
bd (fX4_keepSpare ((mR X22_15 r0 5)) X22_15) fun _ X35_20 =>
fX11_doDeed_L38 n w14 X35_20
else none
else none
else none
)
else none
else none
else none
else none
else none
else none
else none
else none
else none
else none
theorem gX11_doDeed_L38 {E : q_E} {X0 : Mm} (C : Cx E cX11_doDeed RX11 2 (some .int) (q_rm 6 144 0 0) X0) (n : Nat) (v1 : Int32) (X : Mm) : Sm E (q_fin E q_eI X0 0 0) 0 0 38 [(1, .int v1)] [] X (fX11_doDeed_L38 n v1 X) := by
  unfold fX11_doDeed_L38
  refine q_iload_n C 0 dX11_doDeed_38 rfl rfl ?_
  exact q_iret C dX11_doDeed_39
theorem sX11_doDeed (n : Nat) (r0 : Nat) : q_Ct yX11_doDeed cX11_doDeed 2 (some .int) 6 144 0 0 q_eI (fun P => [.ref (P + r0)]) (fX11_doDeed n r0) := by
  refine q_meth (by decide +kernel) (fun P => Nat.le_of_ble_eq_true rfl) (fun E X C hn => ?_)
  show Sm E (q_fin E q_eI X 0 0) 0 0 0 [(0, .ref (q_P E + r0))] [] X _
  unfold fX11_doDeed
  refine q_aload_n C 0 dX11_doDeed_0 rfl rfl ?_
  refine q_chk (fun h1 => ?_)
  refine q_chk (fun h2 => ?_)
  refine p_getR C fgX11_43 rfl dX11_doDeed_1 h1 h2 ?_
  refine q_chk (fun h5 => ?_)
  refine q_cVR (As := (fun P => [])) C [] (sX4_spare ((mR X r0 5))) fcX11_102 rfl (fun _ => rfl) ⟨Nat.le_of_ble_eq_true rfl, Nat.le_of_ble_eq_true rfl⟩ ⟨Nat.le_of_ble_eq_true rfl, Nat.le_of_ble_eq_true rfl⟩ (Nat.le_of_ble_eq_true rfl) dX11_doDeed_4 h5 (fun w3 X4_4 => ?_)
  refine q_aload_n C 0 dX11_doDeed_7 rfl rfl ?_
  refine q_chk (fun h6 => ?_)
  refine q_chk (fun h7 => ?_)
  refine p_getR C fgX11_36 rfl dX11_doDeed_8 h6 h7 ?_
  refine q_chk (fun h10 => ?_)
  refine q_cVV (As := (fun P => [.ref (P + (mR X4_4 r0 4))])) C [] (sX8_copyFrom w3 ((mR X4_4 r0 4))) fcX11_106 rfl (fun _ => rfl) ⟨Nat.le_of_ble_eq_true rfl, Nat.le_of_ble_eq_true rfl⟩ ⟨Nat.le_of_ble_eq_true rfl, Nat.le_of_ble_eq_true rfl⟩ (Nat.le_of_ble_eq_true rfl) dX11_doDeed_11 h10 (fun _ X11_9 => ?_)
  refine q_aload_n C 0 dX11_doDeed_14 rfl rfl ?_
  refine q_chk (fun h11 => ?_)
  refine q_chk (fun h12 => ?_)
  refine p_getR C fgX11_36 rfl dX11_doDeed_15 h11 h12 ?_
  refine q_aload_n C 0 dX11_doDeed_18 rfl rfl ?_
  refine q_chk (fun h13 => ?_)
  refine p_getR C fgX11_29 rfl dX11_doDeed_19 h11 h13 ?_
  refine q_chk (fun h16 => ?_)
  refine q_cVI (As := (fun P => [.ref (P + (mR X11_9 r0 3))])) C [] (sX8_perform n ((mR X11_9 r0 4)) ((mR X11_9 r0 3))) fcX11_113 rfl (fun _ => rfl) ⟨Nat.le_of_ble_eq_true rfl, Nat.le_of_ble_eq_true rfl⟩ ⟨Nat.le_of_ble_eq_true rfl, Nat.le_of_ble_eq_true rfl⟩ (Nat.le_of_ble_eq_true rfl) dX11_doDeed_22 h16 (fun w14 X22_15 => ?_)
  refine q_istore_n C [(1, .int w14), (0, .ref (q_P E + r0))] dX11_doDeed_25 rfl (Nat.le_of_ble_eq_true rfl) rfl ?_
  refine q_iload_n C 0 dX11_doDeed_26 rfl rfl ?_
  refine q_iconst C (-1 : Int32) dX11_doDeed_27 rfl ?_
  refine q_icmp_eq C 38 dX11_doDeed_28 (by decide) (fun _ => ?_) (fun _ => ?_)
  · refine q_sub C [(1, .int w14)] [0] rfl ?_
    exact gX11_doDeed_L38 C n w14 X22_15
  · refine q_aload_n C 1 dX11_doDeed_31 rfl rfl ?_
    refine q_chk (fun h17 => ?_)
    refine q_chk (fun h18 => ?_)
    refine p_getR C fgX11_43 rfl dX11_doDeed_32 h17 h18 ?_
    refine q_chk (fun h21 => ?_)
    refine q_cVV (As := (fun P => [])) C [] (sX4_keepSpare ((mR X22_15 r0 5))) fcX11_117 rfl (fun _ => rfl) ⟨Nat.le_of_ble_eq_true rfl, Nat.le_of_ble_eq_true rfl⟩ ⟨Nat.le_of_ble_eq_true rfl, Nat.le_of_ble_eq_true rfl⟩ (Nat.le_of_ble_eq_true rfl) dX11_doDeed_35 h21 (fun _ X35_20 => ?_)
    refine q_sub C [(1, .int w14)] [0] rfl ?_
    exact gX11_doDeed_L38 C n w14 X35_20
/-! RecordClaims.trade(IIIIII)I -/
abbrev cX11_trade : ByteArray := prog_1_method_9_code
def yX11_trade : MethodName := ⟨RX11, "trade", "(IIIIII)I"⟩
theorem dX11_trade_0 : decode cX11_trade 0 = .ok (.aload_n 0, 1) := by decide +kernel
theorem dX11_trade_1 : decode cX11_trade 1 = .ok (.getfield 29, 3) := by decide +kernel
theorem dX11_trade_4 : decode cX11_trade 4 = .ok (.iconst 4, 1) := by decide +kernel
theorem dX11_trade_5 : decode cX11_trade 5 = .ok (.iload_n 3, 1) := by decide +kernel
theorem dX11_trade_6 : decode cX11_trade 6 = .ok (.invokevirtual 123, 3) := by decide +kernel
theorem dX11_trade_9 : decode cX11_trade 9 = .ok (.aload_n 0, 1) := by decide +kernel
theorem dX11_trade_10 : decode cX11_trade 10 = .ok (.getfield 29, 3) := by decide +kernel
theorem dX11_trade_13 : decode cX11_trade 13 = .ok (.iload_n 1, 1) := by decide +kernel
theorem dX11_trade_14 : decode cX11_trade 14 = .ok (.putfield 127, 3) := by decide +kernel
theorem dX11_trade_17 : decode cX11_trade 17 = .ok (.aload_n 0, 1) := by decide +kernel
theorem dX11_trade_18 : decode cX11_trade 18 = .ok (.getfield 29, 3) := by decide +kernel
theorem dX11_trade_21 : decode cX11_trade 21 = .ok (.iload_n 2, 1) := by decide +kernel
theorem dX11_trade_22 : decode cX11_trade 22 = .ok (.putfield 130, 3) := by decide +kernel
theorem dX11_trade_25 : decode cX11_trade 25 = .ok (.aload_n 0, 1) := by decide +kernel
theorem dX11_trade_26 : decode cX11_trade 26 = .ok (.getfield 29, 3) := by decide +kernel
theorem dX11_trade_29 : decode cX11_trade 29 = .ok (.iload 4, 2) := by decide +kernel
theorem dX11_trade_31 : decode cX11_trade 31 = .ok (.putfield 133, 3) := by decide +kernel
theorem dX11_trade_34 : decode cX11_trade 34 = .ok (.aload_n 0, 1) := by decide +kernel
theorem dX11_trade_35 : decode cX11_trade 35 = .ok (.getfield 29, 3) := by decide +kernel
theorem dX11_trade_38 : decode cX11_trade 38 = .ok (.iload 5, 2) := by decide +kernel
theorem dX11_trade_40 : decode cX11_trade 40 = .ok (.putfield 136, 3) := by decide +kernel
theorem dX11_trade_43 : decode cX11_trade 43 = .ok (.aload_n 0, 1) := by decide +kernel
theorem dX11_trade_44 : decode cX11_trade 44 = .ok (.getfield 29, 3) := by decide +kernel
theorem dX11_trade_47 : decode cX11_trade 47 = .ok (.iload 6, 2) := by decide +kernel
theorem dX11_trade_49 : decode cX11_trade 49 = .ok (.putfield 139, 3) := by decide +kernel
theorem dX11_trade_52 : decode cX11_trade 52 = .ok (.aload_n 0, 1) := by decide +kernel
theorem dX11_trade_53 : decode cX11_trade 53 = .ok (.invokevirtual 142, 3) := by decide +kernel
theorem dX11_trade_56 : decode cX11_trade 56 = .ok (.ireturn, 1) := by decide +kernel
theorem fcX11_123 : q_LV RX11 123 yX2_begin cX2_begin 3 none 2 2 := ⟨q_tb 986 (by decide +kernel) rfl, q_tb 720 (by decide +kernel) rfl, q_tb 721 (by decide +kernel) rfl, q_tb 4 (by decide +kernel) rfl, q_tb 722 (by decide +kernel) rfl, ⟨by decide +kernel, by decide +kernel, by decide +kernel⟩, TX2, 20, rfl⟩
theorem fpX11_127 : q_Fp RX11 127 2 2 .int false := ⟨RX2, TX2, 20, tyX2, rfl, by decide, inX2, q_tb 108 (by decide +kernel) rfl, tyX2_ok, nmX2, rfl, rfl, fun h => by first | rfl | cases h⟩
theorem fpX11_130 : q_Fp RX11 130 2 3 .int false := ⟨RX2, TX2, 20, tyX2, rfl, by decide, inX2, q_tb 112 (by decide +kernel) rfl, tyX2_ok, nmX2, rfl, rfl, fun h => by first | rfl | cases h⟩
theorem fpX11_133 : q_Fp RX11 133 2 4 .int false := ⟨RX2, TX2, 20, tyX2, rfl, by decide, inX2, q_tb 116 (by decide +kernel) rfl, tyX2_ok, nmX2, rfl, rfl, fun h => by first | rfl | cases h⟩
theorem fpX11_136 : q_Fp RX11 136 2 5 .int false := ⟨RX2, TX2, 20, tyX2, rfl, by decide, inX2, q_tb 120 (by decide +kernel) rfl, tyX2_ok, nmX2, rfl, rfl, fun h => by first | rfl | cases h⟩
theorem fpX11_139 : q_Fp RX11 139 2 6 .int false := ⟨RX2, TX2, 20, tyX2, rfl, by decide, inX2, q_tb 124 (by decide +kernel) rfl, tyX2_ok, nmX2, rfl, rfl, fun h => by first | rfl | cases h⟩
theorem fcX11_142 : q_LV RX11 142 yX11_doDeed cX11_doDeed 2 (some .int) 0 11 := ⟨q_tb 987 (by decide +kernel) rfl, q_tb 989 (by decide +kernel) rfl, q_tbs (q := (yX11_doDeed, 8)) 43 (by decide +kernel) rfl, q_tb 1 (by decide +kernel) rfl, q_tb 990 (by decide +kernel) rfl, ⟨by decide +kernel, by decide +kernel, by decide +kernel⟩, TX11, 8, rfl⟩
def fX11_trade (n : Nat) (r0 : Nat) (v1 : Int32) (v2 : Int32) (v3 : Int32) (v4 : Int32) (v5 : Int32) (v6 : Int32) (X : Mm) : Option (Int32 × Mm) :=
if mT X r0 = 11 then
if mR X r0 3 ≠ 0 then
if mT X (mR X r0 3) = 2 then
bd (fX2_begin ((mR X r0 3)) (4 : Int32) v3 X) fun _ X6_4 =>
if mT X6_4 r0 = 11 then
if mR X6_4 r0 3 ≠ 0 then
if mT X6_4 (mR X6_4 r0 3) = 2 then
nm (sI X6_4 (mR X6_4 r0 3) 2 v1) fun X14_8 =>
if mT X14_8 r0 = 11 then
if mR X14_8 r0 3 ≠ 0 then
if mT X14_8 (mR X14_8 r0 3) = 2 then
nm (sI X14_8 (mR X14_8 r0 3) 3 v2) fun X22_12 =>
if mT X22_12 r0 = 11 then
if mR X22_12 r0 3 ≠ 0 then
if mT X22_12 (mR X22_12 r0 3) = 2 then
nm (sI X22_12 (mR X22_12 r0 3) 4 v4) fun X31_16 =>
if mT X31_16 r0 = 11 then
if mR X31_16 r0 3 ≠ 0 then
if mT X31_16 (mR X31_16 r0 3) = 2 then
nm (sI X31_16 (mR X31_16 r0 3) 5 v5) fun X40_20 =>
if mT X40_20 r0 = 11 then
if mR X40_20 r0 3 ≠ 0 then
if mT X40_20 (mR X40_20 r0 3) = 2 then
nm (sI X40_20 (mR X40_20 r0 3) 6 v6) fun X49_24 =>
if mT X49_24 r0 = 11 then
bd (fX11_doDeed n r0 X49_24) fun w26 X53_27 =>
some (w26, X53_27)
else none
else none
else none
else none
else none
else none
else none
else none
else none
else none
else none
else none
else none
else none
else none
else none
else none
else none
else none
theorem sX11_trade (n : Nat) (r0 : Nat) (v1 : Int32) (v2 : Int32) (v3 : Int32) (v4 : Int32) (v5 : Int32) (v6 : Int32) : q_Ct yX11_trade cX11_trade 7 (some .int) 7 165 0 0 q_eI (fun P => [.ref (P + r0), .int v1, .int v2, .int v3, .int v4, .int v5, .int v6]) (fX11_trade n r0 v1 v2 v3 v4 v5 v6) := by
  refine q_meth (by decide +kernel) (fun P => Nat.le_of_ble_eq_true rfl) (fun E X C hn => ?_)
  show Sm E (q_fin E q_eI X 0 0) 0 0 0 [(0, .ref (q_P E + r0)), (1, .int v1), (2, .int v2), (3, .int v3), (4, .int v4), (5, .int v5), (6, .int v6)] [] X _
  unfold fX11_trade
  refine q_aload_n C 0 dX11_trade_0 rfl rfl ?_
  refine q_chk (fun h1 => ?_)
  refine q_chk (fun h2 => ?_)
  refine p_getR C fgX11_29 rfl dX11_trade_1 h1 h2 ?_
  refine q_iconst C (4 : Int32) dX11_trade_4 rfl ?_
  refine q_iload_n C 3 dX11_trade_5 rfl rfl ?_
  refine q_chk (fun h5 => ?_)
  refine q_cVV (As := (fun P => [.int (4 : Int32), .int v3])) C [] (sX2_begin ((mR X r0 3)) (4 : Int32) v3) fcX11_123 rfl (fun _ => rfl) ⟨Nat.le_of_ble_eq_true rfl, Nat.le_of_ble_eq_true rfl⟩ ⟨Nat.le_of_ble_eq_true rfl, Nat.le_of_ble_eq_true rfl⟩ (Nat.le_of_ble_eq_true rfl) dX11_trade_6 h5 (fun _ X6_4 => ?_)
  refine q_aload_n C 0 dX11_trade_9 rfl rfl ?_
  refine q_chk (fun h6 => ?_)
  refine q_chk (fun h7 => ?_)
  refine p_getR C fgX11_29 rfl dX11_trade_10 h6 h7 ?_
  refine q_iload_n C 1 dX11_trade_13 rfl rfl ?_
  refine q_chk (fun h9 => ?_)
  refine p_putI C fpX11_127 rfl dX11_trade_14 h9 ?_
  refine q_nmX (fun X14_8 => ?_)
  refine q_aload_n C 0 dX11_trade_17 rfl rfl ?_
  refine q_chk (fun h10 => ?_)
  refine q_chk (fun h11 => ?_)
  refine p_getR C fgX11_29 rfl dX11_trade_18 h10 h11 ?_
  refine q_iload_n C 2 dX11_trade_21 rfl rfl ?_
  refine q_chk (fun h13 => ?_)
  refine p_putI C fpX11_130 rfl dX11_trade_22 h13 ?_
  refine q_nmX (fun X22_12 => ?_)
  refine q_aload_n C 0 dX11_trade_25 rfl rfl ?_
  refine q_chk (fun h14 => ?_)
  refine q_chk (fun h15 => ?_)
  refine p_getR C fgX11_29 rfl dX11_trade_26 h14 h15 ?_
  refine q_iload C 4 dX11_trade_29 rfl ?_
  refine q_chk (fun h17 => ?_)
  refine p_putI C fpX11_133 rfl dX11_trade_31 h17 ?_
  refine q_nmX (fun X31_16 => ?_)
  refine q_aload_n C 0 dX11_trade_34 rfl rfl ?_
  refine q_chk (fun h18 => ?_)
  refine q_chk (fun h19 => ?_)
  refine p_getR C fgX11_29 rfl dX11_trade_35 h18 h19 ?_
  refine q_iload C 5 dX11_trade_38 rfl ?_
  refine q_chk (fun h21 => ?_)
  refine p_putI C fpX11_136 rfl dX11_trade_40 h21 ?_
  refine q_nmX (fun X40_20 => ?_)
  refine q_aload_n C 0 dX11_trade_43 rfl rfl ?_
  refine q_chk (fun h22 => ?_)
  refine q_chk (fun h23 => ?_)
  refine p_getR C fgX11_29 rfl dX11_trade_44 h22 h23 ?_
  refine q_iload C 6 dX11_trade_47 rfl ?_
  refine q_chk (fun h25 => ?_)
  refine p_putI C fpX11_139 rfl dX11_trade_49 h25 ?_
  refine q_nmX (fun X49_24 => ?_)
  refine q_aload_n C 0 dX11_trade_52 rfl rfl ?_
  refine q_chk (fun h28 => ?_)
  refine q_cVI (As := (fun P => [])) C [] (sX11_doDeed n r0) fcX11_142 rfl (fun _ => rfl) ⟨Nat.le_of_ble_eq_true rfl, Nat.le_of_ble_eq_true rfl⟩ ⟨Nat.le_of_ble_eq_true rfl, Nat.le_of_ble_eq_true rfl⟩ (Nat.le_of_ble_eq_true rfl) dX11_trade_53 h28 (fun w26 X53_27 => ?_)
  exact q_iret C dX11_trade_56
/-! RecordClaims.money(IIIII)I -/
abbrev cX11_money : ByteArray := prog_1_method_10_code
def yX11_money : MethodName := ⟨RX11, "money", "(IIIII)I"⟩
theorem dX11_money_0 : decode cX11_money 0 = .ok (.aload_n 0, 1) := by decide +kernel
theorem dX11_money_1 : decode cX11_money 1 = .ok (.getfield 29, 3) := by decide +kernel
theorem dX11_money_4 : decode cX11_money 4 = .ok (.iconst 0, 1) := by decide +kernel
theorem dX11_money_5 : decode cX11_money 5 = .ok (.iload_n 1, 1) := by decide +kernel
theorem dX11_money_6 : decode cX11_money 6 = .ok (.invokevirtual 123, 3) := by decide +kernel
theorem dX11_money_9 : decode cX11_money 9 = .ok (.aload_n 0, 1) := by decide +kernel
theorem dX11_money_10 : decode cX11_money 10 = .ok (.getfield 29, 3) := by decide +kernel
theorem dX11_money_13 : decode cX11_money 13 = .ok (.iload_n 2, 1) := by decide +kernel
theorem dX11_money_14 : decode cX11_money 14 = .ok (.putfield 145, 3) := by decide +kernel
theorem dX11_money_17 : decode cX11_money 17 = .ok (.aload_n 0, 1) := by decide +kernel
theorem dX11_money_18 : decode cX11_money 18 = .ok (.getfield 29, 3) := by decide +kernel
theorem dX11_money_21 : decode cX11_money 21 = .ok (.iload_n 3, 1) := by decide +kernel
theorem dX11_money_22 : decode cX11_money 22 = .ok (.iload 4, 2) := by decide +kernel
theorem dX11_money_24 : decode cX11_money 24 = .ok (.iload 5, 2) := by decide +kernel
theorem dX11_money_26 : decode cX11_money 26 = .ok (.invokevirtual 148, 3) := by decide +kernel
theorem dX11_money_29 : decode cX11_money 29 = .ok (.aload_n 0, 1) := by decide +kernel
theorem dX11_money_30 : decode cX11_money 30 = .ok (.invokevirtual 142, 3) := by decide +kernel
theorem dX11_money_33 : decode cX11_money 33 = .ok (.ireturn, 1) := by decide +kernel
theorem fpX11_145 : q_Fp RX11 145 2 10 .int false := ⟨RX2, TX2, 20, tyX2, rfl, by decide, inX2, q_tb 138 (by decide +kernel) rfl, tyX2_ok, nmX2, rfl, rfl, fun h => by first | rfl | cases h⟩
theorem fcX11_148 : q_LV RX11 148 yX2_setWhen cX2_setWhen 4 none 3 2 := ⟨q_tb 995 (by decide +kernel) rfl, q_tb 996 (by decide +kernel) rfl, q_tb 997 (by decide +kernel) rfl, q_tb 4 (by decide +kernel) rfl, q_tb 998 (by decide +kernel) rfl, ⟨by decide +kernel, by decide +kernel, by decide +kernel⟩, TX2, 20, rfl⟩
def fX11_money (n : Nat) (r0 : Nat) (v1 : Int32) (v2 : Int32) (v3 : Int32) (v4 : Int32) (v5 : Int32) (X : Mm) : Option (Int32 × Mm) :=
if mT X r0 = 11 then
if mR X r0 3 ≠ 0 then
if mT X (mR X r0 3) = 2 then
bd (fX2_begin ((mR X r0 3)) (0 : Int32) v1 X) fun _ X6_4 =>
if mT X6_4 r0 = 11 then
if mR X6_4 r0 3 ≠ 0 then
if mT X6_4 (mR X6_4 r0 3) = 2 then
nm (sI X6_4 (mR X6_4 r0 3) 10 v2) fun X14_8 =>
if mT X14_8 r0 = 11 then
if mR X14_8 r0 3 ≠ 0 then
if mT X14_8 (mR X14_8 r0 3) = 2 then
bd (fX2_setWhen ((mR X14_8 r0 3)) v3 v4 v5 X14_8) fun _ X26_13 =>
if mT X26_13 r0 = 11 then
bd (fX11_doDeed n r0 X26_13) fun w15 X30_16 =>
some (w15, X30_16)
else none
else none
else none
else none
else none
else none
else none
else none
else none
else none
theorem sX11_money (n : Nat) (r0 : Nat) (v1 : Int32) (v2 : Int32) (v3 : Int32) (v4 : Int32) (v5 : Int32) : q_Ct yX11_money cX11_money 6 (some .int) 7 165 0 0 q_eI (fun P => [.ref (P + r0), .int v1, .int v2, .int v3, .int v4, .int v5]) (fX11_money n r0 v1 v2 v3 v4 v5) := by
  refine q_meth (by decide +kernel) (fun P => Nat.le_of_ble_eq_true rfl) (fun E X C hn => ?_)
  show Sm E (q_fin E q_eI X 0 0) 0 0 0 [(0, .ref (q_P E + r0)), (1, .int v1), (2, .int v2), (3, .int v3), (4, .int v4), (5, .int v5)] [] X _
  unfold fX11_money
  refine q_aload_n C 0 dX11_money_0 rfl rfl ?_
  refine q_chk (fun h1 => ?_)
  refine q_chk (fun h2 => ?_)
  refine p_getR C fgX11_29 rfl dX11_money_1 h1 h2 ?_
  refine q_iconst C (0 : Int32) dX11_money_4 rfl ?_
  refine q_iload_n C 1 dX11_money_5 rfl rfl ?_
  refine q_chk (fun h5 => ?_)
  refine q_cVV (As := (fun P => [.int (0 : Int32), .int v1])) C [] (sX2_begin ((mR X r0 3)) (0 : Int32) v1) fcX11_123 rfl (fun _ => rfl) ⟨Nat.le_of_ble_eq_true rfl, Nat.le_of_ble_eq_true rfl⟩ ⟨Nat.le_of_ble_eq_true rfl, Nat.le_of_ble_eq_true rfl⟩ (Nat.le_of_ble_eq_true rfl) dX11_money_6 h5 (fun _ X6_4 => ?_)
  refine q_aload_n C 0 dX11_money_9 rfl rfl ?_
  refine q_chk (fun h6 => ?_)
  refine q_chk (fun h7 => ?_)
  refine p_getR C fgX11_29 rfl dX11_money_10 h6 h7 ?_
  refine q_iload_n C 2 dX11_money_13 rfl rfl ?_
  refine q_chk (fun h9 => ?_)
  refine p_putI C fpX11_145 rfl dX11_money_14 h9 ?_
  refine q_nmX (fun X14_8 => ?_)
  refine q_aload_n C 0 dX11_money_17 rfl rfl ?_
  refine q_chk (fun h10 => ?_)
  refine q_chk (fun h11 => ?_)
  refine p_getR C fgX11_29 rfl dX11_money_18 h10 h11 ?_
  refine q_iload_n C 3 dX11_money_21 rfl rfl ?_
  refine q_iload C 4 dX11_money_22 rfl ?_
  refine q_iload C 5 dX11_money_24 rfl ?_
  refine q_chk (fun h14 => ?_)
  refine q_cVV (As := (fun P => [.int v3, .int v4, .int v5])) C [] (sX2_setWhen ((mR X14_8 r0 3)) v3 v4 v5) fcX11_148 rfl (fun _ => rfl) ⟨Nat.le_of_ble_eq_true rfl, Nat.le_of_ble_eq_true rfl⟩ ⟨Nat.le_of_ble_eq_true rfl, Nat.le_of_ble_eq_true rfl⟩ (Nat.le_of_ble_eq_true rfl) dX11_money_26 h14 (fun _ X26_13 => ?_)
  refine q_aload_n C 0 dX11_money_29 rfl rfl ?_
  refine q_chk (fun h17 => ?_)
  refine q_cVI (As := (fun P => [])) C [] (sX11_doDeed n r0) fcX11_142 rfl (fun _ => rfl) ⟨Nat.le_of_ble_eq_true rfl, Nat.le_of_ble_eq_true rfl⟩ ⟨Nat.le_of_ble_eq_true rfl, Nat.le_of_ble_eq_true rfl⟩ (Nat.le_of_ble_eq_true rfl) dX11_money_30 h17 (fun w15 X30_16 => ?_)
  exact q_iret C dX11_money_33
/-! RecordClaims.gift(IIIIII)I -/
abbrev cX11_gift : ByteArray := prog_1_method_11_code
def yX11_gift : MethodName := ⟨RX11, "gift", "(IIIIII)I"⟩
theorem dX11_gift_0 : decode cX11_gift 0 = .ok (.aload_n 0, 1) := by decide +kernel
theorem dX11_gift_1 : decode cX11_gift 1 = .ok (.getfield 29, 3) := by decide +kernel
theorem dX11_gift_4 : decode cX11_gift 4 = .ok (.iconst 1, 1) := by decide +kernel
theorem dX11_gift_5 : decode cX11_gift 5 = .ok (.iload_n 1, 1) := by decide +kernel
theorem dX11_gift_6 : decode cX11_gift 6 = .ok (.invokevirtual 123, 3) := by decide +kernel
theorem dX11_gift_9 : decode cX11_gift 9 = .ok (.aload_n 0, 1) := by decide +kernel
theorem dX11_gift_10 : decode cX11_gift 10 = .ok (.getfield 29, 3) := by decide +kernel
theorem dX11_gift_13 : decode cX11_gift 13 = .ok (.iload_n 2, 1) := by decide +kernel
theorem dX11_gift_14 : decode cX11_gift 14 = .ok (.invokevirtual 152, 3) := by decide +kernel
theorem dX11_gift_17 : decode cX11_gift 17 = .ok (.aload_n 0, 1) := by decide +kernel
theorem dX11_gift_18 : decode cX11_gift 18 = .ok (.getfield 29, 3) := by decide +kernel
theorem dX11_gift_21 : decode cX11_gift 21 = .ok (.iload_n 3, 1) := by decide +kernel
theorem dX11_gift_22 : decode cX11_gift 22 = .ok (.putfield 155, 3) := by decide +kernel
theorem dX11_gift_25 : decode cX11_gift 25 = .ok (.aload_n 0, 1) := by decide +kernel
theorem dX11_gift_26 : decode cX11_gift 26 = .ok (.getfield 29, 3) := by decide +kernel
theorem dX11_gift_29 : decode cX11_gift 29 = .ok (.iload 4, 2) := by decide +kernel
theorem dX11_gift_31 : decode cX11_gift 31 = .ok (.iload 5, 2) := by decide +kernel
theorem dX11_gift_33 : decode cX11_gift 33 = .ok (.iload 6, 2) := by decide +kernel
theorem dX11_gift_35 : decode cX11_gift 35 = .ok (.invokevirtual 148, 3) := by decide +kernel
theorem dX11_gift_38 : decode cX11_gift 38 = .ok (.aload_n 0, 1) := by decide +kernel
theorem dX11_gift_39 : decode cX11_gift 39 = .ok (.invokevirtual 142, 3) := by decide +kernel
theorem dX11_gift_42 : decode cX11_gift 42 = .ok (.ireturn, 1) := by decide +kernel
theorem fcX11_152 : q_LV RX11 152 yX2_setRatio cX2_setRatio 2 none 1 2 := ⟨q_tb 1003 (by decide +kernel) rfl, q_tb 1004 (by decide +kernel) rfl, q_tb 1005 (by decide +kernel) rfl, q_tb 4 (by decide +kernel) rfl, q_tb 1006 (by decide +kernel) rfl, ⟨by decide +kernel, by decide +kernel, by decide +kernel⟩, TX2, 20, rfl⟩
theorem fpX11_155 : q_Fp RX11 155 2 11 .int false := ⟨RX2, TX2, 20, tyX2, rfl, by decide, inX2, q_tb 142 (by decide +kernel) rfl, tyX2_ok, nmX2, rfl, rfl, fun h => by first | rfl | cases h⟩
def fX11_gift (n : Nat) (r0 : Nat) (v1 : Int32) (v2 : Int32) (v3 : Int32) (v4 : Int32) (v5 : Int32) (v6 : Int32) (X : Mm) : Option (Int32 × Mm) :=
if mT X r0 = 11 then
if mR X r0 3 ≠ 0 then
if mT X (mR X r0 3) = 2 then
bd (fX2_begin ((mR X r0 3)) (1 : Int32) v1 X) fun _ X6_4 =>
if mT X6_4 r0 = 11 then
if mR X6_4 r0 3 ≠ 0 then
if mT X6_4 (mR X6_4 r0 3) = 2 then
bd (fX2_setRatio ((mR X6_4 r0 3)) v2 X6_4) fun _ X14_9 =>
if mT X14_9 r0 = 11 then
if mR X14_9 r0 3 ≠ 0 then
if mT X14_9 (mR X14_9 r0 3) = 2 then
nm (sI X14_9 (mR X14_9 r0 3) 11 v3) fun X22_13 =>
if mT X22_13 r0 = 11 then
if mR X22_13 r0 3 ≠ 0 then
if mT X22_13 (mR X22_13 r0 3) = 2 then
bd (fX2_setWhen ((mR X22_13 r0 3)) v4 v5 v6 X22_13) fun _ X35_18 =>
if mT X35_18 r0 = 11 then
bd (fX11_doDeed n r0 X35_18) fun w20 X39_21 =>
some (w20, X39_21)
else none
else none
else none
else none
else none
else none
else none
else none
else none
else none
else none
else none
else none
theorem sX11_gift (n : Nat) (r0 : Nat) (v1 : Int32) (v2 : Int32) (v3 : Int32) (v4 : Int32) (v5 : Int32) (v6 : Int32) : q_Ct yX11_gift cX11_gift 7 (some .int) 7 165 0 0 q_eI (fun P => [.ref (P + r0), .int v1, .int v2, .int v3, .int v4, .int v5, .int v6]) (fX11_gift n r0 v1 v2 v3 v4 v5 v6) := by
  refine q_meth (by decide +kernel) (fun P => Nat.le_of_ble_eq_true rfl) (fun E X C hn => ?_)
  show Sm E (q_fin E q_eI X 0 0) 0 0 0 [(0, .ref (q_P E + r0)), (1, .int v1), (2, .int v2), (3, .int v3), (4, .int v4), (5, .int v5), (6, .int v6)] [] X _
  unfold fX11_gift
  refine q_aload_n C 0 dX11_gift_0 rfl rfl ?_
  refine q_chk (fun h1 => ?_)
  refine q_chk (fun h2 => ?_)
  refine p_getR C fgX11_29 rfl dX11_gift_1 h1 h2 ?_
  refine q_iconst C (1 : Int32) dX11_gift_4 rfl ?_
  refine q_iload_n C 1 dX11_gift_5 rfl rfl ?_
  refine q_chk (fun h5 => ?_)
  refine q_cVV (As := (fun P => [.int (1 : Int32), .int v1])) C [] (sX2_begin ((mR X r0 3)) (1 : Int32) v1) fcX11_123 rfl (fun _ => rfl) ⟨Nat.le_of_ble_eq_true rfl, Nat.le_of_ble_eq_true rfl⟩ ⟨Nat.le_of_ble_eq_true rfl, Nat.le_of_ble_eq_true rfl⟩ (Nat.le_of_ble_eq_true rfl) dX11_gift_6 h5 (fun _ X6_4 => ?_)
  refine q_aload_n C 0 dX11_gift_9 rfl rfl ?_
  refine q_chk (fun h6 => ?_)
  refine q_chk (fun h7 => ?_)
  refine p_getR C fgX11_29 rfl dX11_gift_10 h6 h7 ?_
  refine q_iload_n C 2 dX11_gift_13 rfl rfl ?_
  refine q_chk (fun h10 => ?_)
  refine q_cVV (As := (fun P => [.int v2])) C [] (sX2_setRatio ((mR X6_4 r0 3)) v2) fcX11_152 rfl (fun _ => rfl) ⟨Nat.le_of_ble_eq_true rfl, Nat.le_of_ble_eq_true rfl⟩ ⟨Nat.le_of_ble_eq_true rfl, Nat.le_of_ble_eq_true rfl⟩ (Nat.le_of_ble_eq_true rfl) dX11_gift_14 h10 (fun _ X14_9 => ?_)
  refine q_aload_n C 0 dX11_gift_17 rfl rfl ?_
  refine q_chk (fun h11 => ?_)
  refine q_chk (fun h12 => ?_)
  refine p_getR C fgX11_29 rfl dX11_gift_18 h11 h12 ?_
  refine q_iload_n C 3 dX11_gift_21 rfl rfl ?_
  refine q_chk (fun h14 => ?_)
  refine p_putI C fpX11_155 rfl dX11_gift_22 h14 ?_
  refine q_nmX (fun X22_13 => ?_)
  refine q_aload_n C 0 dX11_gift_25 rfl rfl ?_
  refine q_chk (fun h15 => ?_)
  refine q_chk (fun h16 => ?_)
  refine p_getR C fgX11_29 rfl dX11_gift_26 h15 h16 ?_
  refine q_iload C 4 dX11_gift_29 rfl ?_
  refine q_iload C 5 dX11_gift_31 rfl ?_
  refine q_iload C 6 dX11_gift_33 rfl ?_
  refine q_chk (fun h19 => ?_)
  refine q_cVV (As := (fun P => [.int v4, .int v5, .int v6])) C [] (sX2_setWhen ((mR X22_13 r0 3)) v4 v5 v6) fcX11_148 rfl (fun _ => rfl) ⟨Nat.le_of_ble_eq_true rfl, Nat.le_of_ble_eq_true rfl⟩ ⟨Nat.le_of_ble_eq_true rfl, Nat.le_of_ble_eq_true rfl⟩ (Nat.le_of_ble_eq_true rfl) dX11_gift_35 h19 (fun _ X35_18 => ?_)
  refine q_aload_n C 0 dX11_gift_38 rfl rfl ?_
  refine q_chk (fun h22 => ?_)
  refine q_cVI (As := (fun P => [])) C [] (sX11_doDeed n r0) fcX11_142 rfl (fun _ => rfl) ⟨Nat.le_of_ble_eq_true rfl, Nat.le_of_ble_eq_true rfl⟩ ⟨Nat.le_of_ble_eq_true rfl, Nat.le_of_ble_eq_true rfl⟩ (Nat.le_of_ble_eq_true rfl) dX11_gift_39 h22 (fun w20 X39_21 => ?_)
  exact q_iret C dX11_gift_42
/-! RecordClaims.rights(IIIIIII)I -/
abbrev cX11_rights : ByteArray := prog_1_method_12_code
def yX11_rights : MethodName := ⟨RX11, "rights", "(IIIIIII)I"⟩
theorem dX11_rights_0 : decode cX11_rights 0 = .ok (.aload_n 0, 1) := by decide +kernel
theorem dX11_rights_1 : decode cX11_rights 1 = .ok (.getfield 29, 3) := by decide +kernel
theorem dX11_rights_4 : decode cX11_rights 4 = .ok (.iconst 2, 1) := by decide +kernel
theorem dX11_rights_5 : decode cX11_rights 5 = .ok (.iload_n 1, 1) := by decide +kernel
theorem dX11_rights_6 : decode cX11_rights 6 = .ok (.invokevirtual 123, 3) := by decide +kernel
theorem dX11_rights_9 : decode cX11_rights 9 = .ok (.aload_n 0, 1) := by decide +kernel
theorem dX11_rights_10 : decode cX11_rights 10 = .ok (.getfield 29, 3) := by decide +kernel
theorem dX11_rights_13 : decode cX11_rights 13 = .ok (.iload_n 2, 1) := by decide +kernel
theorem dX11_rights_14 : decode cX11_rights 14 = .ok (.invokevirtual 152, 3) := by decide +kernel
theorem dX11_rights_17 : decode cX11_rights 17 = .ok (.aload_n 0, 1) := by decide +kernel
theorem dX11_rights_18 : decode cX11_rights 18 = .ok (.getfield 29, 3) := by decide +kernel
theorem dX11_rights_21 : decode cX11_rights 21 = .ok (.iload_n 3, 1) := by decide +kernel
theorem dX11_rights_22 : decode cX11_rights 22 = .ok (.invokevirtual 158, 3) := by decide +kernel
theorem dX11_rights_25 : decode cX11_rights 25 = .ok (.aload_n 0, 1) := by decide +kernel
theorem dX11_rights_26 : decode cX11_rights 26 = .ok (.getfield 29, 3) := by decide +kernel
theorem dX11_rights_29 : decode cX11_rights 29 = .ok (.iload 4, 2) := by decide +kernel
theorem dX11_rights_31 : decode cX11_rights 31 = .ok (.putfield 161, 3) := by decide +kernel
theorem dX11_rights_34 : decode cX11_rights 34 = .ok (.aload_n 0, 1) := by decide +kernel
theorem dX11_rights_35 : decode cX11_rights 35 = .ok (.getfield 29, 3) := by decide +kernel
theorem dX11_rights_38 : decode cX11_rights 38 = .ok (.iload 5, 2) := by decide +kernel
theorem dX11_rights_40 : decode cX11_rights 40 = .ok (.iload 6, 2) := by decide +kernel
theorem dX11_rights_42 : decode cX11_rights 42 = .ok (.iload 7, 2) := by decide +kernel
theorem dX11_rights_44 : decode cX11_rights 44 = .ok (.invokevirtual 148, 3) := by decide +kernel
theorem dX11_rights_47 : decode cX11_rights 47 = .ok (.aload_n 0, 1) := by decide +kernel
theorem dX11_rights_48 : decode cX11_rights 48 = .ok (.invokevirtual 142, 3) := by decide +kernel
theorem dX11_rights_51 : decode cX11_rights 51 = .ok (.ireturn, 1) := by decide +kernel
theorem fcX11_158 : q_LV RX11 158 yX2_setPrices cX2_setPrices 2 none 1 2 := ⟨q_tb 1011 (by decide +kernel) rfl, q_tb 1012 (by decide +kernel) rfl, q_tb 1013 (by decide +kernel) rfl, q_tb 4 (by decide +kernel) rfl, q_tb 1014 (by decide +kernel) rfl, ⟨by decide +kernel, by decide +kernel, by decide +kernel⟩, TX2, 20, rfl⟩
theorem fpX11_161 : q_Fp RX11 161 2 12 .int false := ⟨RX2, TX2, 20, tyX2, rfl, by decide, inX2, q_tb 146 (by decide +kernel) rfl, tyX2_ok, nmX2, rfl, rfl, fun h => by first | rfl | cases h⟩
def fX11_rights (n : Nat) (r0 : Nat) (v1 : Int32) (v2 : Int32) (v3 : Int32) (v4 : Int32) (v5 : Int32) (v6 : Int32) (v7 : Int32) (X : Mm) : Option (Int32 × Mm) :=
if mT X r0 = 11 then
if mR X r0 3 ≠ 0 then
if mT X (mR X r0 3) = 2 then
bd (fX2_begin ((mR X r0 3)) (2 : Int32) v1 X) fun _ X6_4 =>
if mT X6_4 r0 = 11 then
if mR X6_4 r0 3 ≠ 0 then
if mT X6_4 (mR X6_4 r0 3) = 2 then
bd (fX2_setRatio ((mR X6_4 r0 3)) v2 X6_4) fun _ X14_9 =>
if mT X14_9 r0 = 11 then
if mR X14_9 r0 3 ≠ 0 then
if mT X14_9 (mR X14_9 r0 3) = 2 then
bd (fX2_setPrices ((mR X14_9 r0 3)) v3 X14_9) fun _ X22_14 =>
if mT X22_14 r0 = 11 then
if mR X22_14 r0 3 ≠ 0 then
if mT X22_14 (mR X22_14 r0 3) = 2 then
nm (sI X22_14 (mR X22_14 r0 3) 12 v4) fun X31_18 =>
if mT X31_18 r0 = 11 then
if mR X31_18 r0 3 ≠ 0 then
if mT X31_18 (mR X31_18 r0 3) = 2 then
bd (fX2_setWhen ((mR X31_18 r0 3)) v5 v6 v7 X31_18) fun _ X44_23 =>
if mT X44_23 r0 = 11 then
bd (fX11_doDeed n r0 X44_23) fun w25 X48_26 =>
some (w25, X48_26)
else none
else none
else none
else none
else none
else none
else none
else none
else none
else none
else none
else none
else none
else none
else none
else none
theorem sX11_rights (n : Nat) (r0 : Nat) (v1 : Int32) (v2 : Int32) (v3 : Int32) (v4 : Int32) (v5 : Int32) (v6 : Int32) (v7 : Int32) : q_Ct yX11_rights cX11_rights 8 (some .int) 7 165 0 0 q_eI (fun P => [.ref (P + r0), .int v1, .int v2, .int v3, .int v4, .int v5, .int v6, .int v7]) (fX11_rights n r0 v1 v2 v3 v4 v5 v6 v7) := by
  refine q_meth (by decide +kernel) (fun P => Nat.le_of_ble_eq_true rfl) (fun E X C hn => ?_)
  show Sm E (q_fin E q_eI X 0 0) 0 0 0 [(0, .ref (q_P E + r0)), (1, .int v1), (2, .int v2), (3, .int v3), (4, .int v4), (5, .int v5), (6, .int v6), (7, .int v7)] [] X _
  unfold fX11_rights
  refine q_aload_n C 0 dX11_rights_0 rfl rfl ?_
  refine q_chk (fun h1 => ?_)
  refine q_chk (fun h2 => ?_)
  refine p_getR C fgX11_29 rfl dX11_rights_1 h1 h2 ?_
  refine q_iconst C (2 : Int32) dX11_rights_4 rfl ?_
  refine q_iload_n C 1 dX11_rights_5 rfl rfl ?_
  refine q_chk (fun h5 => ?_)
  refine q_cVV (As := (fun P => [.int (2 : Int32), .int v1])) C [] (sX2_begin ((mR X r0 3)) (2 : Int32) v1) fcX11_123 rfl (fun _ => rfl) ⟨Nat.le_of_ble_eq_true rfl, Nat.le_of_ble_eq_true rfl⟩ ⟨Nat.le_of_ble_eq_true rfl, Nat.le_of_ble_eq_true rfl⟩ (Nat.le_of_ble_eq_true rfl) dX11_rights_6 h5 (fun _ X6_4 => ?_)
  refine q_aload_n C 0 dX11_rights_9 rfl rfl ?_
  refine q_chk (fun h6 => ?_)
  refine q_chk (fun h7 => ?_)
  refine p_getR C fgX11_29 rfl dX11_rights_10 h6 h7 ?_
  refine q_iload_n C 2 dX11_rights_13 rfl rfl ?_
  refine q_chk (fun h10 => ?_)
  refine q_cVV (As := (fun P => [.int v2])) C [] (sX2_setRatio ((mR X6_4 r0 3)) v2) fcX11_152 rfl (fun _ => rfl) ⟨Nat.le_of_ble_eq_true rfl, Nat.le_of_ble_eq_true rfl⟩ ⟨Nat.le_of_ble_eq_true rfl, Nat.le_of_ble_eq_true rfl⟩ (Nat.le_of_ble_eq_true rfl) dX11_rights_14 h10 (fun _ X14_9 => ?_)
  refine q_aload_n C 0 dX11_rights_17 rfl rfl ?_
  refine q_chk (fun h11 => ?_)
  refine q_chk (fun h12 => ?_)
  refine p_getR C fgX11_29 rfl dX11_rights_18 h11 h12 ?_
  refine q_iload_n C 3 dX11_rights_21 rfl rfl ?_
  refine q_chk (fun h15 => ?_)
  refine q_cVV (As := (fun P => [.int v3])) C [] (sX2_setPrices ((mR X14_9 r0 3)) v3) fcX11_158 rfl (fun _ => rfl) ⟨Nat.le_of_ble_eq_true rfl, Nat.le_of_ble_eq_true rfl⟩ ⟨Nat.le_of_ble_eq_true rfl, Nat.le_of_ble_eq_true rfl⟩ (Nat.le_of_ble_eq_true rfl) dX11_rights_22 h15 (fun _ X22_14 => ?_)
  refine q_aload_n C 0 dX11_rights_25 rfl rfl ?_
  refine q_chk (fun h16 => ?_)
  refine q_chk (fun h17 => ?_)
  refine p_getR C fgX11_29 rfl dX11_rights_26 h16 h17 ?_
  refine q_iload C 4 dX11_rights_29 rfl ?_
  refine q_chk (fun h19 => ?_)
  refine p_putI C fpX11_161 rfl dX11_rights_31 h19 ?_
  refine q_nmX (fun X31_18 => ?_)
  refine q_aload_n C 0 dX11_rights_34 rfl rfl ?_
  refine q_chk (fun h20 => ?_)
  refine q_chk (fun h21 => ?_)
  refine p_getR C fgX11_29 rfl dX11_rights_35 h20 h21 ?_
  refine q_iload C 5 dX11_rights_38 rfl ?_
  refine q_iload C 6 dX11_rights_40 rfl ?_
  refine q_iload C 7 dX11_rights_42 rfl ?_
  refine q_chk (fun h24 => ?_)
  refine q_cVV (As := (fun P => [.int v5, .int v6, .int v7])) C [] (sX2_setWhen ((mR X31_18 r0 3)) v5 v6 v7) fcX11_148 rfl (fun _ => rfl) ⟨Nat.le_of_ble_eq_true rfl, Nat.le_of_ble_eq_true rfl⟩ ⟨Nat.le_of_ble_eq_true rfl, Nat.le_of_ble_eq_true rfl⟩ (Nat.le_of_ble_eq_true rfl) dX11_rights_44 h24 (fun _ X44_23 => ?_)
  refine q_aload_n C 0 dX11_rights_47 rfl rfl ?_
  refine q_chk (fun h27 => ?_)
  refine q_cVI (As := (fun P => [])) C [] (sX11_doDeed n r0) fcX11_142 rfl (fun _ => rfl) ⟨Nat.le_of_ble_eq_true rfl, Nat.le_of_ble_eq_true rfl⟩ ⟨Nat.le_of_ble_eq_true rfl, Nat.le_of_ble_eq_true rfl⟩ (Nat.le_of_ble_eq_true rfl) dX11_rights_48 h27 (fun w25 X48_26 => ?_)
  exact q_iret C dX11_rights_51
/-! RecordClaims.turn(IIIII)I -/
abbrev cX11_turn : ByteArray := prog_1_method_13_code
def yX11_turn : MethodName := ⟨RX11, "turn", "(IIIII)I"⟩
theorem dX11_turn_0 : decode cX11_turn 0 = .ok (.aload_n 0, 1) := by decide +kernel
theorem dX11_turn_1 : decode cX11_turn 1 = .ok (.getfield 29, 3) := by decide +kernel
theorem dX11_turn_4 : decode cX11_turn 4 = .ok (.iconst 3, 1) := by decide +kernel
theorem dX11_turn_5 : decode cX11_turn 5 = .ok (.iload_n 1, 1) := by decide +kernel
theorem dX11_turn_6 : decode cX11_turn 6 = .ok (.invokevirtual 123, 3) := by decide +kernel
theorem dX11_turn_9 : decode cX11_turn 9 = .ok (.aload_n 0, 1) := by decide +kernel
theorem dX11_turn_10 : decode cX11_turn 10 = .ok (.getfield 29, 3) := by decide +kernel
theorem dX11_turn_13 : decode cX11_turn 13 = .ok (.iload_n 2, 1) := by decide +kernel
theorem dX11_turn_14 : decode cX11_turn 14 = .ok (.putfield 164, 3) := by decide +kernel
theorem dX11_turn_17 : decode cX11_turn 17 = .ok (.aload_n 0, 1) := by decide +kernel
theorem dX11_turn_18 : decode cX11_turn 18 = .ok (.getfield 29, 3) := by decide +kernel
theorem dX11_turn_21 : decode cX11_turn 21 = .ok (.iload_n 3, 1) := by decide +kernel
theorem dX11_turn_22 : decode cX11_turn 22 = .ok (.invokevirtual 152, 3) := by decide +kernel
theorem dX11_turn_25 : decode cX11_turn 25 = .ok (.aload_n 0, 1) := by decide +kernel
theorem dX11_turn_26 : decode cX11_turn 26 = .ok (.getfield 29, 3) := by decide +kernel
theorem dX11_turn_29 : decode cX11_turn 29 = .ok (.iload 4, 2) := by decide +kernel
theorem dX11_turn_31 : decode cX11_turn 31 = .ok (.invokevirtual 158, 3) := by decide +kernel
theorem dX11_turn_34 : decode cX11_turn 34 = .ok (.aload_n 0, 1) := by decide +kernel
theorem dX11_turn_35 : decode cX11_turn 35 = .ok (.getfield 29, 3) := by decide +kernel
theorem dX11_turn_38 : decode cX11_turn 38 = .ok (.iload 5, 2) := by decide +kernel
theorem dX11_turn_40 : decode cX11_turn 40 = .ok (.iload 5, 2) := by decide +kernel
theorem dX11_turn_42 : decode cX11_turn 42 = .ok (.iload 5, 2) := by decide +kernel
theorem dX11_turn_44 : decode cX11_turn 44 = .ok (.invokevirtual 148, 3) := by decide +kernel
theorem dX11_turn_47 : decode cX11_turn 47 = .ok (.aload_n 0, 1) := by decide +kernel
theorem dX11_turn_48 : decode cX11_turn 48 = .ok (.invokevirtual 142, 3) := by decide +kernel
theorem dX11_turn_51 : decode cX11_turn 51 = .ok (.ireturn, 1) := by decide +kernel
theorem fpX11_164 : q_Fp RX11 164 2 7 .int false := ⟨RX2, TX2, 20, tyX2, rfl, by decide, inX2, q_tb 128 (by decide +kernel) rfl, tyX2_ok, nmX2, rfl, rfl, fun h => by first | rfl | cases h⟩
def fX11_turn (n : Nat) (r0 : Nat) (v1 : Int32) (v2 : Int32) (v3 : Int32) (v4 : Int32) (v5 : Int32) (X : Mm) : Option (Int32 × Mm) :=
if mT X r0 = 11 then
if mR X r0 3 ≠ 0 then
if mT X (mR X r0 3) = 2 then
bd (fX2_begin ((mR X r0 3)) (3 : Int32) v1 X) fun _ X6_4 =>
if mT X6_4 r0 = 11 then
if mR X6_4 r0 3 ≠ 0 then
if mT X6_4 (mR X6_4 r0 3) = 2 then
nm (sI X6_4 (mR X6_4 r0 3) 7 v2) fun X14_8 =>
if mT X14_8 r0 = 11 then
if mR X14_8 r0 3 ≠ 0 then
if mT X14_8 (mR X14_8 r0 3) = 2 then
bd (fX2_setRatio ((mR X14_8 r0 3)) v3 X14_8) fun _ X22_13 =>
if mT X22_13 r0 = 11 then
if mR X22_13 r0 3 ≠ 0 then
if mT X22_13 (mR X22_13 r0 3) = 2 then
bd (fX2_setPrices ((mR X22_13 r0 3)) v4 X22_13) fun _ X31_18 =>
if mT X31_18 r0 = 11 then
if mR X31_18 r0 3 ≠ 0 then
if mT X31_18 (mR X31_18 r0 3) = 2 then
bd (fX2_setWhen ((mR X31_18 r0 3)) v5 v5 v5 X31_18) fun _ X44_23 =>
if mT X44_23 r0 = 11 then
bd (fX11_doDeed n r0 X44_23) fun w25 X48_26 =>
some (w25, X48_26)
else none
else none
else none
else none
else none
else none
else none
else none
else none
else none
else none
else none
else none
else none
else none
else none
theorem sX11_turn (n : Nat) (r0 : Nat) (v1 : Int32) (v2 : Int32) (v3 : Int32) (v4 : Int32) (v5 : Int32) : q_Ct yX11_turn cX11_turn 6 (some .int) 7 165 0 0 q_eI (fun P => [.ref (P + r0), .int v1, .int v2, .int v3, .int v4, .int v5]) (fX11_turn n r0 v1 v2 v3 v4 v5) := by
  refine q_meth (by decide +kernel) (fun P => Nat.le_of_ble_eq_true rfl) (fun E X C hn => ?_)
  show Sm E (q_fin E q_eI X 0 0) 0 0 0 [(0, .ref (q_P E + r0)), (1, .int v1), (2, .int v2), (3, .int v3), (4, .int v4), (5, .int v5)] [] X _
  unfold fX11_turn
  refine q_aload_n C 0 dX11_turn_0 rfl rfl ?_
  refine q_chk (fun h1 => ?_)
  refine q_chk (fun h2 => ?_)
  refine p_getR C fgX11_29 rfl dX11_turn_1 h1 h2 ?_
  refine q_iconst C (3 : Int32) dX11_turn_4 rfl ?_
  refine q_iload_n C 1 dX11_turn_5 rfl rfl ?_
  refine q_chk (fun h5 => ?_)
  refine q_cVV (As := (fun P => [.int (3 : Int32), .int v1])) C [] (sX2_begin ((mR X r0 3)) (3 : Int32) v1) fcX11_123 rfl (fun _ => rfl) ⟨Nat.le_of_ble_eq_true rfl, Nat.le_of_ble_eq_true rfl⟩ ⟨Nat.le_of_ble_eq_true rfl, Nat.le_of_ble_eq_true rfl⟩ (Nat.le_of_ble_eq_true rfl) dX11_turn_6 h5 (fun _ X6_4 => ?_)
  refine q_aload_n C 0 dX11_turn_9 rfl rfl ?_
  refine q_chk (fun h6 => ?_)
  refine q_chk (fun h7 => ?_)
  refine p_getR C fgX11_29 rfl dX11_turn_10 h6 h7 ?_
  refine q_iload_n C 2 dX11_turn_13 rfl rfl ?_
  refine q_chk (fun h9 => ?_)
  refine p_putI C fpX11_164 rfl dX11_turn_14 h9 ?_
  refine q_nmX (fun X14_8 => ?_)
  refine q_aload_n C 0 dX11_turn_17 rfl rfl ?_
  refine q_chk (fun h10 => ?_)
  refine q_chk (fun h11 => ?_)
  refine p_getR C fgX11_29 rfl dX11_turn_18 h10 h11 ?_
  refine q_iload_n C 3 dX11_turn_21 rfl rfl ?_
  refine q_chk (fun h14 => ?_)
  refine q_cVV (As := (fun P => [.int v3])) C [] (sX2_setRatio ((mR X14_8 r0 3)) v3) fcX11_152 rfl (fun _ => rfl) ⟨Nat.le_of_ble_eq_true rfl, Nat.le_of_ble_eq_true rfl⟩ ⟨Nat.le_of_ble_eq_true rfl, Nat.le_of_ble_eq_true rfl⟩ (Nat.le_of_ble_eq_true rfl) dX11_turn_22 h14 (fun _ X22_13 => ?_)
  refine q_aload_n C 0 dX11_turn_25 rfl rfl ?_
  refine q_chk (fun h15 => ?_)
  refine q_chk (fun h16 => ?_)
  refine p_getR C fgX11_29 rfl dX11_turn_26 h15 h16 ?_
  refine q_iload C 4 dX11_turn_29 rfl ?_
  refine q_chk (fun h19 => ?_)
  refine q_cVV (As := (fun P => [.int v4])) C [] (sX2_setPrices ((mR X22_13 r0 3)) v4) fcX11_158 rfl (fun _ => rfl) ⟨Nat.le_of_ble_eq_true rfl, Nat.le_of_ble_eq_true rfl⟩ ⟨Nat.le_of_ble_eq_true rfl, Nat.le_of_ble_eq_true rfl⟩ (Nat.le_of_ble_eq_true rfl) dX11_turn_31 h19 (fun _ X31_18 => ?_)
  refine q_aload_n C 0 dX11_turn_34 rfl rfl ?_
  refine q_chk (fun h20 => ?_)
  refine q_chk (fun h21 => ?_)
  refine p_getR C fgX11_29 rfl dX11_turn_35 h20 h21 ?_
  refine q_iload C 5 dX11_turn_38 rfl ?_
  refine q_iload C 5 dX11_turn_40 rfl ?_
  refine q_iload C 5 dX11_turn_42 rfl ?_
  refine q_chk (fun h24 => ?_)
  refine q_cVV (As := (fun P => [.int v5, .int v5, .int v5])) C [] (sX2_setWhen ((mR X31_18 r0 3)) v5 v5 v5) fcX11_148 rfl (fun _ => rfl) ⟨Nat.le_of_ble_eq_true rfl, Nat.le_of_ble_eq_true rfl⟩ ⟨Nat.le_of_ble_eq_true rfl, Nat.le_of_ble_eq_true rfl⟩ (Nat.le_of_ble_eq_true rfl) dX11_turn_44 h24 (fun _ X44_23 => ?_)
  refine q_aload_n C 0 dX11_turn_47 rfl rfl ?_
  refine q_chk (fun h27 => ?_)
  refine q_cVI (As := (fun P => [])) C [] (sX11_doDeed n r0) fcX11_142 rfl (fun _ => rfl) ⟨Nat.le_of_ble_eq_true rfl, Nat.le_of_ble_eq_true rfl⟩ ⟨Nat.le_of_ble_eq_true rfl, Nat.le_of_ble_eq_true rfl⟩ (Nat.le_of_ble_eq_true rfl) dX11_turn_48 h27 (fun w25 X48_26 => ?_)
  exact q_iret C dX11_turn_51
/-! RecordClaims.choose(IIII)Z -/
abbrev cX11_choose : ByteArray := prog_1_method_14_code
def yX11_choose : MethodName := ⟨RX11, "choose", "(IIII)Z"⟩
theorem dX11_choose_0 : decode cX11_choose 0 = .ok (.aload_n 0, 1) := by decide +kernel
theorem dX11_choose_1 : decode cX11_choose 1 = .ok (.getfield 29, 3) := by decide +kernel
theorem dX11_choose_4 : decode cX11_choose 4 = .ok (.iconst 5, 1) := by decide +kernel
theorem dX11_choose_5 : decode cX11_choose 5 = .ok (.iconst (-1), 1) := by decide +kernel
theorem dX11_choose_6 : decode cX11_choose 6 = .ok (.invokevirtual 123, 3) := by decide +kernel
theorem dX11_choose_9 : decode cX11_choose 9 = .ok (.aload_n 0, 1) := by decide +kernel
theorem dX11_choose_10 : decode cX11_choose 10 = .ok (.getfield 29, 3) := by decide +kernel
theorem dX11_choose_13 : decode cX11_choose 13 = .ok (.iload_n 1, 1) := by decide +kernel
theorem dX11_choose_14 : decode cX11_choose 14 = .ok (.putfield 167, 3) := by decide +kernel
theorem dX11_choose_17 : decode cX11_choose 17 = .ok (.aload_n 0, 1) := by decide +kernel
theorem dX11_choose_18 : decode cX11_choose 18 = .ok (.getfield 29, 3) := by decide +kernel
theorem dX11_choose_21 : decode cX11_choose 21 = .ok (.iload_n 2, 1) := by decide +kernel
theorem dX11_choose_22 : decode cX11_choose 22 = .ok (.putfield 127, 3) := by decide +kernel
theorem dX11_choose_25 : decode cX11_choose 25 = .ok (.aload_n 0, 1) := by decide +kernel
theorem dX11_choose_26 : decode cX11_choose 26 = .ok (.getfield 29, 3) := by decide +kernel
theorem dX11_choose_29 : decode cX11_choose 29 = .ok (.iload_n 3, 1) := by decide +kernel
theorem dX11_choose_30 : decode cX11_choose 30 = .ok (.putfield 170, 3) := by decide +kernel
theorem dX11_choose_33 : decode cX11_choose 33 = .ok (.aload_n 0, 1) := by decide +kernel
theorem dX11_choose_34 : decode cX11_choose 34 = .ok (.getfield 29, 3) := by decide +kernel
theorem dX11_choose_37 : decode cX11_choose 37 = .ok (.iload 4, 2) := by decide +kernel
theorem dX11_choose_39 : decode cX11_choose 39 = .ok (.putfield 173, 3) := by decide +kernel
theorem dX11_choose_42 : decode cX11_choose 42 = .ok (.aload_n 0, 1) := by decide +kernel
theorem dX11_choose_43 : decode cX11_choose 43 = .ok (.invokevirtual 142, 3) := by decide +kernel
theorem dX11_choose_46 : decode cX11_choose 46 = .ok (.iconst (-1), 1) := by decide +kernel
theorem dX11_choose_47 : decode cX11_choose 47 = .ok (.if_icmp .eq 7, 3) := by decide +kernel
theorem dX11_choose_50 : decode cX11_choose 50 = .ok (.iconst 1, 1) := by decide +kernel
theorem dX11_choose_51 : decode cX11_choose 51 = .ok (.goto 4, 3) := by decide +kernel
theorem dX11_choose_54 : decode cX11_choose 54 = .ok (.iconst 0, 1) := by decide +kernel
theorem dX11_choose_55 : decode cX11_choose 55 = .ok (.ireturn, 1) := by decide +kernel
theorem fpX11_167 : q_Fp RX11 167 2 16 .int false := ⟨RX2, TX2, 20, tyX2, rfl, by decide, inX2, q_tb 159 (by decide +kernel) rfl, tyX2_ok, nmX2, rfl, rfl, fun h => by first | rfl | cases h⟩
theorem fpX11_170 : q_Fp RX11 170 2 17 .int false := ⟨RX2, TX2, 20, tyX2, rfl, by decide, inX2, q_tb 162 (by decide +kernel) rfl, tyX2_ok, nmX2, rfl, rfl, fun h => by first | rfl | cases h⟩
theorem fpX11_173 : q_Fp RX11 173 2 18 .int false := ⟨RX2, TX2, 20, tyX2, rfl, by decide, inX2, q_tb 165 (by decide +kernel) rfl, tyX2_ok, nmX2, rfl, rfl, fun h => by first | rfl | cases h⟩
def fX11_choose (n : Nat) (r0 : Nat) (v1 : Int32) (v2 : Int32) (v3 : Int32) (v4 : Int32) (X : Mm) : Option (Int32 × Mm) :=
if mT X r0 = 11 then
if mR X r0 3 ≠ 0 then
if mT X (mR X r0 3) = 2 then
bd (fX2_begin ((mR X r0 3)) (5 : Int32) (-1 : Int32) X) fun _ X6_4 =>
if mT X6_4 r0 = 11 then
if mR X6_4 r0 3 ≠ 0 then
if mT X6_4 (mR X6_4 r0 3) = 2 then
nm (sI X6_4 (mR X6_4 r0 3) 16 v1) fun X14_8 =>
if mT X14_8 r0 = 11 then
if mR X14_8 r0 3 ≠ 0 then
if mT X14_8 (mR X14_8 r0 3) = 2 then
nm (sI X14_8 (mR X14_8 r0 3) 2 v2) fun X22_12 =>
if mT X22_12 r0 = 11 then
if mR X22_12 r0 3 ≠ 0 then
if mT X22_12 (mR X22_12 r0 3) = 2 then
nm (sI X22_12 (mR X22_12 r0 3) 17 v3) fun X30_16 =>
if mT X30_16 r0 = 11 then
if mR X30_16 r0 3 ≠ 0 then
if mT X30_16 (mR X30_16 r0 3) = 2 then
nm (sI X30_16 (mR X30_16 r0 3) 18 v4) fun X39_20 =>
if mT X39_20 r0 = 11 then
bd (fX11_doDeed n r0 X39_20) fun w22 X43_23 =>
if w22 = (-1 : Int32) then (
some (0, X43_23)
) else (
some (1, X43_23)
)
else none
else none
else none
else none
else none
else none
else none
else none
else none
else none
else none
else none
else none
else none
else none
else none
theorem sX11_choose (n : Nat) (r0 : Nat) (v1 : Int32) (v2 : Int32) (v3 : Int32) (v4 : Int32) : q_Ct yX11_choose cX11_choose 5 (some .boolean) 7 165 0 0 q_eI (fun P => [.ref (P + r0), .int v1, .int v2, .int v3, .int v4]) (fX11_choose n r0 v1 v2 v3 v4) := by
  refine q_meth (by decide +kernel) (fun P => Nat.le_of_ble_eq_true rfl) (fun E X C hn => ?_)
  show Sm E (q_fin E q_eI X 0 0) 0 0 0 [(0, .ref (q_P E + r0)), (1, .int v1), (2, .int v2), (3, .int v3), (4, .int v4)] [] X _
  unfold fX11_choose
  refine q_aload_n C 0 dX11_choose_0 rfl rfl ?_
  refine q_chk (fun h1 => ?_)
  refine q_chk (fun h2 => ?_)
  refine p_getR C fgX11_29 rfl dX11_choose_1 h1 h2 ?_
  refine q_iconst C (5 : Int32) dX11_choose_4 rfl ?_
  refine q_iconst C (-1 : Int32) dX11_choose_5 rfl ?_
  refine q_chk (fun h5 => ?_)
  refine q_cVV (As := (fun P => [.int (5 : Int32), .int (-1 : Int32)])) C [] (sX2_begin ((mR X r0 3)) (5 : Int32) (-1 : Int32)) fcX11_123 rfl (fun _ => rfl) ⟨Nat.le_of_ble_eq_true rfl, Nat.le_of_ble_eq_true rfl⟩ ⟨Nat.le_of_ble_eq_true rfl, Nat.le_of_ble_eq_true rfl⟩ (Nat.le_of_ble_eq_true rfl) dX11_choose_6 h5 (fun _ X6_4 => ?_)
  refine q_aload_n C 0 dX11_choose_9 rfl rfl ?_
  refine q_chk (fun h6 => ?_)
  refine q_chk (fun h7 => ?_)
  refine p_getR C fgX11_29 rfl dX11_choose_10 h6 h7 ?_
  refine q_iload_n C 1 dX11_choose_13 rfl rfl ?_
  refine q_chk (fun h9 => ?_)
  refine p_putI C fpX11_167 rfl dX11_choose_14 h9 ?_
  refine q_nmX (fun X14_8 => ?_)
  refine q_aload_n C 0 dX11_choose_17 rfl rfl ?_
  refine q_chk (fun h10 => ?_)
  refine q_chk (fun h11 => ?_)
  refine p_getR C fgX11_29 rfl dX11_choose_18 h10 h11 ?_
  refine q_iload_n C 2 dX11_choose_21 rfl rfl ?_
  refine q_chk (fun h13 => ?_)
  refine p_putI C fpX11_127 rfl dX11_choose_22 h13 ?_
  refine q_nmX (fun X22_12 => ?_)
  refine q_aload_n C 0 dX11_choose_25 rfl rfl ?_
  refine q_chk (fun h14 => ?_)
  refine q_chk (fun h15 => ?_)
  refine p_getR C fgX11_29 rfl dX11_choose_26 h14 h15 ?_
  refine q_iload_n C 3 dX11_choose_29 rfl rfl ?_
  refine q_chk (fun h17 => ?_)
  refine p_putI C fpX11_170 rfl dX11_choose_30 h17 ?_
  refine q_nmX (fun X30_16 => ?_)
  refine q_aload_n C 0 dX11_choose_33 rfl rfl ?_
  refine q_chk (fun h18 => ?_)
  refine q_chk (fun h19 => ?_)
  refine p_getR C fgX11_29 rfl dX11_choose_34 h18 h19 ?_
  refine q_iload C 4 dX11_choose_37 rfl ?_
  refine q_chk (fun h21 => ?_)
  refine p_putI C fpX11_173 rfl dX11_choose_39 h21 ?_
  refine q_nmX (fun X39_20 => ?_)
  refine q_aload_n C 0 dX11_choose_42 rfl rfl ?_
  refine q_chk (fun h24 => ?_)
  refine q_cVI (As := (fun P => [])) C [] (sX11_doDeed n r0) fcX11_142 rfl (fun _ => rfl) ⟨Nat.le_of_ble_eq_true rfl, Nat.le_of_ble_eq_true rfl⟩ ⟨Nat.le_of_ble_eq_true rfl, Nat.le_of_ble_eq_true rfl⟩ (Nat.le_of_ble_eq_true rfl) dX11_choose_43 h24 (fun w22 X43_23 => ?_)
  refine q_iconst C (-1 : Int32) dX11_choose_46 rfl ?_
  refine q_icmp_eq C 54 dX11_choose_47 (by decide) (fun _ => ?_) (fun _ => ?_)
  · refine q_iconst C (0 : Int32) dX11_choose_54 rfl ?_
    exact q_zret0 C dX11_choose_55
  · refine q_iconst C (1 : Int32) dX11_choose_50 rfl ?_
    refine q_goto C 55 dX11_choose_51 (by decide) ?_
    exact q_zret1 C dX11_choose_55
/-! RecordClaims.days(I)I -/
abbrev cX11_days : ByteArray := prog_1_method_15_code
def yX11_days : MethodName := ⟨RX11, "days", "(I)I"⟩
theorem dX11_days_0 : decode cX11_days 0 = .ok (.aload_n 0, 1) := by decide +kernel
theorem dX11_days_1 : decode cX11_days 1 = .ok (.getfield 29, 3) := by decide +kernel
theorem dX11_days_4 : decode cX11_days 4 = .ok (.bipush 6, 2) := by decide +kernel
theorem dX11_days_6 : decode cX11_days 6 = .ok (.iconst (-1), 1) := by decide +kernel
theorem dX11_days_7 : decode cX11_days 7 = .ok (.invokevirtual 123, 3) := by decide +kernel
theorem dX11_days_10 : decode cX11_days 10 = .ok (.aload_n 0, 1) := by decide +kernel
theorem dX11_days_11 : decode cX11_days 11 = .ok (.getfield 29, 3) := by decide +kernel
theorem dX11_days_14 : decode cX11_days 14 = .ok (.iload_n 1, 1) := by decide +kernel
theorem dX11_days_15 : decode cX11_days 15 = .ok (.putfield 176, 3) := by decide +kernel
theorem dX11_days_18 : decode cX11_days 18 = .ok (.aload_n 0, 1) := by decide +kernel
theorem dX11_days_19 : decode cX11_days 19 = .ok (.invokevirtual 142, 3) := by decide +kernel
theorem dX11_days_22 : decode cX11_days 22 = .ok (.ireturn, 1) := by decide +kernel
theorem fpX11_176 : q_Fp RX11 176 2 19 .int false := ⟨RX2, TX2, 20, tyX2, rfl, by decide, inX2, q_tb 168 (by decide +kernel) rfl, tyX2_ok, nmX2, rfl, rfl, fun h => by first | rfl | cases h⟩
def fX11_days (n : Nat) (r0 : Nat) (v1 : Int32) (X : Mm) : Option (Int32 × Mm) :=
if mT X r0 = 11 then
if mR X r0 3 ≠ 0 then
if mT X (mR X r0 3) = 2 then
bd (fX2_begin ((mR X r0 3)) (6 : Int32) (-1 : Int32) X) fun _ X7_4 =>
if mT X7_4 r0 = 11 then
if mR X7_4 r0 3 ≠ 0 then
if mT X7_4 (mR X7_4 r0 3) = 2 then
nm (sI X7_4 (mR X7_4 r0 3) 19 v1) fun X15_8 =>
if mT X15_8 r0 = 11 then
bd (fX11_doDeed n r0 X15_8) fun w10 X19_11 =>
some (w10, X19_11)
else none
else none
else none
else none
else none
else none
else none
theorem sX11_days (n : Nat) (r0 : Nat) (v1 : Int32) : q_Ct yX11_days cX11_days 2 (some .int) 7 165 0 0 q_eI (fun P => [.ref (P + r0), .int v1]) (fX11_days n r0 v1) := by
  refine q_meth (by decide +kernel) (fun P => Nat.le_of_ble_eq_true rfl) (fun E X C hn => ?_)
  show Sm E (q_fin E q_eI X 0 0) 0 0 0 [(0, .ref (q_P E + r0)), (1, .int v1)] [] X _
  unfold fX11_days
  refine q_aload_n C 0 dX11_days_0 rfl rfl ?_
  refine q_chk (fun h1 => ?_)
  refine q_chk (fun h2 => ?_)
  refine p_getR C fgX11_29 rfl dX11_days_1 h1 h2 ?_
  refine q_bipush C (6 : Int32) dX11_days_4 rfl ?_
  refine q_iconst C (-1 : Int32) dX11_days_6 rfl ?_
  refine q_chk (fun h5 => ?_)
  refine q_cVV (As := (fun P => [.int (6 : Int32), .int (-1 : Int32)])) C [] (sX2_begin ((mR X r0 3)) (6 : Int32) (-1 : Int32)) fcX11_123 rfl (fun _ => rfl) ⟨Nat.le_of_ble_eq_true rfl, Nat.le_of_ble_eq_true rfl⟩ ⟨Nat.le_of_ble_eq_true rfl, Nat.le_of_ble_eq_true rfl⟩ (Nat.le_of_ble_eq_true rfl) dX11_days_7 h5 (fun _ X7_4 => ?_)
  refine q_aload_n C 0 dX11_days_10 rfl rfl ?_
  refine q_chk (fun h6 => ?_)
  refine q_chk (fun h7 => ?_)
  refine p_getR C fgX11_29 rfl dX11_days_11 h6 h7 ?_
  refine q_iload_n C 1 dX11_days_14 rfl rfl ?_
  refine q_chk (fun h9 => ?_)
  refine p_putI C fpX11_176 rfl dX11_days_15 h9 ?_
  refine q_nmX (fun X15_8 => ?_)
  refine q_aload_n C 0 dX11_days_18 rfl rfl ?_
  refine q_chk (fun h12 => ?_)
  refine q_cVI (As := (fun P => [])) C [] (sX11_doDeed n r0) fcX11_142 rfl (fun _ => rfl) ⟨Nat.le_of_ble_eq_true rfl, Nat.le_of_ble_eq_true rfl⟩ ⟨Nat.le_of_ble_eq_true rfl, Nat.le_of_ble_eq_true rfl⟩ (Nat.le_of_ble_eq_true rfl) dX11_days_19 h12 (fun w10 X19_11 => ?_)
  exact q_iret C dX11_days_22
/-! RecordClaims.undo()I -/
abbrev cX11_undo : ByteArray := prog_1_method_17_code
def yX11_undo : MethodName := ⟨RX11, "undo", "()I"⟩
theorem dX11_undo_0 : decode cX11_undo 0 = .ok (.aload_n 0, 1) := by decide +kernel
theorem dX11_undo_1 : decode cX11_undo 1 = .ok (.getfield 43, 3) := by decide +kernel
theorem dX11_undo_4 : decode cX11_undo 4 = .ok (.getfield 77, 3) := by decide +kernel
theorem dX11_undo_7 : decode cX11_undo 7 = .ok (.ifCond .ne 5, 3) := by decide +kernel
theorem dX11_undo_10 : decode cX11_undo 10 = .ok (.iconst (-1), 1) := by decide +kernel
theorem dX11_undo_11 : decode cX11_undo 11 = .ok (.ireturn, 1) := by decide +kernel
theorem dX11_undo_12 : decode cX11_undo 12 = .ok (.aload_n 0, 1) := by decide +kernel
theorem dX11_undo_13 : decode cX11_undo 13 = .ok (.getfield 36, 3) := by decide +kernel
theorem dX11_undo_16 : decode cX11_undo 16 = .ok (.aload_n 0, 1) := by decide +kernel
theorem dX11_undo_17 : decode cX11_undo 17 = .ok (.getfield 43, 3) := by decide +kernel
theorem dX11_undo_20 : decode cX11_undo 20 = .ok (.invokevirtual 179, 3) := by decide +kernel
theorem dX11_undo_23 : decode cX11_undo 23 = .ok (.invokevirtual 106, 3) := by decide +kernel
theorem dX11_undo_26 : decode cX11_undo 26 = .ok (.aload_n 0, 1) := by decide +kernel
theorem dX11_undo_27 : decode cX11_undo 27 = .ok (.getfield 43, 3) := by decide +kernel
theorem dX11_undo_30 : decode cX11_undo 30 = .ok (.getfield 77, 3) := by decide +kernel
theorem dX11_undo_33 : decode cX11_undo 33 = .ok (.ireturn, 1) := by decide +kernel
theorem fgX11_77 : q_Fg RX11 77 4 2 := q_Fg.of (C := RX4) (T := TX4) (N := 3) rfl (by decide) inX4 444 (by decide +kernel) rfl rfl
theorem fcX11_179 : q_LV RX11 179 yX4_takeLatest cX4_takeLatest 1 (some (.object "RecordClaims$State")) 0 4 := ⟨q_tb 1031 (by decide +kernel) rfl, q_tb 1032 (by decide +kernel) rfl, q_tb 1033 (by decide +kernel) rfl, q_tb 10 (by decide +kernel) rfl, q_tb 1034 (by decide +kernel) rfl, ⟨by decide +kernel, by decide +kernel, by decide +kernel⟩, TX4, 3, rfl⟩
def fX11_undo (r0 : Nat) (X : Mm) : Option (Int32 × Mm) :=
if mT X r0 = 11 then
if mR X r0 5 ≠ 0 then
if mT X (mR X r0 5) = 4 then
if (mI X (mR X r0 5) 2) = 0 then (
some ((-1 : Int32), X)
) else (
if mR X r0 4 ≠ 0 then
bd (fX4_takeLatest ((mR X r0 5)) X) fun w5 X20_6 =>
if mT X20_6 (mR X r0 4) = 8 then
bd (fX8_copyFrom ((mR X r0 4)) w5 X20_6) fun _ X23_8 =>
if mT X23_8 r0 = 11 then
if mR X23_8 r0 5 ≠ 0 then
if mT X23_8 (mR X23_8 r0 5) = 4 then
some ((mI X23_8 (mR X23_8 r0 5) 2), X23_8)
else none
else none
else none
else none
else none
)
else none
else none
else none
theorem sX11_undo (r0 : Nat) : q_Ct yX11_undo cX11_undo 1 (some .int) 3 68 0 0 q_eI (fun P => [.ref (P + r0)]) (fX11_undo r0) := by
  refine q_meth (by decide +kernel) (fun P => Nat.le_of_ble_eq_true rfl) (fun E X C hn => ?_)
  show Sm E (q_fin E q_eI X 0 0) 0 0 0 [(0, .ref (q_P E + r0))] [] X _
  unfold fX11_undo
  refine q_aload_n C 0 dX11_undo_0 rfl rfl ?_
  refine q_chk (fun h1 => ?_)
  refine q_chk (fun h2 => ?_)
  refine p_getR C fgX11_43 rfl dX11_undo_1 h1 h2 ?_
  refine q_chk (fun h3 => ?_)
  refine p_getI C fgX11_77 rfl dX11_undo_4 h3 ?_
  refine q_if_ne C 12 dX11_undo_7 (by decide) (fun _ => ?_) (fun _ => ?_)
  · refine q_iconst C (-1 : Int32) dX11_undo_10 rfl ?_
    exact q_iret C dX11_undo_11
  · refine q_aload_n C 0 dX11_undo_12 rfl rfl ?_
    refine q_chk (fun h4 => ?_)
    refine p_getR C fgX11_36 rfl dX11_undo_13 h1 h4 ?_
    refine q_aload_n C 0 dX11_undo_16 rfl rfl ?_
    refine p_getR C fgX11_43 rfl dX11_undo_17 h1 h2 ?_
    refine q_cVR (As := (fun P => [])) C [.ref (q_P E + (mR X r0 4))] (sX4_takeLatest ((mR X r0 5))) fcX11_179 rfl (fun _ => rfl) ⟨Nat.le_of_ble_eq_true rfl, Nat.le_of_ble_eq_true rfl⟩ ⟨Nat.le_of_ble_eq_true rfl, Nat.le_of_ble_eq_true rfl⟩ (Nat.le_of_ble_eq_true rfl) dX11_undo_20 h3 (fun w5 X20_6 => ?_)
    refine q_chk (fun h9 => ?_)
    refine q_cVV (As := (fun P => [.ref (P + w5)])) C [] (sX8_copyFrom ((mR X r0 4)) w5) fcX11_106 rfl (fun _ => rfl) ⟨Nat.le_of_ble_eq_true rfl, Nat.le_of_ble_eq_true rfl⟩ ⟨Nat.le_of_ble_eq_true rfl, Nat.le_of_ble_eq_true rfl⟩ (Nat.le_of_ble_eq_true rfl) dX11_undo_23 h9 (fun _ X23_8 => ?_)
    refine q_aload_n C 0 dX11_undo_26 rfl rfl ?_
    refine q_chk (fun h10 => ?_)
    refine q_chk (fun h11 => ?_)
    refine p_getR C fgX11_43 rfl dX11_undo_27 h10 h11 ?_
    refine q_chk (fun h12 => ?_)
    refine p_getI C fgX11_77 rfl dX11_undo_30 h12 ?_
    exact q_iret C dX11_undo_33
/-! RecordClaims.has(II)J -/
abbrev cX11_has : ByteArray := prog_1_method_18_code
def yX11_has : MethodName := ⟨RX11, "has", "(II)J"⟩
theorem dX11_has_0 : decode cX11_has 0 = .ok (.aload_n 0, 1) := by decide +kernel
theorem dX11_has_1 : decode cX11_has 1 = .ok (.getfield 36, 3) := by decide +kernel
theorem dX11_has_4 : decode cX11_has 4 = .ok (.iload_n 1, 1) := by decide +kernel
theorem dX11_has_5 : decode cX11_has 5 = .ok (.invokevirtual 182, 3) := by decide +kernel
theorem dX11_has_8 : decode cX11_has 8 = .ok (.ifCond .eq 26, 3) := by decide +kernel
theorem dX11_has_11 : decode cX11_has 11 = .ok (.aload_n 0, 1) := by decide +kernel
theorem dX11_has_12 : decode cX11_has 12 = .ok (.getfield 36, 3) := by decide +kernel
theorem dX11_has_15 : decode cX11_has 15 = .ok (.iload_n 2, 1) := by decide +kernel
theorem dX11_has_16 : decode cX11_has 16 = .ok (.invokevirtual 186, 3) := by decide +kernel
theorem dX11_has_19 : decode cX11_has 19 = .ok (.ifCond .eq 15, 3) := by decide +kernel
theorem dX11_has_22 : decode cX11_has 22 = .ok (.aload_n 0, 1) := by decide +kernel
theorem dX11_has_23 : decode cX11_has 23 = .ok (.getfield 36, 3) := by decide +kernel
theorem dX11_has_26 : decode cX11_has 26 = .ok (.iload_n 1, 1) := by decide +kernel
theorem dX11_has_27 : decode cX11_has 27 = .ok (.iload_n 2, 1) := by decide +kernel
theorem dX11_has_28 : decode cX11_has 28 = .ok (.invokevirtual 189, 3) := by decide +kernel
theorem dX11_has_31 : decode cX11_has 31 = .ok (.goto 6, 3) := by decide +kernel
theorem dX11_has_34 : decode cX11_has 34 = .ok (.ldc2_w 193, 3) := by decide +kernel
theorem dX11_has_37 : decode cX11_has 37 = .ok (.lreturn, 1) := by decide +kernel
theorem fcX11_182 : q_LV RX11 182 yX8_isHolder cX8_isHolder 2 (some .boolean) 1 8 := ⟨q_tb 1039 (by decide +kernel) rfl, q_tb 801 (by decide +kernel) rfl, q_tb 802 (by decide +kernel) rfl, q_tb 5 (by decide +kernel) rfl, q_tb 803 (by decide +kernel) rfl, ⟨by decide +kernel, by decide +kernel, by decide +kernel⟩, TX8, 9, rfl⟩
theorem fkX11_193 : Cond.constantLong RX11 193 (-1 : Int64) ∈ q_tbl := q_tb 1042 (by decide +kernel) rfl
theorem fcX11_186 : q_LV RX11 186 yX8_isPaper cX8_isPaper 2 (some .boolean) 1 8 := ⟨q_tb 1040 (by decide +kernel) rfl, q_tb 805 (by decide +kernel) rfl, q_tb 806 (by decide +kernel) rfl, q_tb 5 (by decide +kernel) rfl, q_tb 807 (by decide +kernel) rfl, ⟨by decide +kernel, by decide +kernel, by decide +kernel⟩, TX8, 9, rfl⟩
theorem fcX11_189 : q_LV RX11 189 yX8_sharesOf cX8_sharesOf 3 (some .long) 2 8 := ⟨q_tb 1041 (by decide +kernel) rfl, q_tb 846 (by decide +kernel) rfl, q_tb 847 (by decide +kernel) rfl, q_tb 5 (by decide +kernel) rfl, q_tb 848 (by decide +kernel) rfl, ⟨by decide +kernel, by decide +kernel, by decide +kernel⟩, TX8, 9, rfl⟩
def fX11_has_L34 (X : Mm) : Option (Int64 × Mm) :=
some ((-1 : Int64), X)
def fX11_has (r0 : Nat) (v1 : Int32) (v2 : Int32) (X : Mm) : Option (Int64 × Mm) :=
if mT X r0 = 11 then
if mR X r0 4 ≠ 0 then
if mT X (mR X r0 4) = 8 then
bd (fX8_isHolder ((mR X r0 4)) v1 X) fun w3 X5_4 =>
if w3 = 0 then (
fX11_has_L34 X5_4
) else (
if mT X5_4 r0 = 11 then
if mR X5_4 r0 4 ≠ 0 then
if mT X5_4 (mR X5_4 r0 4) = 8 then
bd (fX8_isPaper ((mR X5_4 r0 4)) v2 X5_4) fun w8 X16_9 =>
if w8 = 0 then (
fX11_has_L34 X16_9
) else (
if mT X16_9 r0 = 11 then
if mR X16_9 r0 4 ≠ 0 then
if mT X16_9 (mR X16_9 r0 4) = 8 then
bd (fX8_sharesOf ((mR X16_9 r0 4)) v1 v2 X16_9) fun w13 X28_14 =>
some (w13, X28_14)
else none
else none
else none
)
else none
else none
else none
)
else none
else none
else none
theorem gX11_has_L34 {E : q_E} {X0 : Mm} (C : Cx E cX11_has RX11 3 (some .long) (q_rm 1 22 0 0) X0) (X : Mm) : Sm E (q_fin E q_eL X0 0 0) 0 0 34 [] [] X (fX11_has_L34  X) := by
  unfold fX11_has_L34
  refine q_ldc2 C dX11_has_34 fkX11_193 ?_
  exact q_lret C dX11_has_37
theorem sX11_has (r0 : Nat) (v1 : Int32) (v2 : Int32) : q_Ct yX11_has cX11_has 3 (some .long) 1 22 0 0 q_eL (fun P => [.ref (P + r0), .int v1, .int v2]) (fX11_has r0 v1 v2) := by
  refine q_meth (by decide +kernel) (fun P => Nat.le_of_ble_eq_true rfl) (fun E X C hn => ?_)
  show Sm E (q_fin E q_eL X 0 0) 0 0 0 [(0, .ref (q_P E + r0)), (1, .int v1), (2, .int v2)] [] X _
  unfold fX11_has
  refine q_aload_n C 0 dX11_has_0 rfl rfl ?_
  refine q_chk (fun h1 => ?_)
  refine q_chk (fun h2 => ?_)
  refine p_getR C fgX11_36 rfl dX11_has_1 h1 h2 ?_
  refine q_iload_n C 1 dX11_has_4 rfl rfl ?_
  refine q_chk (fun h5 => ?_)
  refine q_cVI (As := (fun P => [.int v1])) C [] (sX8_isHolder ((mR X r0 4)) v1) fcX11_182 rfl (fun _ => rfl) ⟨Nat.le_of_ble_eq_true rfl, Nat.le_of_ble_eq_true rfl⟩ ⟨Nat.le_of_ble_eq_true rfl, Nat.le_of_ble_eq_true rfl⟩ (Nat.le_of_ble_eq_true rfl) dX11_has_5 h5 (fun w3 X5_4 => ?_)
  refine q_if_eq C 34 dX11_has_8 (by decide) (fun _ => ?_) (fun _ => ?_)
  · refine q_sub C [] [] rfl ?_
    exact gX11_has_L34 C X5_4
  · refine q_aload_n C 0 dX11_has_11 rfl rfl ?_
    refine q_chk (fun h6 => ?_)
    refine q_chk (fun h7 => ?_)
    refine p_getR C fgX11_36 rfl dX11_has_12 h6 h7 ?_
    refine q_iload_n C 2 dX11_has_15 rfl rfl ?_
    refine q_chk (fun h10 => ?_)
    refine q_cVI (As := (fun P => [.int v2])) C [] (sX8_isPaper ((mR X5_4 r0 4)) v2) fcX11_186 rfl (fun _ => rfl) ⟨Nat.le_of_ble_eq_true rfl, Nat.le_of_ble_eq_true rfl⟩ ⟨Nat.le_of_ble_eq_true rfl, Nat.le_of_ble_eq_true rfl⟩ (Nat.le_of_ble_eq_true rfl) dX11_has_16 h10 (fun w8 X16_9 => ?_)
    refine q_if_eq C 34 dX11_has_19 (by decide) (fun _ => ?_) (fun _ => ?_)
    · refine q_sub C [] [] rfl ?_
      exact gX11_has_L34 C X16_9
    · refine q_aload_n C 0 dX11_has_22 rfl rfl ?_
      refine q_chk (fun h11 => ?_)
      refine q_chk (fun h12 => ?_)
      refine p_getR C fgX11_36 rfl dX11_has_23 h11 h12 ?_
      refine q_iload_n C 1 dX11_has_26 rfl rfl ?_
      refine q_iload_n C 2 dX11_has_27 rfl rfl ?_
      refine q_chk (fun h15 => ?_)
      refine q_cVL (As := (fun P => [.int v1, .int v2])) C [] (sX8_sharesOf ((mR X16_9 r0 4)) v1 v2) fcX11_189 rfl (fun _ => rfl) ⟨Nat.le_of_ble_eq_true rfl, Nat.le_of_ble_eq_true rfl⟩ ⟨Nat.le_of_ble_eq_true rfl, Nat.le_of_ble_eq_true rfl⟩ (Nat.le_of_ble_eq_true rfl) dX11_has_28 h15 (fun w13 X28_14 => ?_)
      refine q_goto C 37 dX11_has_31 (by decide) ?_
      exact q_lret C dX11_has_37
/-! RecordClaims.purse(I)J -/
abbrev cX11_purse : ByteArray := prog_1_method_19_code
def yX11_purse : MethodName := ⟨RX11, "purse", "(I)J"⟩
theorem dX11_purse_0 : decode cX11_purse 0 = .ok (.aload_n 0, 1) := by decide +kernel
theorem dX11_purse_1 : decode cX11_purse 1 = .ok (.getfield 36, 3) := by decide +kernel
theorem dX11_purse_4 : decode cX11_purse 4 = .ok (.iload_n 1, 1) := by decide +kernel
theorem dX11_purse_5 : decode cX11_purse 5 = .ok (.invokevirtual 182, 3) := by decide +kernel
theorem dX11_purse_8 : decode cX11_purse 8 = .ok (.ifCond .eq 15, 3) := by decide +kernel
theorem dX11_purse_11 : decode cX11_purse 11 = .ok (.aload_n 0, 1) := by decide +kernel
theorem dX11_purse_12 : decode cX11_purse 12 = .ok (.getfield 36, 3) := by decide +kernel
theorem dX11_purse_15 : decode cX11_purse 15 = .ok (.getfield 195, 3) := by decide +kernel
theorem dX11_purse_18 : decode cX11_purse 18 = .ok (.iload_n 1, 1) := by decide +kernel
theorem dX11_purse_19 : decode cX11_purse 19 = .ok (.laload, 1) := by decide +kernel
theorem dX11_purse_20 : decode cX11_purse 20 = .ok (.goto 6, 3) := by decide +kernel
theorem dX11_purse_23 : decode cX11_purse 23 = .ok (.ldc2_w 199, 3) := by decide +kernel
theorem dX11_purse_26 : decode cX11_purse 26 = .ok (.lreturn, 1) := by decide +kernel
theorem fkX11_199 : Cond.constantLong RX11 199 (-9223372036854775808 : Int64) ∈ q_tbl := q_tb 1047 (by decide +kernel) rfl
theorem fgX11_195 : q_Fg RX11 195 8 1 := q_Fg.of (C := RX8) (T := TX8) (N := 9) rfl (by decide) inX8 399 (by decide +kernel) rfl rfl
def fX11_purse (r0 : Nat) (v1 : Int32) (X : Mm) : Option (Int64 × Mm) :=
if mT X r0 = 11 then
if mR X r0 4 ≠ 0 then
if mT X (mR X r0 4) = 8 then
bd (fX8_isHolder ((mR X r0 4)) v1 X) fun w3 X5_4 =>
if w3 = 0 then (
some ((-9223372036854775808 : Int64), X5_4)
) else (
if mT X5_4 r0 = 11 then
if mR X5_4 r0 4 ≠ 0 then
if mT X5_4 (mR X5_4 r0 4) = 8 then
if mR X5_4 (mR X5_4 r0 4) 1 ≠ 0 then
if mT X5_4 (mR X5_4 (mR X5_4 r0 4) 1) = 15 then
if q_b X5_4 (mR X5_4 (mR X5_4 r0 4) 1) v1 then
some ((mJ X5_4 (mR X5_4 (mR X5_4 r0 4) 1) (v1).toNatClampNeg), X5_4)
else none
else none
else none
else none
else none
else none
)
else none
else none
else none
theorem sX11_purse (r0 : Nat) (v1 : Int32) : q_Ct yX11_purse cX11_purse 2 (some .long) 1 21 0 0 q_eL (fun P => [.ref (P + r0), .int v1]) (fX11_purse r0 v1) := by
  refine q_meth (by decide +kernel) (fun P => Nat.le_of_ble_eq_true rfl) (fun E X C hn => ?_)
  show Sm E (q_fin E q_eL X 0 0) 0 0 0 [(0, .ref (q_P E + r0)), (1, .int v1)] [] X _
  unfold fX11_purse
  refine q_aload_n C 0 dX11_purse_0 rfl rfl ?_
  refine q_chk (fun h1 => ?_)
  refine q_chk (fun h2 => ?_)
  refine p_getR C fgX11_36 rfl dX11_purse_1 h1 h2 ?_
  refine q_iload_n C 1 dX11_purse_4 rfl rfl ?_
  refine q_chk (fun h5 => ?_)
  refine q_cVI (As := (fun P => [.int v1])) C [] (sX8_isHolder ((mR X r0 4)) v1) fcX11_182 rfl (fun _ => rfl) ⟨Nat.le_of_ble_eq_true rfl, Nat.le_of_ble_eq_true rfl⟩ ⟨Nat.le_of_ble_eq_true rfl, Nat.le_of_ble_eq_true rfl⟩ (Nat.le_of_ble_eq_true rfl) dX11_purse_5 h5 (fun w3 X5_4 => ?_)
  refine q_if_eq C 23 dX11_purse_8 (by decide) (fun _ => ?_) (fun _ => ?_)
  · refine q_ldc2 C dX11_purse_23 fkX11_199 ?_
    exact q_lret C dX11_purse_26
  · refine q_aload_n C 0 dX11_purse_11 rfl rfl ?_
    refine q_chk (fun h6 => ?_)
    refine q_chk (fun h7 => ?_)
    refine p_getR C fgX11_36 rfl dX11_purse_12 h6 h7 ?_
    refine q_chk (fun h8 => ?_)
    refine q_chk (fun h9 => ?_)
    refine p_getR C fgX11_195 rfl dX11_purse_15 h8 h9 ?_
    refine q_iload_n C 1 dX11_purse_18 rfl rfl ?_
    refine q_chk (fun h10 => ?_)
    refine q_chk (fun h11 => ?_)
    refine p_lald C dX11_purse_19 h10 h11 ?_
    refine q_goto C 26 dX11_purse_20 (by decide) ?_
    exact q_lret C dX11_purse_26
/-! RecordClaims.told(II)J -/
abbrev cX11_told : ByteArray := prog_1_method_20_code
def yX11_told : MethodName := ⟨RX11, "told", "(II)J"⟩
theorem dX11_told_0 : decode cX11_told 0 = .ok (.aload_n 0, 1) := by decide +kernel
theorem dX11_told_1 : decode cX11_told 1 = .ok (.getfield 36, 3) := by decide +kernel
theorem dX11_told_4 : decode cX11_told 4 = .ok (.getfield 201, 3) := by decide +kernel
theorem dX11_told_7 : decode cX11_told 7 = .ok (.iload_n 1, 1) := by decide +kernel
theorem dX11_told_8 : decode cX11_told 8 = .ok (.invokevirtual 205, 3) := by decide +kernel
theorem dX11_told_11 : decode cX11_told 11 = .ok (.ifCond .eq 18, 3) := by decide +kernel
theorem dX11_told_14 : decode cX11_told 14 = .ok (.aload_n 0, 1) := by decide +kernel
theorem dX11_told_15 : decode cX11_told 15 = .ok (.getfield 36, 3) := by decide +kernel
theorem dX11_told_18 : decode cX11_told 18 = .ok (.getfield 201, 3) := by decide +kernel
theorem dX11_told_21 : decode cX11_told 21 = .ok (.iload_n 1, 1) := by decide +kernel
theorem dX11_told_22 : decode cX11_told 22 = .ok (.iload_n 2, 1) := by decide +kernel
theorem dX11_told_23 : decode cX11_told 23 = .ok (.invokevirtual 210, 3) := by decide +kernel
theorem dX11_told_26 : decode cX11_told 26 = .ok (.goto 6, 3) := by decide +kernel
theorem dX11_told_29 : decode cX11_told 29 = .ok (.ldc2_w 199, 3) := by decide +kernel
theorem dX11_told_32 : decode cX11_told 32 = .ok (.lreturn, 1) := by decide +kernel
theorem fgX11_201 : q_Fg RX11 201 8 2 := q_Fg.of (C := RX8) (T := TX8) (N := 9) rfl (by decide) inX8 401 (by decide +kernel) rfl rfl
theorem fcX11_205 : q_LV RX11 205 yX10_isThere cX10_isThere 2 (some .boolean) 1 10 := ⟨q_tb 1052 (by decide +kernel) rfl, q_tb 1053 (by decide +kernel) rfl, q_tb 1054 (by decide +kernel) rfl, q_tb 6 (by decide +kernel) rfl, q_tb 1055 (by decide +kernel) rfl, ⟨by decide +kernel, by decide +kernel, by decide +kernel⟩, TX10, 10, rfl⟩
theorem fcX11_210 : q_LV RX11 210 yX10_partOf cX10_partOf 3 (some .long) 2 10 := ⟨q_tb 1056 (by decide +kernel) rfl, q_tb 1057 (by decide +kernel) rfl, q_tb 1058 (by decide +kernel) rfl, q_tb 6 (by decide +kernel) rfl, q_tb 1059 (by decide +kernel) rfl, ⟨by decide +kernel, by decide +kernel, by decide +kernel⟩, TX10, 10, rfl⟩
def fX11_told (r0 : Nat) (v1 : Int32) (v2 : Int32) (X : Mm) : Option (Int64 × Mm) :=
if mT X r0 = 11 then
if mR X r0 4 ≠ 0 then
if mT X (mR X r0 4) = 8 then
if mR X (mR X r0 4) 2 ≠ 0 then
if mT X (mR X (mR X r0 4) 2) = 10 then
bd (fX10_isThere ((mR X (mR X r0 4) 2)) v1 X) fun w5 X8_6 =>
if w5 = 0 then (
some ((-9223372036854775808 : Int64), X8_6)
) else (
if mT X8_6 r0 = 11 then
if mR X8_6 r0 4 ≠ 0 then
if mT X8_6 (mR X8_6 r0 4) = 8 then
if mR X8_6 (mR X8_6 r0 4) 2 ≠ 0 then
if mT X8_6 (mR X8_6 (mR X8_6 r0 4) 2) = 10 then
bd (fX10_partOf ((mR X8_6 (mR X8_6 r0 4) 2)) v1 v2 X8_6) fun w12 X23_13 =>
some (w12, X23_13)
else none
else none
else none
else none
else none
)
else none
else none
else none
else none
else none
theorem sX11_told (r0 : Nat) (v1 : Int32) (v2 : Int32) : q_Ct yX11_told cX11_told 3 (some .long) 1 22 0 0 q_eL (fun P => [.ref (P + r0), .int v1, .int v2]) (fX11_told r0 v1 v2) := by
  refine q_meth (by decide +kernel) (fun P => Nat.le_of_ble_eq_true rfl) (fun E X C hn => ?_)
  show Sm E (q_fin E q_eL X 0 0) 0 0 0 [(0, .ref (q_P E + r0)), (1, .int v1), (2, .int v2)] [] X _
  unfold fX11_told
  refine q_aload_n C 0 dX11_told_0 rfl rfl ?_
  refine q_chk (fun h1 => ?_)
  refine q_chk (fun h2 => ?_)
  refine p_getR C fgX11_36 rfl dX11_told_1 h1 h2 ?_
  refine q_chk (fun h3 => ?_)
  refine q_chk (fun h4 => ?_)
  refine p_getR C fgX11_201 rfl dX11_told_4 h3 h4 ?_
  refine q_iload_n C 1 dX11_told_7 rfl rfl ?_
  refine q_chk (fun h7 => ?_)
  refine q_cVI (As := (fun P => [.int v1])) C [] (sX10_isThere ((mR X (mR X r0 4) 2)) v1) fcX11_205 rfl (fun _ => rfl) ⟨Nat.le_of_ble_eq_true rfl, Nat.le_of_ble_eq_true rfl⟩ ⟨Nat.le_of_ble_eq_true rfl, Nat.le_of_ble_eq_true rfl⟩ (Nat.le_of_ble_eq_true rfl) dX11_told_8 h7 (fun w5 X8_6 => ?_)
  refine q_if_eq C 29 dX11_told_11 (by decide) (fun _ => ?_) (fun _ => ?_)
  · refine q_ldc2 C dX11_told_29 fkX11_199 ?_
    exact q_lret C dX11_told_32
  · refine q_aload_n C 0 dX11_told_14 rfl rfl ?_
    refine q_chk (fun h8 => ?_)
    refine q_chk (fun h9 => ?_)
    refine p_getR C fgX11_36 rfl dX11_told_15 h8 h9 ?_
    refine q_chk (fun h10 => ?_)
    refine q_chk (fun h11 => ?_)
    refine p_getR C fgX11_201 rfl dX11_told_18 h10 h11 ?_
    refine q_iload_n C 1 dX11_told_21 rfl rfl ?_
    refine q_iload_n C 2 dX11_told_22 rfl rfl ?_
    refine q_chk (fun h14 => ?_)
    refine q_cVL (As := (fun P => [.int v1, .int v2])) C [] (sX10_partOf ((mR X8_6 (mR X8_6 r0 4) 2)) v1 v2) fcX11_210 rfl (fun _ => rfl) ⟨Nat.le_of_ble_eq_true rfl, Nat.le_of_ble_eq_true rfl⟩ ⟨Nat.le_of_ble_eq_true rfl, Nat.le_of_ble_eq_true rfl⟩ (Nat.le_of_ble_eq_true rfl) dX11_told_23 h14 (fun w12 X23_13 => ?_)
    refine q_goto C 32 dX11_told_26 (by decide) ?_
    exact q_lret C dX11_told_32
/-! RecordClaims.event(II)I -/
abbrev cX11_event : ByteArray := prog_1_method_21_code
def yX11_event : MethodName := ⟨RX11, "event", "(II)I"⟩
theorem dX11_event_0 : decode cX11_event 0 = .ok (.aload_n 0, 1) := by decide +kernel
theorem dX11_event_1 : decode cX11_event 1 = .ok (.getfield 36, 3) := by decide +kernel
theorem dX11_event_4 : decode cX11_event 4 = .ok (.getfield 213, 3) := by decide +kernel
theorem dX11_event_7 : decode cX11_event 7 = .ok (.iload_n 1, 1) := by decide +kernel
theorem dX11_event_8 : decode cX11_event 8 = .ok (.invokevirtual 217, 3) := by decide +kernel
theorem dX11_event_11 : decode cX11_event 11 = .ok (.ifCond .eq 18, 3) := by decide +kernel
theorem dX11_event_14 : decode cX11_event 14 = .ok (.aload_n 0, 1) := by decide +kernel
theorem dX11_event_15 : decode cX11_event 15 = .ok (.getfield 36, 3) := by decide +kernel
theorem dX11_event_18 : decode cX11_event 18 = .ok (.getfield 213, 3) := by decide +kernel
theorem dX11_event_21 : decode cX11_event 21 = .ok (.iload_n 1, 1) := by decide +kernel
theorem dX11_event_22 : decode cX11_event 22 = .ok (.iload_n 2, 1) := by decide +kernel
theorem dX11_event_23 : decode cX11_event 23 = .ok (.invokevirtual 220, 3) := by decide +kernel
theorem dX11_event_26 : decode cX11_event 26 = .ok (.goto 4, 3) := by decide +kernel
theorem dX11_event_29 : decode cX11_event 29 = .ok (.iconst (-1), 1) := by decide +kernel
theorem dX11_event_30 : decode cX11_event 30 = .ok (.ireturn, 1) := by decide +kernel
theorem fgX11_213 : q_Fg RX11 213 8 3 := q_Fg.of (C := RX8) (T := TX8) (N := 9) rfl (by decide) inX8 403 (by decide +kernel) rfl rfl
theorem fcX11_217 : q_LV RX11 217 yX3_isThere cX3_isThere 2 (some .boolean) 1 3 := ⟨q_tb 1065 (by decide +kernel) rfl, q_tb 822 (by decide +kernel) rfl, q_tb 823 (by decide +kernel) rfl, q_tb 7 (by decide +kernel) rfl, q_tb 824 (by decide +kernel) rfl, ⟨by decide +kernel, by decide +kernel, by decide +kernel⟩, TX3, 17, rfl⟩
theorem fcX11_220 : q_LV RX11 220 yX3_partOf cX3_partOf 3 (some .int) 2 3 := ⟨q_tb 1066 (by decide +kernel) rfl, q_tb 1067 (by decide +kernel) rfl, q_tb 1068 (by decide +kernel) rfl, q_tb 7 (by decide +kernel) rfl, q_tb 1069 (by decide +kernel) rfl, ⟨by decide +kernel, by decide +kernel, by decide +kernel⟩, TX3, 17, rfl⟩
def fX11_event (r0 : Nat) (v1 : Int32) (v2 : Int32) (X : Mm) : Option (Int32 × Mm) :=
if mT X r0 = 11 then
if mR X r0 4 ≠ 0 then
if mT X (mR X r0 4) = 8 then
if mR X (mR X r0 4) 3 ≠ 0 then
if mT X (mR X (mR X r0 4) 3) = 3 then
bd (fX3_isThere ((mR X (mR X r0 4) 3)) v1 X) fun w5 X8_6 =>
if w5 = 0 then (
some ((-1 : Int32), X8_6)
) else (
if mT X8_6 r0 = 11 then
if mR X8_6 r0 4 ≠ 0 then
if mT X8_6 (mR X8_6 r0 4) = 8 then
if mR X8_6 (mR X8_6 r0 4) 3 ≠ 0 then
if mT X8_6 (mR X8_6 (mR X8_6 r0 4) 3) = 3 then
bd (fX3_partOf ((mR X8_6 (mR X8_6 r0 4) 3)) v1 v2 X8_6) fun w12 X23_13 =>
some (w12, X23_13)
else none
else none
else none
else none
else none
)
else none
else none
else none
else none
else none
theorem sX11_event (r0 : Nat) (v1 : Int32) (v2 : Int32) : q_Ct yX11_event cX11_event 3 (some .int) 1 22 0 0 q_eI (fun P => [.ref (P + r0), .int v1, .int v2]) (fX11_event r0 v1 v2) := by
  refine q_meth (by decide +kernel) (fun P => Nat.le_of_ble_eq_true rfl) (fun E X C hn => ?_)
  show Sm E (q_fin E q_eI X 0 0) 0 0 0 [(0, .ref (q_P E + r0)), (1, .int v1), (2, .int v2)] [] X _
  unfold fX11_event
  refine q_aload_n C 0 dX11_event_0 rfl rfl ?_
  refine q_chk (fun h1 => ?_)
  refine q_chk (fun h2 => ?_)
  refine p_getR C fgX11_36 rfl dX11_event_1 h1 h2 ?_
  refine q_chk (fun h3 => ?_)
  refine q_chk (fun h4 => ?_)
  refine p_getR C fgX11_213 rfl dX11_event_4 h3 h4 ?_
  refine q_iload_n C 1 dX11_event_7 rfl rfl ?_
  refine q_chk (fun h7 => ?_)
  refine q_cVI (As := (fun P => [.int v1])) C [] (sX3_isThere ((mR X (mR X r0 4) 3)) v1) fcX11_217 rfl (fun _ => rfl) ⟨Nat.le_of_ble_eq_true rfl, Nat.le_of_ble_eq_true rfl⟩ ⟨Nat.le_of_ble_eq_true rfl, Nat.le_of_ble_eq_true rfl⟩ (Nat.le_of_ble_eq_true rfl) dX11_event_8 h7 (fun w5 X8_6 => ?_)
  refine q_if_eq C 29 dX11_event_11 (by decide) (fun _ => ?_) (fun _ => ?_)
  · refine q_iconst C (-1 : Int32) dX11_event_29 rfl ?_
    exact q_iret C dX11_event_30
  · refine q_aload_n C 0 dX11_event_14 rfl rfl ?_
    refine q_chk (fun h8 => ?_)
    refine q_chk (fun h9 => ?_)
    refine p_getR C fgX11_36 rfl dX11_event_15 h8 h9 ?_
    refine q_chk (fun h10 => ?_)
    refine q_chk (fun h11 => ?_)
    refine p_getR C fgX11_213 rfl dX11_event_18 h10 h11 ?_
    refine q_iload_n C 1 dX11_event_21 rfl rfl ?_
    refine q_iload_n C 2 dX11_event_22 rfl rfl ?_
    refine q_chk (fun h14 => ?_)
    refine q_cVI (As := (fun P => [.int v1, .int v2])) C [] (sX3_partOf ((mR X8_6 (mR X8_6 r0 4) 3)) v1 v2) fcX11_220 rfl (fun _ => rfl) ⟨Nat.le_of_ble_eq_true rfl, Nat.le_of_ble_eq_true rfl⟩ ⟨Nat.le_of_ble_eq_true rfl, Nat.le_of_ble_eq_true rfl⟩ (Nat.le_of_ble_eq_true rfl) dX11_event_23 h14 (fun w12 X23_13 => ?_)
    refine q_goto C 30 dX11_event_26 (by decide) ?_
    exact q_iret C dX11_event_30
/-! RecordClaims.written(III)J -/
abbrev cX11_written : ByteArray := prog_1_method_22_code
def yX11_written : MethodName := ⟨RX11, "written", "(III)J"⟩
theorem dX11_written_0 : decode cX11_written 0 = .ok (.aload_n 0, 1) := by decide +kernel
theorem dX11_written_1 : decode cX11_written 1 = .ok (.getfield 36, 3) := by decide +kernel
theorem dX11_written_4 : decode cX11_written 4 = .ok (.getfield 213, 3) := by decide +kernel
theorem dX11_written_7 : decode cX11_written 7 = .ok (.iload_n 1, 1) := by decide +kernel
theorem dX11_written_8 : decode cX11_written 8 = .ok (.invokevirtual 217, 3) := by decide +kernel
theorem dX11_written_11 : decode cX11_written 11 = .ok (.ifCond .eq 27, 3) := by decide +kernel
theorem dX11_written_14 : decode cX11_written 14 = .ok (.aload_n 0, 1) := by decide +kernel
theorem dX11_written_15 : decode cX11_written 15 = .ok (.getfield 36, 3) := by decide +kernel
theorem dX11_written_18 : decode cX11_written 18 = .ok (.iload_n 2, 1) := by decide +kernel
theorem dX11_written_19 : decode cX11_written 19 = .ok (.invokevirtual 182, 3) := by decide +kernel
theorem dX11_written_22 : decode cX11_written 22 = .ok (.ifCond .eq 16, 3) := by decide +kernel
theorem dX11_written_25 : decode cX11_written 25 = .ok (.aload_n 0, 1) := by decide +kernel
theorem dX11_written_26 : decode cX11_written 26 = .ok (.getfield 36, 3) := by decide +kernel
theorem dX11_written_29 : decode cX11_written 29 = .ok (.iload_n 1, 1) := by decide +kernel
theorem dX11_written_30 : decode cX11_written 30 = .ok (.iload_n 2, 1) := by decide +kernel
theorem dX11_written_31 : decode cX11_written 31 = .ok (.iload_n 3, 1) := by decide +kernel
theorem dX11_written_32 : decode cX11_written 32 = .ok (.invokevirtual 223, 3) := by decide +kernel
theorem dX11_written_35 : decode cX11_written 35 = .ok (.goto 6, 3) := by decide +kernel
theorem dX11_written_38 : decode cX11_written 38 = .ok (.ldc2_w 199, 3) := by decide +kernel
theorem dX11_written_41 : decode cX11_written 41 = .ok (.lreturn, 1) := by decide +kernel
theorem fcX11_223 : q_LV RX11 223 yX8_entryOf cX8_entryOf 5 (some .long) 3 8 := ⟨q_tb 1074 (by decide +kernel) rfl, q_tb 1075 (by decide +kernel) rfl, q_tb 1076 (by decide +kernel) rfl, q_tb 5 (by decide +kernel) rfl, q_tb 1077 (by decide +kernel) rfl, ⟨by decide +kernel, by decide +kernel, by decide +kernel⟩, TX8, 9, rfl⟩
def fX11_written_L38 (n : Nat) (X : Mm) : Option (Int64 × Mm) :=
some ((-9223372036854775808 : Int64), X)
def fX11_written (n : Nat) (r0 : Nat) (v1 : Int32) (v2 : Int32) (v3 : Int32) (X : Mm) : Option (Int64 × Mm) :=
if mT X r0 = 11 then
if mR X r0 4 ≠ 0 then
if mT X (mR X r0 4) = 8 then
if mR X (mR X r0 4) 3 ≠ 0 then
if mT X (mR X (mR X r0 4) 3) = 3 then
bd (fX3_isThere ((mR X (mR X r0 4) 3)) v1 X) fun w5 X8_6 =>
if w5 = 0 then (
fX11_written_L38 n X8_6
) else (
if mT X8_6 r0 = 11 then
if mR X8_6 r0 4 ≠ 0 then
if mT X8_6 (mR X8_6 r0 4) = 8 then
bd (fX8_isHolder ((mR X8_6 r0 4)) v2 X8_6) fun w10 X19_11 =>
if w10 = 0 then (
fX11_written_L38 n X19_11
) else (
if mT X19_11 r0 = 11 then
if mR X19_11 r0 4 ≠ 0 then
if mT X19_11 (mR X19_11 r0 4) = 8 then
bd (fX8_entryOf n ((mR X19_11 r0 4)) v1 v2 v3 X19_11) fun w15 X32_16 =>
some (w15, X32_16)
else none
else none
else none
)
else none
else none
else none
)
else none
else none
else none
else none
else none
theorem gX11_written_L38 {E : q_E} {X0 : Mm} (C : Cx E cX11_written RX11 4 (some .long) (q_rm 3 70 0 0) X0) (n : Nat) (X : Mm) : Sm E (q_fin E q_eL X0 0 0) 0 0 38 [] [] X (fX11_written_L38 n  X) := by
  unfold fX11_written_L38
  refine q_ldc2 C dX11_written_38 fkX11_199 ?_
  exact q_lret C dX11_written_41
theorem sX11_written (n : Nat) (r0 : Nat) (v1 : Int32) (v2 : Int32) (v3 : Int32) : q_Ct yX11_written cX11_written 4 (some .long) 3 70 0 0 q_eL (fun P => [.ref (P + r0), .int v1, .int v2, .int v3]) (fX11_written n r0 v1 v2 v3) := by
  refine q_meth (by decide +kernel) (fun P => Nat.le_of_ble_eq_true rfl) (fun E X C hn => ?_)
  show Sm E (q_fin E q_eL X 0 0) 0 0 0 [(0, .ref (q_P E + r0)), (1, .int v1), (2, .int v2), (3, .int v3)] [] X _
  unfold fX11_written
  refine q_aload_n C 0 dX11_written_0 rfl rfl ?_
  refine q_chk (fun h1 => ?_)
  refine q_chk (fun h2 => ?_)
  refine p_getR C fgX11_36 rfl dX11_written_1 h1 h2 ?_
  refine q_chk (fun h3 => ?_)
  refine q_chk (fun h4 => ?_)
  refine p_getR C fgX11_213 rfl dX11_written_4 h3 h4 ?_
  refine q_iload_n C 1 dX11_written_7 rfl rfl ?_
  refine q_chk (fun h7 => ?_)
  refine q_cVI (As := (fun P => [.int v1])) C [] (sX3_isThere ((mR X (mR X r0 4) 3)) v1) fcX11_217 rfl (fun _ => rfl) ⟨Nat.le_of_ble_eq_true rfl, Nat.le_of_ble_eq_true rfl⟩ ⟨Nat.le_of_ble_eq_true rfl, Nat.le_of_ble_eq_true rfl⟩ (Nat.le_of_ble_eq_true rfl) dX11_written_8 h7 (fun w5 X8_6 => ?_)
  refine q_if_eq C 38 dX11_written_11 (by decide) (fun _ => ?_) (fun _ => ?_)
  · refine q_sub C [] [] rfl ?_
    exact gX11_written_L38 C n X8_6
  · refine q_aload_n C 0 dX11_written_14 rfl rfl ?_
    refine q_chk (fun h8 => ?_)
    refine q_chk (fun h9 => ?_)
    refine p_getR C fgX11_36 rfl dX11_written_15 h8 h9 ?_
    refine q_iload_n C 2 dX11_written_18 rfl rfl ?_
    refine q_chk (fun h12 => ?_)
    refine q_cVI (As := (fun P => [.int v2])) C [] (sX8_isHolder ((mR X8_6 r0 4)) v2) fcX11_182 rfl (fun _ => rfl) ⟨Nat.le_of_ble_eq_true rfl, Nat.le_of_ble_eq_true rfl⟩ ⟨Nat.le_of_ble_eq_true rfl, Nat.le_of_ble_eq_true rfl⟩ (Nat.le_of_ble_eq_true rfl) dX11_written_19 h12 (fun w10 X19_11 => ?_)
    refine q_if_eq C 38 dX11_written_22 (by decide) (fun _ => ?_) (fun _ => ?_)
    · refine q_sub C [] [] rfl ?_
      exact gX11_written_L38 C n X19_11
    · refine q_aload_n C 0 dX11_written_25 rfl rfl ?_
      refine q_chk (fun h13 => ?_)
      refine q_chk (fun h14 => ?_)
      refine p_getR C fgX11_36 rfl dX11_written_26 h13 h14 ?_
      refine q_iload_n C 1 dX11_written_29 rfl rfl ?_
      refine q_iload_n C 2 dX11_written_30 rfl rfl ?_
      refine q_iload_n C 3 dX11_written_31 rfl rfl ?_
      refine q_chk (fun h17 => ?_)
      refine q_cVL (As := (fun P => [.int v1, .int v2, .int v3])) C [] (sX8_entryOf n ((mR X19_11 r0 4)) v1 v2 v3) fcX11_223 rfl (fun _ => rfl) ⟨Nat.le_of_ble_eq_true rfl, Nat.le_of_ble_eq_true rfl⟩ ⟨Nat.le_of_ble_eq_true rfl, Nat.le_of_ble_eq_true rfl⟩ (Nat.le_of_ble_eq_true rfl) dX11_written_32 h17 (fun w15 X32_16 => ?_)
      refine q_goto C 41 dX11_written_35 (by decide) ?_
      exact q_lret C dX11_written_41
/-! RecordClaims.claim(III)J -/
abbrev cX11_claim : ByteArray := prog_1_method_23_code
def yX11_claim : MethodName := ⟨RX11, "claim", "(III)J"⟩
theorem dX11_claim_0 : decode cX11_claim 0 = .ok (.aload_n 0, 1) := by decide +kernel
theorem dX11_claim_1 : decode cX11_claim 1 = .ok (.getfield 36, 3) := by decide +kernel
theorem dX11_claim_4 : decode cX11_claim 4 = .ok (.iload_n 1, 1) := by decide +kernel
theorem dX11_claim_5 : decode cX11_claim 5 = .ok (.iload_n 2, 1) := by decide +kernel
theorem dX11_claim_6 : decode cX11_claim 6 = .ok (.invokevirtual 227, 3) := by decide +kernel
theorem dX11_claim_9 : decode cX11_claim 9 = .ok (.ifCond .eq 16, 3) := by decide +kernel
theorem dX11_claim_12 : decode cX11_claim 12 = .ok (.aload_n 0, 1) := by decide +kernel
theorem dX11_claim_13 : decode cX11_claim 13 = .ok (.getfield 36, 3) := by decide +kernel
theorem dX11_claim_16 : decode cX11_claim 16 = .ok (.iload_n 1, 1) := by decide +kernel
theorem dX11_claim_17 : decode cX11_claim 17 = .ok (.iload_n 2, 1) := by decide +kernel
theorem dX11_claim_18 : decode cX11_claim 18 = .ok (.iload_n 3, 1) := by decide +kernel
theorem dX11_claim_19 : decode cX11_claim 19 = .ok (.invokevirtual 231, 3) := by decide +kernel
theorem dX11_claim_22 : decode cX11_claim 22 = .ok (.goto 6, 3) := by decide +kernel
theorem dX11_claim_25 : decode cX11_claim 25 = .ok (.ldc2_w 193, 3) := by decide +kernel
theorem dX11_claim_28 : decode cX11_claim 28 = .ok (.lreturn, 1) := by decide +kernel
theorem fcX11_227 : q_LV RX11 227 yX8_isClaim cX8_isClaim 3 (some .boolean) 2 8 := ⟨q_tb 1091 (by decide +kernel) rfl, q_tb 1092 (by decide +kernel) rfl, q_tb 1093 (by decide +kernel) rfl, q_tb 5 (by decide +kernel) rfl, q_tb 1094 (by decide +kernel) rfl, ⟨by decide +kernel, by decide +kernel, by decide +kernel⟩, TX8, 9, rfl⟩
theorem fcX11_231 : q_LV RX11 231 yX8_claimPart cX8_claimPart 5 (some .long) 3 8 := ⟨q_tb 1095 (by decide +kernel) rfl, q_tb 1096 (by decide +kernel) rfl, q_tb 1097 (by decide +kernel) rfl, q_tb 5 (by decide +kernel) rfl, q_tb 1098 (by decide +kernel) rfl, ⟨by decide +kernel, by decide +kernel, by decide +kernel⟩, TX8, 9, rfl⟩
def fX11_claim (r0 : Nat) (v1 : Int32) (v2 : Int32) (v3 : Int32) (X : Mm) : Option (Int64 × Mm) :=
if mT X r0 = 11 then
if mR X r0 4 ≠ 0 then
if mT X (mR X r0 4) = 8 then
bd (fX8_isClaim ((mR X r0 4)) v1 v2 X) fun w3 X6_4 =>
if w3 = 0 then (
some ((-1 : Int64), X6_4)
) else (
if mT X6_4 r0 = 11 then
if mR X6_4 r0 4 ≠ 0 then
if mT X6_4 (mR X6_4 r0 4) = 8 then
bd (fX8_claimPart ((mR X6_4 r0 4)) v1 v2 v3 X6_4) fun w8 X19_9 =>
some (w8, X19_9)
else none
else none
else none
)
else none
else none
else none
theorem sX11_claim (r0 : Nat) (v1 : Int32) (v2 : Int32) (v3 : Int32) : q_Ct yX11_claim cX11_claim 4 (some .long) 2 48 0 0 q_eL (fun P => [.ref (P + r0), .int v1, .int v2, .int v3]) (fX11_claim r0 v1 v2 v3) := by
  refine q_meth (by decide +kernel) (fun P => Nat.le_of_ble_eq_true rfl) (fun E X C hn => ?_)
  show Sm E (q_fin E q_eL X 0 0) 0 0 0 [(0, .ref (q_P E + r0)), (1, .int v1), (2, .int v2), (3, .int v3)] [] X _
  unfold fX11_claim
  refine q_aload_n C 0 dX11_claim_0 rfl rfl ?_
  refine q_chk (fun h1 => ?_)
  refine q_chk (fun h2 => ?_)
  refine p_getR C fgX11_36 rfl dX11_claim_1 h1 h2 ?_
  refine q_iload_n C 1 dX11_claim_4 rfl rfl ?_
  refine q_iload_n C 2 dX11_claim_5 rfl rfl ?_
  refine q_chk (fun h5 => ?_)
  refine q_cVI (As := (fun P => [.int v1, .int v2])) C [] (sX8_isClaim ((mR X r0 4)) v1 v2) fcX11_227 rfl (fun _ => rfl) ⟨Nat.le_of_ble_eq_true rfl, Nat.le_of_ble_eq_true rfl⟩ ⟨Nat.le_of_ble_eq_true rfl, Nat.le_of_ble_eq_true rfl⟩ (Nat.le_of_ble_eq_true rfl) dX11_claim_6 h5 (fun w3 X6_4 => ?_)
  refine q_if_eq C 25 dX11_claim_9 (by decide) (fun _ => ?_) (fun _ => ?_)
  · refine q_ldc2 C dX11_claim_25 fkX11_193 ?_
    exact q_lret C dX11_claim_28
  · refine q_aload_n C 0 dX11_claim_12 rfl rfl ?_
    refine q_chk (fun h6 => ?_)
    refine q_chk (fun h7 => ?_)
    refine p_getR C fgX11_36 rfl dX11_claim_13 h6 h7 ?_
    refine q_iload_n C 1 dX11_claim_16 rfl rfl ?_
    refine q_iload_n C 2 dX11_claim_17 rfl rfl ?_
    refine q_iload_n C 3 dX11_claim_18 rfl rfl ?_
    refine q_chk (fun h10 => ?_)
    refine q_cVL (As := (fun P => [.int v1, .int v2, .int v3])) C [] (sX8_claimPart ((mR X6_4 r0 4)) v1 v2 v3) fcX11_231 rfl (fun _ => rfl) ⟨Nat.le_of_ble_eq_true rfl, Nat.le_of_ble_eq_true rfl⟩ ⟨Nat.le_of_ble_eq_true rfl, Nat.le_of_ble_eq_true rfl⟩ (Nat.le_of_ble_eq_true rfl) dX11_claim_19 h10 (fun w8 X19_9 => ?_)
    refine q_goto C 28 dX11_claim_22 (by decide) ?_
    exact q_lret C dX11_claim_28
/-! RecordClaims.issued(II)J -/
abbrev cX11_issued : ByteArray := prog_1_method_24_code
def yX11_issued : MethodName := ⟨RX11, "issued", "(II)J"⟩
theorem dX11_issued_0 : decode cX11_issued 0 = .ok (.aload_n 0, 1) := by decide +kernel
theorem dX11_issued_1 : decode cX11_issued 1 = .ok (.getfield 36, 3) := by decide +kernel
theorem dX11_issued_4 : decode cX11_issued 4 = .ok (.getfield 213, 3) := by decide +kernel
theorem dX11_issued_7 : decode cX11_issued 7 = .ok (.iload_n 1, 1) := by decide +kernel
theorem dX11_issued_8 : decode cX11_issued 8 = .ok (.invokevirtual 217, 3) := by decide +kernel
theorem dX11_issued_11 : decode cX11_issued 11 = .ok (.ifCond .ne 7, 3) := by decide +kernel
theorem dX11_issued_14 : decode cX11_issued 14 = .ok (.ldc2_w 199, 3) := by decide +kernel
theorem dX11_issued_17 : decode cX11_issued 17 = .ok (.lreturn, 1) := by decide +kernel
theorem dX11_issued_18 : decode cX11_issued 18 = .ok (.iload_n 2, 1) := by decide +kernel
theorem dX11_issued_19 : decode cX11_issued 19 = .ok (.lookupswitch 51 #[(0, 25), (1, 38)], 25) := by decide +kernel
theorem dX11_issued_44 : decode cX11_issued 44 = .ok (.aload_n 0, 1) := by decide +kernel
theorem dX11_issued_45 : decode cX11_issued 45 = .ok (.getfield 36, 3) := by decide +kernel
theorem dX11_issued_48 : decode cX11_issued 48 = .ok (.getfield 213, 3) := by decide +kernel
theorem dX11_issued_51 : decode cX11_issued 51 = .ok (.getfield 234, 3) := by decide +kernel
theorem dX11_issued_54 : decode cX11_issued 54 = .ok (.iload_n 1, 1) := by decide +kernel
theorem dX11_issued_55 : decode cX11_issued 55 = .ok (.laload, 1) := by decide +kernel
theorem dX11_issued_56 : decode cX11_issued 56 = .ok (.lreturn, 1) := by decide +kernel
theorem dX11_issued_57 : decode cX11_issued 57 = .ok (.aload_n 0, 1) := by decide +kernel
theorem dX11_issued_58 : decode cX11_issued 58 = .ok (.getfield 36, 3) := by decide +kernel
theorem dX11_issued_61 : decode cX11_issued 61 = .ok (.getfield 213, 3) := by decide +kernel
theorem dX11_issued_64 : decode cX11_issued 64 = .ok (.getfield 237, 3) := by decide +kernel
theorem dX11_issued_67 : decode cX11_issued 67 = .ok (.iload_n 1, 1) := by decide +kernel
theorem dX11_issued_68 : decode cX11_issued 68 = .ok (.laload, 1) := by decide +kernel
theorem dX11_issued_69 : decode cX11_issued 69 = .ok (.lreturn, 1) := by decide +kernel
theorem dX11_issued_70 : decode cX11_issued 70 = .ok (.ldc2_w 199, 3) := by decide +kernel
theorem dX11_issued_73 : decode cX11_issued 73 = .ok (.lreturn, 1) := by decide +kernel
theorem fgX11_234 : q_Fg RX11 234 3 14 := q_Fg.of (C := RX3) (T := TX3) (N := 17) rfl (by decide) inX3 297 (by decide +kernel) rfl rfl
theorem fgX11_237 : q_Fg RX11 237 3 15 := q_Fg.of (C := RX3) (T := TX3) (N := 17) rfl (by decide) inX3 299 (by decide +kernel) rfl rfl
def fX11_issued (r0 : Nat) (v1 : Int32) (v2 : Int32) (X : Mm) : Option (Int64 × Mm) :=
if mT X r0 = 11 then
if mR X r0 4 ≠ 0 then
if mT X (mR X r0 4) = 8 then
if mR X (mR X r0 4) 3 ≠ 0 then
if mT X (mR X (mR X r0 4) 3) = 3 then
bd (fX3_isThere ((mR X (mR X r0 4) 3)) v1 X) fun w5 X8_6 =>
if w5 = 0 then (
some ((-9223372036854775808 : Int64), X8_6)
) else (
if v2 = (0 : Int32) then (
if mT X8_6 r0 = 11 then
if mR X8_6 r0 4 ≠ 0 then
if mT X8_6 (mR X8_6 r0 4) = 8 then
if mR X8_6 (mR X8_6 r0 4) 3 ≠ 0 then
if mT X8_6 (mR X8_6 (mR X8_6 r0 4) 3) = 3 then
if mR X8_6 (mR X8_6 (mR X8_6 r0 4) 3) 14 ≠ 0 then
if mT X8_6 (mR X8_6 (mR X8_6 (mR X8_6 r0 4) 3) 14) = 15 then
if q_b X8_6 (mR X8_6 (mR X8_6 (mR X8_6 r0 4) 3) 14) v1 then
some ((mJ X8_6 (mR X8_6 (mR X8_6 (mR X8_6 r0 4) 3) 14) (v1).toNatClampNeg), X8_6)
else none
else none
else none
else none
else none
else none
else none
else none
) else (
if v2 = (1 : Int32) then (
if mT X8_6 r0 = 11 then
if mR X8_6 r0 4 ≠ 0 then
if mT X8_6 (mR X8_6 r0 4) = 8 then
if mR X8_6 (mR X8_6 r0 4) 3 ≠ 0 then
if mT X8_6 (mR X8_6 (mR X8_6 r0 4) 3) = 3 then
if mR X8_6 (mR X8_6 (mR X8_6 r0 4) 3) 15 ≠ 0 then
if mT X8_6 (mR X8_6 (mR X8_6 (mR X8_6 r0 4) 3) 15) = 15 then
if q_b X8_6 (mR X8_6 (mR X8_6 (mR X8_6 r0 4) 3) 15) v1 then
some ((mJ X8_6 (mR X8_6 (mR X8_6 (mR X8_6 r0 4) 3) 15) (v1).toNatClampNeg), X8_6)
else none
else none
else none
else none
else none
else none
else none
else none
) else (
some ((-9223372036854775808 : Int64), X8_6)
)
)
)
else none
else none
else none
else none
else none
theorem sX11_issued (r0 : Nat) (v1 : Int32) (v2 : Int32) : q_Ct yX11_issued cX11_issued 3 (some .long) 1 21 0 0 q_eL (fun P => [.ref (P + r0), .int v1, .int v2]) (fX11_issued r0 v1 v2) := by
  refine q_meth (by decide +kernel) (fun P => Nat.le_of_ble_eq_true rfl) (fun E X C hn => ?_)
  show Sm E (q_fin E q_eL X 0 0) 0 0 0 [(0, .ref (q_P E + r0)), (1, .int v1), (2, .int v2)] [] X _
  unfold fX11_issued
  refine q_aload_n C 0 dX11_issued_0 rfl rfl ?_
  refine q_chk (fun h1 => ?_)
  refine q_chk (fun h2 => ?_)
  refine p_getR C fgX11_36 rfl dX11_issued_1 h1 h2 ?_
  refine q_chk (fun h3 => ?_)
  refine q_chk (fun h4 => ?_)
  refine p_getR C fgX11_213 rfl dX11_issued_4 h3 h4 ?_
  refine q_iload_n C 1 dX11_issued_7 rfl rfl ?_
  refine q_chk (fun h7 => ?_)
  refine q_cVI (As := (fun P => [.int v1])) C [] (sX3_isThere ((mR X (mR X r0 4) 3)) v1) fcX11_217 rfl (fun _ => rfl) ⟨Nat.le_of_ble_eq_true rfl, Nat.le_of_ble_eq_true rfl⟩ ⟨Nat.le_of_ble_eq_true rfl, Nat.le_of_ble_eq_true rfl⟩ (Nat.le_of_ble_eq_true rfl) dX11_issued_8 h7 (fun w5 X8_6 => ?_)
  refine q_if_ne C 18 dX11_issued_11 (by decide) (fun _ => ?_) (fun _ => ?_)
  · refine q_ldc2 C dX11_issued_14 fkX11_199 ?_
    exact q_lret C dX11_issued_17
  · refine q_iload_n C 2 dX11_issued_18 rfl rfl ?_
    refine q_ite (fun e0 => ?_) (fun e0 => ?_)
    · refine q_lookup C (off := 25) 44 dX11_issued_19 (by decide) (by rw [e0]; rfl) (by decide) ?_
      refine q_aload_n C 0 dX11_issued_44 rfl rfl ?_
      refine q_chk (fun h8 => ?_)
      refine q_chk (fun h9 => ?_)
      refine p_getR C fgX11_36 rfl dX11_issued_45 h8 h9 ?_
      refine q_chk (fun h10 => ?_)
      refine q_chk (fun h11 => ?_)
      refine p_getR C fgX11_213 rfl dX11_issued_48 h10 h11 ?_
      refine q_chk (fun h12 => ?_)
      refine q_chk (fun h13 => ?_)
      refine p_getR C fgX11_234 rfl dX11_issued_51 h12 h13 ?_
      refine q_iload_n C 1 dX11_issued_54 rfl rfl ?_
      refine q_chk (fun h14 => ?_)
      refine q_chk (fun h15 => ?_)
      refine p_lald C dX11_issued_55 h14 h15 ?_
      exact q_lret C dX11_issued_56
    · refine q_ite (fun e1 => ?_) (fun e1 => ?_)
      · refine q_lookup C (off := 38) 57 dX11_issued_19 (by decide) (by rw [e1]; rfl) (by decide) ?_
        refine q_aload_n C 0 dX11_issued_57 rfl rfl ?_
        refine q_chk (fun h16 => ?_)
        refine q_chk (fun h17 => ?_)
        refine p_getR C fgX11_36 rfl dX11_issued_58 h16 h17 ?_
        refine q_chk (fun h18 => ?_)
        refine q_chk (fun h19 => ?_)
        refine p_getR C fgX11_213 rfl dX11_issued_61 h18 h19 ?_
        refine q_chk (fun h20 => ?_)
        refine q_chk (fun h21 => ?_)
        refine p_getR C fgX11_237 rfl dX11_issued_64 h20 h21 ?_
        refine q_iload_n C 1 dX11_issued_67 rfl rfl ?_
        refine q_chk (fun h22 => ?_)
        refine q_chk (fun h23 => ?_)
        refine p_lald C dX11_issued_68 h22 h23 ?_
        exact q_lret C dX11_issued_69
      · have n0 := q_ne e0 (i := 0) rfl
        have n1 := q_ne e1 (i := 1) rfl
        refine q_lookup C (off := 51) 70 dX11_issued_19 (by decide) (q_lkout (by simp [Op.lookupswitch.offset, n0, Ne.symm n0, n1, Ne.symm n1])) (by decide) ?_
        refine q_ldc2 C dX11_issued_70 fkX11_199 ?_
        exact q_lret C dX11_issued_73
/-! RecordClaims.net(III)J -/
abbrev cX11_net : ByteArray := prog_1_method_25_code
def yX11_net : MethodName := ⟨RX11, "net", "(III)J"⟩
theorem dX11_net_0 : decode cX11_net 0 = .ok (.aload_n 0, 1) := by decide +kernel
theorem dX11_net_1 : decode cX11_net 1 = .ok (.getfield 36, 3) := by decide +kernel
theorem dX11_net_4 : decode cX11_net 4 = .ok (.getfield 213, 3) := by decide +kernel
theorem dX11_net_7 : decode cX11_net 7 = .ok (.iload_n 1, 1) := by decide +kernel
theorem dX11_net_8 : decode cX11_net 8 = .ok (.invokevirtual 217, 3) := by decide +kernel
theorem dX11_net_11 : decode cX11_net 11 = .ok (.ifCond .eq 8, 3) := by decide +kernel
theorem dX11_net_14 : decode cX11_net 14 = .ok (.iload_n 2, 1) := by decide +kernel
theorem dX11_net_15 : decode cX11_net 15 = .ok (.iconst (-1), 1) := by decide +kernel
theorem dX11_net_16 : decode cX11_net 16 = .ok (.if_icmp .ge 7, 3) := by decide +kernel
theorem dX11_net_19 : decode cX11_net 19 = .ok (.ldc2_w 193, 3) := by decide +kernel
theorem dX11_net_22 : decode cX11_net 22 = .ok (.lreturn, 1) := by decide +kernel
theorem dX11_net_23 : decode cX11_net 23 = .ok (.aload_n 0, 1) := by decide +kernel
theorem dX11_net_24 : decode cX11_net 24 = .ok (.getfield 57, 3) := by decide +kernel
theorem dX11_net_27 : decode cX11_net 27 = .ok (.aload_n 0, 1) := by decide +kernel
theorem dX11_net_28 : decode cX11_net 28 = .ok (.getfield 36, 3) := by decide +kernel
theorem dX11_net_31 : decode cX11_net 31 = .ok (.iload_n 1, 1) := by decide +kernel
theorem dX11_net_32 : decode cX11_net 32 = .ok (.iload_n 2, 1) := by decide +kernel
theorem dX11_net_33 : decode cX11_net 33 = .ok (.iload_n 3, 1) := by decide +kernel
theorem dX11_net_34 : decode cX11_net 34 = .ok (.invokevirtual 240, 3) := by decide +kernel
theorem dX11_net_37 : decode cX11_net 37 = .ok (.lreturn, 1) := by decide +kernel
theorem fgX11_57 : q_Fg RX11 57 11 7 := q_Fg.of (C := RX11) (T := TX11) (N := 8) rfl (by decide) inX11 484 (by decide +kernel) rfl rfl
theorem fcX11_240 : q_LV RX11 240 yX5_answer cX5_answer 10 (some .long) 4 5 := ⟨q_tb 1108 (by decide +kernel) rfl, q_tb 1109 (by decide +kernel) rfl, q_tb 1110 (by decide +kernel) rfl, q_tb 12 (by decide +kernel) rfl, q_tb 1111 (by decide +kernel) rfl, ⟨by decide +kernel, by decide +kernel, by decide +kernel⟩, TX5, 1, rfl⟩
def fX11_net_L19 (n : Nat) (X : Mm) : Option (Int64 × Mm) :=
some ((-1 : Int64), X)
def fX11_net (n : Nat) (r0 : Nat) (v1 : Int32) (v2 : Int32) (v3 : Int32) (X : Mm) : Option (Int64 × Mm) :=
if mT X r0 = 11 then
if mR X r0 4 ≠ 0 then
if mT X (mR X r0 4) = 8 then
if mR X (mR X r0 4) 3 ≠ 0 then
if mT X (mR X (mR X r0 4) 3) = 3 then
bd (fX3_isThere ((mR X (mR X r0 4) 3)) v1 X) fun w5 X8_6 =>
if w5 = 0 then (
fX11_net_L19 n X8_6
) else (
if (-1 : Int32) ≤ v2 then (
if mT X8_6 r0 = 11 then
if mR X8_6 r0 7 ≠ 0 then
if mR X8_6 r0 4 ≠ 0 then
if mT X8_6 (mR X8_6 r0 7) = 5 then
bd (fX5_answer n ((mR X8_6 r0 7)) ((mR X8_6 r0 4)) v1 v2 v3 X8_6) fun w11 X34_12 =>
some (w11, X34_12)
else none
else none
else none
else none
) else (
fX11_net_L19 n X8_6
)
)
else none
else none
else none
else none
else none
theorem gX11_net_L19 {E : q_E} {X0 : Mm} (C : Cx E cX11_net RX11 4 (some .long) (q_rm 3 75 0 0) X0) (n : Nat) (X : Mm) : Sm E (q_fin E q_eL X0 0 0) 0 0 19 [] [] X (fX11_net_L19 n  X) := by
  unfold fX11_net_L19
  refine q_ldc2 C dX11_net_19 fkX11_193 ?_
  exact q_lret C dX11_net_22
theorem sX11_net (n : Nat) (r0 : Nat) (v1 : Int32) (v2 : Int32) (v3 : Int32) : q_Ct yX11_net cX11_net 4 (some .long) 3 75 0 0 q_eL (fun P => [.ref (P + r0), .int v1, .int v2, .int v3]) (fX11_net n r0 v1 v2 v3) := by
  refine q_meth (by decide +kernel) (fun P => Nat.le_of_ble_eq_true rfl) (fun E X C hn => ?_)
  show Sm E (q_fin E q_eL X 0 0) 0 0 0 [(0, .ref (q_P E + r0)), (1, .int v1), (2, .int v2), (3, .int v3)] [] X _
  unfold fX11_net
  refine q_aload_n C 0 dX11_net_0 rfl rfl ?_
  refine q_chk (fun h1 => ?_)
  refine q_chk (fun h2 => ?_)
  refine p_getR C fgX11_36 rfl dX11_net_1 h1 h2 ?_
  refine q_chk (fun h3 => ?_)
  refine q_chk (fun h4 => ?_)
  refine p_getR C fgX11_213 rfl dX11_net_4 h3 h4 ?_
  refine q_iload_n C 1 dX11_net_7 rfl rfl ?_
  refine q_chk (fun h7 => ?_)
  refine q_cVI (As := (fun P => [.int v1])) C [] (sX3_isThere ((mR X (mR X r0 4) 3)) v1) fcX11_217 rfl (fun _ => rfl) ⟨Nat.le_of_ble_eq_true rfl, Nat.le_of_ble_eq_true rfl⟩ ⟨Nat.le_of_ble_eq_true rfl, Nat.le_of_ble_eq_true rfl⟩ (Nat.le_of_ble_eq_true rfl) dX11_net_8 h7 (fun w5 X8_6 => ?_)
  refine q_if_eq C 19 dX11_net_11 (by decide) (fun _ => ?_) (fun _ => ?_)
  · refine q_sub C [] [] rfl ?_
    exact gX11_net_L19 C n X8_6
  · refine q_iload_n C 2 dX11_net_14 rfl rfl ?_
    refine q_iconst C (-1 : Int32) dX11_net_15 rfl ?_
    refine q_icmp_ge C 23 dX11_net_16 (by decide) (fun _ => ?_) (fun _ => ?_)
    · refine q_aload_n C 0 dX11_net_23 rfl rfl ?_
      refine q_chk (fun h8 => ?_)
      refine q_chk (fun h9 => ?_)
      refine p_getR C fgX11_57 rfl dX11_net_24 h8 h9 ?_
      refine q_aload_n C 0 dX11_net_27 rfl rfl ?_
      refine q_chk (fun h10 => ?_)
      refine p_getR C fgX11_36 rfl dX11_net_28 h8 h10 ?_
      refine q_iload_n C 1 dX11_net_31 rfl rfl ?_
      refine q_iload_n C 2 dX11_net_32 rfl rfl ?_
      refine q_iload_n C 3 dX11_net_33 rfl rfl ?_
      refine q_chk (fun h13 => ?_)
      refine q_cVL (As := (fun P => [.ref (P + (mR X8_6 r0 4)), .int v1, .int v2, .int v3])) C [] (sX5_answer n ((mR X8_6 r0 7)) ((mR X8_6 r0 4)) v1 v2 v3) fcX11_240 rfl (fun _ => rfl) ⟨Nat.le_of_ble_eq_true rfl, Nat.le_of_ble_eq_true rfl⟩ ⟨Nat.le_of_ble_eq_true rfl, Nat.le_of_ble_eq_true rfl⟩ (Nat.le_of_ble_eq_true rfl) dX11_net_34 h13 (fun w11 X34_12 => ?_)
      exact q_lret C dX11_net_37
    · refine q_sub C [] [] rfl ?_
      exact gX11_net_L19 C n X8_6
/-! RecordClaims.worth(III)J -/
abbrev cX11_worth : ByteArray := prog_1_method_26_code
def yX11_worth : MethodName := ⟨RX11, "worth", "(III)J"⟩
theorem dX11_worth_0 : decode cX11_worth 0 = .ok (.aload_n 0, 1) := by decide +kernel
theorem dX11_worth_1 : decode cX11_worth 1 = .ok (.getfield 36, 3) := by decide +kernel
theorem dX11_worth_4 : decode cX11_worth 4 = .ok (.getfield 213, 3) := by decide +kernel
theorem dX11_worth_7 : decode cX11_worth 7 = .ok (.iload_n 1, 1) := by decide +kernel
theorem dX11_worth_8 : decode cX11_worth 8 = .ok (.invokevirtual 217, 3) := by decide +kernel
theorem dX11_worth_11 : decode cX11_worth 11 = .ok (.ifCond .eq 13, 3) := by decide +kernel
theorem dX11_worth_14 : decode cX11_worth 14 = .ok (.iload_n 2, 1) := by decide +kernel
theorem dX11_worth_15 : decode cX11_worth 15 = .ok (.ifCond .lt 9, 3) := by decide +kernel
theorem dX11_worth_18 : decode cX11_worth 18 = .ok (.iload_n 2, 1) := by decide +kernel
theorem dX11_worth_19 : decode cX11_worth 19 = .ok (.ldc 244, 2) := by decide +kernel
theorem dX11_worth_21 : decode cX11_worth 21 = .ok (.if_icmp .le 7, 3) := by decide +kernel
theorem dX11_worth_24 : decode cX11_worth 24 = .ok (.ldc2_w 199, 3) := by decide +kernel
theorem dX11_worth_27 : decode cX11_worth 27 = .ok (.lreturn, 1) := by decide +kernel
theorem dX11_worth_28 : decode cX11_worth 28 = .ok (.aload_n 0, 1) := by decide +kernel
theorem dX11_worth_29 : decode cX11_worth 29 = .ok (.getfield 36, 3) := by decide +kernel
theorem dX11_worth_32 : decode cX11_worth 32 = .ok (.getfield 213, 3) := by decide +kernel
theorem dX11_worth_35 : decode cX11_worth 35 = .ok (.iload_n 1, 1) := by decide +kernel
theorem dX11_worth_36 : decode cX11_worth 36 = .ok (.iload_n 2, 1) := by decide +kernel
theorem dX11_worth_37 : decode cX11_worth 37 = .ok (.iload_n 3, 1) := by decide +kernel
theorem dX11_worth_38 : decode cX11_worth 38 = .ok (.invokevirtual 245, 3) := by decide +kernel
theorem dX11_worth_41 : decode cX11_worth 41 = .ok (.lreturn, 1) := by decide +kernel
theorem fkX11_244 : Cond.constant RX11 244 (99999 : Int32) ∈ q_tbl := q_tb 1131 (by decide +kernel) rfl
theorem fcX11_245 : q_LV RX11 245 yX3_worthBehind cX3_worthBehind 4 (some .long) 3 3 := ⟨q_tb 1132 (by decide +kernel) rfl, q_tb 1133 (by decide +kernel) rfl, q_tb 1134 (by decide +kernel) rfl, q_tb 7 (by decide +kernel) rfl, q_tb 1135 (by decide +kernel) rfl, ⟨by decide +kernel, by decide +kernel, by decide +kernel⟩, TX3, 17, rfl⟩
def fX11_worth_L24 (n : Nat) (X : Mm) : Option (Int64 × Mm) :=
some ((-9223372036854775808 : Int64), X)
def fX11_worth (n : Nat) (r0 : Nat) (v1 : Int32) (v2 : Int32) (v3 : Int32) (X : Mm) : Option (Int64 × Mm) :=
if mT X r0 = 11 then
if mR X r0 4 ≠ 0 then
if mT X (mR X r0 4) = 8 then
if mR X (mR X r0 4) 3 ≠ 0 then
if mT X (mR X (mR X r0 4) 3) = 3 then
bd (fX3_isThere ((mR X (mR X r0 4) 3)) v1 X) fun w5 X8_6 =>
if w5 = 0 then (
fX11_worth_L24 n X8_6
) else (
if v2 < 0 then (
fX11_worth_L24 n X8_6
) else (
if v2 ≤ (99999 : Int32) then (
if mT X8_6 r0 = 11 then
if mR X8_6 r0 4 ≠ 0 then
if mT X8_6 (mR X8_6 r0 4) = 8 then
if mR X8_6 (mR X8_6 r0 4) 3 ≠ 0 then
if mT X8_6 (mR X8_6 (mR X8_6 r0 4) 3) = 3 then
bd (fX3_worthBehind n ((mR X8_6 (mR X8_6 r0 4) 3)) v1 v2 v3 X8_6) fun w12 X38_13 =>
some (w12, X38_13)
else none
else none
else none
else none
else none
) else (
fX11_worth_L24 n X8_6
)
)
)
else none
else none
else none
else none
else none
theorem gX11_worth_L24 {E : q_E} {X0 : Mm} (C : Cx E cX11_worth RX11 4 (some .long) (q_rm 3 79 0 0) X0) (n : Nat) (X : Mm) : Sm E (q_fin E q_eL X0 0 0) 0 0 24 [] [] X (fX11_worth_L24 n  X) := by
  unfold fX11_worth_L24
  refine q_ldc2 C dX11_worth_24 fkX11_199 ?_
  exact q_lret C dX11_worth_27
theorem sX11_worth (n : Nat) (r0 : Nat) (v1 : Int32) (v2 : Int32) (v3 : Int32) : q_Ct yX11_worth cX11_worth 4 (some .long) 3 79 0 0 q_eL (fun P => [.ref (P + r0), .int v1, .int v2, .int v3]) (fX11_worth n r0 v1 v2 v3) := by
  refine q_meth (by decide +kernel) (fun P => Nat.le_of_ble_eq_true rfl) (fun E X C hn => ?_)
  show Sm E (q_fin E q_eL X 0 0) 0 0 0 [(0, .ref (q_P E + r0)), (1, .int v1), (2, .int v2), (3, .int v3)] [] X _
  unfold fX11_worth
  refine q_aload_n C 0 dX11_worth_0 rfl rfl ?_
  refine q_chk (fun h1 => ?_)
  refine q_chk (fun h2 => ?_)
  refine p_getR C fgX11_36 rfl dX11_worth_1 h1 h2 ?_
  refine q_chk (fun h3 => ?_)
  refine q_chk (fun h4 => ?_)
  refine p_getR C fgX11_213 rfl dX11_worth_4 h3 h4 ?_
  refine q_iload_n C 1 dX11_worth_7 rfl rfl ?_
  refine q_chk (fun h7 => ?_)
  refine q_cVI (As := (fun P => [.int v1])) C [] (sX3_isThere ((mR X (mR X r0 4) 3)) v1) fcX11_217 rfl (fun _ => rfl) ⟨Nat.le_of_ble_eq_true rfl, Nat.le_of_ble_eq_true rfl⟩ ⟨Nat.le_of_ble_eq_true rfl, Nat.le_of_ble_eq_true rfl⟩ (Nat.le_of_ble_eq_true rfl) dX11_worth_8 h7 (fun w5 X8_6 => ?_)
  refine q_if_eq C 24 dX11_worth_11 (by decide) (fun _ => ?_) (fun _ => ?_)
  · refine q_sub C [] [] rfl ?_
    exact gX11_worth_L24 C n X8_6
  · refine q_iload_n C 2 dX11_worth_14 rfl rfl ?_
    refine q_if_lt C 24 dX11_worth_15 (by decide) (fun _ => ?_) (fun _ => ?_)
    · refine q_sub C [] [] rfl ?_
      exact gX11_worth_L24 C n X8_6
    · refine q_iload_n C 2 dX11_worth_18 rfl rfl ?_
      refine q_ldc C dX11_worth_19 fkX11_244 ?_
      refine q_icmp_le C 28 dX11_worth_21 (by decide) (fun _ => ?_) (fun _ => ?_)
      · refine q_aload_n C 0 dX11_worth_28 rfl rfl ?_
        refine q_chk (fun h8 => ?_)
        refine q_chk (fun h9 => ?_)
        refine p_getR C fgX11_36 rfl dX11_worth_29 h8 h9 ?_
        refine q_chk (fun h10 => ?_)
        refine q_chk (fun h11 => ?_)
        refine p_getR C fgX11_213 rfl dX11_worth_32 h10 h11 ?_
        refine q_iload_n C 1 dX11_worth_35 rfl rfl ?_
        refine q_iload_n C 2 dX11_worth_36 rfl rfl ?_
        refine q_iload_n C 3 dX11_worth_37 rfl rfl ?_
        refine q_chk (fun h14 => ?_)
        refine q_cVL (As := (fun P => [.int v1, .int v2, .int v3])) C [] (sX3_worthBehind n ((mR X8_6 (mR X8_6 r0 4) 3)) v1 v2 v3) fcX11_245 rfl (fun _ => rfl) ⟨Nat.le_of_ble_eq_true rfl, Nat.le_of_ble_eq_true rfl⟩ ⟨Nat.le_of_ble_eq_true rfl, Nat.le_of_ble_eq_true rfl⟩ (Nat.le_of_ble_eq_true rfl) dX11_worth_38 h14 (fun w12 X38_13 => ?_)
        exact q_lret C dX11_worth_41
      · refine q_sub C [] [] rfl ?_
        exact gX11_worth_L24 C n X8_6
/-! RecordClaims.isAhead(I)Z -/
abbrev cX11_isAhead : ByteArray := prog_1_method_29_code
def yX11_isAhead : MethodName := ⟨RX11, "isAhead", "(I)Z"⟩
theorem dX11_isAhead_0 : decode cX11_isAhead 0 = .ok (.iload_n 0, 1) := by decide +kernel
theorem dX11_isAhead_1 : decode cX11_isAhead 1 = .ok (.ifCond .lt 13, 3) := by decide +kernel
theorem dX11_isAhead_4 : decode cX11_isAhead 4 = .ok (.iload_n 0, 1) := by decide +kernel
theorem dX11_isAhead_5 : decode cX11_isAhead 5 = .ok (.bipush 99, 2) := by decide +kernel
theorem dX11_isAhead_7 : decode cX11_isAhead 7 = .ok (.if_icmp .gt 7, 3) := by decide +kernel
theorem dX11_isAhead_10 : decode cX11_isAhead 10 = .ok (.iconst 1, 1) := by decide +kernel
theorem dX11_isAhead_11 : decode cX11_isAhead 11 = .ok (.goto 4, 3) := by decide +kernel
theorem dX11_isAhead_14 : decode cX11_isAhead 14 = .ok (.iconst 0, 1) := by decide +kernel
theorem dX11_isAhead_15 : decode cX11_isAhead 15 = .ok (.ireturn, 1) := by decide +kernel
def fX11_isAhead_L14 (X : Mm) : Option (Int32 × Mm) :=
some (0, X)
def fX11_isAhead (v0 : Int32) (X : Mm) : Option (Int32 × Mm) :=
if v0 < 0 then (
fX11_isAhead_L14 X
) else (
if (99 : Int32) < v0 then (
fX11_isAhead_L14 X
) else (
some (1, X)
)
)
theorem gX11_isAhead_L14 {E : q_E} {X0 : Mm} (C : Cx E cX11_isAhead RX11 1 (some .boolean) (q_rm 0 0 0 0) X0) (X : Mm) : Sm E (q_fin E q_eI X0 0 0) 0 0 14 [] [] X (fX11_isAhead_L14  X) := by
  unfold fX11_isAhead_L14
  refine q_iconst C (0 : Int32) dX11_isAhead_14 rfl ?_
  exact q_zret0 C dX11_isAhead_15
theorem sX11_isAhead (v0 : Int32) : q_Ct yX11_isAhead cX11_isAhead 1 (some .boolean) 0 0 0 0 q_eI (fun P => [.int v0]) (fX11_isAhead v0) := by
  refine q_meth (by decide +kernel) (fun P => Nat.le_of_ble_eq_true rfl) (fun E X C hn => ?_)
  show Sm E (q_fin E q_eI X 0 0) 0 0 0 [(0, .int v0)] [] X _
  unfold fX11_isAhead
  refine q_iload_n C 0 dX11_isAhead_0 rfl rfl ?_
  refine q_if_lt C 14 dX11_isAhead_1 (by decide) (fun _ => ?_) (fun _ => ?_)
  · refine q_sub C [] [] rfl ?_
    exact gX11_isAhead_L14 C X
  · refine q_iload_n C 0 dX11_isAhead_4 rfl rfl ?_
    refine q_bipush C (99 : Int32) dX11_isAhead_5 rfl ?_
    refine q_icmp_gt C 14 dX11_isAhead_7 (by decide) (fun _ => ?_) (fun _ => ?_)
    · refine q_sub C [] [] rfl ?_
      exact gX11_isAhead_L14 C X
    · refine q_iconst C (1 : Int32) dX11_isAhead_10 rfl ?_
      refine q_goto C 15 dX11_isAhead_11 (by decide) ?_
      exact q_zret1 C dX11_isAhead_15
/-! RecordClaims.stateAhead(I)LRecordClaims$State; -/
abbrev cX11_stateAhead : ByteArray := prog_1_method_30_code
def yX11_stateAhead : MethodName := ⟨RX11, "stateAhead", "(I)LRecordClaims$State;"⟩
theorem dX11_stateAhead_0 : decode cX11_stateAhead 0 = .ok (.aload_n 0, 1) := by decide +kernel
theorem dX11_stateAhead_1 : decode cX11_stateAhead 1 = .ok (.getfield 43, 3) := by decide +kernel
theorem dX11_stateAhead_4 : decode cX11_stateAhead 4 = .ok (.invokevirtual 102, 3) := by decide +kernel
theorem dX11_stateAhead_7 : decode cX11_stateAhead 7 = .ok (.astore_n 2, 1) := by decide +kernel
theorem dX11_stateAhead_8 : decode cX11_stateAhead 8 = .ok (.aload_n 2, 1) := by decide +kernel
theorem dX11_stateAhead_9 : decode cX11_stateAhead 9 = .ok (.aload_n 0, 1) := by decide +kernel
theorem dX11_stateAhead_10 : decode cX11_stateAhead 10 = .ok (.getfield 36, 3) := by decide +kernel
theorem dX11_stateAhead_13 : decode cX11_stateAhead 13 = .ok (.invokevirtual 106, 3) := by decide +kernel
theorem dX11_stateAhead_16 : decode cX11_stateAhead 16 = .ok (.aload_n 2, 1) := by decide +kernel
theorem dX11_stateAhead_17 : decode cX11_stateAhead 17 = .ok (.iload_n 1, 1) := by decide +kernel
theorem dX11_stateAhead_18 : decode cX11_stateAhead 18 = .ok (.sipush 999, 3) := by decide +kernel
theorem dX11_stateAhead_21 : decode cX11_stateAhead 21 = .ok (.aload_n 2, 1) := by decide +kernel
theorem dX11_stateAhead_22 : decode cX11_stateAhead 22 = .ok (.getfield 255, 3) := by decide +kernel
theorem dX11_stateAhead_25 : decode cX11_stateAhead 25 = .ok (.isub, 1) := by decide +kernel
theorem dX11_stateAhead_26 : decode cX11_stateAhead 26 = .ok (.invokestatic 258, 3) := by decide +kernel
theorem dX11_stateAhead_29 : decode cX11_stateAhead 29 = .ok (.invokevirtual 263, 3) := by decide +kernel
theorem dX11_stateAhead_32 : decode cX11_stateAhead 32 = .ok (.pop, 1) := by decide +kernel
theorem dX11_stateAhead_33 : decode cX11_stateAhead 33 = .ok (.aload_n 2, 1) := by decide +kernel
theorem dX11_stateAhead_34 : decode cX11_stateAhead 34 = .ok (.areturn, 1) := by decide +kernel
theorem fgX11_255 : q_Fg RX11 255 8 8 := q_Fg.of (C := RX8) (T := TX8) (N := 9) rfl (by decide) inX8 412 (by decide +kernel) rfl rfl
theorem fmX11_258 : q_LM RX11 258 Lib.Math.min.name Lib.Math.min.code 2 .int := ⟨q_tb 1157 (by decide +kernel) rfl, q_tb 976 (by decide +kernel) rfl, q_tb 19 (by decide +kernel) rfl, q_tb 977 (by decide +kernel) rfl⟩
theorem fcX11_263 : q_LV RX11 263 yX8_passDays cX8_passDays 3 (some .int) 1 8 := ⟨q_tb 1158 (by decide +kernel) rfl, q_tb 838 (by decide +kernel) rfl, q_tb 839 (by decide +kernel) rfl, q_tb 5 (by decide +kernel) rfl, q_tb 840 (by decide +kernel) rfl, ⟨by decide +kernel, by decide +kernel, by decide +kernel⟩, TX8, 9, rfl⟩
def fX11_stateAhead (n : Nat) (r0 : Nat) (v1 : Int32) (X : Mm) : Option (Nat × Mm) :=
if mT X r0 = 11 then
if mR X r0 5 ≠ 0 then
if mT X (mR X r0 5) = 4 then
bd (fX4_spare ((mR X r0 5)) X) fun w3 X4_4 =>
if mT X4_4 r0 = 11 then
if mR X4_4 r0 4 ≠ 0 then
if mT X4_4 w3 = 8 then
bd (fX8_copyFrom w3 ((mR X4_4 r0 4)) X4_4) fun _ X13_9 =>
if mT X13_9 w3 = 8 then
bd (fX8_passDays n w3 ((if ((999 : Int32) - (mI X13_9 w3 8)) < v1 then ((999 : Int32) - (mI X13_9 w3 8)) else v1)) X13_9) fun w12 X29_13 =>
some (w3, X29_13)
else none
else none
else none
else none
else none
else none
else none
theorem sX11_stateAhead (n : Nat) (r0 : Nat) (v1 : Int32) : q_Ct yX11_stateAhead cX11_stateAhead 3 (some (.object "RecordClaims$State")) 5 123 0 0 q_eR (fun P => [.ref (P + r0), .int v1]) (fX11_stateAhead n r0 v1) := by
  refine q_meth (by decide +kernel) (fun P => Nat.le_of_ble_eq_true rfl) (fun E X C hn => ?_)
  show Sm E (q_fin E q_eR X 0 0) 0 0 0 [(0, .ref (q_P E + r0)), (1, .int v1)] [] X _
  unfold fX11_stateAhead
  refine q_aload_n C 0 dX11_stateAhead_0 rfl rfl ?_
  refine q_chk (fun h1 => ?_)
  refine q_chk (fun h2 => ?_)
  refine p_getR C fgX11_43 rfl dX11_stateAhead_1 h1 h2 ?_
  refine q_chk (fun h5 => ?_)
  refine q_cVR (As := (fun P => [])) C [] (sX4_spare ((mR X r0 5))) fcX11_102 rfl (fun _ => rfl) ⟨Nat.le_of_ble_eq_true rfl, Nat.le_of_ble_eq_true rfl⟩ ⟨Nat.le_of_ble_eq_true rfl, Nat.le_of_ble_eq_true rfl⟩ (Nat.le_of_ble_eq_true rfl) dX11_stateAhead_4 h5 (fun w3 X4_4 => ?_)
  refine q_astore_n C [(2, .ref (q_P E + w3)), (0, .ref (q_P E + r0)), (1, .int v1)] dX11_stateAhead_7 rfl (Nat.le_of_ble_eq_true rfl) rfl ?_
  refine q_aload_n C 0 dX11_stateAhead_8 rfl rfl ?_
  refine q_aload_n C 1 dX11_stateAhead_9 rfl rfl ?_
  refine q_chk (fun h6 => ?_)
  refine q_chk (fun h7 => ?_)
  refine p_getR C fgX11_36 rfl dX11_stateAhead_10 h6 h7 ?_
  refine q_chk (fun h10 => ?_)
  refine q_cVV (As := (fun P => [.ref (P + (mR X4_4 r0 4))])) C [] (sX8_copyFrom w3 ((mR X4_4 r0 4))) fcX11_106 rfl (fun _ => rfl) ⟨Nat.le_of_ble_eq_true rfl, Nat.le_of_ble_eq_true rfl⟩ ⟨Nat.le_of_ble_eq_true rfl, Nat.le_of_ble_eq_true rfl⟩ (Nat.le_of_ble_eq_true rfl) dX11_stateAhead_13 h10 (fun _ X13_9 => ?_)
  refine q_aload_n C 0 dX11_stateAhead_16 rfl rfl ?_
  refine q_iload_n C 2 dX11_stateAhead_17 rfl rfl ?_
  refine q_sipush C (999 : Int32) dX11_stateAhead_18 rfl ?_
  refine q_aload_n C 0 dX11_stateAhead_21 rfl rfl ?_
  refine q_chk (fun h11 => ?_)
  refine p_getI C fgX11_255 rfl dX11_stateAhead_22 h11 ?_
  refine q_isub C dX11_stateAhead_25 ?_
  refine q_minI C fmX11_258 ⟨Nat.le_of_ble_eq_true rfl, Nat.le_of_ble_eq_true rfl, Nat.le_of_ble_eq_true rfl, Nat.le_of_ble_eq_true rfl⟩ dX11_stateAhead_26 ?_
  refine q_cVI (As := (fun P => [.int (if ((999 : Int32) - (mI X13_9 w3 8)) < v1 then ((999 : Int32) - (mI X13_9 w3 8)) else v1)])) C [] (sX8_passDays n w3 ((if ((999 : Int32) - (mI X13_9 w3 8)) < v1 then ((999 : Int32) - (mI X13_9 w3 8)) else v1))) fcX11_263 rfl (fun _ => rfl) ⟨Nat.le_of_ble_eq_true rfl, Nat.le_of_ble_eq_true rfl⟩ ⟨Nat.le_of_ble_eq_true rfl, Nat.le_of_ble_eq_true rfl⟩ (Nat.le_of_ble_eq_true rfl) dX11_stateAhead_29 h11 (fun w12 X29_13 => ?_)
  refine q_pop C dX11_stateAhead_32 rfl ?_
  refine q_aload_n C 0 dX11_stateAhead_33 rfl rfl ?_
  exact q_aret C dX11_stateAhead_34
/-! RecordClaims.ahead(III)J -/
abbrev cX11_ahead : ByteArray := prog_1_method_27_code
def yX11_ahead : MethodName := ⟨RX11, "ahead", "(III)J"⟩
theorem dX11_ahead_0 : decode cX11_ahead 0 = .ok (.aload_n 0, 1) := by decide +kernel
theorem dX11_ahead_1 : decode cX11_ahead 1 = .ok (.getfield 36, 3) := by decide +kernel
theorem dX11_ahead_4 : decode cX11_ahead 4 = .ok (.iload_n 1, 1) := by decide +kernel
theorem dX11_ahead_5 : decode cX11_ahead 5 = .ok (.invokevirtual 182, 3) := by decide +kernel
theorem dX11_ahead_8 : decode cX11_ahead 8 = .ok (.ifCond .eq 21, 3) := by decide +kernel
theorem dX11_ahead_11 : decode cX11_ahead 11 = .ok (.aload_n 0, 1) := by decide +kernel
theorem dX11_ahead_12 : decode cX11_ahead 12 = .ok (.getfield 36, 3) := by decide +kernel
theorem dX11_ahead_15 : decode cX11_ahead 15 = .ok (.iload_n 2, 1) := by decide +kernel
theorem dX11_ahead_16 : decode cX11_ahead 16 = .ok (.invokevirtual 186, 3) := by decide +kernel
theorem dX11_ahead_19 : decode cX11_ahead 19 = .ok (.ifCond .eq 10, 3) := by decide +kernel
theorem dX11_ahead_22 : decode cX11_ahead 22 = .ok (.iload_n 3, 1) := by decide +kernel
theorem dX11_ahead_23 : decode cX11_ahead 23 = .ok (.invokestatic 248, 3) := by decide +kernel
theorem dX11_ahead_26 : decode cX11_ahead 26 = .ok (.ifCond .ne 7, 3) := by decide +kernel
theorem dX11_ahead_29 : decode cX11_ahead 29 = .ok (.ldc2_w 193, 3) := by decide +kernel
theorem dX11_ahead_32 : decode cX11_ahead 32 = .ok (.lreturn, 1) := by decide +kernel
theorem dX11_ahead_33 : decode cX11_ahead 33 = .ok (.aload_n 0, 1) := by decide +kernel
theorem dX11_ahead_34 : decode cX11_ahead 34 = .ok (.iload_n 3, 1) := by decide +kernel
theorem dX11_ahead_35 : decode cX11_ahead 35 = .ok (.invokevirtual 251, 3) := by decide +kernel
theorem dX11_ahead_38 : decode cX11_ahead 38 = .ok (.iload_n 1, 1) := by decide +kernel
theorem dX11_ahead_39 : decode cX11_ahead 39 = .ok (.iload_n 2, 1) := by decide +kernel
theorem dX11_ahead_40 : decode cX11_ahead 40 = .ok (.invokevirtual 189, 3) := by decide +kernel
theorem dX11_ahead_43 : decode cX11_ahead 43 = .ok (.lreturn, 1) := by decide +kernel
theorem fcX11_248 : q_LS RX11 248 yX11_isAhead cX11_isAhead 1 (some .boolean) 1 := ⟨q_tb 1150 (by decide +kernel) rfl, q_tb 1151 (by decide +kernel) rfl, q_tb 1 (by decide +kernel) rfl, q_tb 1152 (by decide +kernel) rfl, ⟨by decide +kernel, by decide +kernel, by decide +kernel⟩⟩
theorem fcX11_251 : q_LV RX11 251 yX11_stateAhead cX11_stateAhead 3 (some (.object "RecordClaims$State")) 1 11 := ⟨q_tb 1153 (by decide +kernel) rfl, q_tb 1155 (by decide +kernel) rfl, q_tbs (q := (yX11_stateAhead, 8)) 46 (by decide +kernel) rfl, q_tb 1 (by decide +kernel) rfl, q_tb 1156 (by decide +kernel) rfl, ⟨by decide +kernel, by decide +kernel, by decide +kernel⟩, TX11, 8, rfl⟩
def fX11_ahead_L29 (n : Nat) (X : Mm) : Option (Int64 × Mm) :=
some ((-1 : Int64), X)
def fX11_ahead (n : Nat) (r0 : Nat) (v1 : Int32) (v2 : Int32) (v3 : Int32) (X : Mm) : Option (Int64 × Mm) :=
if mT X r0 = 11 then
if mR X r0 4 ≠ 0 then
if mT X (mR X r0 4) = 8 then
bd (fX8_isHolder ((mR X r0 4)) v1 X) fun w3 X5_4 =>
if w3 = 0 then (
fX11_ahead_L29 n X5_4
) else (
if mT X5_4 r0 = 11 then
if mR X5_4 r0 4 ≠ 0 then
if mT X5_4 (mR X5_4 r0 4) = 8 then
bd (fX8_isPaper ((mR X5_4 r0 4)) v2 X5_4) fun w8 X16_9 =>
if w8 = 0 then (
fX11_ahead_L29 n X16_9
) else (
bd (fX11_isAhead v3 X16_9) fun w11 X23_12 =>
if w11 = 0 then (
fX11_ahead_L29 n X23_12
) else (
if mT X23_12 r0 = 11 then
bd (fX11_stateAhead n r0 v3 X23_12) fun w13 X35_14 =>
if mT X35_14 w13 = 8 then
bd (fX8_sharesOf w13 v1 v2 X35_14) fun w16 X40_17 =>
some (w16, X40_17)
else none
else none
)
)
else none
else none
else none
)
else none
else none
else none
theorem gX11_ahead_L29 {E : q_E} {X0 : Mm} (C : Cx E cX11_ahead RX11 4 (some .long) (q_rm 6 145 0 0) X0) (n : Nat) (X : Mm) : Sm E (q_fin E q_eL X0 0 0) 0 0 29 [] [] X (fX11_ahead_L29 n  X) := by
  unfold fX11_ahead_L29
  refine q_ldc2 C dX11_ahead_29 fkX11_193 ?_
  exact q_lret C dX11_ahead_32
theorem sX11_ahead (n : Nat) (r0 : Nat) (v1 : Int32) (v2 : Int32) (v3 : Int32) : q_Ct yX11_ahead cX11_ahead 4 (some .long) 6 145 0 0 q_eL (fun P => [.ref (P + r0), .int v1, .int v2, .int v3]) (fX11_ahead n r0 v1 v2 v3) := by
  refine q_meth (by decide +kernel) (fun P => Nat.le_of_ble_eq_true rfl) (fun E X C hn => ?_)
  show Sm E (q_fin E q_eL X 0 0) 0 0 0 [(0, .ref (q_P E + r0)), (1, .int v1), (2, .int v2), (3, .int v3)] [] X _
  unfold fX11_ahead
  refine q_aload_n C 0 dX11_ahead_0 rfl rfl ?_
  refine q_chk (fun h1 => ?_)
  refine q_chk (fun h2 => ?_)
  refine p_getR C fgX11_36 rfl dX11_ahead_1 h1 h2 ?_
  refine q_iload_n C 1 dX11_ahead_4 rfl rfl ?_
  refine q_chk (fun h5 => ?_)
  refine q_cVI (As := (fun P => [.int v1])) C [] (sX8_isHolder ((mR X r0 4)) v1) fcX11_182 rfl (fun _ => rfl) ⟨Nat.le_of_ble_eq_true rfl, Nat.le_of_ble_eq_true rfl⟩ ⟨Nat.le_of_ble_eq_true rfl, Nat.le_of_ble_eq_true rfl⟩ (Nat.le_of_ble_eq_true rfl) dX11_ahead_5 h5 (fun w3 X5_4 => ?_)
  refine q_if_eq C 29 dX11_ahead_8 (by decide) (fun _ => ?_) (fun _ => ?_)
  · refine q_sub C [] [] rfl ?_
    exact gX11_ahead_L29 C n X5_4
  · refine q_aload_n C 0 dX11_ahead_11 rfl rfl ?_
    refine q_chk (fun h6 => ?_)
    refine q_chk (fun h7 => ?_)
    refine p_getR C fgX11_36 rfl dX11_ahead_12 h6 h7 ?_
    refine q_iload_n C 2 dX11_ahead_15 rfl rfl ?_
    refine q_chk (fun h10 => ?_)
    refine q_cVI (As := (fun P => [.int v2])) C [] (sX8_isPaper ((mR X5_4 r0 4)) v2) fcX11_186 rfl (fun _ => rfl) ⟨Nat.le_of_ble_eq_true rfl, Nat.le_of_ble_eq_true rfl⟩ ⟨Nat.le_of_ble_eq_true rfl, Nat.le_of_ble_eq_true rfl⟩ (Nat.le_of_ble_eq_true rfl) dX11_ahead_16 h10 (fun w8 X16_9 => ?_)
    refine q_if_eq C 29 dX11_ahead_19 (by decide) (fun _ => ?_) (fun _ => ?_)
    · refine q_sub C [] [] rfl ?_
      exact gX11_ahead_L29 C n X16_9
    · refine q_iload_n C 3 dX11_ahead_22 rfl rfl ?_
      refine q_cSI (As := (fun P => [.int v3])) C [] (sX11_isAhead v3) fcX11_248 rfl (fun _ => rfl) ⟨Nat.le_of_ble_eq_true rfl, Nat.le_of_ble_eq_true rfl⟩ ⟨Nat.le_of_ble_eq_true rfl, Nat.le_of_ble_eq_true rfl⟩ (Nat.le_of_ble_eq_true rfl) dX11_ahead_23 (fun w11 X23_12 => ?_)
      refine q_if_ne C 33 dX11_ahead_26 (by decide) (fun _ => ?_) (fun _ => ?_)
      · refine q_sub C [] [] rfl ?_
        exact gX11_ahead_L29 C n X23_12
      · refine q_aload_n C 0 dX11_ahead_33 rfl rfl ?_
        refine q_iload_n C 3 dX11_ahead_34 rfl rfl ?_
        refine q_chk (fun h15 => ?_)
        refine q_cVR (As := (fun P => [.int v3])) C [] (sX11_stateAhead n r0 v3) fcX11_251 rfl (fun _ => rfl) ⟨Nat.le_of_ble_eq_true rfl, Nat.le_of_ble_eq_true rfl⟩ ⟨Nat.le_of_ble_eq_true rfl, Nat.le_of_ble_eq_true rfl⟩ (Nat.le_of_ble_eq_true rfl) dX11_ahead_35 h15 (fun w13 X35_14 => ?_)
        refine q_iload_n C 1 dX11_ahead_38 rfl rfl ?_
        refine q_iload_n C 2 dX11_ahead_39 rfl rfl ?_
        refine q_chk (fun h18 => ?_)
        refine q_cVL (As := (fun P => [.int v1, .int v2])) C [] (sX8_sharesOf w13 v1 v2) fcX11_189 rfl (fun _ => rfl) ⟨Nat.le_of_ble_eq_true rfl, Nat.le_of_ble_eq_true rfl⟩ ⟨Nat.le_of_ble_eq_true rfl, Nat.le_of_ble_eq_true rfl⟩ (Nat.le_of_ble_eq_true rfl) dX11_ahead_40 h18 (fun w16 X40_17 => ?_)
        exact q_lret C dX11_ahead_43
/-! RecordClaims.purseAhead(II)J -/
abbrev cX11_purseAhead : ByteArray := prog_1_method_28_code
def yX11_purseAhead : MethodName := ⟨RX11, "purseAhead", "(II)J"⟩
theorem dX11_purseAhead_0 : decode cX11_purseAhead 0 = .ok (.aload_n 0, 1) := by decide +kernel
theorem dX11_purseAhead_1 : decode cX11_purseAhead 1 = .ok (.getfield 36, 3) := by decide +kernel
theorem dX11_purseAhead_4 : decode cX11_purseAhead 4 = .ok (.iload_n 1, 1) := by decide +kernel
theorem dX11_purseAhead_5 : decode cX11_purseAhead 5 = .ok (.invokevirtual 182, 3) := by decide +kernel
theorem dX11_purseAhead_8 : decode cX11_purseAhead 8 = .ok (.ifCond .eq 10, 3) := by decide +kernel
theorem dX11_purseAhead_11 : decode cX11_purseAhead 11 = .ok (.iload_n 2, 1) := by decide +kernel
theorem dX11_purseAhead_12 : decode cX11_purseAhead 12 = .ok (.invokestatic 248, 3) := by decide +kernel
theorem dX11_purseAhead_15 : decode cX11_purseAhead 15 = .ok (.ifCond .ne 7, 3) := by decide +kernel
theorem dX11_purseAhead_18 : decode cX11_purseAhead 18 = .ok (.ldc2_w 199, 3) := by decide +kernel
theorem dX11_purseAhead_21 : decode cX11_purseAhead 21 = .ok (.lreturn, 1) := by decide +kernel
theorem dX11_purseAhead_22 : decode cX11_purseAhead 22 = .ok (.aload_n 0, 1) := by decide +kernel
theorem dX11_purseAhead_23 : decode cX11_purseAhead 23 = .ok (.iload_n 2, 1) := by decide +kernel
theorem dX11_purseAhead_24 : decode cX11_purseAhead 24 = .ok (.invokevirtual 251, 3) := by decide +kernel
theorem dX11_purseAhead_27 : decode cX11_purseAhead 27 = .ok (.getfield 195, 3) := by decide +kernel
theorem dX11_purseAhead_30 : decode cX11_purseAhead 30 = .ok (.iload_n 1, 1) := by decide +kernel
theorem dX11_purseAhead_31 : decode cX11_purseAhead 31 = .ok (.laload, 1) := by decide +kernel
theorem dX11_purseAhead_32 : decode cX11_purseAhead 32 = .ok (.lreturn, 1) := by decide +kernel
def fX11_purseAhead_L18 (n : Nat) (X : Mm) : Option (Int64 × Mm) :=
some ((-9223372036854775808 : Int64), X)
def fX11_purseAhead (n : Nat) (r0 : Nat) (v1 : Int32) (v2 : Int32) (X : Mm) : Option (Int64 × Mm) :=
if mT X r0 = 11 then
if mR X r0 4 ≠ 0 then
if mT X (mR X r0 4) = 8 then
bd (fX8_isHolder ((mR X r0 4)) v1 X) fun w3 X5_4 =>
if w3 = 0 then (
fX11_purseAhead_L18 n X5_4
) else (
bd (fX11_isAhead v2 X5_4) fun w6 X12_7 =>
if w6 = 0 then (
fX11_purseAhead_L18 n X12_7
) else (
if mT X12_7 r0 = 11 then
bd (fX11_stateAhead n r0 v2 X12_7) fun w8 X24_9 =>
if mT X24_9 w8 = 8 then
if mR X24_9 w8 1 ≠ 0 then
if mT X24_9 (mR X24_9 w8 1) = 15 then
if q_b X24_9 (mR X24_9 w8 1) v1 then
some ((mJ X24_9 (mR X24_9 w8 1) (v1).toNatClampNeg), X24_9)
else none
else none
else none
else none
else none
)
)
else none
else none
else none
theorem gX11_purseAhead_L18 {E : q_E} {X0 : Mm} (C : Cx E cX11_purseAhead RX11 3 (some .long) (q_rm 6 145 0 0) X0) (n : Nat) (X : Mm) : Sm E (q_fin E q_eL X0 0 0) 0 0 18 [] [] X (fX11_purseAhead_L18 n  X) := by
  unfold fX11_purseAhead_L18
  refine q_ldc2 C dX11_purseAhead_18 fkX11_199 ?_
  exact q_lret C dX11_purseAhead_21
theorem sX11_purseAhead (n : Nat) (r0 : Nat) (v1 : Int32) (v2 : Int32) : q_Ct yX11_purseAhead cX11_purseAhead 3 (some .long) 6 145 0 0 q_eL (fun P => [.ref (P + r0), .int v1, .int v2]) (fX11_purseAhead n r0 v1 v2) := by
  refine q_meth (by decide +kernel) (fun P => Nat.le_of_ble_eq_true rfl) (fun E X C hn => ?_)
  show Sm E (q_fin E q_eL X 0 0) 0 0 0 [(0, .ref (q_P E + r0)), (1, .int v1), (2, .int v2)] [] X _
  unfold fX11_purseAhead
  refine q_aload_n C 0 dX11_purseAhead_0 rfl rfl ?_
  refine q_chk (fun h1 => ?_)
  refine q_chk (fun h2 => ?_)
  refine p_getR C fgX11_36 rfl dX11_purseAhead_1 h1 h2 ?_
  refine q_iload_n C 1 dX11_purseAhead_4 rfl rfl ?_
  refine q_chk (fun h5 => ?_)
  refine q_cVI (As := (fun P => [.int v1])) C [] (sX8_isHolder ((mR X r0 4)) v1) fcX11_182 rfl (fun _ => rfl) ⟨Nat.le_of_ble_eq_true rfl, Nat.le_of_ble_eq_true rfl⟩ ⟨Nat.le_of_ble_eq_true rfl, Nat.le_of_ble_eq_true rfl⟩ (Nat.le_of_ble_eq_true rfl) dX11_purseAhead_5 h5 (fun w3 X5_4 => ?_)
  refine q_if_eq C 18 dX11_purseAhead_8 (by decide) (fun _ => ?_) (fun _ => ?_)
  · refine q_sub C [] [] rfl ?_
    exact gX11_purseAhead_L18 C n X5_4
  · refine q_iload_n C 2 dX11_purseAhead_11 rfl rfl ?_
    refine q_cSI (As := (fun P => [.int v2])) C [] (sX11_isAhead v2) fcX11_248 rfl (fun _ => rfl) ⟨Nat.le_of_ble_eq_true rfl, Nat.le_of_ble_eq_true rfl⟩ ⟨Nat.le_of_ble_eq_true rfl, Nat.le_of_ble_eq_true rfl⟩ (Nat.le_of_ble_eq_true rfl) dX11_purseAhead_12 (fun w6 X12_7 => ?_)
    refine q_if_ne C 22 dX11_purseAhead_15 (by decide) (fun _ => ?_) (fun _ => ?_)
    · refine q_sub C [] [] rfl ?_
      exact gX11_purseAhead_L18 C n X12_7
    · refine q_aload_n C 0 dX11_purseAhead_22 rfl rfl ?_
      refine q_iload_n C 2 dX11_purseAhead_23 rfl rfl ?_
      refine q_chk (fun h10 => ?_)
      refine q_cVR (As := (fun P => [.int v2])) C [] (sX11_stateAhead n r0 v2) fcX11_251 rfl (fun _ => rfl) ⟨Nat.le_of_ble_eq_true rfl, Nat.le_of_ble_eq_true rfl⟩ ⟨Nat.le_of_ble_eq_true rfl, Nat.le_of_ble_eq_true rfl⟩ (Nat.le_of_ble_eq_true rfl) dX11_purseAhead_24 h10 (fun w8 X24_9 => ?_)
      refine q_chk (fun h11 => ?_)
      refine q_chk (fun h12 => ?_)
      refine p_getR C fgX11_195 rfl dX11_purseAhead_27 h11 h12 ?_
      refine q_iload_n C 1 dX11_purseAhead_30 rfl rfl ?_
      refine q_chk (fun h13 => ?_)
      refine q_chk (fun h14 => ?_)
      refine p_lald C dX11_purseAhead_31 h13 h14 ?_
      exact q_lret C dX11_purseAhead_32
