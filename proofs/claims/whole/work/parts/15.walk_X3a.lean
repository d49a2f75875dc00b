/-! RecordClaims$Events.<init>()V -/
abbrev cX3_init : ByteArray := prog_5_method_1_code
def yX3_init : MethodName := ⟨RX3, "<init>", "()V"⟩
theorem dX3_init_0 : decode cX3_init 0 = .ok (.aload_n 0, 1) := by decide +kernel
theorem dX3_init_1 : decode cX3_init 1 = .ok (.invokespecial 3, 3) := by decide +kernel
theorem dX3_init_4 : decode cX3_init 4 = .ok (.aload_n 0, 1) := by decide +kernel
theorem dX3_init_5 : decode cX3_init 5 = .ok (.bipush 8, 2) := by decide +kernel
theorem dX3_init_7 : decode cX3_init 7 = .ok (.newarray .int, 2) := by decide +kernel
theorem dX3_init_9 : decode cX3_init 9 = .ok (.putfield 9, 3) := by decide +kernel
theorem dX3_init_12 : decode cX3_init 12 = .ok (.aload_n 0, 1) := by decide +kernel
theorem dX3_init_13 : decode cX3_init 13 = .ok (.bipush 8, 2) := by decide +kernel
theorem dX3_init_15 : decode cX3_init 15 = .ok (.newarray .int, 2) := by decide +kernel
theorem dX3_init_17 : decode cX3_init 17 = .ok (.putfield 15, 3) := by decide +kernel
theorem dX3_init_20 : decode cX3_init 20 = .ok (.aload_n 0, 1) := by decide +kernel
theorem dX3_init_21 : decode cX3_init 21 = .ok (.bipush 8, 2) := by decide +kernel
theorem dX3_init_23 : decode cX3_init 23 = .ok (.newarray .int, 2) := by decide +kernel
theorem dX3_init_25 : decode cX3_init 25 = .ok (.putfield 18, 3) := by decide +kernel
theorem dX3_init_28 : decode cX3_init 28 = .ok (.aload_n 0, 1) := by decide +kernel
theorem dX3_init_29 : decode cX3_init 29 = .ok (.bipush 8, 2) := by decide +kernel
theorem dX3_init_31 : decode cX3_init 31 = .ok (.newarray .int, 2) := by decide +kernel
theorem dX3_init_33 : decode cX3_init 33 = .ok (.putfield 21, 3) := by decide +kernel
theorem dX3_init_36 : decode cX3_init 36 = .ok (.aload_n 0, 1) := by decide +kernel
theorem dX3_init_37 : decode cX3_init 37 = .ok (.bipush 8, 2) := by decide +kernel
theorem dX3_init_39 : decode cX3_init 39 = .ok (.newarray .int, 2) := by decide +kernel
theorem dX3_init_41 : decode cX3_init 41 = .ok (.putfield 24, 3) := by decide +kernel
theorem dX3_init_44 : decode cX3_init 44 = .ok (.aload_n 0, 1) := by decide +kernel
theorem dX3_init_45 : decode cX3_init 45 = .ok (.bipush 8, 2) := by decide +kernel
theorem dX3_init_47 : decode cX3_init 47 = .ok (.newarray .int, 2) := by decide +kernel
theorem dX3_init_49 : decode cX3_init 49 = .ok (.putfield 27, 3) := by decide +kernel
theorem dX3_init_52 : decode cX3_init 52 = .ok (.aload_n 0, 1) := by decide +kernel
theorem dX3_init_53 : decode cX3_init 53 = .ok (.bipush 8, 2) := by decide +kernel
theorem dX3_init_55 : decode cX3_init 55 = .ok (.newarray .int, 2) := by decide +kernel
theorem dX3_init_57 : decode cX3_init 57 = .ok (.putfield 30, 3) := by decide +kernel
theorem dX3_init_60 : decode cX3_init 60 = .ok (.aload_n 0, 1) := by decide +kernel
theorem dX3_init_61 : decode cX3_init 61 = .ok (.bipush 8, 2) := by decide +kernel
theorem dX3_init_63 : decode cX3_init 63 = .ok (.newarray .int, 2) := by decide +kernel
theorem dX3_init_65 : decode cX3_init 65 = .ok (.putfield 33, 3) := by decide +kernel
theorem dX3_init_68 : decode cX3_init 68 = .ok (.aload_n 0, 1) := by decide +kernel
theorem dX3_init_69 : decode cX3_init 69 = .ok (.bipush 8, 2) := by decide +kernel
theorem dX3_init_71 : decode cX3_init 71 = .ok (.newarray .int, 2) := by decide +kernel
theorem dX3_init_73 : decode cX3_init 73 = .ok (.putfield 36, 3) := by decide +kernel
theorem dX3_init_76 : decode cX3_init 76 = .ok (.aload_n 0, 1) := by decide +kernel
theorem dX3_init_77 : decode cX3_init 77 = .ok (.bipush 8, 2) := by decide +kernel
theorem dX3_init_79 : decode cX3_init 79 = .ok (.newarray .int, 2) := by decide +kernel
theorem dX3_init_81 : decode cX3_init 81 = .ok (.putfield 39, 3) := by decide +kernel
theorem dX3_init_84 : decode cX3_init 84 = .ok (.aload_n 0, 1) := by decide +kernel
theorem dX3_init_85 : decode cX3_init 85 = .ok (.bipush 8, 2) := by decide +kernel
theorem dX3_init_87 : decode cX3_init 87 = .ok (.newarray .int, 2) := by decide +kernel
theorem dX3_init_89 : decode cX3_init 89 = .ok (.putfield 42, 3) := by decide +kernel
theorem dX3_init_92 : decode cX3_init 92 = .ok (.aload_n 0, 1) := by decide +kernel
theorem dX3_init_93 : decode cX3_init 93 = .ok (.bipush 8, 2) := by decide +kernel
theorem dX3_init_95 : decode cX3_init 95 = .ok (.newarray .int, 2) := by decide +kernel
theorem dX3_init_97 : decode cX3_init 97 = .ok (.putfield 45, 3) := by decide +kernel
theorem dX3_init_100 : decode cX3_init 100 = .ok (.aload_n 0, 1) := by decide +kernel
theorem dX3_init_101 : decode cX3_init 101 = .ok (.bipush 8, 2) := by decide +kernel
theorem dX3_init_103 : decode cX3_init 103 = .ok (.newarray .int, 2) := by decide +kernel
theorem dX3_init_105 : decode cX3_init 105 = .ok (.putfield 48, 3) := by decide +kernel
theorem dX3_init_108 : decode cX3_init 108 = .ok (.aload_n 0, 1) := by decide +kernel
theorem dX3_init_109 : decode cX3_init 109 = .ok (.bipush 8, 2) := by decide +kernel
theorem dX3_init_111 : decode cX3_init 111 = .ok (.newarray .int, 2) := by decide +kernel
theorem dX3_init_113 : decode cX3_init 113 = .ok (.putfield 51, 3) := by decide +kernel
theorem dX3_init_116 : decode cX3_init 116 = .ok (.aload_n 0, 1) := by decide +kernel
theorem dX3_init_117 : decode cX3_init 117 = .ok (.bipush 8, 2) := by decide +kernel
theorem dX3_init_119 : decode cX3_init 119 = .ok (.newarray .long, 2) := by decide +kernel
theorem dX3_init_121 : decode cX3_init 121 = .ok (.putfield 54, 3) := by decide +kernel
theorem dX3_init_124 : decode cX3_init 124 = .ok (.aload_n 0, 1) := by decide +kernel
theorem dX3_init_125 : decode cX3_init 125 = .ok (.bipush 8, 2) := by decide +kernel
theorem dX3_init_127 : decode cX3_init 127 = .ok (.newarray .long, 2) := by decide +kernel
theorem dX3_init_129 : decode cX3_init 129 = .ok (.putfield 58, 3) := by decide +kernel
theorem dX3_init_132 : decode cX3_init 132 = .ok (.return_, 1) := by decide +kernel
theorem fwX3_3_oi : Cond.methodLink RX3 3 Lib.objectInit ∈ q_tbl := q_tb 269 (by decide +kernel) rfl
theorem fpX3_9 : q_Fp RX3 9 3 0 (.array .int) true := ⟨RX3, TX3, 17, tyX3, rfl, by decide, inX3, q_tb 270 (by decide +kernel) rfl, tyX3_ok, nmX3, rfl, rfl, fun h => by first | rfl | cases h⟩
theorem fpX3_15 : q_Fp RX3 15 3 1 (.array .int) true := ⟨RX3, TX3, 17, tyX3, rfl, by decide, inX3, q_tb 272 (by decide +kernel) rfl, tyX3_ok, nmX3, rfl, rfl, fun h => by first | rfl | cases h⟩
theorem fpX3_18 : q_Fp RX3 18 3 2 (.array .int) true := ⟨RX3, TX3, 17, tyX3, rfl, by decide, inX3, q_tb 274 (by decide +kernel) rfl, tyX3_ok, nmX3, rfl, rfl, fun h => by first | rfl | cases h⟩
theorem fpX3_21 : q_Fp RX3 21 3 3 (.array .int) true := ⟨RX3, TX3, 17, tyX3, rfl, by decide, inX3, q_tb 276 (by decide +kernel) rfl, tyX3_ok, nmX3, rfl, rfl, fun h => by first | rfl | cases h⟩
theorem fpX3_24 : q_Fp RX3 24 3 4 (.array .int) true := ⟨RX3, TX3, 17, tyX3, rfl, by decide, inX3, q_tb 277 (by decide +kernel) rfl, tyX3_ok, nmX3, rfl, rfl, fun h => by first | rfl | cases h⟩
theorem fpX3_27 : q_Fp RX3 27 3 5 (.array .int) true := ⟨RX3, TX3, 17, tyX3, rfl, by decide, inX3, q_tb 278 (by decide +kernel) rfl, tyX3_ok, nmX3, rfl, rfl, fun h => by first | rfl | cases h⟩
theorem fpX3_30 : q_Fp RX3 30 3 6 (.array .int) true := ⟨RX3, TX3, 17, tyX3, rfl, by decide, inX3, q_tb 280 (by decide +kernel) rfl, tyX3_ok, nmX3, rfl, rfl, fun h => by first | rfl | cases h⟩
theorem fpX3_33 : q_Fp RX3 33 3 7 (.array .int) true := ⟨RX3, TX3, 17, tyX3, rfl, by decide, inX3, q_tb 282 (by decide +kernel) rfl, tyX3_ok, nmX3, rfl, rfl, fun h => by first | rfl | cases h⟩
theorem fpX3_36 : q_Fp RX3 36 3 8 (.array .int) true := ⟨RX3, TX3, 17, tyX3, rfl, by decide, inX3, q_tb 283 (by decide +kernel) rfl, tyX3_ok, nmX3, rfl, rfl, fun h => by first | rfl | cases h⟩
theorem fpX3_39 : q_Fp RX3 39 3 9 (.array .int) true := ⟨RX3, TX3, 17, tyX3, rfl, by decide, inX3, q_tb 285 (by decide +kernel) rfl, tyX3_ok, nmX3, rfl, rfl, fun h => by first | rfl | cases h⟩
theorem fpX3_42 : q_Fp RX3 42 3 10 (.array .int) true := ⟨RX3, TX3, 17, tyX3, rfl, by decide, inX3, q_tb 287 (by decide +kernel) rfl, tyX3_ok, nmX3, rfl, rfl, fun h => by first | rfl | cases h⟩
theorem fpX3_45 : q_Fp RX3 45 3 11 (.array .int) true := ⟨RX3, TX3, 17, tyX3, rfl, by decide, inX3, q_tb 289 (by decide +kernel) rfl, tyX3_ok, nmX3, rfl, rfl, fun h => by first | rfl | cases h⟩
theorem fpX3_48 : q_Fp RX3 48 3 12 (.array .int) true := ⟨RX3, TX3, 17, tyX3, rfl, by decide, inX3, q_tb 291 (by decide +kernel) rfl, tyX3_ok, nmX3, rfl, rfl, fun h => by first | rfl | cases h⟩
theorem fpX3_51 : q_Fp RX3 51 3 13 (.array .int) true := ⟨RX3, TX3, 17, tyX3, rfl, by decide, inX3, q_tb 294 (by decide +kernel) rfl, tyX3_ok, nmX3, rfl, rfl, fun h => by first | rfl | cases h⟩
theorem fpX3_54 : q_Fp RX3 54 3 14 (.array .long) true := ⟨RX3, TX3, 17, tyX3, rfl, by decide, inX3, q_tb 296 (by decide +kernel) rfl, tyX3_ok, nmX3, rfl, rfl, fun h => by first | rfl | cases h⟩
theorem fpX3_58 : q_Fp RX3 58 3 15 (.array .long) true := ⟨RX3, TX3, 17, tyX3, rfl, by decide, inX3, q_tb 298 (by decide +kernel) rfl, tyX3_ok, nmX3, rfl, rfl, fun h => by first | rfl | cases h⟩
def fX3_init (r0 : Nat) (X : Mm) : Option (Unit × Mm) :=
nm (mN X + 1) fun rN2 =>
nm (q_nw X 14 8) fun X7_1 =>
if mT X7_1 r0 = 3 then
if rN2 ≠ 0 then
nm (sR X7_1 r0 0 rN2) fun X9_3 =>
nm (mN X9_3 + 1) fun rN7 =>
nm (q_nw X9_3 14 8) fun X15_6 =>
if mT X15_6 r0 = 3 then
if rN7 ≠ 0 then
nm (sR X15_6 r0 1 rN7) fun X17_8 =>
nm (mN X17_8 + 1) fun rN12 =>
nm (q_nw X17_8 14 8) fun X23_11 =>
if mT X23_11 r0 = 3 then
if rN12 ≠ 0 then
nm (sR X23_11 r0 2 rN12) fun X25_13 =>
nm (mN X25_13 + 1) fun rN17 =>
nm (q_nw X25_13 14 8) fun X31_16 =>
if mT X31_16 r0 = 3 then
if rN17 ≠ 0 then
nm (sR X31_16 r0 3 rN17) fun X33_18 =>
nm (mN X33_18 + 1) fun rN22 =>
nm (q_nw X33_18 14 8) fun X39_21 =>
if mT X39_21 r0 = 3 then
if rN22 ≠ 0 then
nm (sR X39_21 r0 4 rN22) fun X41_23 =>
nm (mN X41_23 + 1) fun rN27 =>
nm (q_nw X41_23 14 8) fun X47_26 =>
if mT X47_26 r0 = 3 then
if rN27 ≠ 0 then
nm (sR X47_26 r0 5 rN27) fun X49_28 =>
nm (mN X49_28 + 1) fun rN32 =>
nm (q_nw X49_28 14 8) fun X55_31 =>
if mT X55_31 r0 = 3 then
if rN32 ≠ 0 then
nm (sR X55_31 r0 6 rN32) fun X57_33 =>
nm (mN X57_33 + 1) fun rN37 =>
nm (q_nw X57_33 14 8) fun X63_36 =>
if mT X63_36 r0 = 3 then
if rN37 ≠ 0 then
nm (sR X63_36 r0 7 rN37) fun X65_38 =>
nm (mN X65_38 + 1) fun rN42 =>
nm (q_nw X65_38 14 8) fun X71_41 =>
if mT X71_41 r0 = 3 then
if rN42 ≠ 0 then
nm (sR X71_41 r0 8 rN42) fun X73_43 =>
nm (mN X73_43 + 1) fun rN47 =>
nm (q_nw X73_43 14 8) fun X79_46 =>
if mT X79_46 r0 = 3 then
if rN47 ≠ 0 then
nm (sR X79_46 r0 9 rN47) fun X81_48 =>
nm (mN X81_48 + 1) fun rN52 =>
nm (q_nw X81_48 14 8) fun X87_51 =>
if mT X87_51 r0 = 3 then
if rN52 ≠ 0 then
nm (sR X87_51 r0 10 rN52) fun X89_53 =>
nm (mN X89_53 + 1) fun rN57 =>
nm (q_nw X89_53 14 8) fun X95_56 =>
if mT X95_56 r0 = 3 then
if rN57 ≠ 0 then
nm (sR X95_56 r0 11 rN57) fun X97_58 =>
nm (mN X97_58 + 1) fun rN62 =>
nm (q_nw X97_58 14 8) fun X103_61 =>
if mT X103_61 r0 = 3 then
if rN62 ≠ 0 then
nm (sR X103_61 r0 12 rN62) fun X105_63 =>
nm (mN X105_63 + 1) fun rN67 =>
nm (q_nw X105_63 14 8) fun X111_66 =>
if mT X111_66 r0 = 3 then
if rN67 ≠ 0 then
nm (sR X111_66 r0 13 rN67) fun X113_68 =>
nm (mN X113_68 + 1) fun rN72 =>
nm (q_nw X113_68 15 8) fun X119_71 =>
if mT X119_71 r0 = 3 then
if rN72 ≠ 0 then
nm (sR X119_71 r0 14 rN72) fun X121_73 =>
nm (mN X121_73 + 1) fun rN77 =>
nm (q_nw X121_73 15 8) fun X127_76 =>
if mT X127_76 r0 = 3 then
if rN77 ≠ 0 then
nm (sR X127_76 r0 15 rN77) fun X129_78 =>
some ((), X129_78)
else none
else none
else none
else none
else none
else none
else none
else none
else none
else none
else none
else none
else none
else none
else none
else none
else none
else none
else none
else none
else none
else none
else none
else none
else none
else none
else none
else none
else none
else none
else none
else none
theorem sX3_init (r0 : Nat) : q_Ct yX3_init cX3_init 1 none 1 20 16 128 q_eV (fun P => [.ref (P + r0)]) (fX3_init r0) := by
  refine q_meth (by decide +kernel) (fun P => Nat.le_of_ble_eq_true rfl) (fun E X C hn => ?_)
  show Sm E (q_fin E q_eV X 16 128) 0 0 0 [(0, .ref (q_P E + r0))] [] X _
  unfold fX3_init
  refine q_aload_n C 0 dX3_init_0 rfl rfl ?_
  refine q_objInit C fwX3_3_oi fw_oi2 fw_oi3 ⟨Nat.le_of_ble_eq_true rfl, Nat.le_of_ble_eq_true rfl⟩ dX3_init_1 ?_
  refine q_aload_n C 0 dX3_init_4 rfl rfl ?_
  refine q_bipush C (8 : Int32) dX3_init_5 rfl ?_
  refine q_newa (atype := .int) (ty := .int) (tg := 14) (N := 8) C rfl faint (Or.inl ⟨rfl, rfl⟩) (by decide) rfl (Nat.le_of_ble_eq_true rfl) ⟨Nat.le_of_ble_eq_true rfl, Nat.le_of_ble_eq_true rfl⟩ dX3_init_7 ?_
  refine q_nmr (fun rN2 => ?_)
  refine q_nmX (fun X7_1 => ?_)
  refine q_chk (fun h4 => ?_)
  refine q_chk (fun h5 => ?_)
  refine p_putF C fpX3_9 hn (fun _ => rfl) (fun _ => rfl) rfl dX3_init_9 h4 h5 ?_
  refine q_nmX (fun X9_3 => ?_)
  refine q_aload_n C 0 dX3_init_12 rfl rfl ?_
  refine q_bipush C (8 : Int32) dX3_init_13 rfl ?_
  refine q_newa (atype := .int) (ty := .int) (tg := 14) (N := 8) C rfl faint (Or.inl ⟨rfl, rfl⟩) (by decide) rfl (Nat.le_of_ble_eq_true rfl) ⟨Nat.le_of_ble_eq_true rfl, Nat.le_of_ble_eq_true rfl⟩ dX3_init_15 ?_
  refine q_nmr (fun rN7 => ?_)
  refine q_nmX (fun X15_6 => ?_)
  refine q_chk (fun h9 => ?_)
  refine q_chk (fun h10 => ?_)
  refine p_putF C fpX3_15 hn (fun _ => rfl) (fun _ => rfl) rfl dX3_init_17 h9 h10 ?_
  refine q_nmX (fun X17_8 => ?_)
  refine q_aload_n C 0 dX3_init_20 rfl rfl ?_
  refine q_bipush C (8 : Int32) dX3_init_21 rfl ?_
  refine q_newa (atype := .int) (ty := .int) (tg := 14) (N := 8) C rfl faint (Or.inl ⟨rfl, rfl⟩) (by decide) rfl (Nat.le_of_ble_eq_true rfl) ⟨Nat.le_of_ble_eq_true rfl, Nat.le_of_ble_eq_true rfl⟩ dX3_init_23 ?_
  refine q_nmr (fun rN12 => ?_)
  refine q_nmX (fun X23_11 => ?_)
  refine q_chk (fun h14 => ?_)
  refine q_chk (fun h15 => ?_)
  refine p_putF C fpX3_18 hn (fun _ => rfl) (fun _ => rfl) rfl dX3_init_25 h14 h15 ?_
  refine q_nmX (fun X25_13 => ?_)
  refine q_aload_n C 0 dX3_init_28 rfl rfl ?_
  refine q_bipush C (8 : Int32) dX3_init_29 rfl ?_
  refine q_newa (atype := .int) (ty := .int) (tg := 14) (N := 8) C rfl faint (Or.inl ⟨rfl, rfl⟩) (by decide) rfl (Nat.le_of_ble_eq_true rfl) ⟨Nat.le_of_ble_eq_true rfl, Nat.le_of_ble_eq_true rfl⟩ dX3_init_31 ?_
  refine q_nmr (fun rN17 => ?_)
  refine q_nmX (fun X31_16 => ?_)
  refine q_chk (fun h19 => ?_)
  refine q_chk (fun h20 => ?_)
  refine p_putF C fpX3_21 hn (fun _ => rfl) (fun _ => rfl) rfl dX3_init_33 h19 h20 ?_
  refine q_nmX (fun X33_18 => ?_)
  refine q_aload_n C 0 dX3_init_36 rfl rfl ?_
  refine q_bipush C (8 : Int32) dX3_init_37 rfl ?_
  refine q_newa (atype := .int) (ty := .int) (tg := 14) (N := 8) C rfl faint (Or.inl ⟨rfl, rfl⟩) (by decide) rfl (Nat.le_of_ble_eq_true rfl) ⟨Nat.le_of_ble_eq_true rfl, Nat.le_of_ble_eq_true rfl⟩ dX3_init_39 ?_
  refine q_nmr (fun rN22 => ?_)
  refine q_nmX (fun X39_21 => ?_)
  refine q_chk (fun h24 => ?_)
  refine q_chk (fun h25 => ?_)
  refine p_putF C fpX3_24 hn (fun _ => rfl) (fun _ => rfl) rfl dX3_init_41 h24 h25 ?_
  refine q_nmX (fun X41_23 => ?_)
  refine q_aload_n C 0 dX3_init_44 rfl rfl ?_
  refine q_bipush C (8 : Int32) dX3_init_45 rfl ?_
  refine q_newa (atype := .int) (ty := .int) (tg := 14) (N := 8) C rfl faint (Or.inl ⟨rfl, rfl⟩) (by decide) rfl (Nat.le_of_ble_eq_true rfl) ⟨Nat.le_of_ble_eq_true rfl, Nat.le_of_ble_eq_true rfl⟩ dX3_init_47 ?_
  refine q_nmr (fun rN27 => ?_)
  refine q_nmX (fun X47_26 => ?_)
  refine q_chk (fun h29 => ?_)
  refine q_chk (fun h30 => ?_)
  refine p_putF C fpX3_27 hn (fun _ => rfl) (fun _ => rfl) rfl dX3_init_49 h29 h30 ?_
  refine q_nmX (fun X49_28 => ?_)
  refine q_aload_n C 0 dX3_init_52 rfl rfl ?_
  refine q_bipush C (8 : Int32) dX3_init_53 rfl ?_
  refine q_newa (atype := .int) (ty := .int) (tg := 14) (N := 8) C rfl faint (Or.inl ⟨rfl, rfl⟩) (by decide) rfl (Nat.le_of_ble_eq_true rfl) ⟨Nat.le_of_ble_eq_true rfl, Nat.le_of_ble_eq_true rfl⟩ dX3_init_55 ?_
  refine q_nmr (fun rN32 => ?_)
  refine q_nmX (fun X55_31 => ?_)
  refine q_chk (fun h34 => ?_)
  refine q_chk (fun h35 => ?_)
  refine p_putF C fpX3_30 hn (fun _ => rfl) (fun _ => rfl) rfl dX3_init_57 h34 h35 ?_
  refine q_nmX (fun X57_33 => ?_)
  refine q_aload_n C 0 dX3_init_60 rfl rfl ?_
  refine q_bipush C (8 : Int32) dX3_init_61 rfl ?_
  refine q_newa (atype := .int) (ty := .int) (tg := 14) (N := 8) C rfl faint (Or.inl ⟨rfl, rfl⟩) (by decide) rfl (Nat.le_of_ble_eq_true rfl) ⟨Nat.le_of_ble_eq_true rfl, Nat.le_of_ble_eq_true rfl⟩ dX3_init_63 ?_
  refine q_nmr (fun rN37 => ?_)
  refine q_nmX (fun X63_36 => ?_)
  refine q_chk (fun h39 => ?_)
  refine q_chk (fun h40 => ?_)
  refine p_putF C fpX3_33 hn (fun _ => rfl) (fun _ => rfl) rfl dX3_init_65 h39 h40 ?_
  refine q_nmX (fun X65_38 => ?_)
  refine q_aload_n C 0 dX3_init_68 rfl rfl ?_
  refine q_bipush C (8 : Int32) dX3_init_69 rfl ?_
  refine q_newa (atype := .int) (ty := .int) (tg := 14) (N := 8) C rfl faint (Or.inl ⟨rfl, rfl⟩) (by decide) rfl (Nat.le_of_ble_eq_true rfl) ⟨Nat.le_of_ble_eq_true rfl, Nat.le_of_ble_eq_true rfl⟩ dX3_init_71 ?_
  refine q_nmr (fun rN42 => ?_)
  refine q_nmX (fun X71_41 => ?_)
  refine q_chk (fun h44 => ?_)
  refine q_chk (fun h45 => ?_)
  refine p_putF C fpX3_36 hn (fun _ => rfl) (fun _ => rfl) rfl dX3_init_73 h44 h45 ?_
  refine q_nmX (fun X73_43 => ?_)
  refine q_aload_n C 0 dX3_init_76 rfl rfl ?_
  refine q_bipush C (8 : Int32) dX3_init_77 rfl ?_
  refine q_newa (atype := .int) (ty := .int) (tg := 14) (N := 8) C rfl faint (Or.inl ⟨rfl, rfl⟩) (by decide) rfl (Nat.le_of_ble_eq_true rfl) ⟨Nat.le_of_ble_eq_true rfl, Nat.le_of_ble_eq_true rfl⟩ dX3_init_79 ?_
  refine q_nmr (fun rN47 => ?_)
  refine q_nmX (fun X79_46 => ?_)
  refine q_chk (fun h49 => ?_)
  refine q_chk (fun h50 => ?_)
  refine p_putF C fpX3_39 hn (fun _ => rfl) (fun _ => rfl) rfl dX3_init_81 h49 h50 ?_
  refine q_nmX (fun X81_48 => ?_)
  refine q_aload_n C 0 dX3_init_84 rfl rfl ?_
  refine q_bipush C (8 : Int32) dX3_init_85 rfl ?_
  refine q_newa (atype := .int) (ty := .int) (tg := 14) (N := 8) C rfl faint (Or.inl ⟨rfl, rfl⟩) (by decide) rfl (Nat.le_of_ble_eq_true rfl) ⟨Nat.le_of_ble_eq_true rfl, Nat.le_of_ble_eq_true rfl⟩ dX3_init_87 ?_
  refine q_nmr (fun rN52 => ?_)
  refine q_nmX (fun X87_51 => ?_)
  refine q_chk (fun h54 => ?_)
  refine q_chk (fun h55 => ?_)
  refine p_putF C fpX3_42 hn (fun _ => rfl) (fun _ => rfl) rfl dX3_init_89 h54 h55 ?_
  refine q_nmX (fun X89_53 => ?_)
  refine q_aload_n C 0 dX3_init_92 rfl rfl ?_
  refine q_bipush C (8 : Int32) dX3_init_93 rfl ?_
  refine q_newa (atype := .int) (ty := .int) (tg := 14) (N := 8) C rfl faint (Or.inl ⟨rfl, rfl⟩) (by decide) rfl (Nat.le_of_ble_eq_true rfl) ⟨Nat.le_of_ble_eq_true rfl, Nat.le_of_ble_eq_true rfl⟩ dX3_init_95 ?_
  refine q_nmr (fun rN57 => ?_)
  refine q_nmX (fun X95_56 => ?_)
  refine q_chk (fun h59 => ?_)
  refine q_chk (fun h60 => ?_)
  refine p_putF C fpX3_45 hn (fun _ => rfl) (fun _ => rfl) rfl dX3_init_97 h59 h60 ?_
  refine q_nmX (fun X97_58 => ?_)
  refine q_aload_n C 0 dX3_init_100 rfl rfl ?_
  refine q_bipush C (8 : Int32) dX3_init_101 rfl ?_
  refine q_newa (atype := .int) (ty := .int) (tg := 14) (N := 8) C rfl faint (Or.inl ⟨rfl, rfl⟩) (by decide) rfl (Nat.le_of_ble_eq_true rfl) ⟨Nat.le_of_ble_eq_true rfl, Nat.le_of_ble_eq_true rfl⟩ dX3_init_103 ?_
  refine q_nmr (fun rN62 => ?_)
  refine q_nmX (fun X103_61 => ?_)
  refine q_chk (fun h64 => ?_)
  refine q_chk (fun h65 => ?_)
  refine p_putF C fpX3_48 hn (fun _ => rfl) (fun _ => rfl) rfl dX3_init_105 h64 h65 ?_
  refine q_nmX (fun X105_63 => ?_)
  refine q_aload_n C 0 dX3_init_108 rfl rfl ?_
  refine q_bipush C (8 : Int32) dX3_init_109 rfl ?_
  refine q_newa (atype := .int) (ty := .int) (tg := 14) (N := 8) C rfl faint (Or.inl ⟨rfl, rfl⟩) (by decide) rfl (Nat.le_of_ble_eq_true rfl) ⟨Nat.le_of_ble_eq_true rfl, Nat.le_of_ble_eq_true rfl⟩ dX3_init_111 ?_
  refine q_nmr (fun rN67 => ?_)
  refine q_nmX (fun X111_66 => ?_)
  refine q_chk (fun h69 => ?_)
  refine q_chk (fun h70 => ?_)
  refine p_putF C fpX3_51 hn (fun _ => rfl) (fun _ => rfl) rfl dX3_init_113 h69 h70 ?_
  refine q_nmX (fun X113_68 => ?_)
  refine q_aload_n C 0 dX3_init_116 rfl rfl ?_
  refine q_bipush C (8 : Int32) dX3_init_117 rfl ?_
  refine q_newa (atype := .long) (ty := .long) (tg := 15) (N := 8) C rfl falong (Or.inr (Or.inl ⟨rfl, rfl⟩)) (by decide) rfl (Nat.le_of_ble_eq_true rfl) ⟨Nat.le_of_ble_eq_true rfl, Nat.le_of_ble_eq_true rfl⟩ dX3_init_119 ?_
  refine q_nmr (fun rN72 => ?_)
  refine q_nmX (fun X119_71 => ?_)
  refine q_chk (fun h74 => ?_)
  refine q_chk (fun h75 => ?_)
  refine p_putF C fpX3_54 hn (fun _ => rfl) (fun _ => rfl) rfl dX3_init_121 h74 h75 ?_
  refine q_nmX (fun X121_73 => ?_)
  refine q_aload_n C 0 dX3_init_124 rfl rfl ?_
  refine q_bipush C (8 : Int32) dX3_init_125 rfl ?_
  refine q_newa (atype := .long) (ty := .long) (tg := 15) (N := 8) C rfl falong (Or.inr (Or.inl ⟨rfl, rfl⟩)) (by decide) rfl (Nat.le_of_ble_eq_true rfl) ⟨Nat.le_of_ble_eq_true rfl, Nat.le_of_ble_eq_true rfl⟩ dX3_init_127 ?_
  refine q_nmr (fun rN77 => ?_)
  refine q_nmX (fun X127_76 => ?_)
  refine q_chk (fun h79 => ?_)
  refine q_chk (fun h80 => ?_)
  refine p_putF C fpX3_58 hn (fun _ => rfl) (fun _ => rfl) rfl dX3_init_129 h79 h80 ?_
  refine q_nmX (fun X129_78 => ?_)
  exact q_vret C dX3_init_132
/-! RecordClaims$Events.isThere(I)Z -/
abbrev cX3_isThere : ByteArray := prog_5_method_2_code
def yX3_isThere : MethodName := ⟨RX3, "isThere", "(I)Z"⟩
theorem dX3_isThere_0 : decode cX3_isThere 0 = .ok (.iload_n 1, 1) := by decide +kernel
theorem dX3_isThere_1 : decode cX3_isThere 1 = .ok (.ifCond .lt 15, 3) := by decide +kernel
theorem dX3_isThere_4 : decode cX3_isThere 4 = .ok (.iload_n 1, 1) := by decide +kernel
theorem dX3_isThere_5 : decode cX3_isThere 5 = .ok (.aload_n 0, 1) := by decide +kernel
theorem dX3_isThere_6 : decode cX3_isThere 6 = .ok (.getfield 61, 3) := by decide +kernel
theorem dX3_isThere_9 : decode cX3_isThere 9 = .ok (.if_icmp .ge 7, 3) := by decide +kernel
theorem dX3_isThere_12 : decode cX3_isThere 12 = .ok (.iconst 1, 1) := by decide +kernel
theorem dX3_isThere_13 : decode cX3_isThere 13 = .ok (.goto 4, 3) := by decide +kernel
theorem dX3_isThere_16 : decode cX3_isThere 16 = .ok (.iconst 0, 1) := by decide +kernel
theorem dX3_isThere_17 : decode cX3_isThere 17 = .ok (.ireturn, 1) := by decide +kernel
theorem fgX3_61 : q_Fg RX3 61 3 16 := q_Fg.of (C := RX3) (T := TX3) (N := 17) rfl (by decide) inX3 300 (by decide +kernel) rfl rfl
def fX3_isThere_L16 (X : Mm) : Option (Int32 × Mm) :=
some (0, X)
def fX3_isThere (r0 : Nat) (v1 : Int32) (X : Mm) : Option (Int32 × Mm) :=
if v1 < 0 then (
fX3_isThere_L16 X
) else (
if mT X r0 = 3 then
if (mI X r0 16) ≤ v1 then (
fX3_isThere_L16 X
) else (
some (1, X)
)
else none
)
theorem gX3_isThere_L16 {E : q_E} {X0 : Mm} (C : Cx E cX3_isThere RX3 2 (some .boolean) (q_rm 0 0 0 0) X0) (X : Mm) : Sm E (q_fin E q_eI X0 0 0) 0 0 16 [] [] X (fX3_isThere_L16  X) := by
  unfold fX3_isThere_L16
  refine q_iconst C (0 : Int32) dX3_isThere_16 rfl ?_
  exact q_zret0 C dX3_isThere_17
theorem sX3_isThere (r0 : Nat) (v1 : Int32) : q_Ct yX3_isThere cX3_isThere 2 (some .boolean) 0 0 0 0 q_eI (fun P => [.ref (P + r0), .int v1]) (fX3_isThere r0 v1) := by
  refine q_meth (by decide +kernel) (fun P => Nat.le_of_ble_eq_true rfl) (fun E X C hn => ?_)
  show Sm E (q_fin E q_eI X 0 0) 0 0 0 [(0, .ref (q_P E + r0)), (1, .int v1)] [] X _
  unfold fX3_isThere
  refine q_iload_n C 1 dX3_isThere_0 rfl rfl ?_
  refine q_if_lt C 16 dX3_isThere_1 (by decide) (fun _ => ?_) (fun _ => ?_)
  · refine q_sub C [] [] rfl ?_
    exact gX3_isThere_L16 C X
  · refine q_iload_n C 1 dX3_isThere_4 rfl rfl ?_
    refine q_aload_n C 0 dX3_isThere_5 rfl rfl ?_
    refine q_chk (fun h1 => ?_)
    refine p_getI C fgX3_61 rfl dX3_isThere_6 h1 ?_
    refine q_icmp_ge C 16 dX3_isThere_9 (by decide) (fun _ => ?_) (fun _ => ?_)
    · refine q_sub C [] [] rfl ?_
      exact gX3_isThere_L16 C X
    · refine q_iconst C (1 : Int32) dX3_isThere_12 rfl ?_
      refine q_goto C 17 dX3_isThere_13 (by decide) ?_
      exact q_zret1 C dX3_isThere_17
/-! RecordClaims$Events.copyFrom(LRecordClaims$Events;)V -/
abbrev cX3_copyFrom : ByteArray := prog_5_method_3_code
def yX3_copyFrom : MethodName := ⟨RX3, "copyFrom", "(LRecordClaims$Events;)V"⟩
theorem dX3_copyFrom_0 : decode cX3_copyFrom 0 = .ok (.aload_n 0, 1) := by decide +kernel
theorem dX3_copyFrom_1 : decode cX3_copyFrom 1 = .ok (.aload_n 1, 1) := by decide +kernel
theorem dX3_copyFrom_2 : decode cX3_copyFrom 2 = .ok (.getfield 61, 3) := by decide +kernel
theorem dX3_copyFrom_5 : decode cX3_copyFrom 5 = .ok (.putfield 61, 3) := by decide +kernel
theorem dX3_copyFrom_8 : decode cX3_copyFrom 8 = .ok (.aload_n 1, 1) := by decide +kernel
theorem dX3_copyFrom_9 : decode cX3_copyFrom 9 = .ok (.getfield 9, 3) := by decide +kernel
theorem dX3_copyFrom_12 : decode cX3_copyFrom 12 = .ok (.iconst 0, 1) := by decide +kernel
theorem dX3_copyFrom_13 : decode cX3_copyFrom 13 = .ok (.aload_n 0, 1) := by decide +kernel
theorem dX3_copyFrom_14 : decode cX3_copyFrom 14 = .ok (.getfield 9, 3) := by decide +kernel
theorem dX3_copyFrom_17 : decode cX3_copyFrom 17 = .ok (.iconst 0, 1) := by decide +kernel
theorem dX3_copyFrom_18 : decode cX3_copyFrom 18 = .ok (.bipush 8, 2) := by decide +kernel
theorem dX3_copyFrom_20 : decode cX3_copyFrom 20 = .ok (.invokestatic 65, 3) := by decide +kernel
theorem dX3_copyFrom_23 : decode cX3_copyFrom 23 = .ok (.aload_n 1, 1) := by decide +kernel
theorem dX3_copyFrom_24 : decode cX3_copyFrom 24 = .ok (.getfield 15, 3) := by decide +kernel
theorem dX3_copyFrom_27 : decode cX3_copyFrom 27 = .ok (.iconst 0, 1) := by decide +kernel
theorem dX3_copyFrom_28 : decode cX3_copyFrom 28 = .ok (.aload_n 0, 1) := by decide +kernel
theorem dX3_copyFrom_29 : decode cX3_copyFrom 29 = .ok (.getfield 15, 3) := by decide +kernel
theorem dX3_copyFrom_32 : decode cX3_copyFrom 32 = .ok (.iconst 0, 1) := by decide +kernel
theorem dX3_copyFrom_33 : decode cX3_copyFrom 33 = .ok (.bipush 8, 2) := by decide +kernel
theorem dX3_copyFrom_35 : decode cX3_copyFrom 35 = .ok (.invokestatic 65, 3) := by decide +kernel
theorem dX3_copyFrom_38 : decode cX3_copyFrom 38 = .ok (.aload_n 1, 1) := by decide +kernel
theorem dX3_copyFrom_39 : decode cX3_copyFrom 39 = .ok (.getfield 18, 3) := by decide +kernel
theorem dX3_copyFrom_42 : decode cX3_copyFrom 42 = .ok (.iconst 0, 1) := by decide +kernel
theorem dX3_copyFrom_43 : decode cX3_copyFrom 43 = .ok (.aload_n 0, 1) := by decide +kernel
theorem dX3_copyFrom_44 : decode cX3_copyFrom 44 = .ok (.getfield 18, 3) := by decide +kernel
theorem dX3_copyFrom_47 : decode cX3_copyFrom 47 = .ok (.iconst 0, 1) := by decide +kernel
theorem dX3_copyFrom_48 : decode cX3_copyFrom 48 = .ok (.bipush 8, 2) := by decide +kernel
theorem dX3_copyFrom_50 : decode cX3_copyFrom 50 = .ok (.invokestatic 65, 3) := by decide +kernel
theorem dX3_copyFrom_53 : decode cX3_copyFrom 53 = .ok (.aload_n 1, 1) := by decide +kernel
theorem dX3_copyFrom_54 : decode cX3_copyFrom 54 = .ok (.getfield 21, 3) := by decide +kernel
theorem dX3_copyFrom_57 : decode cX3_copyFrom 57 = .ok (.iconst 0, 1) := by decide +kernel
theorem dX3_copyFrom_58 : decode cX3_copyFrom 58 = .ok (.aload_n 0, 1) := by decide +kernel
theorem dX3_copyFrom_59 : decode cX3_copyFrom 59 = .ok (.getfield 21, 3) := by decide +kernel
theorem dX3_copyFrom_62 : decode cX3_copyFrom 62 = .ok (.iconst 0, 1) := by decide +kernel
theorem dX3_copyFrom_63 : decode cX3_copyFrom 63 = .ok (.bipush 8, 2) := by decide +kernel
theorem dX3_copyFrom_65 : decode cX3_copyFrom 65 = .ok (.invokestatic 65, 3) := by decide +kernel
theorem dX3_copyFrom_68 : decode cX3_copyFrom 68 = .ok (.aload_n 1, 1) := by decide +kernel
theorem dX3_copyFrom_69 : decode cX3_copyFrom 69 = .ok (.getfield 24, 3) := by decide +kernel
theorem dX3_copyFrom_72 : decode cX3_copyFrom 72 = .ok (.iconst 0, 1) := by decide +kernel
theorem dX3_copyFrom_73 : decode cX3_copyFrom 73 = .ok (.aload_n 0, 1) := by decide +kernel
theorem dX3_copyFrom_74 : decode cX3_copyFrom 74 = .ok (.getfield 24, 3) := by decide +kernel
theorem dX3_copyFrom_77 : decode cX3_copyFrom 77 = .ok (.iconst 0, 1) := by decide +kernel
theorem dX3_copyFrom_78 : decode cX3_copyFrom 78 = .ok (.bipush 8, 2) := by decide +kernel
theorem dX3_copyFrom_80 : decode cX3_copyFrom 80 = .ok (.invokestatic 65, 3) := by decide +kernel
theorem dX3_copyFrom_83 : decode cX3_copyFrom 83 = .ok (.aload_n 1, 1) := by decide +kernel
theorem dX3_copyFrom_84 : decode cX3_copyFrom 84 = .ok (.getfield 27, 3) := by decide +kernel
theorem dX3_copyFrom_87 : decode cX3_copyFrom 87 = .ok (.iconst 0, 1) := by decide +kernel
theorem dX3_copyFrom_88 : decode cX3_copyFrom 88 = .ok (.aload_n 0, 1) := by decide +kernel
theorem dX3_copyFrom_89 : decode cX3_copyFrom 89 = .ok (.getfield 27, 3) := by decide +kernel
theorem dX3_copyFrom_92 : decode cX3_copyFrom 92 = .ok (.iconst 0, 1) := by decide +kernel
theorem dX3_copyFrom_93 : decode cX3_copyFrom 93 = .ok (.bipush 8, 2) := by decide +kernel
theorem dX3_copyFrom_95 : decode cX3_copyFrom 95 = .ok (.invokestatic 65, 3) := by decide +kernel
theorem dX3_copyFrom_98 : decode cX3_copyFrom 98 = .ok (.aload_n 1, 1) := by decide +kernel
theorem dX3_copyFrom_99 : decode cX3_copyFrom 99 = .ok (.getfield 30, 3) := by decide +kernel
theorem dX3_copyFrom_102 : decode cX3_copyFrom 102 = .ok (.iconst 0, 1) := by decide +kernel
theorem dX3_copyFrom_103 : decode cX3_copyFrom 103 = .ok (.aload_n 0, 1) := by decide +kernel
theorem dX3_copyFrom_104 : decode cX3_copyFrom 104 = .ok (.getfield 30, 3) := by decide +kernel
theorem dX3_copyFrom_107 : decode cX3_copyFrom 107 = .ok (.iconst 0, 1) := by decide +kernel
theorem dX3_copyFrom_108 : decode cX3_copyFrom 108 = .ok (.bipush 8, 2) := by decide +kernel
theorem dX3_copyFrom_110 : decode cX3_copyFrom 110 = .ok (.invokestatic 65, 3) := by decide +kernel
theorem dX3_copyFrom_113 : decode cX3_copyFrom 113 = .ok (.aload_n 1, 1) := by decide +kernel
theorem dX3_copyFrom_114 : decode cX3_copyFrom 114 = .ok (.getfield 33, 3) := by decide +kernel
theorem dX3_copyFrom_117 : decode cX3_copyFrom 117 = .ok (.iconst 0, 1) := by decide +kernel
theorem dX3_copyFrom_118 : decode cX3_copyFrom 118 = .ok (.aload_n 0, 1) := by decide +kernel
theorem dX3_copyFrom_119 : decode cX3_copyFrom 119 = .ok (.getfield 33, 3) := by decide +kernel
theorem dX3_copyFrom_122 : decode cX3_copyFrom 122 = .ok (.iconst 0, 1) := by decide +kernel
theorem dX3_copyFrom_123 : decode cX3_copyFrom 123 = .ok (.bipush 8, 2) := by decide +kernel
theorem dX3_copyFrom_125 : decode cX3_copyFrom 125 = .ok (.invokestatic 65, 3) := by decide +kernel
theorem dX3_copyFrom_128 : decode cX3_copyFrom 128 = .ok (.aload_n 1, 1) := by decide +kernel
theorem dX3_copyFrom_129 : decode cX3_copyFrom 129 = .ok (.getfield 36, 3) := by decide +kernel
theorem dX3_copyFrom_132 : decode cX3_copyFrom 132 = .ok (.iconst 0, 1) := by decide +kernel
theorem dX3_copyFrom_133 : decode cX3_copyFrom 133 = .ok (.aload_n 0, 1) := by decide +kernel
theorem dX3_copyFrom_134 : decode cX3_copyFrom 134 = .ok (.getfield 36, 3) := by decide +kernel
theorem dX3_copyFrom_137 : decode cX3_copyFrom 137 = .ok (.iconst 0, 1) := by decide +kernel
theorem dX3_copyFrom_138 : decode cX3_copyFrom 138 = .ok (.bipush 8, 2) := by decide +kernel
theorem dX3_copyFrom_140 : decode cX3_copyFrom 140 = .ok (.invokestatic 65, 3) := by decide +kernel
theorem dX3_copyFrom_143 : decode cX3_copyFrom 143 = .ok (.aload_n 1, 1) := by decide +kernel
theorem dX3_copyFrom_144 : decode cX3_copyFrom 144 = .ok (.getfield 39, 3) := by decide +kernel
theorem dX3_copyFrom_147 : decode cX3_copyFrom 147 = .ok (.iconst 0, 1) := by decide +kernel
theorem dX3_copyFrom_148 : decode cX3_copyFrom 148 = .ok (.aload_n 0, 1) := by decide +kernel
theorem dX3_copyFrom_149 : decode cX3_copyFrom 149 = .ok (.getfield 39, 3) := by decide +kernel
theorem dX3_copyFrom_152 : decode cX3_copyFrom 152 = .ok (.iconst 0, 1) := by decide +kernel
theorem dX3_copyFrom_153 : decode cX3_copyFrom 153 = .ok (.bipush 8, 2) := by decide +kernel
theorem dX3_copyFrom_155 : decode cX3_copyFrom 155 = .ok (.invokestatic 65, 3) := by decide +kernel
theorem dX3_copyFrom_158 : decode cX3_copyFrom 158 = .ok (.aload_n 1, 1) := by decide +kernel
theorem dX3_copyFrom_159 : decode cX3_copyFrom 159 = .ok (.getfield 42, 3) := by decide +kernel
theorem dX3_copyFrom_162 : decode cX3_copyFrom 162 = .ok (.iconst 0, 1) := by decide +kernel
theorem dX3_copyFrom_163 : decode cX3_copyFrom 163 = .ok (.aload_n 0, 1) := by decide +kernel
theorem dX3_copyFrom_164 : decode cX3_copyFrom 164 = .ok (.getfield 42, 3) := by decide +kernel
theorem dX3_copyFrom_167 : decode cX3_copyFrom 167 = .ok (.iconst 0, 1) := by decide +kernel
theorem dX3_copyFrom_168 : decode cX3_copyFrom 168 = .ok (.bipush 8, 2) := by decide +kernel
theorem dX3_copyFrom_170 : decode cX3_copyFrom 170 = .ok (.invokestatic 65, 3) := by decide +kernel
theorem dX3_copyFrom_173 : decode cX3_copyFrom 173 = .ok (.aload_n 1, 1) := by decide +kernel
theorem dX3_copyFrom_174 : decode cX3_copyFrom 174 = .ok (.getfield 45, 3) := by decide +kernel
theorem dX3_copyFrom_177 : decode cX3_copyFrom 177 = .ok (.iconst 0, 1) := by decide +kernel
theorem dX3_copyFrom_178 : decode cX3_copyFrom 178 = .ok (.aload_n 0, 1) := by decide +kernel
theorem dX3_copyFrom_179 : decode cX3_copyFrom 179 = .ok (.getfield 45, 3) := by decide +kernel
theorem dX3_copyFrom_182 : decode cX3_copyFrom 182 = .ok (.iconst 0, 1) := by decide +kernel
theorem dX3_copyFrom_183 : decode cX3_copyFrom 183 = .ok (.bipush 8, 2) := by decide +kernel
theorem dX3_copyFrom_185 : decode cX3_copyFrom 185 = .ok (.invokestatic 65, 3) := by decide +kernel
theorem dX3_copyFrom_188 : decode cX3_copyFrom 188 = .ok (.aload_n 1, 1) := by decide +kernel
theorem dX3_copyFrom_189 : decode cX3_copyFrom 189 = .ok (.getfield 48, 3) := by decide +kernel
theorem dX3_copyFrom_192 : decode cX3_copyFrom 192 = .ok (.iconst 0, 1) := by decide +kernel
theorem dX3_copyFrom_193 : decode cX3_copyFrom 193 = .ok (.aload_n 0, 1) := by decide +kernel
theorem dX3_copyFrom_194 : decode cX3_copyFrom 194 = .ok (.getfield 48, 3) := by decide +kernel
theorem dX3_copyFrom_197 : decode cX3_copyFrom 197 = .ok (.iconst 0, 1) := by decide +kernel
theorem dX3_copyFrom_198 : decode cX3_copyFrom 198 = .ok (.bipush 8, 2) := by decide +kernel
theorem dX3_copyFrom_200 : decode cX3_copyFrom 200 = .ok (.invokestatic 65, 3) := by decide +kernel
theorem dX3_copyFrom_203 : decode cX3_copyFrom 203 = .ok (.aload_n 1, 1) := by decide +kernel
theorem dX3_copyFrom_204 : decode cX3_copyFrom 204 = .ok (.getfield 51, 3) := by decide +kernel
theorem dX3_copyFrom_207 : decode cX3_copyFrom 207 = .ok (.iconst 0, 1) := by decide +kernel
theorem dX3_copyFrom_208 : decode cX3_copyFrom 208 = .ok (.aload_n 0, 1) := by decide +kernel
theorem dX3_copyFrom_209 : decode cX3_copyFrom 209 = .ok (.getfield 51, 3) := by decide +kernel
theorem dX3_copyFrom_212 : decode cX3_copyFrom 212 = .ok (.iconst 0, 1) := by decide +kernel
theorem dX3_copyFrom_213 : decode cX3_copyFrom 213 = .ok (.bipush 8, 2) := by decide +kernel
theorem dX3_copyFrom_215 : decode cX3_copyFrom 215 = .ok (.invokestatic 65, 3) := by decide +kernel
theorem dX3_copyFrom_218 : decode cX3_copyFrom 218 = .ok (.aload_n 1, 1) := by decide +kernel
theorem dX3_copyFrom_219 : decode cX3_copyFrom 219 = .ok (.getfield 54, 3) := by decide +kernel
theorem dX3_copyFrom_222 : decode cX3_copyFrom 222 = .ok (.iconst 0, 1) := by decide +kernel
theorem dX3_copyFrom_223 : decode cX3_copyFrom 223 = .ok (.aload_n 0, 1) := by decide +kernel
theorem dX3_copyFrom_224 : decode cX3_copyFrom 224 = .ok (.getfield 54, 3) := by decide +kernel
theorem dX3_copyFrom_227 : decode cX3_copyFrom 227 = .ok (.iconst 0, 1) := by decide +kernel
theorem dX3_copyFrom_228 : decode cX3_copyFrom 228 = .ok (.bipush 8, 2) := by decide +kernel
theorem dX3_copyFrom_230 : decode cX3_copyFrom 230 = .ok (.invokestatic 65, 3) := by decide +kernel
theorem dX3_copyFrom_233 : decode cX3_copyFrom 233 = .ok (.aload_n 1, 1) := by decide +kernel
theorem dX3_copyFrom_234 : decode cX3_copyFrom 234 = .ok (.getfield 58, 3) := by decide +kernel
theorem dX3_copyFrom_237 : decode cX3_copyFrom 237 = .ok (.iconst 0, 1) := by decide +kernel
theorem dX3_copyFrom_238 : decode cX3_copyFrom 238 = .ok (.aload_n 0, 1) := by decide +kernel
theorem dX3_copyFrom_239 : decode cX3_copyFrom 239 = .ok (.getfield 58, 3) := by decide +kernel
theorem dX3_copyFrom_242 : decode cX3_copyFrom 242 = .ok (.iconst 0, 1) := by decide +kernel
theorem dX3_copyFrom_243 : decode cX3_copyFrom 243 = .ok (.bipush 8, 2) := by decide +kernel
theorem dX3_copyFrom_245 : decode cX3_copyFrom 245 = .ok (.invokestatic 65, 3) := by decide +kernel
theorem dX3_copyFrom_248 : decode cX3_copyFrom 248 = .ok (.return_, 1) := by decide +kernel
theorem fpX3_61 : q_Fp RX3 61 3 16 .int false := ⟨RX3, TX3, 17, tyX3, rfl, by decide, inX3, q_tb 300 (by decide +kernel) rfl, tyX3_ok, nmX3, rfl, rfl, fun h => by first | rfl | cases h⟩
theorem fgX3_9 : q_Fg RX3 9 3 0 := q_Fg.of (C := RX3) (T := TX3) (N := 17) rfl (by decide) inX3 270 (by decide +kernel) rfl rfl
theorem fwX3_65_ac : Cond.methodLink RX3 65 arraycopyName ∈ q_tbl := q_tb 780 (by decide +kernel) rfl
theorem fgX3_15 : q_Fg RX3 15 3 1 := q_Fg.of (C := RX3) (T := TX3) (N := 17) rfl (by decide) inX3 272 (by decide +kernel) rfl rfl
theorem fgX3_18 : q_Fg RX3 18 3 2 := q_Fg.of (C := RX3) (T := TX3) (N := 17) rfl (by decide) inX3 274 (by decide +kernel) rfl rfl
theorem fgX3_21 : q_Fg RX3 21 3 3 := q_Fg.of (C := RX3) (T := TX3) (N := 17) rfl (by decide) inX3 276 (by decide +kernel) rfl rfl
theorem fgX3_24 : q_Fg RX3 24 3 4 := q_Fg.of (C := RX3) (T := TX3) (N := 17) rfl (by decide) inX3 277 (by decide +kernel) rfl rfl
theorem fgX3_27 : q_Fg RX3 27 3 5 := q_Fg.of (C := RX3) (T := TX3) (N := 17) rfl (by decide) inX3 278 (by decide +kernel) rfl rfl
theorem fgX3_30 : q_Fg RX3 30 3 6 := q_Fg.of (C := RX3) (T := TX3) (N := 17) rfl (by decide) inX3 280 (by decide +kernel) rfl rfl
theorem fgX3_33 : q_Fg RX3 33 3 7 := q_Fg.of (C := RX3) (T := TX3) (N := 17) rfl (by decide) inX3 282 (by decide +kernel) rfl rfl
theorem fgX3_36 : q_Fg RX3 36 3 8 := q_Fg.of (C := RX3) (T := TX3) (N := 17) rfl (by decide) inX3 283 (by decide +kernel) rfl rfl
theorem fgX3_39 : q_Fg RX3 39 3 9 := q_Fg.of (C := RX3) (T := TX3) (N := 17) rfl (by decide) inX3 285 (by decide +kernel) rfl rfl
theorem fgX3_42 : q_Fg RX3 42 3 10 := q_Fg.of (C := RX3) (T := TX3) (N := 17) rfl (by decide) inX3 287 (by decide +kernel) rfl rfl
theorem fgX3_45 : q_Fg RX3 45 3 11 := q_Fg.of (C := RX3) (T := TX3) (N := 17) rfl (by decide) inX3 289 (by decide +kernel) rfl rfl
theorem fgX3_48 : q_Fg RX3 48 3 12 := q_Fg.of (C := RX3) (T := TX3) (N := 17) rfl (by decide) inX3 291 (by decide +kernel) rfl rfl
theorem fgX3_51 : q_Fg RX3 51 3 13 := q_Fg.of (C := RX3) (T := TX3) (N := 17) rfl (by decide) inX3 294 (by decide +kernel) rfl rfl
theorem fgX3_54 : q_Fg RX3 54 3 14 := q_Fg.of (C := RX3) (T := TX3) (N := 17) rfl (by decide) inX3 296 (by decide +kernel) rfl rfl
theorem fgX3_58 : q_Fg RX3 58 3 15 := q_Fg.of (C := RX3) (T := TX3) (N := 17) rfl (by decide) inX3 298 (by decide +kernel) rfl rfl
def fX3_copyFrom (r0 : Nat) (r1 : Nat) (X : Mm) : Option (Unit × Mm) :=
if mT X r1 = 3 then
if mT X r0 = 3 then
nm (sI X r0 16 (mI X r1 16)) fun X5_2 =>
if mT X5_2 r1 = 3 then
if mR X5_2 r1 0 ≠ 0 then
if mT X5_2 r0 = 3 then
if mR X5_2 r0 0 ≠ 0 then
if q_cpok X5_2 (mR X5_2 r1 0) (mR X5_2 r0 0) 14 (0 : Int32) (0 : Int32) (8 : Int32) then
nm (wI X5_2 (mR X5_2 r0 0) (va_cpy (mI X5_2 (mR X5_2 r1 0)) (mI X5_2 (mR X5_2 r0 0)) ((0 : Int32)).toNatClampNeg ((0 : Int32)).toNatClampNeg ((8 : Int32)).toNatClampNeg)) fun X20_8 =>
if mT X20_8 r1 = 3 then
if mR X20_8 r1 1 ≠ 0 then
if mT X20_8 r0 = 3 then
if mR X20_8 r0 1 ≠ 0 then
if q_cpok X20_8 (mR X20_8 r1 1) (mR X20_8 r0 1) 14 (0 : Int32) (0 : Int32) (8 : Int32) then
nm (wI X20_8 (mR X20_8 r0 1) (va_cpy (mI X20_8 (mR X20_8 r1 1)) (mI X20_8 (mR X20_8 r0 1)) ((0 : Int32)).toNatClampNeg ((0 : Int32)).toNatClampNeg ((8 : Int32)).toNatClampNeg)) fun X35_14 =>
if mT X35_14 r1 = 3 then
if mR X35_14 r1 2 ≠ 0 then
if mT X35_14 r0 = 3 then
if mR X35_14 r0 2 ≠ 0 then
if q_cpok X35_14 (mR X35_14 r1 2) (mR X35_14 r0 2) 14 (0 : Int32) (0 : Int32) (8 : Int32) then
nm (wI X35_14 (mR X35_14 r0 2) (va_cpy (mI X35_14 (mR X35_14 r1 2)) (mI X35_14 (mR X35_14 r0 2)) ((0 : Int32)).toNatClampNeg ((0 : Int32)).toNatClampNeg ((8 : Int32)).toNatClampNeg)) fun X50_20 =>
if mT X50_20 r1 = 3 then
if mR X50_20 r1 3 ≠ 0 then
if mT X50_20 r0 = 3 then
if mR X50_20 r0 3 ≠ 0 then
if q_cpok X50_20 (mR X50_20 r1 3) (mR X50_20 r0 3) 14 (0 : Int32) (0 : Int32) (8 : Int32) then
nm (wI X50_20 (mR X50_20 r0 3) (va_cpy (mI X50_20 (mR X50_20 r1 3)) (mI X50_20 (mR X50_20 r0 3)) ((0 : Int32)).toNatClampNeg ((0 : Int32)).toNatClampNeg ((8 : Int32)).toNatClampNeg)) fun X65_26 =>
if mT X65_26 r1 = 3 then
if mR X65_26 r1 4 ≠ 0 then
if mT X65_26 r0 = 3 then
if mR X65_26 r0 4 ≠ 0 then
if q_cpok X65_26 (mR X65_26 r1 4) (mR X65_26 r0 4) 14 (0 : Int32) (0 : Int32) (8 : Int32) then
nm (wI X65_26 (mR X65_26 r0 4) (va_cpy (mI X65_26 (mR X65_26 r1 4)) (mI X65_26 (mR X65_26 r0 4)) ((0 : Int32)).toNatClampNeg ((0 : Int32)).toNatClampNeg ((8 : Int32)).toNatClampNeg)) fun X80_32 =>
if mT X80_32 r1 = 3 then
if mR X80_32 r1 5 ≠ 0 then
if mT X80_32 r0 = 3 then
if mR X80_32 r0 5 ≠ 0 then
if q_cpok X80_32 (mR X80_32 r1 5) (mR X80_32 r0 5) 14 (0 : Int32) (0 : Int32) (8 : Int32) then
nm (wI X80_32 (mR X80_32 r0 5) (va_cpy (mI X80_32 (mR X80_32 r1 5)) (mI X80_32 (mR X80_32 r0 5)) ((0 : Int32)).toNatClampNeg ((0 : Int32)).toNatClampNeg ((8 : Int32)).toNatClampNeg)) fun X95_38 =>
if mT X95_38 r1 = 3 then
if mR X95_38 r1 6 ≠ 0 then
if mT X95_38 r0 = 3 then
if mR X95_38 r0 6 ≠ 0 then
if q_cpok X95_38 (mR X95_38 r1 6) (mR X95_38 r0 6) 14 (0 : Int32) (0 : Int32) (8 : Int32) then
nm (wI X95_38 (mR X95_38 r0 6) (va_cpy (mI X95_38 (mR X95_38 r1 6)) (mI X95_38 (mR X95_38 r0 6)) ((0 : Int32)).toNatClampNeg ((0 : Int32)).toNatClampNeg ((8 : Int32)).toNatClampNeg)) fun X110_44 =>
if mT X110_44 r1 = 3 then
if mR X110_44 r1 7 ≠ 0 then
if mT X110_44 r0 = 3 then
if mR X110_44 r0 7 ≠ 0 then
if q_cpok X110_44 (mR X110_44 r1 7) (mR X110_44 r0 7) 14 (0 : Int32) (0 : Int32) (8 : Int32) then
nm (wI X110_44 (mR X110_44 r0 7) (va_cpy (mI X110_44 (mR X110_44 r1 7)) (mI X110_44 (mR X110_44 r0 7)) ((0 : Int32)).toNatClampNeg ((0 : Int32)).toNatClampNeg ((8 : Int32)).toNatClampNeg)) fun X125_50 =>
if mT X125_50 r1 = 3 then
if mR X125_50 r1 8 ≠ 0 then
if mT X125_50 r0 = 3 then
if mR X125_50 r0 8 ≠ 0 then
if q_cpok X125_50 (mR X125_50 r1 8) (mR X125_50 r0 8) 14 (0 : Int32) (0 : Int32) (8 : Int32) then
nm (wI X125_50 (mR X125_50 r0 8) (va_cpy (mI X125_50 (mR X125_50 r1 8)) (mI X125_50 (mR X125_50 r0 8)) ((0 : Int32)).toNatClampNeg ((0 : Int32)).toNatClampNeg ((8 : Int32)).toNatClampNeg)) fun X140_56 =>
if mT X140_56 r1 = 3 then
if mR X140_56 r1 9 ≠ 0 then
if mT X140_56 r0 = 3 then
if mR X140_56 r0 9 ≠ 0 then
if q_cpok X140_56 (mR X140_56 r1 9) (mR X140_56 r0 9) 14 (0 : Int32) (0 : Int32) (8 : Int32) then
nm (wI X140_56 (mR X140_56 r0 9) (va_cpy (mI X140_56 (mR X140_56 r1 9)) (mI X140_56 (mR X140_56 r0 9)) ((0 : Int32)).toNatClampNeg ((0 : Int32)).toNatClampNeg ((8 : Int32)).toNatClampNeg)) fun X155_62 =>
if mT X155_62 r1 = 3 then
if mR X155_62 r1 10 ≠ 0 then
if mT X155_62 r0 = 3 then
if mR X155_62 r0 10 ≠ 0 then
if q_cpok X155_62 (mR X155_62 r1 10) (mR X155_62 r0 10) 14 (0 : Int32) (0 : Int32) (8 : Int32) then
nm (wI X155_62 (mR X155_62 r0 10) (va_cpy (mI X155_62 (mR X155_62 r1 10)) (mI X155_62 (mR X155_62 r0 10)) ((0 : Int32)).toNatClampNeg ((0 : Int32)).toNatClampNeg ((8 : Int32)).toNatClampNeg)) fun X170_68 =>
if mT X170_68 r1 = 3 then
if mR X170_68 r1 11 ≠ 0 then
if mT X170_68 r0 = 3 then
if mR X170_68 r0 11 ≠ 0 then
if q_cpok X170_68 (mR X170_68 r1 11) (mR X170_68 r0 11) 14 (0 : Int32) (0 : Int32) (8 : Int32) then
nm (wI X170_68 (mR X170_68 r0 11) (va_cpy (mI X170_68 (mR X170_68 r1 11)) (mI X170_68 (mR X170_68 r0 11)) ((0 : Int32)).toNatClampNeg ((0 : Int32)).toNatClampNeg ((8 : Int32)).toNatClampNeg)) fun X185_74 =>
if mT X185_74 r1 = 3 then
if mR X185_74 r1 12 ≠ 0 then
if mT X185_74 r0 = 3 then
if mR X185_74 r0 12 ≠ 0 then
if q_cpok X185_74 (mR X185_74 r1 12) (mR X185_74 r0 12) 14 (0 : Int32) (0 : Int32) (8 : Int32) then
nm (wI X185_74 (mR X185_74 r0 12) (va_cpy (mI X185_74 (mR X185_74 r1 12)) (mI X185_74 (mR X185_74 r0 12)) ((0 : Int32)).toNatClampNeg ((0 : Int32)).toNatClampNeg ((8 : Int32)).toNatClampNeg)) fun X200_80 =>
if mT X200_80 r1 = 3 then
if mR X200_80 r1 13 ≠ 0 then
if mT X200_80 r0 = 3 then
if mR X200_80 r0 13 ≠ 0 then
if q_cpok X200_80 (mR X200_80 r1 13) (mR X200_80 r0 13) 14 (0 : Int32) (0 : Int32) (8 : Int32) then
nm (wI X200_80 (mR X200_80 r0 13) (va_cpy (mI X200_80 (mR X200_80 r1 13)) (mI X200_80 (mR X200_80 r0 13)) ((0 : Int32)).toNatClampNeg ((0 : Int32)).toNatClampNeg ((8 : Int32)).toNatClampNeg)) fun X215_86 =>
if mT X215_86 r1 = 3 then
if mR X215_86 r1 14 ≠ 0 then
if mT X215_86 r0 = 3 then
if mR X215_86 r0 14 ≠ 0 then
if q_cpok X215_86 (mR X215_86 r1 14) (mR X215_86 r0 14) 15 (0 : Int32) (0 : Int32) (8 : Int32) then
nm (wJ X215_86 (mR X215_86 r0 14) (va_cpy (mJ X215_86 (mR X215_86 r1 14)) (mJ X215_86 (mR X215_86 r0 14)) ((0 : Int32)).toNatClampNeg ((0 : Int32)).toNatClampNeg ((8 : Int32)).toNatClampNeg)) fun X230_92 =>
if mT X230_92 r1 = 3 then
if mR X230_92 r1 15 ≠ 0 then
if mT X230_92 r0 = 3 then
if mR X230_92 r0 15 ≠ 0 then
if q_cpok X230_92 (mR X230_92 r1 15) (mR X230_92 r0 15) 15 (0 : Int32) (0 : Int32) (8 : Int32) then
nm (wJ X230_92 (mR X230_92 r0 15) (va_cpy (mJ X230_92 (mR X230_92 r1 15)) (mJ X230_92 (mR X230_92 r0 15)) ((0 : Int32)).toNatClampNeg ((0 : Int32)).toNatClampNeg ((8 : Int32)).toNatClampNeg)) fun X245_98 =>
some ((), X245_98)
else none
else none
else none
else none
else none
else none
else none
else none
else none
else none
else none
else none
else none
else none
else none
else none
else none
else none
else none
else none
else none
else none
else none
else none
else none
else none
else none
else none
else none
else none
else none
else none
else none
else none
else none
else none
else none
else none
else none
else none
else none
else none
else none
else none
else none
else none
else none
else none
else none
else none
else none
else none
else none
else none
else none
else none
else none
else none
else none
else none
else none
else none
else none
else none
else none
else none
else none
else none
else none
else none
else none
else none
else none
else none
else none
else none
else none
else none
else none
else none
else none
else none
theorem sX3_copyFrom (r0 : Nat) (r1 : Nat) : q_Ct yX3_copyFrom cX3_copyFrom 2 none 1 26 0 0 q_eV (fun P => [.ref (P + r0), .ref (P + r1)]) (fX3_copyFrom r0 r1) := by
  refine q_meth (by decide +kernel) (fun P => Nat.le_of_ble_eq_true rfl) (fun E X C hn => ?_)
  show Sm E (q_fin E q_eV X 0 0) 0 0 0 [(0, .ref (q_P E + r0)), (1, .ref (q_P E + r1))] [] X _
  unfold fX3_copyFrom
  refine q_aload_n C 0 dX3_copyFrom_0 rfl rfl ?_
  refine q_aload_n C 1 dX3_copyFrom_1 rfl rfl ?_
  refine q_chk (fun h1 => ?_)
  refine p_getI C fgX3_61 rfl dX3_copyFrom_2 h1 ?_
  refine q_chk (fun h3 => ?_)
  refine p_putI C fpX3_61 rfl dX3_copyFrom_5 h3 ?_
  refine q_nmX (fun X5_2 => ?_)
  refine q_aload_n C 1 dX3_copyFrom_8 rfl rfl ?_
  refine q_chk (fun h4 => ?_)
  refine q_chk (fun h5 => ?_)
  refine p_getR C fgX3_9 rfl dX3_copyFrom_9 h4 h5 ?_
  refine q_iconst C (0 : Int32) dX3_copyFrom_12 rfl ?_
  refine q_aload_n C 0 dX3_copyFrom_13 rfl rfl ?_
  refine q_chk (fun h6 => ?_)
  refine q_chk (fun h7 => ?_)
  refine p_getR C fgX3_9 rfl dX3_copyFrom_14 h6 h7 ?_
  refine q_iconst C (0 : Int32) dX3_copyFrom_17 rfl ?_
  refine q_bipush C (8 : Int32) dX3_copyFrom_18 rfl ?_
  refine q_chk (fun h9 => ?_)
  refine p_cpI C fwX3_65_ac fw_ac2 fw_ac3 fw_ac4 ⟨Nat.le_of_ble_eq_true rfl, Nat.le_of_ble_eq_true rfl⟩ dX3_copyFrom_20 h9 ?_
  refine q_nmX (fun X20_8 => ?_)
  refine q_aload_n C 1 dX3_copyFrom_23 rfl rfl ?_
  refine q_chk (fun h10 => ?_)
  refine q_chk (fun h11 => ?_)
  refine p_getR C fgX3_15 rfl dX3_copyFrom_24 h10 h11 ?_
  refine q_iconst C (0 : Int32) dX3_copyFrom_27 rfl ?_
  refine q_aload_n C 0 dX3_copyFrom_28 rfl rfl ?_
  refine q_chk (fun h12 => ?_)
  refine q_chk (fun h13 => ?_)
  refine p_getR C fgX3_15 rfl dX3_copyFrom_29 h12 h13 ?_
  refine q_iconst C (0 : Int32) dX3_copyFrom_32 rfl ?_
  refine q_bipush C (8 : Int32) dX3_copyFrom_33 rfl ?_
  refine q_chk (fun h15 => ?_)
  refine p_cpI C fwX3_65_ac fw_ac2 fw_ac3 fw_ac4 ⟨Nat.le_of_ble_eq_true rfl, Nat.le_of_ble_eq_true rfl⟩ dX3_copyFrom_35 h15 ?_
  refine q_nmX (fun X35_14 => ?_)
  refine q_aload_n C 1 dX3_copyFrom_38 rfl rfl ?_
  refine q_chk (fun h16 => ?_)
  refine q_chk (fun h17 => ?_)
  refine p_getR C fgX3_18 rfl dX3_copyFrom_39 h16 h17 ?_
  refine q_iconst C (0 : Int32) dX3_copyFrom_42 rfl ?_
  refine q_aload_n C 0 dX3_copyFrom_43 rfl rfl ?_
  refine q_chk (fun h18 => ?_)
  refine q_chk (fun h19 => ?_)
  refine p_getR C fgX3_18 rfl dX3_copyFrom_44 h18 h19 ?_
  refine q_iconst C (0 : Int32) dX3_copyFrom_47 rfl ?_
  refine q_bipush C (8 : Int32) dX3_copyFrom_48 rfl ?_
  refine q_chk (fun h21 => ?_)
  refine p_cpI C fwX3_65_ac fw_ac2 fw_ac3 fw_ac4 ⟨Nat.le_of_ble_eq_true rfl, Nat.le_of_ble_eq_true rfl⟩ dX3_copyFrom_50 h21 ?_
  refine q_nmX (fun X50_20 => ?_)
  refine q_aload_n C 1 dX3_copyFrom_53 rfl rfl ?_
  refine q_chk (fun h22 => ?_)
  refine q_chk (fun h23 => ?_)
  refine p_getR C fgX3_21 rfl dX3_copyFrom_54 h22 h23 ?_
  refine q_iconst C (0 : Int32) dX3_copyFrom_57 rfl ?_
  refine q_aload_n C 0 dX3_copyFrom_58 rfl rfl ?_
  refine q_chk (fun h24 => ?_)
  refine q_chk (fun h25 => ?_)
  refine p_getR C fgX3_21 rfl dX3_copyFrom_59 h24 h25 ?_
  refine q_iconst C (0 : Int32) dX3_copyFrom_62 rfl ?_
  refine q_bipush C (8 : Int32) dX3_copyFrom_63 rfl ?_
  refine q_chk (fun h27 => ?_)
  refine p_cpI C fwX3_65_ac fw_ac2 fw_ac3 fw_ac4 ⟨Nat.le_of_ble_eq_true rfl, Nat.le_of_ble_eq_true rfl⟩ dX3_copyFrom_65 h27 ?_
  refine q_nmX (fun X65_26 => ?_)
  refine q_aload_n C 1 dX3_copyFrom_68 rfl rfl ?_
  refine q_chk (fun h28 => ?_)
  refine q_chk (fun h29 => ?_)
  refine p_getR C fgX3_24 rfl dX3_copyFrom_69 h28 h29 ?_
  refine q_iconst C (0 : Int32) dX3_copyFrom_72 rfl ?_
  refine q_aload_n C 0 dX3_copyFrom_73 rfl rfl ?_
  refine q_chk (fun h30 => ?_)
  refine q_chk (fun h31 => ?_)
  refine p_getR C fgX3_24 rfl dX3_copyFrom_74 h30 h31 ?_
  refine q_iconst C (0 : Int32) dX3_copyFrom_77 rfl ?_
  refine q_bipush C (8 : Int32) dX3_copyFrom_78 rfl ?_
  refine q_chk (fun h33 => ?_)
  refine p_cpI C fwX3_65_ac fw_ac2 fw_ac3 fw_ac4 ⟨Nat.le_of_ble_eq_true rfl, Nat.le_of_ble_eq_true rfl⟩ dX3_copyFrom_80 h33 ?_
  refine q_nmX (fun X80_32 => ?_)
  refine q_aload_n C 1 dX3_copyFrom_83 rfl rfl ?_
  refine q_chk (fun h34 => ?_)
  refine q_chk (fun h35 => ?_)
  refine p_getR C fgX3_27 rfl dX3_copyFrom_84 h34 h35 ?_
  refine q_iconst C (0 : Int32) dX3_copyFrom_87 rfl ?_
  refine q_aload_n C 0 dX3_copyFrom_88 rfl rfl ?_
  refine q_chk (fun h36 => ?_)
  refine q_chk (fun h37 => ?_)
  refine p_getR C fgX3_27 rfl dX3_copyFrom_89 h36 h37 ?_
  refine q_iconst C (0 : Int32) dX3_copyFrom_92 rfl ?_
  refine q_bipush C (8 : Int32) dX3_copyFrom_93 rfl ?_
  refine q_chk (fun h39 => ?_)
  refine p_cpI C fwX3_65_ac fw_ac2 fw_ac3 fw_ac4 ⟨Nat.le_of_ble_eq_true rfl, Nat.le_of_ble_eq_true rfl⟩ dX3_copyFrom_95 h39 ?_
  refine q_nmX (fun X95_38 => ?_)
  refine q_aload_n C 1 dX3_copyFrom_98 rfl rfl ?_
  refine q_chk (fun h40 => ?_)
  refine q_chk (fun h41 => ?_)
  refine p_getR C fgX3_30 rfl dX3_copyFrom_99 h40 h41 ?_
  refine q_iconst C (0 : Int32) dX3_copyFrom_102 rfl ?_
  refine q_aload_n C 0 dX3_copyFrom_103 rfl rfl ?_
  refine q_chk (fun h42 => ?_)
  refine q_chk (fun h43 => ?_)
  refine p_getR C fgX3_30 rfl dX3_copyFrom_104 h42 h43 ?_
  refine q_iconst C (0 : Int32) dX3_copyFrom_107 rfl ?_
  refine q_bipush C (8 : Int32) dX3_copyFrom_108 rfl ?_
  refine q_chk (fun h45 => ?_)
  refine p_cpI C fwX3_65_ac fw_ac2 fw_ac3 fw_ac4 ⟨Nat.le_of_ble_eq_true rfl, Nat.le_of_ble_eq_true rfl⟩ dX3_copyFrom_110 h45 ?_
  refine q_nmX (fun X110_44 => ?_)
  refine q_aload_n C 1 dX3_copyFrom_113 rfl rfl ?_
  refine q_chk (fun h46 => ?_)
  refine q_chk (fun h47 => ?_)
  refine p_getR C fgX3_33 rfl dX3_copyFrom_114 h46 h47 ?_
  refine q_iconst C (0 : Int32) dX3_copyFrom_117 rfl ?_
  refine q_aload_n C 0 dX3_copyFrom_118 rfl rfl ?_
  refine q_chk (fun h48 => ?_)
  refine q_chk (fun h49 => ?_)
  refine p_getR C fgX3_33 rfl dX3_copyFrom_119 h48 h49 ?_
  refine q_iconst C (0 : Int32) dX3_copyFrom_122 rfl ?_
  refine q_bipush C (8 : Int32) dX3_copyFrom_123 rfl ?_
  refine q_chk (fun h51 => ?_)
  refine p_cpI C fwX3_65_ac fw_ac2 fw_ac3 fw_ac4 ⟨Nat.le_of_ble_eq_true rfl, Nat.le_of_ble_eq_true rfl⟩ dX3_copyFrom_125 h51 ?_
  refine q_nmX (fun X125_50 => ?_)
  refine q_aload_n C 1 dX3_copyFrom_128 rfl rfl ?_
  refine q_chk (fun h52 => ?_)
  refine q_chk (fun h53 => ?_)
  refine p_getR C fgX3_36 rfl dX3_copyFrom_129 h52 h53 ?_
  refine q_iconst C (0 : Int32) dX3_copyFrom_132 rfl ?_
  refine q_aload_n C 0 dX3_copyFrom_133 rfl rfl ?_
  refine q_chk (fun h54 => ?_)
  refine q_chk (fun h55 => ?_)
  refine p_getR C fgX3_36 rfl dX3_copyFrom_134 h54 h55 ?_
  refine q_iconst C (0 : Int32) dX3_copyFrom_137 rfl ?_
  refine q_bipush C (8 : Int32) dX3_copyFrom_138 rfl ?_
  refine q_chk (fun h57 => ?_)
  refine p_cpI C fwX3_65_ac fw_ac2 fw_ac3 fw_ac4 ⟨Nat.le_of_ble_eq_true rfl, Nat.le_of_ble_eq_true rfl⟩ dX3_copyFrom_140 h57 ?_
  refine q_nmX (fun X140_56 => ?_)
  refine q_aload_n C 1 dX3_copyFrom_143 rfl rfl ?_
  refine q_chk (fun h58 => ?_)
  refine q_chk (fun h59 => ?_)
  refine p_getR C fgX3_39 rfl dX3_copyFrom_144 h58 h59 ?_
  refine q_iconst C (0 : Int32) dX3_copyFrom_147 rfl ?_
  refine q_aload_n C 0 dX3_copyFrom_148 rfl rfl ?_
  refine q_chk (fun h60 => ?_)
  refine q_chk (fun h61 => ?_)
  refine p_getR C fgX3_39 rfl dX3_copyFrom_149 h60 h61 ?_
  refine q_iconst C (0 : Int32) dX3_copyFrom_152 rfl ?_
  refine q_bipush C (8 : Int32) dX3_copyFrom_153 rfl ?_
  refine q_chk (fun h63 => ?_)
  refine p_cpI C fwX3_65_ac fw_ac2 fw_ac3 fw_ac4 ⟨Nat.le_of_ble_eq_true rfl, Nat.le_of_ble_eq_true rfl⟩ dX3_copyFrom_155 h63 ?_
  refine q_nmX (fun X155_62 => ?_)
  refine q_aload_n C 1 dX3_copyFrom_158 rfl rfl ?_
  refine q_chk (fun h64 => ?_)
  refine q_chk (fun h65 => ?_)
  refine p_getR C fgX3_42 rfl dX3_copyFrom_159 h64 h65 ?_
  refine q_iconst C (0 : Int32) dX3_copyFrom_162 rfl ?_
  refine q_aload_n C 0 dX3_copyFrom_163 rfl rfl ?_
  refine q_chk (fun h66 => ?_)
  refine q_chk (fun h67 => ?_)
  refine p_getR C fgX3_42 rfl dX3_copyFrom_164 h66 h67 ?_
  refine q_iconst C (0 : Int32) dX3_copyFrom_167 rfl ?_
  refine q_bipush C (8 : Int32) dX3_copyFrom_168 rfl ?_
  refine q_chk (fun h69 => ?_)
  refine p_cpI C fwX3_65_ac fw_ac2 fw_ac3 fw_ac4 ⟨Nat.le_of_ble_eq_true rfl, Nat.le_of_ble_eq_true rfl⟩ dX3_copyFrom_170 h69 ?_
  refine q_nmX (fun X170_68 => ?_)
  refine q_aload_n C 1 dX3_copyFrom_173 rfl rfl ?_
  refine q_chk (fun h70 => ?_)
  refine q_chk (fun h71 => ?_)
  refine p_getR C fgX3_45 rfl dX3_copyFrom_174 h70 h71 ?_
  refine q_iconst C (0 : Int32) dX3_copyFrom_177 rfl ?_
  refine q_aload_n C 0 dX3_copyFrom_178 rfl rfl ?_
  refine q_chk (fun h72 => ?_)
  refine q_chk (fun h73 => ?_)
  refine p_getR C fgX3_45 rfl dX3_copyFrom_179 h72 h73 ?_
  refine q_iconst C (0 : Int32) dX3_copyFrom_182 rfl ?_
  refine q_bipush C (8 : Int32) dX3_copyFrom_183 rfl ?_
  refine q_chk (fun h75 => ?_)
  refine p_cpI C fwX3_65_ac fw_ac2 fw_ac3 fw_ac4 ⟨Nat.le_of_ble_eq_true rfl, Nat.le_of_ble_eq_true rfl⟩ dX3_copyFrom_185 h75 ?_
  refine q_nmX (fun X185_74 => ?_)
  refine q_aload_n C 1 dX3_copyFrom_188 rfl rfl ?_
  refine q_chk (fun h76 => ?_)
  refine q_chk (fun h77 => ?_)
  refine p_getR C fgX3_48 rfl dX3_copyFrom_189 h76 h77 ?_
  refine q_iconst C (0 : Int32) dX3_copyFrom_192 rfl ?_
  refine q_aload_n C 0 dX3_copyFrom_193 rfl rfl ?_
  refine q_chk (fun h78 => ?_)
  refine q_chk (fun h79 => ?_)
  refine p_getR C fgX3_48 rfl dX3_copyFrom_194 h78 h79 ?_
  refine q_iconst C (0 : Int32) dX3_copyFrom_197 rfl ?_
  refine q_bipush C (8 : Int32) dX3_copyFrom_198 rfl ?_
  refine q_chk (fun h81 => ?_)
  refine p_cpI C fwX3_65_ac fw_ac2 fw_ac3 fw_ac4 ⟨Nat.le_of_ble_eq_true rfl, Nat.le_of_ble_eq_true rfl⟩ dX3_copyFrom_200 h81 ?_
  refine q_nmX (fun X200_80 => ?_)
  refine q_aload_n C 1 dX3_copyFrom_203 rfl rfl ?_
  refine q_chk (fun h82 => ?_)
  refine q_chk (fun h83 => ?_)
  refine p_getR C fgX3_51 rfl dX3_copyFrom_204 h82 h83 ?_
  refine q_iconst C (0 : Int32) dX3_copyFrom_207 rfl ?_
  refine q_aload_n C 0 dX3_copyFrom_208 rfl rfl ?_
  refine q_chk (fun h84 => ?_)
  refine q_chk (fun h85 => ?_)
  refine p_getR C fgX3_51 rfl dX3_copyFrom_209 h84 h85 ?_
  refine q_iconst C (0 : Int32) dX3_copyFrom_212 rfl ?_
  refine q_bipush C (8 : Int32) dX3_copyFrom_213 rfl ?_
  refine q_chk (fun h87 => ?_)
  refine p_cpI C fwX3_65_ac fw_ac2 fw_ac3 fw_ac4 ⟨Nat.le_of_ble_eq_true rfl, Nat.le_of_ble_eq_true rfl⟩ dX3_copyFrom_215 h87 ?_
  refine q_nmX (fun X215_86 => ?_)
  refine q_aload_n C 1 dX3_copyFrom_218 rfl rfl ?_
  refine q_chk (fun h88 => ?_)
  refine q_chk (fun h89 => ?_)
  refine p_getR C fgX3_54 rfl dX3_copyFrom_219 h88 h89 ?_
  refine q_iconst C (0 : Int32) dX3_copyFrom_222 rfl ?_
  refine q_aload_n C 0 dX3_copyFrom_223 rfl rfl ?_
  refine q_chk (fun h90 => ?_)
  refine q_chk (fun h91 => ?_)
  refine p_getR C fgX3_54 rfl dX3_copyFrom_224 h90 h91 ?_
  refine q_iconst C (0 : Int32) dX3_copyFrom_227 rfl ?_
  refine q_bipush C (8 : Int32) dX3_copyFrom_228 rfl ?_
  refine q_chk (fun h93 => ?_)
  refine p_cpJ C fwX3_65_ac fw_ac2 fw_ac3 fw_ac4 ⟨Nat.le_of_ble_eq_true rfl, Nat.le_of_ble_eq_true rfl⟩ dX3_copyFrom_230 h93 ?_
  refine q_nmX (fun X230_92 => ?_)
  refine q_aload_n C 1 dX3_copyFrom_233 rfl rfl ?_
  refine q_chk (fun h94 => ?_)
  refine q_chk (fun h95 => ?_)
  refine p_getR C fgX3_58 rfl dX3_copyFrom_234 h94 h95 ?_
  refine q_iconst C (0 : Int32) dX3_copyFrom_237 rfl ?_
  refine q_aload_n C 0 dX3_copyFrom_238 rfl rfl ?_
  refine q_chk (fun h96 => ?_)
  refine q_chk (fun h97 => ?_)
  refine p_getR C fgX3_58 rfl dX3_copyFrom_239 h96 h97 ?_
  refine q_iconst C (0 : Int32) dX3_copyFrom_242 rfl ?_
  refine q_bipush C (8 : Int32) dX3_copyFrom_243 rfl ?_
  refine q_chk (fun h99 => ?_)
  refine p_cpJ C fwX3_65_ac fw_ac2 fw_ac3 fw_ac4 ⟨Nat.le_of_ble_eq_true rfl, Nat.le_of_ble_eq_true rfl⟩ dX3_copyFrom_245 h99 ?_
  refine q_nmX (fun X245_98 => ?_)
  exact q_vret C dX3_copyFrom_248
/-! RecordClaims$Events.add(LRecordClaims$Deed;)I -/
abbrev cX3_add : ByteArray := prog_5_method_4_code
def yX3_add : MethodName := ⟨RX3, "add", "(LRecordClaims$Deed;)I"⟩
theorem dX3_add_0 : decode cX3_add 0 = .ok (.aload_n 0, 1) := by decide +kernel
theorem dX3_add_1 : decode cX3_add 1 = .ok (.getfield 61, 3) := by decide +kernel
theorem dX3_add_4 : decode cX3_add 4 = .ok (.istore_n 2, 1) := by decide +kernel
theorem dX3_add_5 : decode cX3_add 5 = .ok (.iload_n 2, 1) := by decide +kernel
theorem dX3_add_6 : decode cX3_add 6 = .ok (.bipush 8, 2) := by decide +kernel
theorem dX3_add_8 : decode cX3_add 8 = .ok (.if_icmp .lt 5, 3) := by decide +kernel
theorem dX3_add_11 : decode cX3_add 11 = .ok (.iconst (-1), 1) := by decide +kernel
theorem dX3_add_12 : decode cX3_add 12 = .ok (.ireturn, 1) := by decide +kernel
theorem dX3_add_13 : decode cX3_add 13 = .ok (.aload_n 0, 1) := by decide +kernel
theorem dX3_add_14 : decode cX3_add 14 = .ok (.getfield 9, 3) := by decide +kernel
theorem dX3_add_17 : decode cX3_add 17 = .ok (.iload_n 2, 1) := by decide +kernel
theorem dX3_add_18 : decode cX3_add 18 = .ok (.aload_n 1, 1) := by decide +kernel
theorem dX3_add_19 : decode cX3_add 19 = .ok (.getfield 71, 3) := by decide +kernel
theorem dX3_add_22 : decode cX3_add 22 = .ok (.iastore, 1) := by decide +kernel
theorem dX3_add_23 : decode cX3_add 23 = .ok (.aload_n 0, 1) := by decide +kernel
theorem dX3_add_24 : decode cX3_add 24 = .ok (.getfield 15, 3) := by decide +kernel
theorem dX3_add_27 : decode cX3_add 27 = .ok (.iload_n 2, 1) := by decide +kernel
theorem dX3_add_28 : decode cX3_add 28 = .ok (.aload_n 1, 1) := by decide +kernel
theorem dX3_add_29 : decode cX3_add 29 = .ok (.getfield 75, 3) := by decide +kernel
theorem dX3_add_32 : decode cX3_add 32 = .ok (.iastore, 1) := by decide +kernel
theorem dX3_add_33 : decode cX3_add 33 = .ok (.aload_n 0, 1) := by decide +kernel
theorem dX3_add_34 : decode cX3_add 34 = .ok (.getfield 18, 3) := by decide +kernel
theorem dX3_add_37 : decode cX3_add 37 = .ok (.iload_n 2, 1) := by decide +kernel
theorem dX3_add_38 : decode cX3_add 38 = .ok (.aload_n 1, 1) := by decide +kernel
theorem dX3_add_39 : decode cX3_add 39 = .ok (.getfield 77, 3) := by decide +kernel
theorem dX3_add_42 : decode cX3_add 42 = .ok (.iastore, 1) := by decide +kernel
theorem dX3_add_43 : decode cX3_add 43 = .ok (.aload_n 0, 1) := by decide +kernel
theorem dX3_add_44 : decode cX3_add 44 = .ok (.getfield 21, 3) := by decide +kernel
theorem dX3_add_47 : decode cX3_add 47 = .ok (.iload_n 2, 1) := by decide +kernel
theorem dX3_add_48 : decode cX3_add 48 = .ok (.aload_n 1, 1) := by decide +kernel
theorem dX3_add_49 : decode cX3_add 49 = .ok (.getfield 79, 3) := by decide +kernel
theorem dX3_add_52 : decode cX3_add 52 = .ok (.iastore, 1) := by decide +kernel
theorem dX3_add_53 : decode cX3_add 53 = .ok (.aload_n 0, 1) := by decide +kernel
theorem dX3_add_54 : decode cX3_add 54 = .ok (.getfield 24, 3) := by decide +kernel
theorem dX3_add_57 : decode cX3_add 57 = .ok (.iload_n 2, 1) := by decide +kernel
theorem dX3_add_58 : decode cX3_add 58 = .ok (.aload_n 1, 1) := by decide +kernel
theorem dX3_add_59 : decode cX3_add 59 = .ok (.getfield 81, 3) := by decide +kernel
theorem dX3_add_62 : decode cX3_add 62 = .ok (.iastore, 1) := by decide +kernel
theorem dX3_add_63 : decode cX3_add 63 = .ok (.aload_n 0, 1) := by decide +kernel
theorem dX3_add_64 : decode cX3_add 64 = .ok (.getfield 27, 3) := by decide +kernel
theorem dX3_add_67 : decode cX3_add 67 = .ok (.iload_n 2, 1) := by decide +kernel
theorem dX3_add_68 : decode cX3_add 68 = .ok (.aload_n 1, 1) := by decide +kernel
theorem dX3_add_69 : decode cX3_add 69 = .ok (.getfield 83, 3) := by decide +kernel
theorem dX3_add_72 : decode cX3_add 72 = .ok (.iastore, 1) := by decide +kernel
theorem dX3_add_73 : decode cX3_add 73 = .ok (.aload_n 0, 1) := by decide +kernel
theorem dX3_add_74 : decode cX3_add 74 = .ok (.getfield 30, 3) := by decide +kernel
theorem dX3_add_77 : decode cX3_add 77 = .ok (.iload_n 2, 1) := by decide +kernel
theorem dX3_add_78 : decode cX3_add 78 = .ok (.aload_n 1, 1) := by decide +kernel
theorem dX3_add_79 : decode cX3_add 79 = .ok (.getfield 85, 3) := by decide +kernel
theorem dX3_add_82 : decode cX3_add 82 = .ok (.iastore, 1) := by decide +kernel
theorem dX3_add_83 : decode cX3_add 83 = .ok (.aload_n 0, 1) := by decide +kernel
theorem dX3_add_84 : decode cX3_add 84 = .ok (.getfield 33, 3) := by decide +kernel
theorem dX3_add_87 : decode cX3_add 87 = .ok (.iload_n 2, 1) := by decide +kernel
theorem dX3_add_88 : decode cX3_add 88 = .ok (.aload_n 1, 1) := by decide +kernel
theorem dX3_add_89 : decode cX3_add 89 = .ok (.getfield 87, 3) := by decide +kernel
theorem dX3_add_92 : decode cX3_add 92 = .ok (.iastore, 1) := by decide +kernel
theorem dX3_add_93 : decode cX3_add 93 = .ok (.aload_n 0, 1) := by decide +kernel
theorem dX3_add_94 : decode cX3_add 94 = .ok (.getfield 36, 3) := by decide +kernel
theorem dX3_add_97 : decode cX3_add 97 = .ok (.iload_n 2, 1) := by decide +kernel
theorem dX3_add_98 : decode cX3_add 98 = .ok (.aload_n 1, 1) := by decide +kernel
theorem dX3_add_99 : decode cX3_add 99 = .ok (.getfield 89, 3) := by decide +kernel
theorem dX3_add_102 : decode cX3_add 102 = .ok (.iastore, 1) := by decide +kernel
theorem dX3_add_103 : decode cX3_add 103 = .ok (.aload_n 0, 1) := by decide +kernel
theorem dX3_add_104 : decode cX3_add 104 = .ok (.getfield 39, 3) := by decide +kernel
theorem dX3_add_107 : decode cX3_add 107 = .ok (.iload_n 2, 1) := by decide +kernel
theorem dX3_add_108 : decode cX3_add 108 = .ok (.aload_n 1, 1) := by decide +kernel
theorem dX3_add_109 : decode cX3_add 109 = .ok (.getfield 91, 3) := by decide +kernel
theorem dX3_add_112 : decode cX3_add 112 = .ok (.iastore, 1) := by decide +kernel
theorem dX3_add_113 : decode cX3_add 113 = .ok (.aload_n 0, 1) := by decide +kernel
theorem dX3_add_114 : decode cX3_add 114 = .ok (.getfield 42, 3) := by decide +kernel
theorem dX3_add_117 : decode cX3_add 117 = .ok (.iload_n 2, 1) := by decide +kernel
theorem dX3_add_118 : decode cX3_add 118 = .ok (.aload_n 1, 1) := by decide +kernel
theorem dX3_add_119 : decode cX3_add 119 = .ok (.getfield 93, 3) := by decide +kernel
theorem dX3_add_122 : decode cX3_add 122 = .ok (.iastore, 1) := by decide +kernel
theorem dX3_add_123 : decode cX3_add 123 = .ok (.aload_n 0, 1) := by decide +kernel
theorem dX3_add_124 : decode cX3_add 124 = .ok (.getfield 45, 3) := by decide +kernel
theorem dX3_add_127 : decode cX3_add 127 = .ok (.iload_n 2, 1) := by decide +kernel
theorem dX3_add_128 : decode cX3_add 128 = .ok (.iconst 0, 1) := by decide +kernel
theorem dX3_add_129 : decode cX3_add 129 = .ok (.iastore, 1) := by decide +kernel
theorem dX3_add_130 : decode cX3_add 130 = .ok (.aload_n 0, 1) := by decide +kernel
theorem dX3_add_131 : decode cX3_add 131 = .ok (.getfield 48, 3) := by decide +kernel
theorem dX3_add_134 : decode cX3_add 134 = .ok (.iload_n 2, 1) := by decide +kernel
theorem dX3_add_135 : decode cX3_add 135 = .ok (.iconst 0, 1) := by decide +kernel
theorem dX3_add_136 : decode cX3_add 136 = .ok (.iastore, 1) := by decide +kernel
theorem dX3_add_137 : decode cX3_add 137 = .ok (.aload_n 0, 1) := by decide +kernel
theorem dX3_add_138 : decode cX3_add 138 = .ok (.getfield 51, 3) := by decide +kernel
theorem dX3_add_141 : decode cX3_add 141 = .ok (.iload_n 2, 1) := by decide +kernel
theorem dX3_add_142 : decode cX3_add 142 = .ok (.iconst 0, 1) := by decide +kernel
theorem dX3_add_143 : decode cX3_add 143 = .ok (.iastore, 1) := by decide +kernel
theorem dX3_add_144 : decode cX3_add 144 = .ok (.aload_n 0, 1) := by decide +kernel
theorem dX3_add_145 : decode cX3_add 145 = .ok (.getfield 54, 3) := by decide +kernel
theorem dX3_add_148 : decode cX3_add 148 = .ok (.iload_n 2, 1) := by decide +kernel
theorem dX3_add_149 : decode cX3_add 149 = .ok (.lconst 0, 1) := by decide +kernel
theorem dX3_add_150 : decode cX3_add 150 = .ok (.lastore, 1) := by decide +kernel
theorem dX3_add_151 : decode cX3_add 151 = .ok (.aload_n 0, 1) := by decide +kernel
theorem dX3_add_152 : decode cX3_add 152 = .ok (.getfield 58, 3) := by decide +kernel
theorem dX3_add_155 : decode cX3_add 155 = .ok (.iload_n 2, 1) := by decide +kernel
theorem dX3_add_156 : decode cX3_add 156 = .ok (.lconst 0, 1) := by decide +kernel
theorem dX3_add_157 : decode cX3_add 157 = .ok (.lastore, 1) := by decide +kernel
theorem dX3_add_158 : decode cX3_add 158 = .ok (.aload_n 0, 1) := by decide +kernel
theorem dX3_add_159 : decode cX3_add 159 = .ok (.dup, 1) := by decide +kernel
theorem dX3_add_160 : decode cX3_add 160 = .ok (.getfield 61, 3) := by decide +kernel
theorem dX3_add_163 : decode cX3_add 163 = .ok (.iconst 1, 1) := by decide +kernel
theorem dX3_add_164 : decode cX3_add 164 = .ok (.iadd, 1) := by decide +kernel
theorem dX3_add_165 : decode cX3_add 165 = .ok (.putfield 61, 3) := by decide +kernel
theorem dX3_add_168 : decode cX3_add 168 = .ok (.iload_n 2, 1) := by decide +kernel
theorem dX3_add_169 : decode cX3_add 169 = .ok (.ireturn, 1) := by decide +kernel
theorem fgX3_71 : q_Fg RX3 71 2 0 := q_Fg.of (C := RX2) (T := TX2) (N := 20) rfl (by decide) inX2 100 (by decide +kernel) rfl rfl
theorem fgX3_75 : q_Fg RX3 75 2 1 := q_Fg.of (C := RX2) (T := TX2) (N := 20) rfl (by decide) inX2 103 (by decide +kernel) rfl rfl
theorem fgX3_77 : q_Fg RX3 77 2 7 := q_Fg.of (C := RX2) (T := TX2) (N := 20) rfl (by decide) inX2 127 (by decide +kernel) rfl rfl
theorem fgX3_79 : q_Fg RX3 79 2 8 := q_Fg.of (C := RX2) (T := TX2) (N := 20) rfl (by decide) inX2 131 (by decide +kernel) rfl rfl
theorem fgX3_81 : q_Fg RX3 81 2 9 := q_Fg.of (C := RX2) (T := TX2) (N := 20) rfl (by decide) inX2 134 (by decide +kernel) rfl rfl
theorem fgX3_83 : q_Fg RX3 83 2 10 := q_Fg.of (C := RX2) (T := TX2) (N := 20) rfl (by decide) inX2 137 (by decide +kernel) rfl rfl
theorem fgX3_85 : q_Fg RX3 85 2 11 := q_Fg.of (C := RX2) (T := TX2) (N := 20) rfl (by decide) inX2 141 (by decide +kernel) rfl rfl
theorem fgX3_87 : q_Fg RX3 87 2 12 := q_Fg.of (C := RX2) (T := TX2) (N := 20) rfl (by decide) inX2 145 (by decide +kernel) rfl rfl
theorem fgX3_89 : q_Fg RX3 89 2 13 := q_Fg.of (C := RX2) (T := TX2) (N := 20) rfl (by decide) inX2 148 (by decide +kernel) rfl rfl
theorem fgX3_91 : q_Fg RX3 91 2 14 := q_Fg.of (C := RX2) (T := TX2) (N := 20) rfl (by decide) inX2 151 (by decide +kernel) rfl rfl
theorem fgX3_93 : q_Fg RX3 93 2 15 := q_Fg.of (C := RX2) (T := TX2) (N := 20) rfl (by decide) inX2 154 (by decide +kernel) rfl rfl
def fX3_add (r0 : Nat) (r1 : Nat) (X : Mm) : Option (Int32 × Mm) :=
if mT X r0 = 3 then
nm ((mI X r0 16)) fun v2_4 =>
if v2_4 < (8 : Int32) then (
if mR X r0 0 ≠ 0 then
if mT X r1 = 2 then
if mT X (mR X r0 0) = 14 then
if q_b X (mR X r0 0) v2_4 then
nm (sI X (mR X r0 0) (v2_4).toNatClampNeg (mI X r1 0)) fun X22_5 =>
if mT X22_5 r0 = 3 then
if mR X22_5 r0 1 ≠ 0 then
if mT X22_5 r1 = 2 then
if mT X22_5 (mR X22_5 r0 1) = 14 then
if q_b X22_5 (mR X22_5 r0 1) v2_4 then
nm (sI X22_5 (mR X22_5 r0 1) (v2_4).toNatClampNeg (mI X22_5 r1 1)) fun X32_11 =>
if mT X32_11 r0 = 3 then
if mR X32_11 r0 2 ≠ 0 then
if mT X32_11 r1 = 2 then
if mT X32_11 (mR X32_11 r0 2) = 14 then
if q_b X32_11 (mR X32_11 r0 2) v2_4 then
nm (sI X32_11 (mR X32_11 r0 2) (v2_4).toNatClampNeg (mI X32_11 r1 7)) fun X42_17 =>
if mT X42_17 r0 = 3 then
if mR X42_17 r0 3 ≠ 0 then
if mT X42_17 r1 = 2 then
if mT X42_17 (mR X42_17 r0 3) = 14 then
if q_b X42_17 (mR X42_17 r0 3) v2_4 then
nm (sI X42_17 (mR X42_17 r0 3) (v2_4).toNatClampNeg (mI X42_17 r1 8)) fun X52_23 =>
if mT X52_23 r0 = 3 then
if mR X52_23 r0 4 ≠ 0 then
if mT X52_23 r1 = 2 then
if mT X52_23 (mR X52_23 r0 4) = 14 then
if q_b X52_23 (mR X52_23 r0 4) v2_4 then
nm (sI X52_23 (mR X52_23 r0 4) (v2_4).toNatClampNeg (mI X52_23 r1 9)) fun X62_29 =>
if mT X62_29 r0 = 3 then
if mR X62_29 r0 5 ≠ 0 then
if mT X62_29 r1 = 2 then
if mT X62_29 (mR X62_29 r0 5) = 14 then
if q_b X62_29 (mR X62_29 r0 5) v2_4 then
nm (sI X62_29 (mR X62_29 r0 5) (v2_4).toNatClampNeg (mI X62_29 r1 10)) fun X72_35 =>
if mT X72_35 r0 = 3 then
if mR X72_35 r0 6 ≠ 0 then
if mT X72_35 r1 = 2 then
if mT X72_35 (mR X72_35 r0 6) = 14 then
if q_b X72_35 (mR X72_35 r0 6) v2_4 then
nm (sI X72_35 (mR X72_35 r0 6) (v2_4).toNatClampNeg (mI X72_35 r1 11)) fun X82_41 =>
if mT X82_41 r0 = 3 then
if mR X82_41 r0 7 ≠ 0 then
if mT X82_41 r1 = 2 then
if mT X82_41 (mR X82_41 r0 7) = 14 then
if q_b X82_41 (mR X82_41 r0 7) v2_4 then
nm (sI X82_41 (mR X82_41 r0 7) (v2_4).toNatClampNeg (mI X82_41 r1 12)) fun X92_47 =>
if mT X92_47 r0 = 3 then
if mR X92_47 r0 8 ≠ 0 then
if mT X92_47 r1 = 2 then
if mT X92_47 (mR X92_47 r0 8) = 14 then
if q_b X92_47 (mR X92_47 r0 8) v2_4 then
nm (sI X92_47 (mR X92_47 r0 8) (v2_4).toNatClampNeg (mI X92_47 r1 13)) fun X102_53 =>
if mT X102_53 r0 = 3 then
if mR X102_53 r0 9 ≠ 0 then
if mT X102_53 r1 = 2 then
if mT X102_53 (mR X102_53 r0 9) = 14 then
if q_b X102_53 (mR X102_53 r0 9) v2_4 then
nm (sI X102_53 (mR X102_53 r0 9) (v2_4).toNatClampNeg (mI X102_53 r1 14)) fun X112_59 =>
if mT X112_59 r0 = 3 then
if mR X112_59 r0 10 ≠ 0 then
if mT X112_59 r1 = 2 then
if mT X112_59 (mR X112_59 r0 10) = 14 then
if q_b X112_59 (mR X112_59 r0 10) v2_4 then
nm (sI X112_59 (mR X112_59 r0 10) (v2_4).toNatClampNeg (mI X112_59 r1 15)) fun X122_65 =>
if mT X122_65 r0 = 3 then
if mR X122_65 r0 11 ≠ 0 then
if mT X122_65 (mR X122_65 r0 11) = 14 then
if q_b X122_65 (mR X122_65 r0 11) v2_4 then
nm (sI X122_65 (mR X122_65 r0 11) (v2_4).toNatClampNeg (0 : Int32)) fun X129_70 =>
if mT X129_70 r0 = 3 then
if mR X129_70 r0 12 ≠ 0 then
if mT X129_70 (mR X129_70 r0 12) = 14 then
if q_b X129_70 (mR X129_70 r0 12) v2_4 then
nm (sI X129_70 (mR X129_70 r0 12) (v2_4).toNatClampNeg (0 : Int32)) fun X136_75 =>
if mT X136_75 r0 = 3 then
if mR X136_75 r0 13 ≠ 0 then
if mT X136_75 (mR X136_75 r0 13) = 14 then
if q_b X136_75 (mR X136_75 r0 13) v2_4 then
nm (sI X136_75 (mR X136_75 r0 13) (v2_4).toNatClampNeg (0 : Int32)) fun X143_80 =>
if mT X143_80 r0 = 3 then
if mR X143_80 r0 14 ≠ 0 then
if mT X143_80 (mR X143_80 r0 14) = 15 then
if q_b X143_80 (mR X143_80 r0 14) v2_4 then
nm (sJ X143_80 (mR X143_80 r0 14) (v2_4).toNatClampNeg (0 : Int64)) fun X150_85 =>
if mT X150_85 r0 = 3 then
if mR X150_85 r0 15 ≠ 0 then
if mT X150_85 (mR X150_85 r0 15) = 15 then
if q_b X150_85 (mR X150_85 r0 15) v2_4 then
nm (sJ X150_85 (mR X150_85 r0 15) (v2_4).toNatClampNeg (0 : Int64)) fun X157_90 =>
if mT X157_90 r0 = 3 then
nm (sI X157_90 r0 16 ((mI X157_90 r0 16) + (1 : Int32))) fun X165_94 =>
some (v2_4, X165_94)
else none
else none
else none
else none
else none
else none
else none
else none
else none
else none
else none
else none
else none
else none
else none
else none
else none
else none
else none
else none
else none
else none
else none
else none
else none
else none
else none
else none
else none
else none
else none
else none
else none
else none
else none
else none
else none
else none
else none
else none
else none
else none
else none
else none
else none
else none
else none
else none
else none
else none
else none
else none
else none
else none
else none
else none
else none
else none
else none
else none
else none
else none
else none
else none
else none
else none
else none
else none
else none
else none
else none
else none
else none
else none
else none
) else (
some ((-1 : Int32), X)
)
else none
theorem sX3_add (r0 : Nat) (r1 : Nat) : q_Ct yX3_add cX3_add 3 (some .int) 0 0 0 0 q_eI (fun P => [.ref (P + r0), .ref (P + r1)]) (fX3_add r0 r1) := by
  refine q_meth (by decide +kernel) (fun P => Nat.le_of_ble_eq_true rfl) (fun E X C hn => ?_)
  show Sm E (q_fin E q_eI X 0 0) 0 0 0 [(0, .ref (q_P E + r0)), (1, .ref (q_P E + r1))] [] X _
  unfold fX3_add
  refine q_aload_n C 0 dX3_add_0 rfl rfl ?_
  refine q_chk (fun h1 => ?_)
  refine p_getI C fgX3_61 rfl dX3_add_1 h1 ?_
  refine q_nmi (fun v2_4 => ?_)
  refine q_istore_n C [(2, .int v2_4), (0, .ref (q_P E + r0)), (1, .ref (q_P E + r1))] dX3_add_4 rfl (Nat.le_of_ble_eq_true rfl) rfl ?_
  refine q_iload_n C 0 dX3_add_5 rfl rfl ?_
  refine q_bipush C (8 : Int32) dX3_add_6 rfl ?_
  refine q_icmp_lt C 13 dX3_add_8 (by decide) (fun _ => ?_) (fun _ => ?_)
  · refine q_aload_n C 1 dX3_add_13 rfl rfl ?_
    refine q_chk (fun h3 => ?_)
    refine p_getR C fgX3_9 rfl dX3_add_14 h1 h3 ?_
    refine q_iload_n C 0 dX3_add_17 rfl rfl ?_
    refine q_aload_n C 2 dX3_add_18 rfl rfl ?_
    refine q_chk (fun h4 => ?_)
    refine p_getI C fgX3_71 rfl dX3_add_19 h4 ?_
    refine q_chk (fun h6 => ?_)
    refine q_chk (fun h7 => ?_)
    refine p_iast C dX3_add_22 h6 h7 ?_
    refine q_nmX (fun X22_5 => ?_)
    refine q_aload_n C 1 dX3_add_23 rfl rfl ?_
    refine q_chk (fun h8 => ?_)
    refine q_chk (fun h9 => ?_)
    refine p_getR C fgX3_15 rfl dX3_add_24 h8 h9 ?_
    refine q_iload_n C 0 dX3_add_27 rfl rfl ?_
    refine q_aload_n C 2 dX3_add_28 rfl rfl ?_
    refine q_chk (fun h10 => ?_)
    refine p_getI C fgX3_75 rfl dX3_add_29 h10 ?_
    refine q_chk (fun h12 => ?_)
    refine q_chk (fun h13 => ?_)
    refine p_iast C dX3_add_32 h12 h13 ?_
    refine q_nmX (fun X32_11 => ?_)
    refine q_aload_n C 1 dX3_add_33 rfl rfl ?_
    refine q_chk (fun h14 => ?_)
    refine q_chk (fun h15 => ?_)
    refine p_getR C fgX3_18 rfl dX3_add_34 h14 h15 ?_
    refine q_iload_n C 0 dX3_add_37 rfl rfl ?_
    refine q_aload_n C 2 dX3_add_38 rfl rfl ?_
    refine q_chk (fun h16 => ?_)
    refine p_getI C fgX3_77 rfl dX3_add_39 h16 ?_
    refine q_chk (fun h18 => ?_)
    refine q_chk (fun h19 => ?_)
    refine p_iast C dX3_add_42 h18 h19 ?_
    refine q_nmX (fun X42_17 => ?_)
    refine q_aload_n C 1 dX3_add_43 rfl rfl ?_
    refine q_chk (fun h20 => ?_)
    refine q_chk (fun h21 => ?_)
    refine p_getR C fgX3_21 rfl dX3_add_44 h20 h21 ?_
    refine q_iload_n C 0 dX3_add_47 rfl rfl ?_
    refine q_aload_n C 2 dX3_add_48 rfl rfl ?_
    refine q_chk (fun h22 => ?_)
    refine p_getI C fgX3_79 rfl dX3_add_49 h22 ?_
    refine q_chk (fun h24 => ?_)
    refine q_chk (fun h25 => ?_)
    refine p_iast C dX3_add_52 h24 h25 ?_
    refine q_nmX (fun X52_23 => ?_)
    refine q_aload_n C 1 dX3_add_53 rfl rfl ?_
    refine q_chk (fun h26 => ?_)
    refine q_chk (fun h27 => ?_)
    refine p_getR C fgX3_24 rfl dX3_add_54 h26 h27 ?_
    refine q_iload_n C 0 dX3_add_57 rfl rfl ?_
    refine q_aload_n C 2 dX3_add_58 rfl rfl ?_
    refine q_chk (fun h28 => ?_)
    refine p_getI C fgX3_81 rfl dX3_add_59 h28 ?_
    refine q_chk (fun h30 => ?_)
    refine q_chk (fun h31 => ?_)
    refine p_iast C dX3_add_62 h30 h31 ?_
    refine q_nmX (fun X62_29 => ?_)
    refine q_aload_n C 1 dX3_add_63 rfl rfl ?_
    refine q_chk (fun h32 => ?_)
    refine q_chk (fun h33 => ?_)
    refine p_getR C fgX3_27 rfl dX3_add_64 h32 h33 ?_
    refine q_iload_n C 0 dX3_add_67 rfl rfl ?_
    refine q_aload_n C 2 dX3_add_68 rfl rfl ?_
    refine q_chk (fun h34 => ?_)
    refine p_getI C fgX3_83 rfl dX3_add_69 h34 ?_
    refine q_chk (fun h36 => ?_)
    refine q_chk (fun h37 => ?_)
    refine p_iast C dX3_add_72 h36 h37 ?_
    refine q_nmX (fun X72_35 => ?_)
    refine q_aload_n C 1 dX3_add_73 rfl rfl ?_
    refine q_chk (fun h38 => ?_)
    refine q_chk (fun h39 => ?_)
    refine p_getR C fgX3_30 rfl dX3_add_74 h38 h39 ?_
    refine q_iload_n C 0 dX3_add_77 rfl rfl ?_
    refine q_aload_n C 2 dX3_add_78 rfl rfl ?_
    refine q_chk (fun h40 => ?_)
    refine p_getI C fgX3_85 rfl dX3_add_79 h40 ?_
    refine q_chk (fun h42 => ?_)
    refine q_chk (fun h43 => ?_)
    refine p_iast C dX3_add_82 h42 h43 ?_
    refine q_nmX (fun X82_41 => ?_)
    refine q_aload_n C 1 dX3_add_83 rfl rfl ?_
    refine q_chk (fun h44 => ?_)
    refine q_chk (fun h45 => ?_)
    refine p_getR C fgX3_33 rfl dX3_add_84 h44 h45 ?_
    refine q_iload_n C 0 dX3_add_87 rfl rfl ?_
    refine q_aload_n C 2 dX3_add_88 rfl rfl ?_
    refine q_chk (fun h46 => ?_)
    refine p_getI C fgX3_87 rfl dX3_add_89 h46 ?_
    refine q_chk (fun h48 => ?_)
    refine q_chk (fun h49 => ?_)
    refine p_iast C dX3_add_92 h48 h49 ?_
    refine q_nmX (fun X92_47 => ?_)
    refine q_aload_n C 1 dX3_add_93 rfl rfl ?_
    refine q_chk (fun h50 => ?_)
    refine q_chk (fun h51 => ?_)
    refine p_getR C fgX3_36 rfl dX3_add_94 h50 h51 ?_
    refine q_iload_n C 0 dX3_add_97 rfl rfl ?_
    refine q_aload_n C 2 dX3_add_98 rfl rfl ?_
    refine q_chk (fun h52 => ?_)
    refine p_getI C fgX3_89 rfl dX3_add_99 h52 ?_
    refine q_chk (fun h54 => ?_)
    refine q_chk (fun h55 => ?_)
    refine p_iast C dX3_add_102 h54 h55 ?_
    refine q_nmX (fun X102_53 => ?_)
    refine q_aload_n C 1 dX3_add_103 rfl rfl ?_
    refine q_chk (fun h56 => ?_)
    refine q_chk (fun h57 => ?_)
    refine p_getR C fgX3_39 rfl dX3_add_104 h56 h57 ?_
    refine q_iload_n C 0 dX3_add_107 rfl rfl ?_
    refine q_aload_n C 2 dX3_add_108 rfl rfl ?_
    refine q_chk (fun h58 => ?_)
    refine p_getI C fgX3_91 rfl dX3_add_109 h58 ?_
    refine q_chk (fun h60 => ?_)
    refine q_chk (fun h61 => ?_)
    refine p_iast C dX3_add_112 h60 h61 ?_
    refine q_nmX (fun X112_59 => ?_)
    refine q_aload_n C 1 dX3_add_113 rfl rfl ?_
    refine q_chk (fun h62 => ?_)
    refine q_chk (fun h63 => ?_)
    refine p_getR C fgX3_42 rfl dX3_add_114 h62 h63 ?_
    refine q_iload_n C 0 dX3_add_117 rfl rfl ?_
    refine q_aload_n C 2 dX3_add_118 rfl rfl ?_
    refine q_chk (fun h64 => ?_)
    refine p_getI C fgX3_93 rfl dX3_add_119 h64 ?_
    refine q_chk (fun h66 => ?_)
    refine q_chk (fun h67 => ?_)
    refine p_iast C dX3_add_122 h66 h67 ?_
    refine q_nmX (fun X122_65 => ?_)
    refine q_aload_n C 1 dX3_add_123 rfl rfl ?_
    refine q_chk (fun h68 => ?_)
    refine q_chk (fun h69 => ?_)
    refine p_getR C fgX3_45 rfl dX3_add_124 h68 h69 ?_
    refine q_iload_n C 0 dX3_add_127 rfl rfl ?_
    refine q_iconst C (0 : Int32) dX3_add_128 rfl ?_
    refine q_chk (fun h71 => ?_)
    refine q_chk (fun h72 => ?_)
    refine p_iast C dX3_add_129 h71 h72 ?_
    refine q_nmX (fun X129_70 => ?_)
    refine q_aload_n C 1 dX3_add_130 rfl rfl ?_
    refine q_chk (fun h73 => ?_)
    refine q_chk (fun h74 => ?_)
    refine p_getR C fgX3_48 rfl dX3_add_131 h73 h74 ?_
    refine q_iload_n C 0 dX3_add_134 rfl rfl ?_
    refine q_iconst C (0 : Int32) dX3_add_135 rfl ?_
    refine q_chk (fun h76 => ?_)
    refine q_chk (fun h77 => ?_)
    refine p_iast C dX3_add_136 h76 h77 ?_
    refine q_nmX (fun X136_75 => ?_)
    refine q_aload_n C 1 dX3_add_137 rfl rfl ?_
    refine q_chk (fun h78 => ?_)
    refine q_chk (fun h79 => ?_)
    refine p_getR C fgX3_51 rfl dX3_add_138 h78 h79 ?_
    refine q_iload_n C 0 dX3_add_141 rfl rfl ?_
    refine q_iconst C (0 : Int32) dX3_add_142 rfl ?_
    refine q_chk (fun h81 => ?_)
    refine q_chk (fun h82 => ?_)
    refine p_iast C dX3_add_143 h81 h82 ?_
    refine q_nmX (fun X143_80 => ?_)
    refine q_aload_n C 1 dX3_add_144 rfl rfl ?_
    refine q_chk (fun h83 => ?_)
    refine q_chk (fun h84 => ?_)
    refine p_getR C fgX3_54 rfl dX3_add_145 h83 h84 ?_
    refine q_iload_n C 0 dX3_add_148 rfl rfl ?_
    refine q_lconst C (0 : Int64) dX3_add_149 rfl ?_
    refine q_chk (fun h86 => ?_)
    refine q_chk (fun h87 => ?_)
    refine p_last C dX3_add_150 h86 h87 ?_
    refine q_nmX (fun X150_85 => ?_)
    refine q_aload_n C 1 dX3_add_151 rfl rfl ?_
    refine q_chk (fun h88 => ?_)
    refine q_chk (fun h89 => ?_)
    refine p_getR C fgX3_58 rfl dX3_add_152 h88 h89 ?_
    refine q_iload_n C 0 dX3_add_155 rfl rfl ?_
    refine q_lconst C (0 : Int64) dX3_add_156 rfl ?_
    refine q_chk (fun h91 => ?_)
    refine q_chk (fun h92 => ?_)
    refine p_last C dX3_add_157 h91 h92 ?_
    refine q_nmX (fun X157_90 => ?_)
    refine q_aload_n C 1 dX3_add_158 rfl rfl ?_
    refine q_dup C dX3_add_159 rfl ?_
    refine q_chk (fun h93 => ?_)
    refine p_getI C fgX3_61 rfl dX3_add_160 h93 ?_
    refine q_iconst C (1 : Int32) dX3_add_163 rfl ?_
    refine q_iadd C dX3_add_164 ?_
    refine p_putI C fpX3_61 rfl dX3_add_165 h93 ?_
    refine q_nmX (fun X165_94 => ?_)
    refine q_iload_n C 0 dX3_add_168 rfl rfl ?_
    exact q_iret C dX3_add_169
  · refine q_iconst C (-1 : Int32) dX3_add_11 rfl ?_
    exact q_iret C dX3_add_12
/-! RecordClaims$Events.partOf(II)I -/
abbrev cX3_partOf : ByteArray := prog_5_method_5_code
def yX3_partOf : MethodName := ⟨RX3, "partOf", "(II)I"⟩
theorem dX3_partOf_0 : decode cX3_partOf 0 = .ok (.iload_n 2, 1) := by decide +kernel
theorem dX3_partOf_1 : decode cX3_partOf 1 = .ok (.tableswitch 103 0 7 #[47, 54, 61, 68, 75, 82, 89, 96], 47) := by decide +kernel
theorem dX3_partOf_48 : decode cX3_partOf 48 = .ok (.aload_n 0, 1) := by decide +kernel
theorem dX3_partOf_49 : decode cX3_partOf 49 = .ok (.getfield 9, 3) := by decide +kernel
theorem dX3_partOf_52 : decode cX3_partOf 52 = .ok (.iload_n 1, 1) := by decide +kernel
theorem dX3_partOf_53 : decode cX3_partOf 53 = .ok (.iaload, 1) := by decide +kernel
theorem dX3_partOf_54 : decode cX3_partOf 54 = .ok (.ireturn, 1) := by decide +kernel
theorem dX3_partOf_55 : decode cX3_partOf 55 = .ok (.aload_n 0, 1) := by decide +kernel
theorem dX3_partOf_56 : decode cX3_partOf 56 = .ok (.getfield 15, 3) := by decide +kernel
theorem dX3_partOf_59 : decode cX3_partOf 59 = .ok (.iload_n 1, 1) := by decide +kernel
theorem dX3_partOf_60 : decode cX3_partOf 60 = .ok (.iaload, 1) := by decide +kernel
theorem dX3_partOf_61 : decode cX3_partOf 61 = .ok (.ireturn, 1) := by decide +kernel
theorem dX3_partOf_62 : decode cX3_partOf 62 = .ok (.aload_n 0, 1) := by decide +kernel
theorem dX3_partOf_63 : decode cX3_partOf 63 = .ok (.getfield 36, 3) := by decide +kernel
theorem dX3_partOf_66 : decode cX3_partOf 66 = .ok (.iload_n 1, 1) := by decide +kernel
theorem dX3_partOf_67 : decode cX3_partOf 67 = .ok (.iaload, 1) := by decide +kernel
theorem dX3_partOf_68 : decode cX3_partOf 68 = .ok (.ireturn, 1) := by decide +kernel
theorem dX3_partOf_69 : decode cX3_partOf 69 = .ok (.aload_n 0, 1) := by decide +kernel
theorem dX3_partOf_70 : decode cX3_partOf 70 = .ok (.getfield 39, 3) := by decide +kernel
theorem dX3_partOf_73 : decode cX3_partOf 73 = .ok (.iload_n 1, 1) := by decide +kernel
theorem dX3_partOf_74 : decode cX3_partOf 74 = .ok (.iaload, 1) := by decide +kernel
theorem dX3_partOf_75 : decode cX3_partOf 75 = .ok (.ireturn, 1) := by decide +kernel
theorem dX3_partOf_76 : decode cX3_partOf 76 = .ok (.aload_n 0, 1) := by decide +kernel
theorem dX3_partOf_77 : decode cX3_partOf 77 = .ok (.getfield 42, 3) := by decide +kernel
theorem dX3_partOf_80 : decode cX3_partOf 80 = .ok (.iload_n 1, 1) := by decide +kernel
theorem dX3_partOf_81 : decode cX3_partOf 81 = .ok (.iaload, 1) := by decide +kernel
theorem dX3_partOf_82 : decode cX3_partOf 82 = .ok (.ireturn, 1) := by decide +kernel
theorem dX3_partOf_83 : decode cX3_partOf 83 = .ok (.aload_n 0, 1) := by decide +kernel
theorem dX3_partOf_84 : decode cX3_partOf 84 = .ok (.getfield 45, 3) := by decide +kernel
theorem dX3_partOf_87 : decode cX3_partOf 87 = .ok (.iload_n 1, 1) := by decide +kernel
theorem dX3_partOf_88 : decode cX3_partOf 88 = .ok (.iaload, 1) := by decide +kernel
theorem dX3_partOf_89 : decode cX3_partOf 89 = .ok (.ireturn, 1) := by decide +kernel
theorem dX3_partOf_90 : decode cX3_partOf 90 = .ok (.aload_n 0, 1) := by decide +kernel
theorem dX3_partOf_91 : decode cX3_partOf 91 = .ok (.getfield 48, 3) := by decide +kernel
theorem dX3_partOf_94 : decode cX3_partOf 94 = .ok (.iload_n 1, 1) := by decide +kernel
theorem dX3_partOf_95 : decode cX3_partOf 95 = .ok (.iaload, 1) := by decide +kernel
theorem dX3_partOf_96 : decode cX3_partOf 96 = .ok (.ireturn, 1) := by decide +kernel
theorem dX3_partOf_97 : decode cX3_partOf 97 = .ok (.aload_n 0, 1) := by decide +kernel
theorem dX3_partOf_98 : decode cX3_partOf 98 = .ok (.getfield 51, 3) := by decide +kernel
theorem dX3_partOf_101 : decode cX3_partOf 101 = .ok (.iload_n 1, 1) := by decide +kernel
theorem dX3_partOf_102 : decode cX3_partOf 102 = .ok (.iaload, 1) := by decide +kernel
theorem dX3_partOf_103 : decode cX3_partOf 103 = .ok (.ireturn, 1) := by decide +kernel
theorem dX3_partOf_104 : decode cX3_partOf 104 = .ok (.iconst (-1), 1) := by decide +kernel
theorem dX3_partOf_105 : decode cX3_partOf 105 = .ok (.ireturn, 1) := by decide +kernel
def fX3_partOf (r0 : Nat) (v1 : Int32) (v2 : Int32) (X : Mm) : Option (Int32 × Mm) :=
if v2 = (0 : Int32) then (
if mT X r0 = 3 then
if mR X r0 0 ≠ 0 then
if mT X (mR X r0 0) = 14 then
if q_b X (mR X r0 0) v1 then
some ((mI X (mR X r0 0) (v1).toNatClampNeg), X)
else none
else none
else none
else none
) else (
if v2 = (1 : Int32) then (
if mT X r0 = 3 then
if mR X r0 1 ≠ 0 then
if mT X (mR X r0 1) = 14 then
if q_b X (mR X r0 1) v1 then
some ((mI X (mR X r0 1) (v1).toNatClampNeg), X)
else none
else none
else none
else none
) else (
if v2 = (2 : Int32) then (
if mT X r0 = 3 then
if mR X r0 8 ≠ 0 then
if mT X (mR X r0 8) = 14 then
if q_b X (mR X r0 8) v1 then
some ((mI X (mR X r0 8) (v1).toNatClampNeg), X)
else none
else none
else none
else none
) else (
if v2 = (3 : Int32) then (
if mT X r0 = 3 then
if mR X r0 9 ≠ 0 then
if mT X (mR X r0 9) = 14 then
if q_b X (mR X r0 9) v1 then
some ((mI X (mR X r0 9) (v1).toNatClampNeg), X)
else none
else none
else none
else none
) else (
if v2 = (4 : Int32) then (
if mT X r0 = 3 then
if mR X r0 10 ≠ 0 then
if mT X (mR X r0 10) = 14 then
if q_b X (mR X r0 10) v1 then
some ((mI X (mR X r0 10) (v1).toNatClampNeg), X)
else none
else none
else none
else none
) else (
if v2 = (5 : Int32) then (
if mT X r0 = 3 then
if mR X r0 11 ≠ 0 then
if mT X (mR X r0 11) = 14 then
if q_b X (mR X r0 11) v1 then
some ((mI X (mR X r0 11) (v1).toNatClampNeg), X)
else none
else none
else none
else none
) else (
if v2 = (6 : Int32) then (
if mT X r0 = 3 then
if mR X r0 12 ≠ 0 then
if mT X (mR X r0 12) = 14 then
if q_b X (mR X r0 12) v1 then
some ((mI X (mR X r0 12) (v1).toNatClampNeg), X)
else none
else none
else none
else none
) else (
if v2 = (7 : Int32) then (
if mT X r0 = 3 then
if mR X r0 13 ≠ 0 then
if mT X (mR X r0 13) = 14 then
if q_b X (mR X r0 13) v1 then
some ((mI X (mR X r0 13) (v1).toNatClampNeg), X)
else none
else none
else none
else none
) else (
some ((-1 : Int32), X)
)
)
)
)
)
)
)
)
theorem sX3_partOf (r0 : Nat) (v1 : Int32) (v2 : Int32) : q_Ct yX3_partOf cX3_partOf 3 (some .int) 0 0 0 0 q_eI (fun P => [.ref (P + r0), .int v1, .int v2]) (fX3_partOf r0 v1 v2) := by
  refine q_meth (by decide +kernel) (fun P => Nat.le_of_ble_eq_true rfl) (fun E X C hn => ?_)
  show Sm E (q_fin E q_eI X 0 0) 0 0 0 [(0, .ref (q_P E + r0)), (1, .int v1), (2, .int v2)] [] X _
  unfold fX3_partOf
  refine q_iload_n C 2 dX3_partOf_0 rfl rfl ?_
  refine q_ite (fun e0 => ?_) (fun e0 => ?_)
  · refine q_tabIn C (v := 0) 48 dX3_partOf_1 (by rw [e0]; rfl) (by decide) (by decide) rfl (by decide) ?_
    refine q_aload_n C 0 dX3_partOf_48 rfl rfl ?_
    refine q_chk (fun h1 => ?_)
    refine q_chk (fun h2 => ?_)
    refine p_getR C fgX3_9 rfl dX3_partOf_49 h1 h2 ?_
    refine q_iload_n C 1 dX3_partOf_52 rfl rfl ?_
    refine q_chk (fun h3 => ?_)
    refine q_chk (fun h4 => ?_)
    refine p_iald C dX3_partOf_53 h3 h4 ?_
    exact q_iret C dX3_partOf_54
  · refine q_ite (fun e1 => ?_) (fun e1 => ?_)
    · refine q_tabIn C (v := 1) 55 dX3_partOf_1 (by rw [e1]; rfl) (by decide) (by decide) rfl (by decide) ?_
      refine q_aload_n C 0 dX3_partOf_55 rfl rfl ?_
      refine q_chk (fun h5 => ?_)
      refine q_chk (fun h6 => ?_)
      refine p_getR C fgX3_15 rfl dX3_partOf_56 h5 h6 ?_
      refine q_iload_n C 1 dX3_partOf_59 rfl rfl ?_
      refine q_chk (fun h7 => ?_)
      refine q_chk (fun h8 => ?_)
      refine p_iald C dX3_partOf_60 h7 h8 ?_
      exact q_iret C dX3_partOf_61
    · refine q_ite (fun e2 => ?_) (fun e2 => ?_)
      · refine q_tabIn C (v := 2) 62 dX3_partOf_1 (by rw [e2]; rfl) (by decide) (by decide) rfl (by decide) ?_
        refine q_aload_n C 0 dX3_partOf_62 rfl rfl ?_
        refine q_chk (fun h9 => ?_)
        refine q_chk (fun h10 => ?_)
        refine p_getR C fgX3_36 rfl dX3_partOf_63 h9 h10 ?_
        refine q_iload_n C 1 dX3_partOf_66 rfl rfl ?_
        refine q_chk (fun h11 => ?_)
        refine q_chk (fun h12 => ?_)
        refine p_iald C dX3_partOf_67 h11 h12 ?_
        exact q_iret C dX3_partOf_68
      · refine q_ite (fun e3 => ?_) (fun e3 => ?_)
        · refine q_tabIn C (v := 3) 69 dX3_partOf_1 (by rw [e3]; rfl) (by decide) (by decide) rfl (by decide) ?_
          refine q_aload_n C 0 dX3_partOf_69 rfl rfl ?_
          refine q_chk (fun h13 => ?_)
          refine q_chk (fun h14 => ?_)
          refine p_getR C fgX3_39 rfl dX3_partOf_70 h13 h14 ?_
          refine q_iload_n C 1 dX3_partOf_73 rfl rfl ?_
          refine q_chk (fun h15 => ?_)
          refine q_chk (fun h16 => ?_)
          refine p_iald C dX3_partOf_74 h15 h16 ?_
          exact q_iret C dX3_partOf_75
        · refine q_ite (fun e4 => ?_) (fun e4 => ?_)
          · refine q_tabIn C (v := 4) 76 dX3_partOf_1 (by rw [e4]; rfl) (by decide) (by decide) rfl (by decide) ?_
            refine q_aload_n C 0 dX3_partOf_76 rfl rfl ?_
            refine q_chk (fun h17 => ?_)
            refine q_chk (fun h18 => ?_)
            refine p_getR C fgX3_42 rfl dX3_partOf_77 h17 h18 ?_
            refine q_iload_n C 1 dX3_partOf_80 rfl rfl ?_
            refine q_chk (fun h19 => ?_)
            refine q_chk (fun h20 => ?_)
            refine p_iald C dX3_partOf_81 h19 h20 ?_
            exact q_iret C dX3_partOf_82
          · refine q_ite (fun e5 => ?_) (fun e5 => ?_)
            · refine q_tabIn C (v := 5) 83 dX3_partOf_1 (by rw [e5]; rfl) (by decide) (by decide) rfl (by decide) ?_
              refine q_aload_n C 0 dX3_partOf_83 rfl rfl ?_
              refine q_chk (fun h21 => ?_)
              refine q_chk (fun h22 => ?_)
              refine p_getR C fgX3_45 rfl dX3_partOf_84 h21 h22 ?_
              refine q_iload_n C 1 dX3_partOf_87 rfl rfl ?_
              refine q_chk (fun h23 => ?_)
              refine q_chk (fun h24 => ?_)
              refine p_iald C dX3_partOf_88 h23 h24 ?_
              exact q_iret C dX3_partOf_89
            · refine q_ite (fun e6 => ?_) (fun e6 => ?_)
              · refine q_tabIn C (v := 6) 90 dX3_partOf_1 (by rw [e6]; rfl) (by decide) (by decide) rfl (by decide) ?_
                refine q_aload_n C 0 dX3_partOf_90 rfl rfl ?_
                refine q_chk (fun h25 => ?_)
                refine q_chk (fun h26 => ?_)
                refine p_getR C fgX3_48 rfl dX3_partOf_91 h25 h26 ?_
                refine q_iload_n C 1 dX3_partOf_94 rfl rfl ?_
                refine q_chk (fun h27 => ?_)
                refine q_chk (fun h28 => ?_)
                refine p_iald C dX3_partOf_95 h27 h28 ?_
                exact q_iret C dX3_partOf_96
              · refine q_ite (fun e7 => ?_) (fun e7 => ?_)
                · refine q_tabIn C (v := 7) 97 dX3_partOf_1 (by rw [e7]; rfl) (by decide) (by decide) rfl (by decide) ?_
                  refine q_aload_n C 0 dX3_partOf_97 rfl rfl ?_
                  refine q_chk (fun h29 => ?_)
                  refine q_chk (fun h30 => ?_)
                  refine p_getR C fgX3_51 rfl dX3_partOf_98 h29 h30 ?_
                  refine q_iload_n C 1 dX3_partOf_101 rfl rfl ?_
                  refine q_chk (fun h31 => ?_)
                  refine q_chk (fun h32 => ?_)
                  refine p_iald C dX3_partOf_102 h31 h32 ?_
                  exact q_iret C dX3_partOf_103
                · have n0 := q_ne e0 (i := 0) rfl
                  have n1 := q_ne e1 (i := 1) rfl
                  have n2 := q_ne e2 (i := 2) rfl
                  have n3 := q_ne e3 (i := 3) rfl
                  have n4 := q_ne e4 (i := 4) rfl
                  have n5 := q_ne e5 (i := 5) rfl
                  have n6 := q_ne e6 (i := 6) rfl
                  have n7 := q_ne e7 (i := 7) rfl
                  refine q_tabOut C 104 dX3_partOf_1 (by omega) (by decide) ?_
                  refine q_iconst C (-1 : Int32) dX3_partOf_104 rfl ?_
                  exact q_iret C dX3_partOf_105
/-! RecordClaims$Events.waitingInAll()I -/
abbrev cX3_waitingInAll : ByteArray := prog_5_method_6_code
def yX3_waitingInAll : MethodName := ⟨RX3, "waitingInAll", "()I"⟩
theorem dX3_waitingInAll_0 : decode cX3_waitingInAll 0 = .ok (.iconst 0, 1) := by decide +kernel
theorem dX3_waitingInAll_1 : decode cX3_waitingInAll 1 = .ok (.istore_n 1, 1) := by decide +kernel
theorem dX3_waitingInAll_2 : decode cX3_waitingInAll 2 = .ok (.iconst 0, 1) := by decide +kernel
theorem dX3_waitingInAll_3 : decode cX3_waitingInAll 3 = .ok (.istore_n 2, 1) := by decide +kernel
theorem dX3_waitingInAll_4 : decode cX3_waitingInAll 4 = .ok (.iload_n 2, 1) := by decide +kernel
theorem dX3_waitingInAll_5 : decode cX3_waitingInAll 5 = .ok (.aload_n 0, 1) := by decide +kernel
theorem dX3_waitingInAll_6 : decode cX3_waitingInAll 6 = .ok (.getfield 61, 3) := by decide +kernel
theorem dX3_waitingInAll_9 : decode cX3_waitingInAll 9 = .ok (.if_icmp .ge 18, 3) := by decide +kernel
theorem dX3_waitingInAll_12 : decode cX3_waitingInAll 12 = .ok (.iload_n 1, 1) := by decide +kernel
theorem dX3_waitingInAll_13 : decode cX3_waitingInAll 13 = .ok (.aload_n 0, 1) := by decide +kernel
theorem dX3_waitingInAll_14 : decode cX3_waitingInAll 14 = .ok (.getfield 51, 3) := by decide +kernel
theorem dX3_waitingInAll_17 : decode cX3_waitingInAll 17 = .ok (.iload_n 2, 1) := by decide +kernel
theorem dX3_waitingInAll_18 : decode cX3_waitingInAll 18 = .ok (.iaload, 1) := by decide +kernel
theorem dX3_waitingInAll_19 : decode cX3_waitingInAll 19 = .ok (.iadd, 1) := by decide +kernel
theorem dX3_waitingInAll_20 : decode cX3_waitingInAll 20 = .ok (.istore_n 1, 1) := by decide +kernel
theorem dX3_waitingInAll_21 : decode cX3_waitingInAll 21 = .ok (.iinc 2 1, 3) := by decide +kernel
theorem dX3_waitingInAll_24 : decode cX3_waitingInAll 24 = .ok (.goto (-20), 3) := by decide +kernel
theorem dX3_waitingInAll_27 : decode cX3_waitingInAll 27 = .ok (.iload_n 1, 1) := by decide +kernel
theorem dX3_waitingInAll_28 : decode cX3_waitingInAll 28 = .ok (.ireturn, 1) := by decide +kernel
def fX3_waitingInAll_L4 (n : Nat) : Nat → Nat → Int32 → Int32 → Mm → Option (Int32 × Mm)
| 0, _, _, _, _ => none
| j + 1, r0, v1, v2, X =>
if mT X r0 = 3 then
if (mI X r0 16) ≤ v2 then (
some (v1, X)
) else (
if mR X r0 13 ≠ 0 then
if mT X (mR X r0 13) = 14 then
if q_b X (mR X r0 13) v2 then
nm ((v1 + (mI X (mR X r0 13) (v2).toNatClampNeg))) fun v1_20 =>
nm (v2 + (1 : Int32)) fun v2_21 =>
(fX3_waitingInAll_L4 n j) r0 v1_20 v2_21 X
else none
else none
else none
)
else none
def fX3_waitingInAll (n : Nat) (r0 : Nat) (X : Mm) : Option (Int32 × Mm) :=
fX3_waitingInAll_L4 n n r0 (0 : Int32) (0 : Int32) X
theorem gX3_waitingInAll_L4 {E : q_E} {X0 : Mm} (C : Cx E cX3_waitingInAll RX3 3 (some .int) (q_rm 0 0 0 0) X0) (n : Nat) : ∀ (j : Nat) (r0 : Nat) (v1 : Int32) (v2 : Int32) (X : Mm), Sm E (q_fin E q_eI X0 0 0) 0 0 4 [(0, .ref (q_P E + r0)), (1, .int v1), (2, .int v2)] [] X (fX3_waitingInAll_L4 n j r0 v1 v2 X) := by
  intro j
  induction j with
  | zero => intros; exact Sm.none
  | succ j ih =>
    intro r0 v1 v2 X
    rw [fX3_waitingInAll_L4]
    refine q_iload_n C 2 dX3_waitingInAll_4 rfl rfl ?_
    refine q_aload_n C 0 dX3_waitingInAll_5 rfl rfl ?_
    refine q_chk (fun h1 => ?_)
    refine p_getI C fgX3_61 rfl dX3_waitingInAll_6 h1 ?_
    refine q_icmp_ge C 27 dX3_waitingInAll_9 (by decide) (fun _ => ?_) (fun _ => ?_)
    · refine q_iload_n C 1 dX3_waitingInAll_27 rfl rfl ?_
      exact q_iret C dX3_waitingInAll_28
    · refine q_iload_n C 1 dX3_waitingInAll_12 rfl rfl ?_
      refine q_aload_n C 0 dX3_waitingInAll_13 rfl rfl ?_
      refine q_chk (fun h2 => ?_)
      refine p_getR C fgX3_51 rfl dX3_waitingInAll_14 h1 h2 ?_
      refine q_iload_n C 2 dX3_waitingInAll_17 rfl rfl ?_
      refine q_chk (fun h3 => ?_)
      refine q_chk (fun h4 => ?_)
      refine p_iald C dX3_waitingInAll_18 h3 h4 ?_
      refine q_iadd C dX3_waitingInAll_19 ?_
      refine q_nmi (fun v1_20 => ?_)
      refine q_istore_n C [(1, .int v1_20), (0, .ref (q_P E + r0)), (2, .int v2)] dX3_waitingInAll_20 rfl (Nat.le_of_ble_eq_true rfl) rfl ?_
      refine q_iincN C (1 : Int32) 2 (fun v2_21 => [(2, .int v2_21), (1, .int v1_20), (0, .ref (q_P E + r0))]) dX3_waitingInAll_21 rfl rfl (Nat.le_of_ble_eq_true rfl) (fun _ => rfl) (fun v2_21 => ?_)
      refine q_goto C 4 dX3_waitingInAll_24 (by decide) ?_
      refine q_sub C [(0, .ref (q_P E + r0)), (1, .int v1_20), (2, .int v2_21)] [2, 1, 0] rfl ?_
      exact ih r0 v1_20 v2_21 X
theorem sX3_waitingInAll (n : Nat) (r0 : Nat) : q_Ct yX3_waitingInAll cX3_waitingInAll 3 (some .int) 0 0 0 0 q_eI (fun P => [.ref (P + r0)]) (fX3_waitingInAll n r0) := by
  refine q_meth (by decide +kernel) (fun P => Nat.le_of_ble_eq_true rfl) (fun E X C hn => ?_)
  show Sm E (q_fin E q_eI X 0 0) 0 0 0 [(0, .ref (q_P E + r0))] [] X _
  unfold fX3_waitingInAll
  refine q_iconst C (0 : Int32) dX3_waitingInAll_0 rfl ?_
  refine q_istore_n C [(1, .int (0 : Int32)), (0, .ref (q_P E + r0))] dX3_waitingInAll_1 rfl (Nat.le_of_ble_eq_true rfl) rfl ?_
  refine q_iconst C (0 : Int32) dX3_waitingInAll_2 rfl ?_
  refine q_istore_n C [(2, .int (0 : Int32)), (1, .int (0 : Int32)), (0, .ref (q_P E + r0))] dX3_waitingInAll_3 rfl (Nat.le_of_ble_eq_true rfl) rfl ?_
  refine q_sub C [(0, .ref (q_P E + r0)), (1, .int (0 : Int32)), (2, .int (0 : Int32))] [2, 1, 0] rfl ?_
  exact gX3_waitingInAll_L4 C n n r0 (0 : Int32) (0 : Int32) X
/-! RecordClaims$Events.sharesFor(IJ)J -/
abbrev cX3_sharesFor : ByteArray := prog_5_method_7_code
def yX3_sharesFor : MethodName := ⟨RX3, "sharesFor", "(IJ)J"⟩
theorem dX3_sharesFor_0 : decode cX3_sharesFor 0 = .ok (.aload_n 0, 1) := by decide +kernel
theorem dX3_sharesFor_1 : decode cX3_sharesFor 1 = .ok (.getfield 24, 3) := by decide +kernel
theorem dX3_sharesFor_4 : decode cX3_sharesFor 4 = .ok (.iload_n 1, 1) := by decide +kernel
theorem dX3_sharesFor_5 : decode cX3_sharesFor 5 = .ok (.iaload, 1) := by decide +kernel
theorem dX3_sharesFor_6 : decode cX3_sharesFor 6 = .ok (.istore 4, 2) := by decide +kernel
theorem dX3_sharesFor_8 : decode cX3_sharesFor 8 = .ok (.iload 4, 2) := by decide +kernel
theorem dX3_sharesFor_10 : decode cX3_sharesFor 10 = .ok (.iconst 1, 1) := by decide +kernel
theorem dX3_sharesFor_11 : decode cX3_sharesFor 11 = .ok (.if_icmp .ge 7, 3) := by decide +kernel
theorem dX3_sharesFor_14 : decode cX3_sharesFor 14 = .ok (.lconst 0, 1) := by decide +kernel
theorem dX3_sharesFor_15 : decode cX3_sharesFor 15 = .ok (.goto 16, 3) := by decide +kernel
theorem dX3_sharesFor_18 : decode cX3_sharesFor 18 = .ok (.lload_n 2, 1) := by decide +kernel
theorem dX3_sharesFor_19 : decode cX3_sharesFor 19 = .ok (.aload_n 0, 1) := by decide +kernel
theorem dX3_sharesFor_20 : decode cX3_sharesFor 20 = .ok (.getfield 21, 3) := by decide +kernel
theorem dX3_sharesFor_23 : decode cX3_sharesFor 23 = .ok (.iload_n 1, 1) := by decide +kernel
theorem dX3_sharesFor_24 : decode cX3_sharesFor 24 = .ok (.iaload, 1) := by decide +kernel
theorem dX3_sharesFor_25 : decode cX3_sharesFor 25 = .ok (.i2l, 1) := by decide +kernel
theorem dX3_sharesFor_26 : decode cX3_sharesFor 26 = .ok (.lmul, 1) := by decide +kernel
theorem dX3_sharesFor_27 : decode cX3_sharesFor 27 = .ok (.iload 4, 2) := by decide +kernel
theorem dX3_sharesFor_29 : decode cX3_sharesFor 29 = .ok (.i2l, 1) := by decide +kernel
theorem dX3_sharesFor_30 : decode cX3_sharesFor 30 = .ok (.ldiv, 1) := by decide +kernel
theorem dX3_sharesFor_31 : decode cX3_sharesFor 31 = .ok (.lreturn, 1) := by decide +kernel
def fX3_sharesFor (r0 : Nat) (v1 : Int32) (v2 : Int64) (X : Mm) : Option (Int64 × Mm) :=
if mT X r0 = 3 then
if mR X r0 4 ≠ 0 then
if mT X (mR X r0 4) = 14 then
if q_b X (mR X r0 4) v1 then
nm ((mI X (mR X r0 4) (v1).toNatClampNeg)) fun v4_6 =>
if (1 : Int32) ≤ v4_6 then (
if mR X r0 3 ≠ 0 then
if mT X (mR X r0 3) = 14 then
if q_b X (mR X r0 3) v1 then
if ((v4_6).toInt64) = 0 then none else
some (((v2 * (((mI X (mR X r0 3) (v1).toNatClampNeg)).toInt64)) / ((v4_6).toInt64)), X)
else none
else none
else none
) else (
some ((0 : Int64), X)
)
else none
else none
else none
else none
theorem sX3_sharesFor (r0 : Nat) (v1 : Int32) (v2 : Int64) : q_Ct yX3_sharesFor cX3_sharesFor 5 (some .long) 0 0 0 0 q_eL (fun P => [.ref (P + r0), .int v1, .long v2]) (fX3_sharesFor r0 v1 v2) := by
  refine q_meth (by decide +kernel) (fun P => Nat.le_of_ble_eq_true rfl) (fun E X C hn => ?_)
  show Sm E (q_fin E q_eL X 0 0) 0 0 0 [(0, .ref (q_P E + r0)), (1, .int v1), (2, .long v2)] [] X _
  unfold fX3_sharesFor
  refine q_aload_n C 0 dX3_sharesFor_0 rfl rfl ?_
  refine q_chk (fun h1 => ?_)
  refine q_chk (fun h2 => ?_)
  refine p_getR C fgX3_24 rfl dX3_sharesFor_1 h1 h2 ?_
  refine q_iload_n C 1 dX3_sharesFor_4 rfl rfl ?_
  refine q_chk (fun h3 => ?_)
  refine q_chk (fun h4 => ?_)
  refine p_iald C dX3_sharesFor_5 h3 h4 ?_
  refine q_nmi (fun v4_6 => ?_)
  refine q_istore C [(4, .int v4_6), (0, .ref (q_P E + r0)), (1, .int v1), (2, .long v2)] dX3_sharesFor_6 (Nat.le_of_ble_eq_true rfl) rfl ?_
  refine q_iload C 0 dX3_sharesFor_8 rfl ?_
  refine q_iconst C (1 : Int32) dX3_sharesFor_10 rfl ?_
  refine q_icmp_ge C 18 dX3_sharesFor_11 (by decide) (fun _ => ?_) (fun _ => ?_)
  · refine q_lload_n C 3 dX3_sharesFor_18 rfl rfl ?_
    refine q_aload_n C 1 dX3_sharesFor_19 rfl rfl ?_
    refine q_chk (fun h6 => ?_)
    refine p_getR C fgX3_21 rfl dX3_sharesFor_20 h1 h6 ?_
    refine q_iload_n C 2 dX3_sharesFor_23 rfl rfl ?_
    refine q_chk (fun h7 => ?_)
    refine q_chk (fun h8 => ?_)
    refine p_iald C dX3_sharesFor_24 h7 h8 ?_
    refine q_i2l C dX3_sharesFor_25 ?_
    refine q_lmul C dX3_sharesFor_26 ?_
    refine q_iload C 0 dX3_sharesFor_27 rfl ?_
    refine q_i2l C dX3_sharesFor_29 ?_
    refine q_ldiv C dX3_sharesFor_30 ?_
    exact q_lret C dX3_sharesFor_31
  · refine q_lconst C (0 : Int64) dX3_sharesFor_14 rfl ?_
    refine q_goto C 31 dX3_sharesFor_15 (by decide) ?_
    exact q_lret C dX3_sharesFor_31
/-! RecordClaims$Events.moneyFor(IJ)J -/
abbrev cX3_moneyFor : ByteArray := prog_5_method_8_code
def yX3_moneyFor : MethodName := ⟨RX3, "moneyFor", "(IJ)J"⟩
theorem dX3_moneyFor_0 : decode cX3_moneyFor 0 = .ok (.aload_n 0, 1) := by decide +kernel
theorem dX3_moneyFor_1 : decode cX3_moneyFor 1 = .ok (.getfield 24, 3) := by decide +kernel
theorem dX3_moneyFor_4 : decode cX3_moneyFor 4 = .ok (.iload_n 1, 1) := by decide +kernel
theorem dX3_moneyFor_5 : decode cX3_moneyFor 5 = .ok (.iaload, 1) := by decide +kernel
theorem dX3_moneyFor_6 : decode cX3_moneyFor 6 = .ok (.istore 4, 2) := by decide +kernel
theorem dX3_moneyFor_8 : decode cX3_moneyFor 8 = .ok (.aload_n 0, 1) := by decide +kernel
theorem dX3_moneyFor_9 : decode cX3_moneyFor 9 = .ok (.getfield 9, 3) := by decide +kernel
theorem dX3_moneyFor_12 : decode cX3_moneyFor 12 = .ok (.iload_n 1, 1) := by decide +kernel
theorem dX3_moneyFor_13 : decode cX3_moneyFor 13 = .ok (.iaload, 1) := by decide +kernel
theorem dX3_moneyFor_14 : decode cX3_moneyFor 14 = .ok (.iconst 2, 1) := by decide +kernel
theorem dX3_moneyFor_15 : decode cX3_moneyFor 15 = .ok (.if_icmp .eq 9, 3) := by decide +kernel
theorem dX3_moneyFor_18 : decode cX3_moneyFor 18 = .ok (.iload 4, 2) := by decide +kernel
theorem dX3_moneyFor_20 : decode cX3_moneyFor 20 = .ok (.iconst 1, 1) := by decide +kernel
theorem dX3_moneyFor_21 : decode cX3_moneyFor 21 = .ok (.if_icmp .ge 5, 3) := by decide +kernel
theorem dX3_moneyFor_24 : decode cX3_moneyFor 24 = .ok (.lconst 0, 1) := by decide +kernel
theorem dX3_moneyFor_25 : decode cX3_moneyFor 25 = .ok (.lreturn, 1) := by decide +kernel
theorem dX3_moneyFor_26 : decode cX3_moneyFor 26 = .ok (.lload_n 2, 1) := by decide +kernel
theorem dX3_moneyFor_27 : decode cX3_moneyFor 27 = .ok (.aload_n 0, 1) := by decide +kernel
theorem dX3_moneyFor_28 : decode cX3_moneyFor 28 = .ok (.getfield 27, 3) := by decide +kernel
theorem dX3_moneyFor_31 : decode cX3_moneyFor 31 = .ok (.iload_n 1, 1) := by decide +kernel
theorem dX3_moneyFor_32 : decode cX3_moneyFor 32 = .ok (.iaload, 1) := by decide +kernel
theorem dX3_moneyFor_33 : decode cX3_moneyFor 33 = .ok (.i2l, 1) := by decide +kernel
theorem dX3_moneyFor_34 : decode cX3_moneyFor 34 = .ok (.lmul, 1) := by decide +kernel
theorem dX3_moneyFor_35 : decode cX3_moneyFor 35 = .ok (.lload_n 2, 1) := by decide +kernel
theorem dX3_moneyFor_36 : decode cX3_moneyFor 36 = .ok (.aload_n 0, 1) := by decide +kernel
theorem dX3_moneyFor_37 : decode cX3_moneyFor 37 = .ok (.getfield 21, 3) := by decide +kernel
theorem dX3_moneyFor_40 : decode cX3_moneyFor 40 = .ok (.iload_n 1, 1) := by decide +kernel
theorem dX3_moneyFor_41 : decode cX3_moneyFor 41 = .ok (.iaload, 1) := by decide +kernel
theorem dX3_moneyFor_42 : decode cX3_moneyFor 42 = .ok (.i2l, 1) := by decide +kernel
theorem dX3_moneyFor_43 : decode cX3_moneyFor 43 = .ok (.lmul, 1) := by decide +kernel
theorem dX3_moneyFor_44 : decode cX3_moneyFor 44 = .ok (.iload 4, 2) := by decide +kernel
theorem dX3_moneyFor_46 : decode cX3_moneyFor 46 = .ok (.i2l, 1) := by decide +kernel
theorem dX3_moneyFor_47 : decode cX3_moneyFor 47 = .ok (.lrem, 1) := by decide +kernel
theorem dX3_moneyFor_48 : decode cX3_moneyFor 48 = .ok (.aload_n 0, 1) := by decide +kernel
theorem dX3_moneyFor_49 : decode cX3_moneyFor 49 = .ok (.getfield 30, 3) := by decide +kernel
theorem dX3_moneyFor_52 : decode cX3_moneyFor 52 = .ok (.iload_n 1, 1) := by decide +kernel
theorem dX3_moneyFor_53 : decode cX3_moneyFor 53 = .ok (.iaload, 1) := by decide +kernel
theorem dX3_moneyFor_54 : decode cX3_moneyFor 54 = .ok (.i2l, 1) := by decide +kernel
theorem dX3_moneyFor_55 : decode cX3_moneyFor 55 = .ok (.lmul, 1) := by decide +kernel
theorem dX3_moneyFor_56 : decode cX3_moneyFor 56 = .ok (.iload 4, 2) := by decide +kernel
theorem dX3_moneyFor_58 : decode cX3_moneyFor 58 = .ok (.i2l, 1) := by decide +kernel
theorem dX3_moneyFor_59 : decode cX3_moneyFor 59 = .ok (.ldiv, 1) := by decide +kernel
theorem dX3_moneyFor_60 : decode cX3_moneyFor 60 = .ok (.ladd, 1) := by decide +kernel
theorem dX3_moneyFor_61 : decode cX3_moneyFor 61 = .ok (.lreturn, 1) := by decide +kernel
def fX3_moneyFor_L24 (X : Mm) : Option (Int64 × Mm) :=
some ((0 : Int64), X)
def fX3_moneyFor (r0 : Nat) (v1 : Int32) (v2 : Int64) (X : Mm) : Option (Int64 × Mm) :=
if mT X r0 = 3 then
if mR X r0 4 ≠ 0 then
if mT X (mR X r0 4) = 14 then
if q_b X (mR X r0 4) v1 then
nm ((mI X (mR X r0 4) (v1).toNatClampNeg)) fun v4_6 =>
if mR X r0 0 ≠ 0 then
if mT X (mR X r0 0) = 14 then
if q_b X (mR X r0 0) v1 then
if (mI X (mR X r0 0) (v1).toNatClampNeg) = (2 : Int32) then (
fX3_moneyFor_L24 X
) else (
if (1 : Int32) ≤ v4_6 then (
if mR X r0 5 ≠ 0 then
if mT X (mR X r0 5) = 14 then
if q_b X (mR X r0 5) v1 then
if mR X r0 3 ≠ 0 then
if mT X (mR X r0 3) = 14 then
if q_b X (mR X r0 3) v1 then
if ((v4_6).toInt64) = 0 then none else
if mR X r0 6 ≠ 0 then
if mT X (mR X r0 6) = 14 then
if q_b X (mR X r0 6) v1 then
if ((v4_6).toInt64) = 0 then none else
some (((v2 * (((mI X (mR X r0 5) (v1).toNatClampNeg)).toInt64)) + ((((v2 * (((mI X (mR X r0 3) (v1).toNatClampNeg)).toInt64)) - (v2 * (((mI X (mR X r0 3) (v1).toNatClampNeg)).toInt64)) / ((v4_6).toInt64) * ((v4_6).toInt64)) * (((mI X (mR X r0 6) (v1).toNatClampNeg)).toInt64)) / ((v4_6).toInt64))), X)
else none
else none
else none
else none
else none
else none
else none
else none
else none
) else (
fX3_moneyFor_L24 X
)
)
else none
else none
else none
else none
else none
else none
else none
theorem gX3_moneyFor_L24 {E : q_E} {X0 : Mm} (C : Cx E cX3_moneyFor RX3 5 (some .long) (q_rm 0 0 0 0) X0) (X : Mm) : Sm E (q_fin E q_eL X0 0 0) 0 0 24 [] [] X (fX3_moneyFor_L24  X) := by
  unfold fX3_moneyFor_L24
  refine q_lconst C (0 : Int64) dX3_moneyFor_24 rfl ?_
  exact q_lret C dX3_moneyFor_25
theorem sX3_moneyFor (r0 : Nat) (v1 : Int32) (v2 : Int64) : q_Ct yX3_moneyFor cX3_moneyFor 5 (some .long) 0 0 0 0 q_eL (fun P => [.ref (P + r0), .int v1, .long v2]) (fX3_moneyFor r0 v1 v2) := by
  refine q_meth (by decide +kernel) (fun P => Nat.le_of_ble_eq_true rfl) (fun E X C hn => ?_)
  show Sm E (q_fin E q_eL X 0 0) 0 0 0 [(0, .ref (q_P E + r0)), (1, .int v1), (2, .long v2)] [] X _
  unfold fX3_moneyFor
  refine q_aload_n C 0 dX3_moneyFor_0 rfl rfl ?_
  refine q_chk (fun h1 => ?_)
  refine q_chk (fun h2 => ?_)
  refine p_getR C fgX3_24 rfl dX3_moneyFor_1 h1 h2 ?_
  refine q_iload_n C 1 dX3_moneyFor_4 rfl rfl ?_
  refine q_chk (fun h3 => ?_)
  refine q_chk (fun h4 => ?_)
  refine p_iald C dX3_moneyFor_5 h3 h4 ?_
  refine q_nmi (fun v4_6 => ?_)
  refine q_istore C [(4, .int v4_6), (0, .ref (q_P E + r0)), (1, .int v1), (2, .long v2)] dX3_moneyFor_6 (Nat.le_of_ble_eq_true rfl) rfl ?_
  refine q_aload_n C 1 dX3_moneyFor_8 rfl rfl ?_
  refine q_chk (fun h6 => ?_)
  refine p_getR C fgX3_9 rfl dX3_moneyFor_9 h1 h6 ?_
  refine q_iload_n C 2 dX3_moneyFor_12 rfl rfl ?_
  refine q_chk (fun h7 => ?_)
  refine q_chk (fun h8 => ?_)
  refine p_iald C dX3_moneyFor_13 h7 h8 ?_
  refine q_iconst C (2 : Int32) dX3_moneyFor_14 rfl ?_
  refine q_icmp_eq C 24 dX3_moneyFor_15 (by decide) (fun _ => ?_) (fun _ => ?_)
  · refine q_sub C [] [] rfl ?_
    exact gX3_moneyFor_L24 C X
  · refine q_iload C 0 dX3_moneyFor_18 rfl ?_
    refine q_iconst C (1 : Int32) dX3_moneyFor_20 rfl ?_
    refine q_icmp_ge C 26 dX3_moneyFor_21 (by decide) (fun _ => ?_) (fun _ => ?_)
    · refine q_lload_n C 3 dX3_moneyFor_26 rfl rfl ?_
      refine q_aload_n C 1 dX3_moneyFor_27 rfl rfl ?_
      refine q_chk (fun h9 => ?_)
      refine p_getR C fgX3_27 rfl dX3_moneyFor_28 h1 h9 ?_
      refine q_iload_n C 2 dX3_moneyFor_31 rfl rfl ?_
      refine q_chk (fun h10 => ?_)
      refine q_chk (fun h11 => ?_)
      refine p_iald C dX3_moneyFor_32 h10 h11 ?_
      refine q_i2l C dX3_moneyFor_33 ?_
      refine q_lmul C dX3_moneyFor_34 ?_
      refine q_lload_n C 3 dX3_moneyFor_35 rfl rfl ?_
      refine q_aload_n C 1 dX3_moneyFor_36 rfl rfl ?_
      refine q_chk (fun h12 => ?_)
      refine p_getR C fgX3_21 rfl dX3_moneyFor_37 h1 h12 ?_
      refine q_iload_n C 2 dX3_moneyFor_40 rfl rfl ?_
      refine q_chk (fun h13 => ?_)
      refine q_chk (fun h14 => ?_)
      refine p_iald C dX3_moneyFor_41 h13 h14 ?_
      refine q_i2l C dX3_moneyFor_42 ?_
      refine q_lmul C dX3_moneyFor_43 ?_
      refine q_iload C 0 dX3_moneyFor_44 rfl ?_
      refine q_i2l C dX3_moneyFor_46 ?_
      refine q_lrem C dX3_moneyFor_47 ?_
      refine q_aload_n C 1 dX3_moneyFor_48 rfl rfl ?_
      refine q_chk (fun h15 => ?_)
      refine p_getR C fgX3_30 rfl dX3_moneyFor_49 h1 h15 ?_
      refine q_iload_n C 2 dX3_moneyFor_52 rfl rfl ?_
      refine q_chk (fun h16 => ?_)
      refine q_chk (fun h17 => ?_)
      refine p_iald C dX3_moneyFor_53 h16 h17 ?_
      refine q_i2l C dX3_moneyFor_54 ?_
      refine q_lmul C dX3_moneyFor_55 ?_
      refine q_iload C 0 dX3_moneyFor_56 rfl ?_
      refine q_i2l C dX3_moneyFor_58 ?_
      refine q_ldiv C dX3_moneyFor_59 ?_
      refine q_ladd C dX3_moneyFor_60 ?_
      exact q_lret C dX3_moneyFor_61
    · refine q_sub C [] [] rfl ?_
      exact gX3_moneyFor_L24 C X
/-! RecordClaims$Events.issue(IJJ)V -/
abbrev cX3_issue : ByteArray := prog_5_method_9_code
def yX3_issue : MethodName := ⟨RX3, "issue", "(IJJ)V"⟩
theorem dX3_issue_0 : decode cX3_issue 0 = .ok (.aload_n 0, 1) := by decide +kernel
theorem dX3_issue_1 : decode cX3_issue 1 = .ok (.getfield 54, 3) := by decide +kernel
theorem dX3_issue_4 : decode cX3_issue 4 = .ok (.iload_n 1, 1) := by decide +kernel
theorem dX3_issue_5 : decode cX3_issue 5 = .ok (.dup2, 1) := by decide +kernel
theorem dX3_issue_6 : decode cX3_issue 6 = .ok (.laload, 1) := by decide +kernel
theorem dX3_issue_7 : decode cX3_issue 7 = .ok (.lload_n 2, 1) := by decide +kernel
theorem dX3_issue_8 : decode cX3_issue 8 = .ok (.ladd, 1) := by decide +kernel
theorem dX3_issue_9 : decode cX3_issue 9 = .ok (.lastore, 1) := by decide +kernel
theorem dX3_issue_10 : decode cX3_issue 10 = .ok (.aload_n 0, 1) := by decide +kernel
theorem dX3_issue_11 : decode cX3_issue 11 = .ok (.getfield 58, 3) := by decide +kernel
theorem dX3_issue_14 : decode cX3_issue 14 = .ok (.iload_n 1, 1) := by decide +kernel
theorem dX3_issue_15 : decode cX3_issue 15 = .ok (.dup2, 1) := by decide +kernel
theorem dX3_issue_16 : decode cX3_issue 16 = .ok (.laload, 1) := by decide +kernel
theorem dX3_issue_17 : decode cX3_issue 17 = .ok (.lload 4, 2) := by decide +kernel
theorem dX3_issue_19 : decode cX3_issue 19 = .ok (.ladd, 1) := by decide +kernel
theorem dX3_issue_20 : decode cX3_issue 20 = .ok (.lastore, 1) := by decide +kernel
theorem dX3_issue_21 : decode cX3_issue 21 = .ok (.return_, 1) := by decide +kernel
def fX3_issue (r0 : Nat) (v1 : Int32) (v2 : Int64) (v4 : Int64) (X : Mm) : Option (Unit × Mm) :=
if mT X r0 = 3 then
if mR X r0 14 ≠ 0 then
if mT X (mR X r0 14) = 15 then
if q_b X (mR X r0 14) v1 then
nm (sJ X (mR X r0 14) (v1).toNatClampNeg ((mJ X (mR X r0 14) (v1).toNatClampNeg) + v2)) fun X9_5 =>
if mT X9_5 r0 = 3 then
if mR X9_5 r0 15 ≠ 0 then
if mT X9_5 (mR X9_5 r0 15) = 15 then
if q_b X9_5 (mR X9_5 r0 15) v1 then
nm (sJ X9_5 (mR X9_5 r0 15) (v1).toNatClampNeg ((mJ X9_5 (mR X9_5 r0 15) (v1).toNatClampNeg) + v4)) fun X20_10 =>
some ((), X20_10)
else none
else none
else none
else none
else none
else none
else none
else none
theorem sX3_issue (r0 : Nat) (v1 : Int32) (v2 : Int64) (v4 : Int64) : q_Ct yX3_issue cX3_issue 6 none 0 0 0 0 q_eV (fun P => [.ref (P + r0), .int v1, .long v2, .long v4]) (fX3_issue r0 v1 v2 v4) := by
  refine q_meth (by decide +kernel) (fun P => Nat.le_of_ble_eq_true rfl) (fun E X C hn => ?_)
  show Sm E (q_fin E q_eV X 0 0) 0 0 0 [(0, .ref (q_P E + r0)), (1, .int v1), (2, .long v2), (4, .long v4)] [] X _
  unfold fX3_issue
  refine q_aload_n C 0 dX3_issue_0 rfl rfl ?_
  refine q_chk (fun h1 => ?_)
  refine q_chk (fun h2 => ?_)
  refine p_getR C fgX3_54 rfl dX3_issue_1 h1 h2 ?_
  refine q_iload_n C 1 dX3_issue_4 rfl rfl ?_
  refine q_dup2_11 C dX3_issue_5 rfl rfl ?_
  refine q_chk (fun h3 => ?_)
  refine q_chk (fun h4 => ?_)
  refine p_lald C dX3_issue_6 h3 h4 ?_
  refine q_lload_n C 2 dX3_issue_7 rfl rfl ?_
  refine q_ladd C dX3_issue_8 ?_
  refine p_last C dX3_issue_9 h3 h4 ?_
  refine q_nmX (fun X9_5 => ?_)
  refine q_aload_n C 0 dX3_issue_10 rfl rfl ?_
  refine q_chk (fun h6 => ?_)
  refine q_chk (fun h7 => ?_)
  refine p_getR C fgX3_58 rfl dX3_issue_11 h6 h7 ?_
  refine q_iload_n C 1 dX3_issue_14 rfl rfl ?_
  refine q_dup2_11 C dX3_issue_15 rfl rfl ?_
  refine q_chk (fun h8 => ?_)
  refine q_chk (fun h9 => ?_)
  refine p_lald C dX3_issue_16 h8 h9 ?_
  refine q_lload C 3 dX3_issue_17 rfl ?_
  refine q_ladd C dX3_issue_19 ?_
  refine p_last C dX3_issue_20 h8 h9 ?_
  refine q_nmX (fun X20_10 => ?_)
  exact q_vret C dX3_issue_21
/-! RecordClaims$Events.canBeChosen(II)Z -/
abbrev cX3_canBeChosen : ByteArray := prog_5_method_10_code
def yX3_canBeChosen : MethodName := ⟨RX3, "canBeChosen", "(II)Z"⟩
theorem dX3_canBeChosen_0 : decode cX3_canBeChosen 0 = .ok (.aload_n 0, 1) := by decide +kernel
theorem dX3_canBeChosen_1 : decode cX3_canBeChosen 1 = .ok (.getfield 9, 3) := by decide +kernel
theorem dX3_canBeChosen_4 : decode cX3_canBeChosen 4 = .ok (.iload_n 1, 1) := by decide +kernel
theorem dX3_canBeChosen_5 : decode cX3_canBeChosen 5 = .ok (.iaload, 1) := by decide +kernel
theorem dX3_canBeChosen_6 : decode cX3_canBeChosen 6 = .ok (.iconst 2, 1) := by decide +kernel
theorem dX3_canBeChosen_7 : decode cX3_canBeChosen 7 = .ok (.if_icmp .ne 36, 3) := by decide +kernel
theorem dX3_canBeChosen_10 : decode cX3_canBeChosen 10 = .ok (.iload_n 2, 1) := by decide +kernel
theorem dX3_canBeChosen_11 : decode cX3_canBeChosen 11 = .ok (.aload_n 0, 1) := by decide +kernel
theorem dX3_canBeChosen_12 : decode cX3_canBeChosen 12 = .ok (.getfield 33, 3) := by decide +kernel
theorem dX3_canBeChosen_15 : decode cX3_canBeChosen 15 = .ok (.iload_n 1, 1) := by decide +kernel
theorem dX3_canBeChosen_16 : decode cX3_canBeChosen 16 = .ok (.iaload, 1) := by decide +kernel
theorem dX3_canBeChosen_17 : decode cX3_canBeChosen 17 = .ok (.if_icmp .gt 26, 3) := by decide +kernel
theorem dX3_canBeChosen_20 : decode cX3_canBeChosen 20 = .ok (.aload_n 0, 1) := by decide +kernel
theorem dX3_canBeChosen_21 : decode cX3_canBeChosen 21 = .ok (.getfield 45, 3) := by decide +kernel
theorem dX3_canBeChosen_24 : decode cX3_canBeChosen 24 = .ok (.iload_n 1, 1) := by decide +kernel
theorem dX3_canBeChosen_25 : decode cX3_canBeChosen 25 = .ok (.iaload, 1) := by decide +kernel
theorem dX3_canBeChosen_26 : decode cX3_canBeChosen 26 = .ok (.ifCond .eq 13, 3) := by decide +kernel
theorem dX3_canBeChosen_29 : decode cX3_canBeChosen 29 = .ok (.aload_n 0, 1) := by decide +kernel
theorem dX3_canBeChosen_30 : decode cX3_canBeChosen 30 = .ok (.getfield 45, 3) := by decide +kernel
theorem dX3_canBeChosen_33 : decode cX3_canBeChosen 33 = .ok (.iload_n 1, 1) := by decide +kernel
theorem dX3_canBeChosen_34 : decode cX3_canBeChosen 34 = .ok (.iaload, 1) := by decide +kernel
theorem dX3_canBeChosen_35 : decode cX3_canBeChosen 35 = .ok (.iconst 1, 1) := by decide +kernel
theorem dX3_canBeChosen_36 : decode cX3_canBeChosen 36 = .ok (.if_icmp .ne 7, 3) := by decide +kernel
theorem dX3_canBeChosen_39 : decode cX3_canBeChosen 39 = .ok (.iconst 1, 1) := by decide +kernel
theorem dX3_canBeChosen_40 : decode cX3_canBeChosen 40 = .ok (.goto 4, 3) := by decide +kernel
theorem dX3_canBeChosen_43 : decode cX3_canBeChosen 43 = .ok (.iconst 0, 1) := by decide +kernel
theorem dX3_canBeChosen_44 : decode cX3_canBeChosen 44 = .ok (.ireturn, 1) := by decide +kernel
def fX3_canBeChosen_L43 (X : Mm) : Option (Int32 × Mm) :=
some (0, X)
def fX3_canBeChosen_L39 (X : Mm) : Option (Int32 × Mm) :=
some (1, X)
def fX3_canBeChosen (r0 : Nat) (v1 : Int32) (v2 : Int32) (X : Mm) : Option (Int32 × Mm) :=
if mT X r0 = 3 then
if mR X r0 0 ≠ 0 then
if mT X (mR X r0 0) = 14 then
if q_b X (mR X r0 0) v1 then
if (mI X (mR X r0 0) (v1).toNatClampNeg) = (2 : Int32) then (
if mR X r0 7 ≠ 0 then
if mT X (mR X r0 7) = 14 then
if q_b X (mR X r0 7) v1 then
if (mI X (mR X r0 7) (v1).toNatClampNeg) < v2 then (
fX3_canBeChosen_L43 X
) else (
if mR X r0 11 ≠ 0 then
if mT X (mR X r0 11) = 14 then
if q_b X (mR X r0 11) v1 then
if (mI X (mR X r0 11) (v1).toNatClampNeg) = 0 then (
fX3_canBeChosen_L39 X
) else (
if (mI X (mR X r0 11) (v1).toNatClampNeg) = (1 : Int32) then (
fX3_canBeChosen_L39 X
) else (
fX3_canBeChosen_L43 X
)
)
else none
else none
else none
)
else none
else none
else none
) else (
fX3_canBeChosen_L43 X
)
else none
else none
else none
else none
theorem gX3_canBeChosen_L43 {E : q_E} {X0 : Mm} (C : Cx E cX3_canBeChosen RX3 3 (some .boolean) (q_rm 0 0 0 0) X0) (X : Mm) : Sm E (q_fin E q_eI X0 0 0) 0 0 43 [] [] X (fX3_canBeChosen_L43  X) := by
  unfold fX3_canBeChosen_L43
  refine q_iconst C (0 : Int32) dX3_canBeChosen_43 rfl ?_
  exact q_zret0 C dX3_canBeChosen_44
theorem gX3_canBeChosen_L39 {E : q_E} {X0 : Mm} (C : Cx E cX3_canBeChosen RX3 3 (some .boolean) (q_rm 0 0 0 0) X0) (X : Mm) : Sm E (q_fin E q_eI X0 0 0) 0 0 39 [] [] X (fX3_canBeChosen_L39  X) := by
  unfold fX3_canBeChosen_L39
  refine q_iconst C (1 : Int32) dX3_canBeChosen_39 rfl ?_
  refine q_goto C 44 dX3_canBeChosen_40 (by decide) ?_
  exact q_zret1 C dX3_canBeChosen_44
theorem sX3_canBeChosen (r0 : Nat) (v1 : Int32) (v2 : Int32) : q_Ct yX3_canBeChosen cX3_canBeChosen 3 (some .boolean) 0 0 0 0 q_eI (fun P => [.ref (P + r0), .int v1, .int v2]) (fX3_canBeChosen r0 v1 v2) := by
  refine q_meth (by decide +kernel) (fun P => Nat.le_of_ble_eq_true rfl) (fun E X C hn => ?_)
  show Sm E (q_fin E q_eI X 0 0) 0 0 0 [(0, .ref (q_P E + r0)), (1, .int v1), (2, .int v2)] [] X _
  unfold fX3_canBeChosen
  refine q_aload_n C 0 dX3_canBeChosen_0 rfl rfl ?_
  refine q_chk (fun h1 => ?_)
  refine q_chk (fun h2 => ?_)
  refine p_getR C fgX3_9 rfl dX3_canBeChosen_1 h1 h2 ?_
  refine q_iload_n C 1 dX3_canBeChosen_4 rfl rfl ?_
  refine q_chk (fun h3 => ?_)
  refine q_chk (fun h4 => ?_)
  refine p_iald C dX3_canBeChosen_5 h3 h4 ?_
  refine q_iconst C (2 : Int32) dX3_canBeChosen_6 rfl ?_
  refine q_icmp_ne C 43 dX3_canBeChosen_7 (by decide) (fun _ => ?_) (fun _ => ?_)
  · refine q_iload_n C 2 dX3_canBeChosen_10 rfl rfl ?_
    refine q_aload_n C 0 dX3_canBeChosen_11 rfl rfl ?_
    refine q_chk (fun h5 => ?_)
    refine p_getR C fgX3_33 rfl dX3_canBeChosen_12 h1 h5 ?_
    refine q_iload_n C 1 dX3_canBeChosen_15 rfl rfl ?_
    refine q_chk (fun h6 => ?_)
    refine q_chk (fun h7 => ?_)
    refine p_iald C dX3_canBeChosen_16 h6 h7 ?_
    refine q_icmp_gt C 43 dX3_canBeChosen_17 (by decide) (fun _ => ?_) (fun _ => ?_)
    · refine q_sub C [] [] rfl ?_
      exact gX3_canBeChosen_L43 C X
    · refine q_aload_n C 0 dX3_canBeChosen_20 rfl rfl ?_
      refine q_chk (fun h8 => ?_)
      refine p_getR C fgX3_45 rfl dX3_canBeChosen_21 h1 h8 ?_
      refine q_iload_n C 1 dX3_canBeChosen_24 rfl rfl ?_
      refine q_chk (fun h9 => ?_)
      refine q_chk (fun h10 => ?_)
      refine p_iald C dX3_canBeChosen_25 h9 h10 ?_
      refine q_if_eq C 39 dX3_canBeChosen_26 (by decide) (fun _ => ?_) (fun _ => ?_)
      · refine q_sub C [] [] rfl ?_
        exact gX3_canBeChosen_L39 C X
      · refine q_aload_n C 0 dX3_canBeChosen_29 rfl rfl ?_
        refine p_getR C fgX3_45 rfl dX3_canBeChosen_30 h1 h8 ?_
        refine q_iload_n C 1 dX3_canBeChosen_33 rfl rfl ?_
        refine p_iald C dX3_canBeChosen_34 h9 h10 ?_
        refine q_iconst C (1 : Int32) dX3_canBeChosen_35 rfl ?_
        refine q_icmp_ne C 43 dX3_canBeChosen_36 (by decide) (fun _ => ?_) (fun _ => ?_)
        · refine q_sub C [] [] rfl ?_
          exact gX3_canBeChosen_L39 C X
        · refine q_sub C [] [] rfl ?_
          exact gX3_canBeChosen_L43 C X
  · refine q_sub C [] [] rfl ?_
    exact gX3_canBeChosen_L43 C X
/-! RecordClaims$Events.dropBehind(I)V -/
abbrev cX3_dropBehind : ByteArray := prog_5_method_11_code
def yX3_dropBehind : MethodName := ⟨RX3, "dropBehind", "(I)V"⟩
theorem dX3_dropBehind_0 : decode cX3_dropBehind 0 = .ok (.iconst 0, 1) := by decide +kernel
theorem dX3_dropBehind_1 : decode cX3_dropBehind 1 = .ok (.istore_n 2, 1) := by decide +kernel
theorem dX3_dropBehind_2 : decode cX3_dropBehind 2 = .ok (.iload_n 2, 1) := by decide +kernel
theorem dX3_dropBehind_3 : decode cX3_dropBehind 3 = .ok (.aload_n 0, 1) := by decide +kernel
theorem dX3_dropBehind_4 : decode cX3_dropBehind 4 = .ok (.getfield 61, 3) := by decide +kernel
theorem dX3_dropBehind_7 : decode cX3_dropBehind 7 = .ok (.if_icmp .ge 85, 3) := by decide +kernel
theorem dX3_dropBehind_10 : decode cX3_dropBehind 10 = .ok (.aload_n 0, 1) := by decide +kernel
theorem dX3_dropBehind_11 : decode cX3_dropBehind 11 = .ok (.getfield 39, 3) := by decide +kernel
theorem dX3_dropBehind_14 : decode cX3_dropBehind 14 = .ok (.iload_n 2, 1) := by decide +kernel
theorem dX3_dropBehind_15 : decode cX3_dropBehind 15 = .ok (.iaload, 1) := by decide +kernel
theorem dX3_dropBehind_16 : decode cX3_dropBehind 16 = .ok (.aload_n 0, 1) := by decide +kernel
theorem dX3_dropBehind_17 : decode cX3_dropBehind 17 = .ok (.getfield 39, 3) := by decide +kernel
theorem dX3_dropBehind_20 : decode cX3_dropBehind 20 = .ok (.iload_n 1, 1) := by decide +kernel
theorem dX3_dropBehind_21 : decode cX3_dropBehind 21 = .ok (.iaload, 1) := by decide +kernel
theorem dX3_dropBehind_22 : decode cX3_dropBehind 22 = .ok (.if_icmp .gt 23, 3) := by decide +kernel
theorem dX3_dropBehind_25 : decode cX3_dropBehind 25 = .ok (.aload_n 0, 1) := by decide +kernel
theorem dX3_dropBehind_26 : decode cX3_dropBehind 26 = .ok (.getfield 39, 3) := by decide +kernel
theorem dX3_dropBehind_29 : decode cX3_dropBehind 29 = .ok (.iload_n 2, 1) := by decide +kernel
theorem dX3_dropBehind_30 : decode cX3_dropBehind 30 = .ok (.iaload, 1) := by decide +kernel
theorem dX3_dropBehind_31 : decode cX3_dropBehind 31 = .ok (.aload_n 0, 1) := by decide +kernel
theorem dX3_dropBehind_32 : decode cX3_dropBehind 32 = .ok (.getfield 39, 3) := by decide +kernel
theorem dX3_dropBehind_35 : decode cX3_dropBehind 35 = .ok (.iload_n 1, 1) := by decide +kernel
theorem dX3_dropBehind_36 : decode cX3_dropBehind 36 = .ok (.iaload, 1) := by decide +kernel
theorem dX3_dropBehind_37 : decode cX3_dropBehind 37 = .ok (.if_icmp .ne 12, 3) := by decide +kernel
theorem dX3_dropBehind_40 : decode cX3_dropBehind 40 = .ok (.iload_n 2, 1) := by decide +kernel
theorem dX3_dropBehind_41 : decode cX3_dropBehind 41 = .ok (.iload_n 1, 1) := by decide +kernel
theorem dX3_dropBehind_42 : decode cX3_dropBehind 42 = .ok (.if_icmp .le 7, 3) := by decide +kernel
theorem dX3_dropBehind_45 : decode cX3_dropBehind 45 = .ok (.iconst 1, 1) := by decide +kernel
theorem dX3_dropBehind_46 : decode cX3_dropBehind 46 = .ok (.goto 4, 3) := by decide +kernel
theorem dX3_dropBehind_49 : decode cX3_dropBehind 49 = .ok (.iconst 0, 1) := by decide +kernel
theorem dX3_dropBehind_50 : decode cX3_dropBehind 50 = .ok (.istore_n 3, 1) := by decide +kernel
theorem dX3_dropBehind_51 : decode cX3_dropBehind 51 = .ok (.aload_n 0, 1) := by decide +kernel
theorem dX3_dropBehind_52 : decode cX3_dropBehind 52 = .ok (.getfield 15, 3) := by decide +kernel
theorem dX3_dropBehind_55 : decode cX3_dropBehind 55 = .ok (.iload_n 2, 1) := by decide +kernel
theorem dX3_dropBehind_56 : decode cX3_dropBehind 56 = .ok (.iaload, 1) := by decide +kernel
theorem dX3_dropBehind_57 : decode cX3_dropBehind 57 = .ok (.aload_n 0, 1) := by decide +kernel
theorem dX3_dropBehind_58 : decode cX3_dropBehind 58 = .ok (.getfield 15, 3) := by decide +kernel
theorem dX3_dropBehind_61 : decode cX3_dropBehind 61 = .ok (.iload_n 1, 1) := by decide +kernel
theorem dX3_dropBehind_62 : decode cX3_dropBehind 62 = .ok (.iaload, 1) := by decide +kernel
theorem dX3_dropBehind_63 : decode cX3_dropBehind 63 = .ok (.if_icmp .ne 23, 3) := by decide +kernel
theorem dX3_dropBehind_66 : decode cX3_dropBehind 66 = .ok (.aload_n 0, 1) := by decide +kernel
theorem dX3_dropBehind_67 : decode cX3_dropBehind 67 = .ok (.getfield 45, 3) := by decide +kernel
theorem dX3_dropBehind_70 : decode cX3_dropBehind 70 = .ok (.iload_n 2, 1) := by decide +kernel
theorem dX3_dropBehind_71 : decode cX3_dropBehind 71 = .ok (.iaload, 1) := by decide +kernel
theorem dX3_dropBehind_72 : decode cX3_dropBehind 72 = .ok (.ifCond .ne 14, 3) := by decide +kernel
theorem dX3_dropBehind_75 : decode cX3_dropBehind 75 = .ok (.iload_n 3, 1) := by decide +kernel
theorem dX3_dropBehind_76 : decode cX3_dropBehind 76 = .ok (.ifCond .eq 10, 3) := by decide +kernel
theorem dX3_dropBehind_79 : decode cX3_dropBehind 79 = .ok (.aload_n 0, 1) := by decide +kernel
theorem dX3_dropBehind_80 : decode cX3_dropBehind 80 = .ok (.getfield 45, 3) := by decide +kernel
theorem dX3_dropBehind_83 : decode cX3_dropBehind 83 = .ok (.iload_n 2, 1) := by decide +kernel
theorem dX3_dropBehind_84 : decode cX3_dropBehind 84 = .ok (.iconst 3, 1) := by decide +kernel
theorem dX3_dropBehind_85 : decode cX3_dropBehind 85 = .ok (.iastore, 1) := by decide +kernel
theorem dX3_dropBehind_86 : decode cX3_dropBehind 86 = .ok (.iinc 2 1, 3) := by decide +kernel
theorem dX3_dropBehind_89 : decode cX3_dropBehind 89 = .ok (.goto (-87), 3) := by decide +kernel
theorem dX3_dropBehind_92 : decode cX3_dropBehind 92 = .ok (.return_, 1) := by decide +kernel
def fX3_dropBehind_L86 (n : Nat) (k2 : Nat → Int32 → Int32 → Mm → Option (Unit × Mm)) (r0 : Nat) (v1 : Int32) (v2 : Int32) (X : Mm) : Option (Unit × Mm) :=
nm (v2 + (1 : Int32)) fun v2_86 =>
k2 r0 v1 v2_86 X
def fX3_dropBehind_L50 (n : Nat) (k2 : Nat → Int32 → Int32 → Mm → Option (Unit × Mm)) (r0 : Nat) (v1 : Int32) (v2 : Int32) (s0 : Int32) (X : Mm) : Option (Unit × Mm) :=
if mT X r0 = 3 then
if mR X r0 1 ≠ 0 then
if mT X (mR X r0 1) = 14 then
if q_b X (mR X r0 1) v2 then
if q_b X (mR X r0 1) v1 then
if (mI X (mR X r0 1) (v2).toNatClampNeg) = (mI X (mR X r0 1) (v1).toNatClampNeg) then (
if mR X r0 11 ≠ 0 then
if mT X (mR X r0 11) = 14 then
if q_b X (mR X r0 11) v2 then
if (mI X (mR X r0 11) (v2).toNatClampNeg) = 0 then (
if s0 = 0 then (
fX3_dropBehind_L86 n k2 r0 v1 v2 X
) else (
nm (sI X (mR X r0 11) (v2).toNatClampNeg (3 : Int32)) fun X85_14 =>
fX3_dropBehind_L86 n k2 r0 v1 v2 X85_14
)
) else (
fX3_dropBehind_L86 n k2 r0 v1 v2 X
)
else none
else none
else none
) else (
fX3_dropBehind_L86 n k2 r0 v1 v2 X
)
else none
else none
else none
else none
else none
def fX3_dropBehind_L45 (n : Nat) (k2 : Nat → Int32 → Int32 → Mm → Option (Unit × Mm)) (r0 : Nat) (v1 : Int32) (v2 : Int32) (X : Mm) : Option (Unit × Mm) :=
fX3_dropBehind_L50 n k2 r0 v1 v2 (1 : Int32) X
def fX3_dropBehind_L49 (n : Nat) (k2 : Nat → Int32 → Int32 → Mm → Option (Unit × Mm)) (r0 : Nat) (v1 : Int32) (v2 : Int32) (X : Mm) : Option (Unit × Mm) :=
fX3_dropBehind_L50 n k2 r0 v1 v2 (0 : Int32) X
def fX3_dropBehind_L2 (n : Nat) : Nat → Nat → Int32 → Int32 → Mm → Option (Unit × Mm)
| 0, _, _, _, _ => none
| j + 1, r0, v1, v2, X =>
if mT X r0 = 3 then
if (mI X r0 16) ≤ v2 then (
some ((), X)
) else (
if mR X r0 9 ≠ 0 then
if mT X (mR X r0 9) = 14 then
if q_b X (mR X r0 9) v2 then
if q_b X (mR X r0 9) v1 then
if (mI X (mR X r0 9) (v1).toNatClampNeg) < (mI X (mR X r0 9) (v2).toNatClampNeg) then (
fX3_dropBehind_L45 n (fX3_dropBehind_L2 n j) r0 v1 v2 X
) else (
if (mI X (mR X r0 9) (v2).toNatClampNeg) = (mI X (mR X r0 9) (v1).toNatClampNeg) then (
if v2 ≤ v1 then (
fX3_dropBehind_L49 n (fX3_dropBehind_L2 n j) r0 v1 v2 X
) else (
fX3_dropBehind_L45 n (fX3_dropBehind_L2 n j) r0 v1 v2 X
)
) else (
fX3_dropBehind_L49 n (fX3_dropBehind_L2 n j) r0 v1 v2 X
)
)
else none
else none
else none
else none
)
else none
def fX3_dropBehind (n : Nat) (r0 : Nat) (v1 : Int32) (X : Mm) : Option (Unit × Mm) :=
fX3_dropBehind_L2 n n r0 v1 (0 : Int32) X
theorem gX3_dropBehind_L86 {E : q_E} {X0 : Mm} (C : Cx E cX3_dropBehind RX3 4 none (q_rm 0 0 0 0) X0) (n : Nat) (k2 : Nat → Int32 → Int32 → Mm → Option (Unit × Mm)) (hk2 : ∀ (r0 : Nat) (v1 : Int32) (v2 : Int32) (X : Mm), Sm E (q_fin E q_eV X0 0 0) 0 0 2 [(0, .ref (q_P E + r0)), (1, .int v1), (2, .int v2)] [] X (k2 r0 v1 v2 X)) (r0 : Nat) (v1 : Int32) (v2 : Int32) (X : Mm) : Sm E (q_fin E q_eV X0 0 0) 0 0 86 [(0, .ref (q_P E + r0)), (1, .int v1), (2, .int v2)] [] X (fX3_dropBehind_L86 n k2 r0 v1 v2 X) := by
  unfold fX3_dropBehind_L86
  refine q_iincN C (1 : Int32) 2 (fun v2_86 => [(2, .int v2_86), (0, .ref (q_P E + r0)), (1, .int v1)]) dX3_dropBehind_86 rfl rfl (Nat.le_of_ble_eq_true rfl) (fun _ => rfl) (fun v2_86 => ?_)
  refine q_goto C 2 dX3_dropBehind_89 (by decide) ?_
  refine q_sub C [(0, .ref (q_P E + r0)), (1, .int v1), (2, .int v2_86)] [1, 2, 0] rfl ?_
  exact hk2 r0 v1 v2_86 X
theorem gX3_dropBehind_L50 {E : q_E} {X0 : Mm} (C : Cx E cX3_dropBehind RX3 4 none (q_rm 0 0 0 0) X0) (n : Nat) (k2 : Nat → Int32 → Int32 → Mm → Option (Unit × Mm)) (hk2 : ∀ (r0 : Nat) (v1 : Int32) (v2 : Int32) (X : Mm), Sm E (q_fin E q_eV X0 0 0) 0 0 2 [(0, .ref (q_P E + r0)), (1, .int v1), (2, .int v2)] [] X (k2 r0 v1 v2 X)) (r0 : Nat) (v1 : Int32) (v2 : Int32) (s0 : Int32) (X : Mm) : Sm E (q_fin E q_eV X0 0 0) 0 0 50 [(0, .ref (q_P E + r0)), (1, .int v1), (2, .int v2)] [.int s0] X (fX3_dropBehind_L50 n k2 r0 v1 v2 s0 X) := by
  unfold fX3_dropBehind_L50
  refine q_istore_n C [(3, .int s0), (0, .ref (q_P E + r0)), (1, .int v1), (2, .int v2)] dX3_dropBehind_50 rfl (Nat.le_of_ble_eq_true rfl) rfl ?_
  refine q_aload_n C 1 dX3_dropBehind_51 rfl rfl ?_
  refine q_chk (fun h6 => ?_)
  refine q_chk (fun h7 => ?_)
  refine p_getR C fgX3_15 rfl dX3_dropBehind_52 h6 h7 ?_
  refine q_iload_n C 3 dX3_dropBehind_55 rfl rfl ?_
  refine q_chk (fun h8 => ?_)
  refine q_chk (fun h9 => ?_)
  refine p_iald C dX3_dropBehind_56 h8 h9 ?_
  refine q_aload_n C 1 dX3_dropBehind_57 rfl rfl ?_
  refine p_getR C fgX3_15 rfl dX3_dropBehind_58 h6 h7 ?_
  refine q_iload_n C 2 dX3_dropBehind_61 rfl rfl ?_
  refine q_chk (fun h10 => ?_)
  refine p_iald C dX3_dropBehind_62 h8 h10 ?_
  refine q_icmp_ne C 86 dX3_dropBehind_63 (by decide) (fun _ => ?_) (fun _ => ?_)
  · refine q_aload_n C 1 dX3_dropBehind_66 rfl rfl ?_
    refine q_chk (fun h11 => ?_)
    refine p_getR C fgX3_45 rfl dX3_dropBehind_67 h6 h11 ?_
    refine q_iload_n C 3 dX3_dropBehind_70 rfl rfl ?_
    refine q_chk (fun h12 => ?_)
    refine q_chk (fun h13 => ?_)
    refine p_iald C dX3_dropBehind_71 h12 h13 ?_
    refine q_if_ne C 86 dX3_dropBehind_72 (by decide) (fun _ => ?_) (fun _ => ?_)
    · refine q_iload_n C 0 dX3_dropBehind_75 rfl rfl ?_
      refine q_if_eq C 86 dX3_dropBehind_76 (by decide) (fun _ => ?_) (fun _ => ?_)
      · refine q_sub C [(0, .ref (q_P E + r0)), (1, .int v1), (2, .int v2)] [1, 2, 3] rfl ?_
        exact gX3_dropBehind_L86 C n k2 hk2 r0 v1 v2 X
      · refine q_aload_n C 1 dX3_dropBehind_79 rfl rfl ?_
        refine p_getR C fgX3_45 rfl dX3_dropBehind_80 h6 h11 ?_
        refine q_iload_n C 3 dX3_dropBehind_83 rfl rfl ?_
        refine q_iconst C (3 : Int32) dX3_dropBehind_84 rfl ?_
        refine p_iast C dX3_dropBehind_85 h12 h13 ?_
        refine q_nmX (fun X85_14 => ?_)
        refine q_sub C [(0, .ref (q_P E + r0)), (1, .int v1), (2, .int v2)] [1, 2, 3] rfl ?_
        exact gX3_dropBehind_L86 C n k2 hk2 r0 v1 v2 X85_14
    · refine q_sub C [(0, .ref (q_P E + r0)), (1, .int v1), (2, .int v2)] [1, 2, 3] rfl ?_
      exact gX3_dropBehind_L86 C n k2 hk2 r0 v1 v2 X
  · refine q_sub C [(0, .ref (q_P E + r0)), (1, .int v1), (2, .int v2)] [1, 2, 3] rfl ?_
    exact gX3_dropBehind_L86 C n k2 hk2 r0 v1 v2 X
theorem gX3_dropBehind_L45 {E : q_E} {X0 : Mm} (C : Cx E cX3_dropBehind RX3 4 none (q_rm 0 0 0 0) X0) (n : Nat) (k2 : Nat → Int32 → Int32 → Mm → Option (Unit × Mm)) (hk2 : ∀ (r0 : Nat) (v1 : Int32) (v2 : Int32) (X : Mm), Sm E (q_fin E q_eV X0 0 0) 0 0 2 [(0, .ref (q_P E + r0)), (1, .int v1), (2, .int v2)] [] X (k2 r0 v1 v2 X)) (r0 : Nat) (v1 : Int32) (v2 : Int32) (X : Mm) : Sm E (q_fin E q_eV X0 0 0) 0 0 45 [(0, .ref (q_P E + r0)), (1, .int v1), (2, .int v2)] [] X (fX3_dropBehind_L45 n k2 r0 v1 v2 X) := by
  unfold fX3_dropBehind_L45
  refine q_iconst C (1 : Int32) dX3_dropBehind_45 rfl ?_
  refine q_goto C 50 dX3_dropBehind_46 (by decide) ?_
  exact gX3_dropBehind_L50 C n k2 hk2 r0 v1 v2 (1 : Int32) X
theorem gX3_dropBehind_L49 {E : q_E} {X0 : Mm} (C : Cx E cX3_dropBehind RX3 4 none (q_rm 0 0 0 0) X0) (n : Nat) (k2 : Nat → Int32 → Int32 → Mm → Option (Unit × Mm)) (hk2 : ∀ (r0 : Nat) (v1 : Int32) (v2 : Int32) (X : Mm), Sm E (q_fin E q_eV X0 0 0) 0 0 2 [(0, .ref (q_P E + r0)), (1, .int v1), (2, .int v2)] [] X (k2 r0 v1 v2 X)) (r0 : Nat) (v1 : Int32) (v2 : Int32) (X : Mm) : Sm E (q_fin E q_eV X0 0 0) 0 0 49 [(0, .ref (q_P E + r0)), (1, .int v1), (2, .int v2)] [] X (fX3_dropBehind_L49 n k2 r0 v1 v2 X) := by
  unfold fX3_dropBehind_L49
  refine q_iconst C (0 : Int32) dX3_dropBehind_49 rfl ?_
  exact gX3_dropBehind_L50 C n k2 hk2 r0 v1 v2 (0 : Int32) X
theorem gX3_dropBehind_L2 {E : q_E} {X0 : Mm} (C : Cx E cX3_dropBehind RX3 4 none (q_rm 0 0 0 0) X0) (n : Nat) : ∀ (j : Nat) (r0 : Nat) (v1 : Int32) (v2 : Int32) (X : Mm), Sm E (q_fin E q_eV X0 0 0) 0 0 2 [(0, .ref (q_P E + r0)), (1, .int v1), (2, .int v2)] [] X (fX3_dropBehind_L2 n j r0 v1 v2 X) := by
  intro j
  induction j with
  | zero => intros; exact Sm.none
  | succ j ih =>
    intro r0 v1 v2 X
    rw [fX3_dropBehind_L2]
    refine q_iload_n C 2 dX3_dropBehind_2 rfl rfl ?_
    refine q_aload_n C 0 dX3_dropBehind_3 rfl rfl ?_
    refine q_chk (fun h1 => ?_)
    refine p_getI C fgX3_61 rfl dX3_dropBehind_4 h1 ?_
    refine q_icmp_ge C 92 dX3_dropBehind_7 (by decide) (fun _ => ?_) (fun _ => ?_)
    · exact q_vret C dX3_dropBehind_92
    · refine q_aload_n C 0 dX3_dropBehind_10 rfl rfl ?_
      refine q_chk (fun h2 => ?_)
      refine p_getR C fgX3_39 rfl dX3_dropBehind_11 h1 h2 ?_
      refine q_iload_n C 2 dX3_dropBehind_14 rfl rfl ?_
      refine q_chk (fun h3 => ?_)
      refine q_chk (fun h4 => ?_)
      refine p_iald C dX3_dropBehind_15 h3 h4 ?_
      refine q_aload_n C 0 dX3_dropBehind_16 rfl rfl ?_
      refine p_getR C fgX3_39 rfl dX3_dropBehind_17 h1 h2 ?_
      refine q_iload_n C 1 dX3_dropBehind_20 rfl rfl ?_
      refine q_chk (fun h5 => ?_)
      refine p_iald C dX3_dropBehind_21 h3 h5 ?_
      refine q_icmp_gt C 45 dX3_dropBehind_22 (by decide) (fun _ => ?_) (fun _ => ?_)
      · exact gX3_dropBehind_L45 C n (fX3_dropBehind_L2 n j) ih r0 v1 v2 X
      · refine q_aload_n C 0 dX3_dropBehind_25 rfl rfl ?_
        refine p_getR C fgX3_39 rfl dX3_dropBehind_26 h1 h2 ?_
        refine q_iload_n C 2 dX3_dropBehind_29 rfl rfl ?_
        refine p_iald C dX3_dropBehind_30 h3 h4 ?_
        refine q_aload_n C 0 dX3_dropBehind_31 rfl rfl ?_
        refine p_getR C fgX3_39 rfl dX3_dropBehind_32 h1 h2 ?_
        refine q_iload_n C 1 dX3_dropBehind_35 rfl rfl ?_
        refine p_iald C dX3_dropBehind_36 h3 h5 ?_
        refine q_icmp_ne C 49 dX3_dropBehind_37 (by decide) (fun _ => ?_) (fun _ => ?_)
        · refine q_iload_n C 2 dX3_dropBehind_40 rfl rfl ?_
          refine q_iload_n C 1 dX3_dropBehind_41 rfl rfl ?_
          refine q_icmp_le C 49 dX3_dropBehind_42 (by decide) (fun _ => ?_) (fun _ => ?_)
          · exact gX3_dropBehind_L49 C n (fX3_dropBehind_L2 n j) ih r0 v1 v2 X
          · exact gX3_dropBehind_L45 C n (fX3_dropBehind_L2 n j) ih r0 v1 v2 X
        · exact gX3_dropBehind_L49 C n (fX3_dropBehind_L2 n j) ih r0 v1 v2 X
theorem sX3_dropBehind (n : Nat) (r0 : Nat) (v1 : Int32) : q_Ct yX3_dropBehind cX3_dropBehind 4 none 0 0 0 0 q_eV (fun P => [.ref (P + r0), .int v1]) (fX3_dropBehind n r0 v1) := by
  refine q_meth (by decide +kernel) (fun P => Nat.le_of_ble_eq_true rfl) (fun E X C hn => ?_)
  show Sm E (q_fin E q_eV X 0 0) 0 0 0 [(0, .ref (q_P E + r0)), (1, .int v1)] [] X _
  unfold fX3_dropBehind
  refine q_iconst C (0 : Int32) dX3_dropBehind_0 rfl ?_
  refine q_istore_n C [(2, .int (0 : Int32)), (0, .ref (q_P E + r0)), (1, .int v1)] dX3_dropBehind_1 rfl (Nat.le_of_ble_eq_true rfl) rfl ?_
  refine q_sub C [(0, .ref (q_P E + r0)), (1, .int v1), (2, .int (0 : Int32))] [1, 2, 0] rfl ?_
  exact gX3_dropBehind_L2 C n n r0 v1 (0 : Int32) X
/-! RecordClaims$Events.carriesTo(IIIII)Z -/
abbrev cX3_carriesTo : ByteArray := prog_5_method_12_code
def yX3_carriesTo : MethodName := ⟨RX3, "carriesTo", "(IIIII)Z"⟩
theorem dX3_carriesTo_0 : decode cX3_carriesTo 0 = .ok (.aload_n 0, 1) := by decide +kernel
theorem dX3_carriesTo_1 : decode cX3_carriesTo 1 = .ok (.getfield 15, 3) := by decide +kernel
theorem dX3_carriesTo_4 : decode cX3_carriesTo 4 = .ok (.iload_n 1, 1) := by decide +kernel
theorem dX3_carriesTo_5 : decode cX3_carriesTo 5 = .ok (.iaload, 1) := by decide +kernel
theorem dX3_carriesTo_6 : decode cX3_carriesTo 6 = .ok (.iload_n 2, 1) := by decide +kernel
theorem dX3_carriesTo_7 : decode cX3_carriesTo 7 = .ok (.if_icmp .ne 22, 3) := by decide +kernel
theorem dX3_carriesTo_10 : decode cX3_carriesTo 10 = .ok (.aload_n 0, 1) := by decide +kernel
theorem dX3_carriesTo_11 : decode cX3_carriesTo 11 = .ok (.getfield 45, 3) := by decide +kernel
theorem dX3_carriesTo_14 : decode cX3_carriesTo 14 = .ok (.iload_n 1, 1) := by decide +kernel
theorem dX3_carriesTo_15 : decode cX3_carriesTo 15 = .ok (.iaload, 1) := by decide +kernel
theorem dX3_carriesTo_16 : decode cX3_carriesTo 16 = .ok (.ifCond .ne 13, 3) := by decide +kernel
theorem dX3_carriesTo_19 : decode cX3_carriesTo 19 = .ok (.aload_n 0, 1) := by decide +kernel
theorem dX3_carriesTo_20 : decode cX3_carriesTo 20 = .ok (.getfield 9, 3) := by decide +kernel
theorem dX3_carriesTo_23 : decode cX3_carriesTo 23 = .ok (.iload_n 1, 1) := by decide +kernel
theorem dX3_carriesTo_24 : decode cX3_carriesTo 24 = .ok (.iaload, 1) := by decide +kernel
theorem dX3_carriesTo_25 : decode cX3_carriesTo 25 = .ok (.iconst 3, 1) := by decide +kernel
theorem dX3_carriesTo_26 : decode cX3_carriesTo 26 = .ok (.if_icmp .ne 5, 3) := by decide +kernel
theorem dX3_carriesTo_29 : decode cX3_carriesTo 29 = .ok (.iconst 0, 1) := by decide +kernel
theorem dX3_carriesTo_30 : decode cX3_carriesTo 30 = .ok (.ireturn, 1) := by decide +kernel
theorem dX3_carriesTo_31 : decode cX3_carriesTo 31 = .ok (.iload 4, 2) := by decide +kernel
theorem dX3_carriesTo_33 : decode cX3_carriesTo 33 = .ok (.aload_n 0, 1) := by decide +kernel
theorem dX3_carriesTo_34 : decode cX3_carriesTo 34 = .ok (.getfield 36, 3) := by decide +kernel
theorem dX3_carriesTo_37 : decode cX3_carriesTo 37 = .ok (.iload_n 1, 1) := by decide +kernel
theorem dX3_carriesTo_38 : decode cX3_carriesTo 38 = .ok (.iaload, 1) := by decide +kernel
theorem dX3_carriesTo_39 : decode cX3_carriesTo 39 = .ok (.if_icmp .ge 7, 3) := by decide +kernel
theorem dX3_carriesTo_42 : decode cX3_carriesTo 42 = .ok (.iconst 1, 1) := by decide +kernel
theorem dX3_carriesTo_43 : decode cX3_carriesTo 43 = .ok (.goto 4, 3) := by decide +kernel
theorem dX3_carriesTo_46 : decode cX3_carriesTo 46 = .ok (.iconst 0, 1) := by decide +kernel
theorem dX3_carriesTo_47 : decode cX3_carriesTo 47 = .ok (.istore 6, 2) := by decide +kernel
theorem dX3_carriesTo_49 : decode cX3_carriesTo 49 = .ok (.iload 5, 2) := by decide +kernel
theorem dX3_carriesTo_51 : decode cX3_carriesTo 51 = .ok (.aload_n 0, 1) := by decide +kernel
theorem dX3_carriesTo_52 : decode cX3_carriesTo 52 = .ok (.getfield 39, 3) := by decide +kernel
theorem dX3_carriesTo_55 : decode cX3_carriesTo 55 = .ok (.iload_n 1, 1) := by decide +kernel
theorem dX3_carriesTo_56 : decode cX3_carriesTo 56 = .ok (.iaload, 1) := by decide +kernel
theorem dX3_carriesTo_57 : decode cX3_carriesTo 57 = .ok (.if_icmp .gt 7, 3) := by decide +kernel
theorem dX3_carriesTo_60 : decode cX3_carriesTo 60 = .ok (.iconst 1, 1) := by decide +kernel
theorem dX3_carriesTo_61 : decode cX3_carriesTo 61 = .ok (.goto 4, 3) := by decide +kernel
theorem dX3_carriesTo_64 : decode cX3_carriesTo 64 = .ok (.iconst 0, 1) := by decide +kernel
theorem dX3_carriesTo_65 : decode cX3_carriesTo 65 = .ok (.istore 7, 2) := by decide +kernel
theorem dX3_carriesTo_67 : decode cX3_carriesTo 67 = .ok (.iload_n 3, 1) := by decide +kernel
theorem dX3_carriesTo_68 : decode cX3_carriesTo 68 = .ok (.lookupswitch 60 #[(0, 28), (1, 44)], 28) := by decide +kernel
theorem dX3_carriesTo_96 : decode cX3_carriesTo 96 = .ok (.iload 6, 2) := by decide +kernel
theorem dX3_carriesTo_98 : decode cX3_carriesTo 98 = .ok (.ifCond .eq 12, 3) := by decide +kernel
theorem dX3_carriesTo_101 : decode cX3_carriesTo 101 = .ok (.iload 7, 2) := by decide +kernel
theorem dX3_carriesTo_103 : decode cX3_carriesTo 103 = .ok (.ifCond .eq 7, 3) := by decide +kernel
theorem dX3_carriesTo_106 : decode cX3_carriesTo 106 = .ok (.iconst 1, 1) := by decide +kernel
theorem dX3_carriesTo_107 : decode cX3_carriesTo 107 = .ok (.goto 4, 3) := by decide +kernel
theorem dX3_carriesTo_110 : decode cX3_carriesTo 110 = .ok (.iconst 0, 1) := by decide +kernel
theorem dX3_carriesTo_111 : decode cX3_carriesTo 111 = .ok (.ireturn, 1) := by decide +kernel
theorem dX3_carriesTo_112 : decode cX3_carriesTo 112 = .ok (.iload 6, 2) := by decide +kernel
theorem dX3_carriesTo_114 : decode cX3_carriesTo 114 = .ok (.ifCond .eq 12, 3) := by decide +kernel
theorem dX3_carriesTo_117 : decode cX3_carriesTo 117 = .ok (.iload 7, 2) := by decide +kernel
theorem dX3_carriesTo_119 : decode cX3_carriesTo 119 = .ok (.ifCond .ne 7, 3) := by decide +kernel
theorem dX3_carriesTo_122 : decode cX3_carriesTo 122 = .ok (.iconst 1, 1) := by decide +kernel
theorem dX3_carriesTo_123 : decode cX3_carriesTo 123 = .ok (.goto 4, 3) := by decide +kernel
theorem dX3_carriesTo_126 : decode cX3_carriesTo 126 = .ok (.iconst 0, 1) := by decide +kernel
theorem dX3_carriesTo_127 : decode cX3_carriesTo 127 = .ok (.ireturn, 1) := by decide +kernel
theorem dX3_carriesTo_128 : decode cX3_carriesTo 128 = .ok (.iload 6, 2) := by decide +kernel
theorem dX3_carriesTo_130 : decode cX3_carriesTo 130 = .ok (.ifCond .ne 12, 3) := by decide +kernel
theorem dX3_carriesTo_133 : decode cX3_carriesTo 133 = .ok (.iload 7, 2) := by decide +kernel
theorem dX3_carriesTo_135 : decode cX3_carriesTo 135 = .ok (.ifCond .eq 7, 3) := by decide +kernel
theorem dX3_carriesTo_138 : decode cX3_carriesTo 138 = .ok (.iconst 1, 1) := by decide +kernel
theorem dX3_carriesTo_139 : decode cX3_carriesTo 139 = .ok (.goto 4, 3) := by decide +kernel
theorem dX3_carriesTo_142 : decode cX3_carriesTo 142 = .ok (.iconst 0, 1) := by decide +kernel
theorem dX3_carriesTo_143 : decode cX3_carriesTo 143 = .ok (.ireturn, 1) := by decide +kernel
def fX3_carriesTo_L29 (X : Mm) : Option (Int32 × Mm) :=
some (0, X)
def fX3_carriesTo_L110 (X : Mm) : Option (Int32 × Mm) :=
some (0, X)
def fX3_carriesTo_L126 (X : Mm) : Option (Int32 × Mm) :=
some (0, X)
def fX3_carriesTo_L142 (X : Mm) : Option (Int32 × Mm) :=
some (0, X)
def fX3_carriesTo_L65 (v3 : Int32) (v6 : Int32) (s0 : Int32) (X : Mm) : Option (Int32 × Mm) :=
if v3 = (0 : Int32) then (
if v6 = 0 then (
fX3_carriesTo_L110 X
) else (
if s0 = 0 then (
fX3_carriesTo_L110 X
) else (
some (1, X)
)
)
) else (
if v3 = (1 : Int32) then (
if v6 = 0 then (
fX3_carriesTo_L126 X
) else (
if s0 = 0 then (
some (1, X)
) else (
fX3_carriesTo_L126 X
)
)
) else (
if v6 = 0 then (
if s0 = 0 then (
fX3_carriesTo_L142 X
) else (
some (1, X)
)
) else (
fX3_carriesTo_L142 X
)
)
)
def fX3_carriesTo_L47 (r0 : Nat) (v1 : Int32) (v3 : Int32) (v5 : Int32) (s0 : Int32) (X : Mm) : Option (Int32 × Mm) :=
if mT X r0 = 3 then
if mR X r0 9 ≠ 0 then
if mT X (mR X r0 9) = 14 then
if q_b X (mR X r0 9) v1 then
if (mI X (mR X r0 9) (v1).toNatClampNeg) < v5 then (
fX3_carriesTo_L65 v3 s0 (0 : Int32) X
) else (
fX3_carriesTo_L65 v3 s0 (1 : Int32) X
)
else none
else none
else none
else none
def fX3_carriesTo (r0 : Nat) (v1 : Int32) (v2 : Int32) (v3 : Int32) (v4 : Int32) (v5 : Int32) (X : Mm) : Option (Int32 × Mm) :=
if mT X r0 = 3 then
if mR X r0 1 ≠ 0 then
if mT X (mR X r0 1) = 14 then
if q_b X (mR X r0 1) v1 then
if (mI X (mR X r0 1) (v1).toNatClampNeg) = v2 then (
if mR X r0 11 ≠ 0 then
if mT X (mR X r0 11) = 14 then
if q_b X (mR X r0 11) v1 then
if (mI X (mR X r0 11) (v1).toNatClampNeg) = 0 then (
if mR X r0 0 ≠ 0 then
if mT X (mR X r0 0) = 14 then
if q_b X (mR X r0 0) v1 then
if (mI X (mR X r0 0) (v1).toNatClampNeg) = (3 : Int32) then (
fX3_carriesTo_L29 X
) else (
if mR X r0 8 ≠ 0 then
if mT X (mR X r0 8) = 14 then
if q_b X (mR X r0 8) v1 then
if (mI X (mR X r0 8) (v1).toNatClampNeg) ≤ v4 then (
fX3_carriesTo_L47 r0 v1 v3 v5 (0 : Int32) X
) else (
fX3_carriesTo_L47 r0 v1 v3 v5 (1 : Int32) X
)
else none
else none
else none
)
else none
else none
else none
) else (
fX3_carriesTo_L29 X
)
else none
else none
else none
) else (
fX3_carriesTo_L29 X
)
else none
else none
else none
else none
theorem gX3_carriesTo_L29 {E : q_E} {X0 : Mm} (C : Cx E cX3_carriesTo RX3 8 (some .boolean) (q_rm 0 0 0 0) X0) (X : Mm) : Sm E (q_fin E q_eI X0 0 0) 0 0 29 [] [] X (fX3_carriesTo_L29  X) := by
  unfold fX3_carriesTo_L29
  refine q_iconst C (0 : Int32) dX3_carriesTo_29 rfl ?_
  exact q_zret0 C dX3_carriesTo_30
theorem gX3_carriesTo_L110 {E : q_E} {X0 : Mm} (C : Cx E cX3_carriesTo RX3 8 (some .boolean) (q_rm 0 0 0 0) X0) (X : Mm) : Sm E (q_fin E q_eI X0 0 0) 0 0 110 [] [] X (fX3_carriesTo_L110  X) := by
  unfold fX3_carriesTo_L110
  refine q_iconst C (0 : Int32) dX3_carriesTo_110 rfl ?_
  exact q_zret0 C dX3_carriesTo_111
theorem gX3_carriesTo_L126 {E : q_E} {X0 : Mm} (C : Cx E cX3_carriesTo RX3 8 (some .boolean) (q_rm 0 0 0 0) X0) (X : Mm) : Sm E (q_fin E q_eI X0 0 0) 0 0 126 [] [] X (fX3_carriesTo_L126  X) := by
  unfold fX3_carriesTo_L126
  refine q_iconst C (0 : Int32) dX3_carriesTo_126 rfl ?_
  exact q_zret0 C dX3_carriesTo_127
theorem gX3_carriesTo_L142 {E : q_E} {X0 : Mm} (C : Cx E cX3_carriesTo RX3 8 (some .boolean) (q_rm 0 0 0 0) X0) (X : Mm) : Sm E (q_fin E q_eI X0 0 0) 0 0 142 [] [] X (fX3_carriesTo_L142  X) := by
  unfold fX3_carriesTo_L142
  refine q_iconst C (0 : Int32) dX3_carriesTo_142 rfl ?_
  exact q_zret0 C dX3_carriesTo_143
theorem gX3_carriesTo_L65 {E : q_E} {X0 : Mm} (C : Cx E cX3_carriesTo RX3 8 (some .boolean) (q_rm 0 0 0 0) X0) (v3 : Int32) (v6 : Int32) (s0 : Int32) (X : Mm) : Sm E (q_fin E q_eI X0 0 0) 0 0 65 [(3, .int v3), (6, .int v6)] [.int s0] X (fX3_carriesTo_L65 v3 v6 s0 X) := by
  unfold fX3_carriesTo_L65
  refine q_istore C [(7, .int s0), (3, .int v3), (6, .int v6)] dX3_carriesTo_65 (Nat.le_of_ble_eq_true rfl) rfl ?_
  refine q_iload_n C 1 dX3_carriesTo_67 rfl rfl ?_
  refine q_ite (fun e0 => ?_) (fun e0 => ?_)
  · refine q_lookup C (off := 28) 96 dX3_carriesTo_68 (by decide) (by rw [e0]; rfl) (by decide) ?_
    refine q_iload C 2 dX3_carriesTo_96 rfl ?_
    refine q_if_eq C 110 dX3_carriesTo_98 (by decide) (fun _ => ?_) (fun _ => ?_)
    · refine q_sub C [] [] rfl ?_
      exact gX3_carriesTo_L110 C X
    · refine q_iload C 0 dX3_carriesTo_101 rfl ?_
      refine q_if_eq C 110 dX3_carriesTo_103 (by decide) (fun _ => ?_) (fun _ => ?_)
      · refine q_sub C [] [] rfl ?_
        exact gX3_carriesTo_L110 C X
      · refine q_iconst C (1 : Int32) dX3_carriesTo_106 rfl ?_
        refine q_goto C 111 dX3_carriesTo_107 (by decide) ?_
        exact q_zret1 C dX3_carriesTo_111
  · refine q_ite (fun e1 => ?_) (fun e1 => ?_)
    · refine q_lookup C (off := 44) 112 dX3_carriesTo_68 (by decide) (by rw [e1]; rfl) (by decide) ?_
      refine q_iload C 2 dX3_carriesTo_112 rfl ?_
      refine q_if_eq C 126 dX3_carriesTo_114 (by decide) (fun _ => ?_) (fun _ => ?_)
      · refine q_sub C [] [] rfl ?_
        exact gX3_carriesTo_L126 C X
      · refine q_iload C 0 dX3_carriesTo_117 rfl ?_
        refine q_if_ne C 126 dX3_carriesTo_119 (by decide) (fun _ => ?_) (fun _ => ?_)
        · refine q_iconst C (1 : Int32) dX3_carriesTo_122 rfl ?_
          refine q_goto C 127 dX3_carriesTo_123 (by decide) ?_
          exact q_zret1 C dX3_carriesTo_127
        · refine q_sub C [] [] rfl ?_
          exact gX3_carriesTo_L126 C X
    · have n0 := q_ne e0 (i := 0) rfl
      have n1 := q_ne e1 (i := 1) rfl
      refine q_lookup C (off := 60) 128 dX3_carriesTo_68 (by decide) (q_lkout (by simp [Op.lookupswitch.offset, n0, Ne.symm n0, n1, Ne.symm n1])) (by decide) ?_
      refine q_iload C 2 dX3_carriesTo_128 rfl ?_
      refine q_if_ne C 142 dX3_carriesTo_130 (by decide) (fun _ => ?_) (fun _ => ?_)
      · refine q_iload C 0 dX3_carriesTo_133 rfl ?_
        refine q_if_eq C 142 dX3_carriesTo_135 (by decide) (fun _ => ?_) (fun _ => ?_)
        · refine q_sub C [] [] rfl ?_
          exact gX3_carriesTo_L142 C X
        · refine q_iconst C (1 : Int32) dX3_carriesTo_138 rfl ?_
          refine q_goto C 143 dX3_carriesTo_139 (by decide) ?_
          exact q_zret1 C dX3_carriesTo_143
      · refine q_sub C [] [] rfl ?_
        exact gX3_carriesTo_L142 C X
theorem gX3_carriesTo_L47 {E : q_E} {X0 : Mm} (C : Cx E cX3_carriesTo RX3 8 (some .boolean) (q_rm 0 0 0 0) X0) (r0 : Nat) (v1 : Int32) (v3 : Int32) (v5 : Int32) (s0 : Int32) (X : Mm) : Sm E (q_fin E q_eI X0 0 0) 0 0 47 [(0, .ref (q_P E + r0)), (1, .int v1), (3, .int v3), (5, .int v5)] [.int s0] X (fX3_carriesTo_L47 r0 v1 v3 v5 s0 X) := by
  unfold fX3_carriesTo_L47
  refine q_istore C [(6, .int s0), (0, .ref (q_P E + r0)), (1, .int v1), (3, .int v3), (5, .int v5)] dX3_carriesTo_47 (Nat.le_of_ble_eq_true rfl) rfl ?_
  refine q_iload C 4 dX3_carriesTo_49 rfl ?_
  refine q_aload_n C 1 dX3_carriesTo_51 rfl rfl ?_
  refine q_chk (fun h14 => ?_)
  refine q_chk (fun h15 => ?_)
  refine p_getR C fgX3_39 rfl dX3_carriesTo_52 h14 h15 ?_
  refine q_iload_n C 2 dX3_carriesTo_55 rfl rfl ?_
  refine q_chk (fun h16 => ?_)
  refine q_chk (fun h17 => ?_)
  refine p_iald C dX3_carriesTo_56 h16 h17 ?_
  refine q_icmp_gt C 64 dX3_carriesTo_57 (by decide) (fun _ => ?_) (fun _ => ?_)
  · refine q_iconst C (0 : Int32) dX3_carriesTo_64 rfl ?_
    refine q_sub C [(3, .int v3), (6, .int s0)] [3, 0] rfl ?_
    exact gX3_carriesTo_L65 C v3 s0 (0 : Int32) X
  · refine q_iconst C (1 : Int32) dX3_carriesTo_60 rfl ?_
    refine q_goto C 65 dX3_carriesTo_61 (by decide) ?_
    refine q_sub C [(3, .int v3), (6, .int s0)] [3, 0] rfl ?_
    exact gX3_carriesTo_L65 C v3 s0 (1 : Int32) X
theorem sX3_carriesTo (r0 : Nat) (v1 : Int32) (v2 : Int32) (v3 : Int32) (v4 : Int32) (v5 : Int32) : q_Ct yX3_carriesTo cX3_carriesTo 8 (some .boolean) 0 0 0 0 q_eI (fun P => [.ref (P + r0), .int v1, .int v2, .int v3, .int v4, .int v5]) (fX3_carriesTo r0 v1 v2 v3 v4 v5) := by
  refine q_meth (by decide +kernel) (fun P => Nat.le_of_ble_eq_true rfl) (fun E X C hn => ?_)
  show Sm E (q_fin E q_eI X 0 0) 0 0 0 [(0, .ref (q_P E + r0)), (1, .int v1), (2, .int v2), (3, .int v3), (4, .int v4), (5, .int v5)] [] X _
  unfold fX3_carriesTo
  refine q_aload_n C 0 dX3_carriesTo_0 rfl rfl ?_
  refine q_chk (fun h1 => ?_)
  refine q_chk (fun h2 => ?_)
  refine p_getR C fgX3_15 rfl dX3_carriesTo_1 h1 h2 ?_
  refine q_iload_n C 1 dX3_carriesTo_4 rfl rfl ?_
  refine q_chk (fun h3 => ?_)
  refine q_chk (fun h4 => ?_)
  refine p_iald C dX3_carriesTo_5 h3 h4 ?_
  refine q_iload_n C 2 dX3_carriesTo_6 rfl rfl ?_
  refine q_icmp_ne C 29 dX3_carriesTo_7 (by decide) (fun _ => ?_) (fun _ => ?_)
  · refine q_aload_n C 0 dX3_carriesTo_10 rfl rfl ?_
    refine q_chk (fun h5 => ?_)
    refine p_getR C fgX3_45 rfl dX3_carriesTo_11 h1 h5 ?_
    refine q_iload_n C 1 dX3_carriesTo_14 rfl rfl ?_
    refine q_chk (fun h6 => ?_)
    refine q_chk (fun h7 => ?_)
    refine p_iald C dX3_carriesTo_15 h6 h7 ?_
    refine q_if_ne C 29 dX3_carriesTo_16 (by decide) (fun _ => ?_) (fun _ => ?_)
    · refine q_aload_n C 0 dX3_carriesTo_19 rfl rfl ?_
      refine q_chk (fun h8 => ?_)
      refine p_getR C fgX3_9 rfl dX3_carriesTo_20 h1 h8 ?_
      refine q_iload_n C 1 dX3_carriesTo_23 rfl rfl ?_
      refine q_chk (fun h9 => ?_)
      refine q_chk (fun h10 => ?_)
      refine p_iald C dX3_carriesTo_24 h9 h10 ?_
      refine q_iconst C (3 : Int32) dX3_carriesTo_25 rfl ?_
      refine q_icmp_ne C 31 dX3_carriesTo_26 (by decide) (fun _ => ?_) (fun _ => ?_)
      · refine q_sub C [] [] rfl ?_
        exact gX3_carriesTo_L29 C X
      · refine q_iload C 4 dX3_carriesTo_31 rfl ?_
        refine q_aload_n C 0 dX3_carriesTo_33 rfl rfl ?_
        refine q_chk (fun h11 => ?_)
        refine p_getR C fgX3_36 rfl dX3_carriesTo_34 h1 h11 ?_
        refine q_iload_n C 1 dX3_carriesTo_37 rfl rfl ?_
        refine q_chk (fun h12 => ?_)
        refine q_chk (fun h13 => ?_)
        refine p_iald C dX3_carriesTo_38 h12 h13 ?_
        refine q_icmp_ge C 46 dX3_carriesTo_39 (by decide) (fun _ => ?_) (fun _ => ?_)
        · refine q_iconst C (0 : Int32) dX3_carriesTo_46 rfl ?_
          refine q_sub C [(0, .ref (q_P E + r0)), (1, .int v1), (3, .int v3), (5, .int v5)] [0, 1, 3, 5] rfl ?_
          exact gX3_carriesTo_L47 C r0 v1 v3 v5 (0 : Int32) X
        · refine q_iconst C (1 : Int32) dX3_carriesTo_42 rfl ?_
          refine q_goto C 47 dX3_carriesTo_43 (by decide) ?_
          refine q_sub C [(0, .ref (q_P E + r0)), (1, .int v1), (3, .int v3), (5, .int v5)] [0, 1, 3, 5] rfl ?_
          exact gX3_carriesTo_L47 C r0 v1 v3 v5 (1 : Int32) X
    · refine q_sub C [] [] rfl ?_
      exact gX3_carriesTo_L29 C X
  · refine q_sub C [] [] rfl ?_
    exact gX3_carriesTo_L29 C X
/-! RecordClaims$Events.commonDivisor(JJ)J -/
abbrev cX3_commonDivisor : ByteArray := prog_5_method_15_code
def yX3_commonDivisor : MethodName := ⟨RX3, "commonDivisor", "(JJ)J"⟩
theorem dX3_commonDivisor_0 : decode cX3_commonDivisor 0 = .ok (.lload_n 0, 1) := by decide +kernel
theorem dX3_commonDivisor_1 : decode cX3_commonDivisor 1 = .ok (.lstore 4, 2) := by decide +kernel
theorem dX3_commonDivisor_3 : decode cX3_commonDivisor 3 = .ok (.lload_n 2, 1) := by decide +kernel
theorem dX3_commonDivisor_4 : decode cX3_commonDivisor 4 = .ok (.lstore 6, 2) := by decide +kernel
theorem dX3_commonDivisor_6 : decode cX3_commonDivisor 6 = .ok (.iconst 0, 1) := by decide +kernel
theorem dX3_commonDivisor_7 : decode cX3_commonDivisor 7 = .ok (.istore 8, 2) := by decide +kernel
theorem dX3_commonDivisor_9 : decode cX3_commonDivisor 9 = .ok (.iload 8, 2) := by decide +kernel
theorem dX3_commonDivisor_11 : decode cX3_commonDivisor 11 = .ok (.sipush 1000, 3) := by decide +kernel
theorem dX3_commonDivisor_14 : decode cX3_commonDivisor 14 = .ok (.if_icmp .ge 31, 3) := by decide +kernel
theorem dX3_commonDivisor_17 : decode cX3_commonDivisor 17 = .ok (.lload 6, 2) := by decide +kernel
theorem dX3_commonDivisor_19 : decode cX3_commonDivisor 19 = .ok (.lconst 0, 1) := by decide +kernel
theorem dX3_commonDivisor_20 : decode cX3_commonDivisor 20 = .ok (.lcmp, 1) := by decide +kernel
theorem dX3_commonDivisor_21 : decode cX3_commonDivisor 21 = .ok (.ifCond .le 24, 3) := by decide +kernel
theorem dX3_commonDivisor_24 : decode cX3_commonDivisor 24 = .ok (.lload 4, 2) := by decide +kernel
theorem dX3_commonDivisor_26 : decode cX3_commonDivisor 26 = .ok (.lload 6, 2) := by decide +kernel
theorem dX3_commonDivisor_28 : decode cX3_commonDivisor 28 = .ok (.lrem, 1) := by decide +kernel
theorem dX3_commonDivisor_29 : decode cX3_commonDivisor 29 = .ok (.lstore 9, 2) := by decide +kernel
theorem dX3_commonDivisor_31 : decode cX3_commonDivisor 31 = .ok (.lload 6, 2) := by decide +kernel
theorem dX3_commonDivisor_33 : decode cX3_commonDivisor 33 = .ok (.lstore 4, 2) := by decide +kernel
theorem dX3_commonDivisor_35 : decode cX3_commonDivisor 35 = .ok (.lload 9, 2) := by decide +kernel
theorem dX3_commonDivisor_37 : decode cX3_commonDivisor 37 = .ok (.lstore 6, 2) := by decide +kernel
theorem dX3_commonDivisor_39 : decode cX3_commonDivisor 39 = .ok (.iinc 8 1, 3) := by decide +kernel
theorem dX3_commonDivisor_42 : decode cX3_commonDivisor 42 = .ok (.goto (-33), 3) := by decide +kernel
theorem dX3_commonDivisor_45 : decode cX3_commonDivisor 45 = .ok (.lload 4, 2) := by decide +kernel
theorem dX3_commonDivisor_47 : decode cX3_commonDivisor 47 = .ok (.lreturn, 1) := by decide +kernel
def fX3_commonDivisor_L45 (n : Nat) (v4 : Int64) (X : Mm) : Option (Int64 × Mm) :=
some (v4, X)
def fX3_commonDivisor_L9 (n : Nat) : Nat → Int64 → Int64 → Int32 → Mm → Option (Int64 × Mm)
| 0, _, _, _, _ => none
| j + 1, v4, v6, v8, X =>
if (1000 : Int32) ≤ v8 then (
fX3_commonDivisor_L45 n v4 X
) else (
if (lg_cmp v6 (0 : Int64)) ≤ 0 then (
fX3_commonDivisor_L45 n v4 X
) else (
if v6 = 0 then none else
nm ((v4 - v4 / v6 * v6)) fun v9_29 =>
nm (v8 + (1 : Int32)) fun v8_39 =>
(fX3_commonDivisor_L9 n j) v6 v9_29 v8_39 X
)
)
def fX3_commonDivisor (n : Nat) (v0 : Int64) (v2 : Int64) (X : Mm) : Option (Int64 × Mm) :=
fX3_commonDivisor_L9 n n v0 v2 (0 : Int32) X
theorem gX3_commonDivisor_L45 {E : q_E} {X0 : Mm} (C : Cx E cX3_commonDivisor RX3 11 (some .long) (q_rm 0 0 0 0) X0) (n : Nat) (v4 : Int64) (X : Mm) : Sm E (q_fin E q_eL X0 0 0) 0 0 45 [(4, .long v4)] [] X (fX3_commonDivisor_L45 n v4 X) := by
  unfold fX3_commonDivisor_L45
  refine q_lload C 0 dX3_commonDivisor_45 rfl ?_
  exact q_lret C dX3_commonDivisor_47
theorem gX3_commonDivisor_L9 {E : q_E} {X0 : Mm} (C : Cx E cX3_commonDivisor RX3 11 (some .long) (q_rm 0 0 0 0) X0) (n : Nat) : ∀ (j : Nat) (v4 : Int64) (v6 : Int64) (v8 : Int32) (X : Mm), Sm E (q_fin E q_eL X0 0 0) 0 0 9 [(4, .long v4), (6, .long v6), (8, .int v8)] [] X (fX3_commonDivisor_L9 n j v4 v6 v8 X) := by
  intro j
  induction j with
  | zero => intros; exact Sm.none
  | succ j ih =>
    intro v4 v6 v8 X
    rw [fX3_commonDivisor_L9]
    refine q_iload C 2 dX3_commonDivisor_9 rfl ?_
    refine q_sipush C (1000 : Int32) dX3_commonDivisor_11 rfl ?_
    refine q_icmp_ge C 45 dX3_commonDivisor_14 (by decide) (fun _ => ?_) (fun _ => ?_)
    · refine q_sub C [(4, .long v4)] [0] rfl ?_
      exact gX3_commonDivisor_L45 C n v4 X
    · refine q_lload C 1 dX3_commonDivisor_17 rfl ?_
      refine q_lconst C (0 : Int64) dX3_commonDivisor_19 rfl ?_
      refine q_lcmp C dX3_commonDivisor_20 ?_
      refine q_if_le C 45 dX3_commonDivisor_21 (by decide) (fun _ => ?_) (fun _ => ?_)
      · refine q_sub C [(4, .long v4)] [0] rfl ?_
        exact gX3_commonDivisor_L45 C n v4 X
      · refine q_lload C 0 dX3_commonDivisor_24 rfl ?_
        refine q_lload C 1 dX3_commonDivisor_26 rfl ?_
        refine q_lrem C dX3_commonDivisor_28 ?_
        refine q_nml (fun v9_29 => ?_)
        refine q_lstore C [(9, .long v9_29), (4, .long v4), (6, .long v6), (8, .int v8)] dX3_commonDivisor_29 (Nat.le_of_ble_eq_true rfl) rfl ?_
        refine q_lload C 2 dX3_commonDivisor_31 rfl ?_
        refine q_lstore C [(4, .long v6), (9, .long v9_29), (6, .long v6), (8, .int v8)] dX3_commonDivisor_33 (Nat.le_of_ble_eq_true rfl) rfl ?_
        refine q_lload C 1 dX3_commonDivisor_35 rfl ?_
        refine q_lstore C [(6, .long v9_29), (4, .long v6), (9, .long v9_29), (8, .int v8)] dX3_commonDivisor_37 (Nat.le_of_ble_eq_true rfl) rfl ?_
        refine q_iincN C (1 : Int32) 3 (fun v8_39 => [(8, .int v8_39), (6, .long v9_29), (4, .long v6), (9, .long v9_29)]) dX3_commonDivisor_39 rfl rfl (Nat.le_of_ble_eq_true rfl) (fun _ => rfl) (fun v8_39 => ?_)
        refine q_goto C 9 dX3_commonDivisor_42 (by decide) ?_
        refine q_sub C [(4, .long v6), (6, .long v9_29), (8, .int v8_39)] [2, 1, 0] rfl ?_
        exact ih v6 v9_29 v8_39 X
theorem sX3_commonDivisor (n : Nat) (v0 : Int64) (v2 : Int64) : q_Ct yX3_commonDivisor cX3_commonDivisor 11 (some .long) 0 0 0 0 q_eL (fun P => [.long v0, .long v2]) (fX3_commonDivisor n v0 v2) := by
  refine q_meth (by decide +kernel) (fun P => Nat.le_of_ble_eq_true rfl) (fun E X C hn => ?_)
  show Sm E (q_fin E q_eL X 0 0) 0 0 0 [(0, .long v0), (2, .long v2)] [] X _
  unfold fX3_commonDivisor
  refine q_lload_n C 0 dX3_commonDivisor_0 rfl rfl ?_
  refine q_lstore C [(4, .long v0), (0, .long v0), (2, .long v2)] dX3_commonDivisor_1 (Nat.le_of_ble_eq_true rfl) rfl ?_
  refine q_lload_n C 2 dX3_commonDivisor_3 rfl rfl ?_
  refine q_lstore C [(6, .long v2), (4, .long v0), (0, .long v0), (2, .long v2)] dX3_commonDivisor_4 (Nat.le_of_ble_eq_true rfl) rfl ?_
  refine q_iconst C (0 : Int32) dX3_commonDivisor_6 rfl ?_
  refine q_istore C [(8, .int (0 : Int32)), (6, .long v2), (4, .long v0), (0, .long v0), (2, .long v2)] dX3_commonDivisor_7 (Nat.le_of_ble_eq_true rfl) rfl ?_
  refine q_sub C [(4, .long v0), (6, .long v2), (8, .int (0 : Int32))] [2, 1, 0] rfl ?_
  exact gX3_commonDivisor_L9 C n n v0 v2 (0 : Int32) X
/-! RecordClaims$Events.partOfFraction(JJI)J -/
abbrev cX3_partOfFraction : ByteArray := prog_5_method_14_code
def yX3_partOfFraction : MethodName := ⟨RX3, "partOfFraction", "(JJI)J"⟩
theorem dX3_partOfFraction_0 : decode cX3_partOfFraction 0 = .ok (.lload_n 0, 1) := by decide +kernel
theorem dX3_partOfFraction_1 : decode cX3_partOfFraction 1 = .ok (.invokestatic 101, 3) := by decide +kernel
theorem dX3_partOfFraction_4 : decode cX3_partOfFraction 4 = .ok (.lload_n 2, 1) := by decide +kernel
theorem dX3_partOfFraction_5 : decode cX3_partOfFraction 5 = .ok (.invokestatic 107, 3) := by decide +kernel
theorem dX3_partOfFraction_8 : decode cX3_partOfFraction 8 = .ok (.lstore 5, 2) := by decide +kernel
theorem dX3_partOfFraction_10 : decode cX3_partOfFraction 10 = .ok (.lload 5, 2) := by decide +kernel
theorem dX3_partOfFraction_12 : decode cX3_partOfFraction 12 = .ok (.lconst 1, 1) := by decide +kernel
theorem dX3_partOfFraction_13 : decode cX3_partOfFraction 13 = .ok (.lcmp, 1) := by decide +kernel
theorem dX3_partOfFraction_14 : decode cX3_partOfFraction 14 = .ok (.ifCond .ge 7, 3) := by decide +kernel
theorem dX3_partOfFraction_17 : decode cX3_partOfFraction 17 = .ok (.ldc2_w 99, 3) := by decide +kernel
theorem dX3_partOfFraction_20 : decode cX3_partOfFraction 20 = .ok (.lreturn, 1) := by decide +kernel
theorem dX3_partOfFraction_21 : decode cX3_partOfFraction 21 = .ok (.iload 4, 2) := by decide +kernel
theorem dX3_partOfFraction_23 : decode cX3_partOfFraction 23 = .ok (.lookupswitch 35 #[(0, 25), (1, 30)], 25) := by decide +kernel
theorem dX3_partOfFraction_48 : decode cX3_partOfFraction 48 = .ok (.lload_n 0, 1) := by decide +kernel
theorem dX3_partOfFraction_49 : decode cX3_partOfFraction 49 = .ok (.lload 5, 2) := by decide +kernel
theorem dX3_partOfFraction_51 : decode cX3_partOfFraction 51 = .ok (.ldiv, 1) := by decide +kernel
theorem dX3_partOfFraction_52 : decode cX3_partOfFraction 52 = .ok (.lreturn, 1) := by decide +kernel
theorem dX3_partOfFraction_53 : decode cX3_partOfFraction 53 = .ok (.lload_n 2, 1) := by decide +kernel
theorem dX3_partOfFraction_54 : decode cX3_partOfFraction 54 = .ok (.lload 5, 2) := by decide +kernel
theorem dX3_partOfFraction_56 : decode cX3_partOfFraction 56 = .ok (.ldiv, 1) := by decide +kernel
theorem dX3_partOfFraction_57 : decode cX3_partOfFraction 57 = .ok (.lreturn, 1) := by decide +kernel
theorem dX3_partOfFraction_58 : decode cX3_partOfFraction 58 = .ok (.ldc2_w 99, 3) := by decide +kernel
theorem dX3_partOfFraction_61 : decode cX3_partOfFraction 61 = .ok (.lreturn, 1) := by decide +kernel
theorem fmX3_101 : q_LM RX3 101 Lib.MathLoose.abs_long.x Lib.MathLoose.abs_long.code 2 .long := ⟨q_tb 1139 (by decide +kernel) rfl, q_tb 1140 (by decide +kernel) rfl, q_tb 19 (by decide +kernel) rfl, q_tb 1141 (by decide +kernel) rfl⟩
theorem fcX3_107 : q_LS RX3 107 yX3_commonDivisor cX3_commonDivisor 11 (some .long) 2 := ⟨q_tb 1142 (by decide +kernel) rfl, q_tb 1143 (by decide +kernel) rfl, q_tb 7 (by decide +kernel) rfl, q_tb 1144 (by decide +kernel) rfl, ⟨by decide +kernel, by decide +kernel, by decide +kernel⟩⟩
theorem fkX3_99 : Cond.constantLong RX3 99 (-9223372036854775808 : Int64) ∈ q_tbl := q_tb 1145 (by decide +kernel) rfl
def fX3_partOfFraction (n : Nat) (v0 : Int64) (v2 : Int64) (v4 : Int32) (X : Mm) : Option (Int64 × Mm) :=
bd (fX3_commonDivisor n ((if 0 < v0 then v0 else -v0)) v2 X) fun w1 X5_2 =>
if 0 ≤ (lg_cmp w1 (1 : Int64)) then (
if v4 = (0 : Int32) then (
if w1 = 0 then none else
some ((v0 / w1), X5_2)
) else (
if v4 = (1 : Int32) then (
if w1 = 0 then none else
some ((v2 / w1), X5_2)
) else (
some ((-9223372036854775808 : Int64), X5_2)
)
)
) else (
some ((-9223372036854775808 : Int64), X5_2)
)
theorem sX3_partOfFraction (n : Nat) (v0 : Int64) (v2 : Int64) (v4 : Int32) : q_Ct yX3_partOfFraction cX3_partOfFraction 7 (some .long) 1 30 0 0 q_eL (fun P => [.long v0, .long v2, .int v4]) (fX3_partOfFraction n v0 v2 v4) := by
  refine q_meth (by decide +kernel) (fun P => Nat.le_of_ble_eq_true rfl) (fun E X C hn => ?_)
  show Sm E (q_fin E q_eL X 0 0) 0 0 0 [(0, .long v0), (2, .long v2), (4, .int v4)] [] X _
  unfold fX3_partOfFraction
  refine q_lload_n C 0 dX3_partOfFraction_0 rfl rfl ?_
  refine q_absL C fmX3_101 ⟨Nat.le_of_ble_eq_true rfl, Nat.le_of_ble_eq_true rfl, Nat.le_of_ble_eq_true rfl, Nat.le_of_ble_eq_true rfl⟩ dX3_partOfFraction_1 ?_
  refine q_lload_n C 1 dX3_partOfFraction_4 rfl rfl ?_
  refine q_cSL (As := (fun P => [.long (if 0 < v0 then v0 else -v0), .long v2])) C [] (sX3_commonDivisor n ((if 0 < v0 then v0 else -v0)) v2) fcX3_107 rfl (fun _ => rfl) ⟨Nat.le_of_ble_eq_true rfl, Nat.le_of_ble_eq_true rfl⟩ ⟨Nat.le_of_ble_eq_true rfl, Nat.le_of_ble_eq_true rfl⟩ (Nat.le_of_ble_eq_true rfl) dX3_partOfFraction_5 (fun w1 X5_2 => ?_)
  refine q_lstore C [(5, .long w1), (0, .long v0), (2, .long v2), (4, .int v4)] dX3_partOfFraction_8 (Nat.le_of_ble_eq_true rfl) rfl ?_
  refine q_lload C 0 dX3_partOfFraction_10 rfl ?_
  refine q_lconst C (1 : Int64) dX3_partOfFraction_12 rfl ?_
  refine q_lcmp C dX3_partOfFraction_13 ?_
  refine q_if_ge C 21 dX3_partOfFraction_14 (by decide) (fun _ => ?_) (fun _ => ?_)
  · refine q_iload C 3 dX3_partOfFraction_21 rfl ?_
    refine q_ite (fun e0 => ?_) (fun e0 => ?_)
    · refine q_lookup C (off := 25) 48 dX3_partOfFraction_23 (by decide) (by rw [e0]; rfl) (by decide) ?_
      refine q_lload_n C 1 dX3_partOfFraction_48 rfl rfl ?_
      refine q_lload C 0 dX3_partOfFraction_49 rfl ?_
      refine q_ldiv C dX3_partOfFraction_51 ?_
      exact q_lret C dX3_partOfFraction_52
    · refine q_ite (fun e1 => ?_) (fun e1 => ?_)
      · refine q_lookup C (off := 30) 53 dX3_partOfFraction_23 (by decide) (by rw [e1]; rfl) (by decide) ?_
        refine q_lload_n C 2 dX3_partOfFraction_53 rfl rfl ?_
        refine q_lload C 0 dX3_partOfFraction_54 rfl ?_
        refine q_ldiv C dX3_partOfFraction_56 ?_
        exact q_lret C dX3_partOfFraction_57
      · have n0 := q_ne e0 (i := 0) rfl
        have n1 := q_ne e1 (i := 1) rfl
        refine q_lookup C (off := 35) 58 dX3_partOfFraction_23 (by decide) (q_lkout (by simp [Op.lookupswitch.offset, n0, Ne.symm n0, n1, Ne.symm n1])) (by decide) ?_
        refine q_ldc2 C dX3_partOfFraction_58 fkX3_99 ?_
        exact q_lret C dX3_partOfFraction_61
  · refine q_ldc2 C dX3_partOfFraction_17 fkX3_99 ?_
    exact q_lret C dX3_partOfFraction_20
