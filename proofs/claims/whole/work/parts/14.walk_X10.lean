/-! RecordClaims$Trades.<init>()V -/
abbrev cX10_init : ByteArray := prog_12_method_1_code
def yX10_init : MethodName := ⟨RX10, "<init>", "()V"⟩
theorem dX10_init_0 : decode cX10_init 0 = .ok (.aload_n 0, 1) := by decide +kernel
theorem dX10_init_1 : decode cX10_init 1 = .ok (.invokespecial 3, 3) := by decide +kernel
theorem dX10_init_4 : decode cX10_init 4 = .ok (.aload_n 0, 1) := by decide +kernel
theorem dX10_init_5 : decode cX10_init 5 = .ok (.bipush 60, 2) := by decide +kernel
theorem dX10_init_7 : decode cX10_init 7 = .ok (.newarray .int, 2) := by decide +kernel
theorem dX10_init_9 : decode cX10_init 9 = .ok (.putfield 9, 3) := by decide +kernel
theorem dX10_init_12 : decode cX10_init 12 = .ok (.aload_n 0, 1) := by decide +kernel
theorem dX10_init_13 : decode cX10_init 13 = .ok (.bipush 60, 2) := by decide +kernel
theorem dX10_init_15 : decode cX10_init 15 = .ok (.newarray .int, 2) := by decide +kernel
theorem dX10_init_17 : decode cX10_init 17 = .ok (.putfield 15, 3) := by decide +kernel
theorem dX10_init_20 : decode cX10_init 20 = .ok (.aload_n 0, 1) := by decide +kernel
theorem dX10_init_21 : decode cX10_init 21 = .ok (.bipush 60, 2) := by decide +kernel
theorem dX10_init_23 : decode cX10_init 23 = .ok (.newarray .int, 2) := by decide +kernel
theorem dX10_init_25 : decode cX10_init 25 = .ok (.putfield 18, 3) := by decide +kernel
theorem dX10_init_28 : decode cX10_init 28 = .ok (.aload_n 0, 1) := by decide +kernel
theorem dX10_init_29 : decode cX10_init 29 = .ok (.bipush 60, 2) := by decide +kernel
theorem dX10_init_31 : decode cX10_init 31 = .ok (.newarray .long, 2) := by decide +kernel
theorem dX10_init_33 : decode cX10_init 33 = .ok (.putfield 21, 3) := by decide +kernel
theorem dX10_init_36 : decode cX10_init 36 = .ok (.aload_n 0, 1) := by decide +kernel
theorem dX10_init_37 : decode cX10_init 37 = .ok (.bipush 60, 2) := by decide +kernel
theorem dX10_init_39 : decode cX10_init 39 = .ok (.newarray .long, 2) := by decide +kernel
theorem dX10_init_41 : decode cX10_init 41 = .ok (.putfield 25, 3) := by decide +kernel
theorem dX10_init_44 : decode cX10_init 44 = .ok (.aload_n 0, 1) := by decide +kernel
theorem dX10_init_45 : decode cX10_init 45 = .ok (.bipush 60, 2) := by decide +kernel
theorem dX10_init_47 : decode cX10_init 47 = .ok (.newarray .int, 2) := by decide +kernel
theorem dX10_init_49 : decode cX10_init 49 = .ok (.putfield 28, 3) := by decide +kernel
theorem dX10_init_52 : decode cX10_init 52 = .ok (.aload_n 0, 1) := by decide +kernel
theorem dX10_init_53 : decode cX10_init 53 = .ok (.bipush 60, 2) := by decide +kernel
theorem dX10_init_55 : decode cX10_init 55 = .ok (.newarray .int, 2) := by decide +kernel
theorem dX10_init_57 : decode cX10_init 57 = .ok (.putfield 31, 3) := by decide +kernel
theorem dX10_init_60 : decode cX10_init 60 = .ok (.aload_n 0, 1) := by decide +kernel
theorem dX10_init_61 : decode cX10_init 61 = .ok (.bipush 60, 2) := by decide +kernel
theorem dX10_init_63 : decode cX10_init 63 = .ok (.newarray .int, 2) := by decide +kernel
theorem dX10_init_65 : decode cX10_init 65 = .ok (.putfield 34, 3) := by decide +kernel
theorem dX10_init_68 : decode cX10_init 68 = .ok (.aload_n 0, 1) := by decide +kernel
theorem dX10_init_69 : decode cX10_init 69 = .ok (.bipush 60, 2) := by decide +kernel
theorem dX10_init_71 : decode cX10_init 71 = .ok (.newarray .int, 2) := by decide +kernel
theorem dX10_init_73 : decode cX10_init 73 = .ok (.putfield 37, 3) := by decide +kernel
theorem dX10_init_76 : decode cX10_init 76 = .ok (.return_, 1) := by decide +kernel
theorem fwX10_3_oi : Cond.methodLink RX10 3 Lib.objectInit ∈ q_tbl := q_tb 221 (by decide +kernel) rfl
theorem fpX10_9 : q_Fp RX10 9 10 0 (.array .int) true := ⟨RX10, TX10, 10, tyX10, rfl, by decide, inX10, q_tb 222 (by decide +kernel) rfl, tyX10_ok, nmX10, rfl, rfl, fun h => by first | rfl | cases h⟩
theorem fpX10_15 : q_Fp RX10 15 10 1 (.array .int) true := ⟨RX10, TX10, 10, tyX10, rfl, by decide, inX10, q_tb 224 (by decide +kernel) rfl, tyX10_ok, nmX10, rfl, rfl, fun h => by first | rfl | cases h⟩
theorem fpX10_18 : q_Fp RX10 18 10 2 (.array .int) true := ⟨RX10, TX10, 10, tyX10, rfl, by decide, inX10, q_tb 226 (by decide +kernel) rfl, tyX10_ok, nmX10, rfl, rfl, fun h => by first | rfl | cases h⟩
theorem fpX10_21 : q_Fp RX10 21 10 3 (.array .long) true := ⟨RX10, TX10, 10, tyX10, rfl, by decide, inX10, q_tb 228 (by decide +kernel) rfl, tyX10_ok, nmX10, rfl, rfl, fun h => by first | rfl | cases h⟩
theorem fpX10_25 : q_Fp RX10 25 10 4 (.array .long) true := ⟨RX10, TX10, 10, tyX10, rfl, by decide, inX10, q_tb 230 (by decide +kernel) rfl, tyX10_ok, nmX10, rfl, rfl, fun h => by first | rfl | cases h⟩
theorem fpX10_28 : q_Fp RX10 28 10 5 (.array .int) true := ⟨RX10, TX10, 10, tyX10, rfl, by decide, inX10, q_tb 232 (by decide +kernel) rfl, tyX10_ok, nmX10, rfl, rfl, fun h => by first | rfl | cases h⟩
theorem fpX10_31 : q_Fp RX10 31 10 6 (.array .int) true := ⟨RX10, TX10, 10, tyX10, rfl, by decide, inX10, q_tb 234 (by decide +kernel) rfl, tyX10_ok, nmX10, rfl, rfl, fun h => by first | rfl | cases h⟩
theorem fpX10_34 : q_Fp RX10 34 10 7 (.array .int) true := ⟨RX10, TX10, 10, tyX10, rfl, by decide, inX10, q_tb 236 (by decide +kernel) rfl, tyX10_ok, nmX10, rfl, rfl, fun h => by first | rfl | cases h⟩
theorem fpX10_37 : q_Fp RX10 37 10 8 (.array .int) true := ⟨RX10, TX10, 10, tyX10, rfl, by decide, inX10, q_tb 239 (by decide +kernel) rfl, tyX10_ok, nmX10, rfl, rfl, fun h => by first | rfl | cases h⟩
def fX10_init (r0 : Nat) (X : Mm) : Option (Unit × Mm) :=
nm (mN X + 1) fun rN2 =>
nm (q_nw X 14 60) fun X7_1 =>
if mT X7_1 r0 = 10 then
if rN2 ≠ 0 then
nm (sR X7_1 r0 0 rN2) fun X9_3 =>
nm (mN X9_3 + 1) fun rN7 =>
nm (q_nw X9_3 14 60) fun X15_6 =>
if mT X15_6 r0 = 10 then
if rN7 ≠ 0 then
nm (sR X15_6 r0 1 rN7) fun X17_8 =>
nm (mN X17_8 + 1) fun rN12 =>
nm (q_nw X17_8 14 60) fun X23_11 =>
if mT X23_11 r0 = 10 then
if rN12 ≠ 0 then
nm (sR X23_11 r0 2 rN12) fun X25_13 =>
nm (mN X25_13 + 1) fun rN17 =>
nm (q_nw X25_13 15 60) fun X31_16 =>
if mT X31_16 r0 = 10 then
if rN17 ≠ 0 then
nm (sR X31_16 r0 3 rN17) fun X33_18 =>
nm (mN X33_18 + 1) fun rN22 =>
nm (q_nw X33_18 15 60) fun X39_21 =>
if mT X39_21 r0 = 10 then
if rN22 ≠ 0 then
nm (sR X39_21 r0 4 rN22) fun X41_23 =>
nm (mN X41_23 + 1) fun rN27 =>
nm (q_nw X41_23 14 60) fun X47_26 =>
if mT X47_26 r0 = 10 then
if rN27 ≠ 0 then
nm (sR X47_26 r0 5 rN27) fun X49_28 =>
nm (mN X49_28 + 1) fun rN32 =>
nm (q_nw X49_28 14 60) fun X55_31 =>
if mT X55_31 r0 = 10 then
if rN32 ≠ 0 then
nm (sR X55_31 r0 6 rN32) fun X57_33 =>
nm (mN X57_33 + 1) fun rN37 =>
nm (q_nw X57_33 14 60) fun X63_36 =>
if mT X63_36 r0 = 10 then
if rN37 ≠ 0 then
nm (sR X63_36 r0 7 rN37) fun X65_38 =>
nm (mN X65_38 + 1) fun rN42 =>
nm (q_nw X65_38 14 60) fun X71_41 =>
if mT X71_41 r0 = 10 then
if rN42 ≠ 0 then
nm (sR X71_41 r0 8 rN42) fun X73_43 =>
some ((), X73_43)
else none
else none
else none
else none
else none
else none
else none
else none
else none
else none
else none
else none
else none
else none
else none
else none
else none
else none
theorem sX10_init (r0 : Nat) : q_Ct yX10_init cX10_init 1 none 1 20 9 540 q_eV (fun P => [.ref (P + r0)]) (fX10_init r0) := by
  refine q_meth (by decide +kernel) (fun P => Nat.le_of_ble_eq_true rfl) (fun E X C hn => ?_)
  show Sm E (q_fin E q_eV X 9 540) 0 0 0 [(0, .ref (q_P E + r0))] [] X _
  unfold fX10_init
  refine q_aload_n C 0 dX10_init_0 rfl rfl ?_
  refine q_objInit C fwX10_3_oi fw_oi2 fw_oi3 ⟨Nat.le_of_ble_eq_true rfl, Nat.le_of_ble_eq_true rfl⟩ dX10_init_1 ?_
  refine q_aload_n C 0 dX10_init_4 rfl rfl ?_
  refine q_bipush C (60 : Int32) dX10_init_5 rfl ?_
  refine q_newa (atype := .int) (ty := .int) (tg := 14) (N := 60) C rfl faint (Or.inl ⟨rfl, rfl⟩) (by decide) rfl (Nat.le_of_ble_eq_true rfl) ⟨Nat.le_of_ble_eq_true rfl, Nat.le_of_ble_eq_true rfl⟩ dX10_init_7 ?_
  refine q_nmr (fun rN2 => ?_)
  refine q_nmX (fun X7_1 => ?_)
  refine q_chk (fun h4 => ?_)
  refine q_chk (fun h5 => ?_)
  refine p_putF C fpX10_9 hn (fun _ => rfl) (fun _ => rfl) rfl dX10_init_9 h4 h5 ?_
  refine q_nmX (fun X9_3 => ?_)
  refine q_aload_n C 0 dX10_init_12 rfl rfl ?_
  refine q_bipush C (60 : Int32) dX10_init_13 rfl ?_
  refine q_newa (atype := .int) (ty := .int) (tg := 14) (N := 60) C rfl faint (Or.inl ⟨rfl, rfl⟩) (by decide) rfl (Nat.le_of_ble_eq_true rfl) ⟨Nat.le_of_ble_eq_true rfl, Nat.le_of_ble_eq_true rfl⟩ dX10_init_15 ?_
  refine q_nmr (fun rN7 => ?_)
  refine q_nmX (fun X15_6 => ?_)
  refine q_chk (fun h9 => ?_)
  refine q_chk (fun h10 => ?_)
  refine p_putF C fpX10_15 hn (fun _ => rfl) (fun _ => rfl) rfl dX10_init_17 h9 h10 ?_
  refine q_nmX (fun X17_8 => ?_)
  refine q_aload_n C 0 dX10_init_20 rfl rfl ?_
  refine q_bipush C (60 : Int32) dX10_init_21 rfl ?_
  refine q_newa (atype := .int) (ty := .int) (tg := 14) (N := 60) C rfl faint (Or.inl ⟨rfl, rfl⟩) (by decide) rfl (Nat.le_of_ble_eq_true rfl) ⟨Nat.le_of_ble_eq_true rfl, Nat.le_of_ble_eq_true rfl⟩ dX10_init_23 ?_
  refine q_nmr (fun rN12 => ?_)
  refine q_nmX (fun X23_11 => ?_)
  refine q_chk (fun h14 => ?_)
  refine q_chk (fun h15 => ?_)
  refine p_putF C fpX10_18 hn (fun _ => rfl) (fun _ => rfl) rfl dX10_init_25 h14 h15 ?_
  refine q_nmX (fun X25_13 => ?_)
  refine q_aload_n C 0 dX10_init_28 rfl rfl ?_
  refine q_bipush C (60 : Int32) dX10_init_29 rfl ?_
  refine q_newa (atype := .long) (ty := .long) (tg := 15) (N := 60) C rfl falong (Or.inr (Or.inl ⟨rfl, rfl⟩)) (by decide) rfl (Nat.le_of_ble_eq_true rfl) ⟨Nat.le_of_ble_eq_true rfl, Nat.le_of_ble_eq_true rfl⟩ dX10_init_31 ?_
  refine q_nmr (fun rN17 => ?_)
  refine q_nmX (fun X31_16 => ?_)
  refine q_chk (fun h19 => ?_)
  refine q_chk (fun h20 => ?_)
  refine p_putF C fpX10_21 hn (fun _ => rfl) (fun _ => rfl) rfl dX10_init_33 h19 h20 ?_
  refine q_nmX (fun X33_18 => ?_)
  refine q_aload_n C 0 dX10_init_36 rfl rfl ?_
  refine q_bipush C (60 : Int32) dX10_init_37 rfl ?_
  refine q_newa (atype := .long) (ty := .long) (tg := 15) (N := 60) C rfl falong (Or.inr (Or.inl ⟨rfl, rfl⟩)) (by decide) rfl (Nat.le_of_ble_eq_true rfl) ⟨Nat.le_of_ble_eq_true rfl, Nat.le_of_ble_eq_true rfl⟩ dX10_init_39 ?_
  refine q_nmr (fun rN22 => ?_)
  refine q_nmX (fun X39_21 => ?_)
  refine q_chk (fun h24 => ?_)
  refine q_chk (fun h25 => ?_)
  refine p_putF C fpX10_25 hn (fun _ => rfl) (fun _ => rfl) rfl dX10_init_41 h24 h25 ?_
  refine q_nmX (fun X41_23 => ?_)
  refine q_aload_n C 0 dX10_init_44 rfl rfl ?_
  refine q_bipush C (60 : Int32) dX10_init_45 rfl ?_
  refine q_newa (atype := .int) (ty := .int) (tg := 14) (N := 60) C rfl faint (Or.inl ⟨rfl, rfl⟩) (by decide) rfl (Nat.le_of_ble_eq_true rfl) ⟨Nat.le_of_ble_eq_true rfl, Nat.le_of_ble_eq_true rfl⟩ dX10_init_47 ?_
  refine q_nmr (fun rN27 => ?_)
  refine q_nmX (fun X47_26 => ?_)
  refine q_chk (fun h29 => ?_)
  refine q_chk (fun h30 => ?_)
  refine p_putF C fpX10_28 hn (fun _ => rfl) (fun _ => rfl) rfl dX10_init_49 h29 h30 ?_
  refine q_nmX (fun X49_28 => ?_)
  refine q_aload_n C 0 dX10_init_52 rfl rfl ?_
  refine q_bipush C (60 : Int32) dX10_init_53 rfl ?_
  refine q_newa (atype := .int) (ty := .int) (tg := 14) (N := 60) C rfl faint (Or.inl ⟨rfl, rfl⟩) (by decide) rfl (Nat.le_of_ble_eq_true rfl) ⟨Nat.le_of_ble_eq_true rfl, Nat.le_of_ble_eq_true rfl⟩ dX10_init_55 ?_
  refine q_nmr (fun rN32 => ?_)
  refine q_nmX (fun X55_31 => ?_)
  refine q_chk (fun h34 => ?_)
  refine q_chk (fun h35 => ?_)
  refine p_putF C fpX10_31 hn (fun _ => rfl) (fun _ => rfl) rfl dX10_init_57 h34 h35 ?_
  refine q_nmX (fun X57_33 => ?_)
  refine q_aload_n C 0 dX10_init_60 rfl rfl ?_
  refine q_bipush C (60 : Int32) dX10_init_61 rfl ?_
  refine q_newa (atype := .int) (ty := .int) (tg := 14) (N := 60) C rfl faint (Or.inl ⟨rfl, rfl⟩) (by decide) rfl (Nat.le_of_ble_eq_true rfl) ⟨Nat.le_of_ble_eq_true rfl, Nat.le_of_ble_eq_true rfl⟩ dX10_init_63 ?_
  refine q_nmr (fun rN37 => ?_)
  refine q_nmX (fun X63_36 => ?_)
  refine q_chk (fun h39 => ?_)
  refine q_chk (fun h40 => ?_)
  refine p_putF C fpX10_34 hn (fun _ => rfl) (fun _ => rfl) rfl dX10_init_65 h39 h40 ?_
  refine q_nmX (fun X65_38 => ?_)
  refine q_aload_n C 0 dX10_init_68 rfl rfl ?_
  refine q_bipush C (60 : Int32) dX10_init_69 rfl ?_
  refine q_newa (atype := .int) (ty := .int) (tg := 14) (N := 60) C rfl faint (Or.inl ⟨rfl, rfl⟩) (by decide) rfl (Nat.le_of_ble_eq_true rfl) ⟨Nat.le_of_ble_eq_true rfl, Nat.le_of_ble_eq_true rfl⟩ dX10_init_71 ?_
  refine q_nmr (fun rN42 => ?_)
  refine q_nmX (fun X71_41 => ?_)
  refine q_chk (fun h44 => ?_)
  refine q_chk (fun h45 => ?_)
  refine p_putF C fpX10_37 hn (fun _ => rfl) (fun _ => rfl) rfl dX10_init_73 h44 h45 ?_
  refine q_nmX (fun X73_43 => ?_)
  exact q_vret C dX10_init_76
/-! RecordClaims$Trades.copyFrom(LRecordClaims$Trades;)V -/
abbrev cX10_copyFrom : ByteArray := prog_12_method_3_code
def yX10_copyFrom : MethodName := ⟨RX10, "copyFrom", "(LRecordClaims$Trades;)V"⟩
theorem dX10_copyFrom_0 : decode cX10_copyFrom 0 = .ok (.aload_n 0, 1) := by decide +kernel
theorem dX10_copyFrom_1 : decode cX10_copyFrom 1 = .ok (.aload_n 1, 1) := by decide +kernel
theorem dX10_copyFrom_2 : decode cX10_copyFrom 2 = .ok (.getfield 40, 3) := by decide +kernel
theorem dX10_copyFrom_5 : decode cX10_copyFrom 5 = .ok (.putfield 40, 3) := by decide +kernel
theorem dX10_copyFrom_8 : decode cX10_copyFrom 8 = .ok (.aload_n 1, 1) := by decide +kernel
theorem dX10_copyFrom_9 : decode cX10_copyFrom 9 = .ok (.getfield 9, 3) := by decide +kernel
theorem dX10_copyFrom_12 : decode cX10_copyFrom 12 = .ok (.iconst 0, 1) := by decide +kernel
theorem dX10_copyFrom_13 : decode cX10_copyFrom 13 = .ok (.aload_n 0, 1) := by decide +kernel
theorem dX10_copyFrom_14 : decode cX10_copyFrom 14 = .ok (.getfield 9, 3) := by decide +kernel
theorem dX10_copyFrom_17 : decode cX10_copyFrom 17 = .ok (.iconst 0, 1) := by decide +kernel
theorem dX10_copyFrom_18 : decode cX10_copyFrom 18 = .ok (.bipush 60, 2) := by decide +kernel
theorem dX10_copyFrom_20 : decode cX10_copyFrom 20 = .ok (.invokestatic 44, 3) := by decide +kernel
theorem dX10_copyFrom_23 : decode cX10_copyFrom 23 = .ok (.aload_n 1, 1) := by decide +kernel
theorem dX10_copyFrom_24 : decode cX10_copyFrom 24 = .ok (.getfield 15, 3) := by decide +kernel
theorem dX10_copyFrom_27 : decode cX10_copyFrom 27 = .ok (.iconst 0, 1) := by decide +kernel
theorem dX10_copyFrom_28 : decode cX10_copyFrom 28 = .ok (.aload_n 0, 1) := by decide +kernel
theorem dX10_copyFrom_29 : decode cX10_copyFrom 29 = .ok (.getfield 15, 3) := by decide +kernel
theorem dX10_copyFrom_32 : decode cX10_copyFrom 32 = .ok (.iconst 0, 1) := by decide +kernel
theorem dX10_copyFrom_33 : decode cX10_copyFrom 33 = .ok (.bipush 60, 2) := by decide +kernel
theorem dX10_copyFrom_35 : decode cX10_copyFrom 35 = .ok (.invokestatic 44, 3) := by decide +kernel
theorem dX10_copyFrom_38 : decode cX10_copyFrom 38 = .ok (.aload_n 1, 1) := by decide +kernel
theorem dX10_copyFrom_39 : decode cX10_copyFrom 39 = .ok (.getfield 18, 3) := by decide +kernel
theorem dX10_copyFrom_42 : decode cX10_copyFrom 42 = .ok (.iconst 0, 1) := by decide +kernel
theorem dX10_copyFrom_43 : decode cX10_copyFrom 43 = .ok (.aload_n 0, 1) := by decide +kernel
theorem dX10_copyFrom_44 : decode cX10_copyFrom 44 = .ok (.getfield 18, 3) := by decide +kernel
theorem dX10_copyFrom_47 : decode cX10_copyFrom 47 = .ok (.iconst 0, 1) := by decide +kernel
theorem dX10_copyFrom_48 : decode cX10_copyFrom 48 = .ok (.bipush 60, 2) := by decide +kernel
theorem dX10_copyFrom_50 : decode cX10_copyFrom 50 = .ok (.invokestatic 44, 3) := by decide +kernel
theorem dX10_copyFrom_53 : decode cX10_copyFrom 53 = .ok (.aload_n 1, 1) := by decide +kernel
theorem dX10_copyFrom_54 : decode cX10_copyFrom 54 = .ok (.getfield 21, 3) := by decide +kernel
theorem dX10_copyFrom_57 : decode cX10_copyFrom 57 = .ok (.iconst 0, 1) := by decide +kernel
theorem dX10_copyFrom_58 : decode cX10_copyFrom 58 = .ok (.aload_n 0, 1) := by decide +kernel
theorem dX10_copyFrom_59 : decode cX10_copyFrom 59 = .ok (.getfield 21, 3) := by decide +kernel
theorem dX10_copyFrom_62 : decode cX10_copyFrom 62 = .ok (.iconst 0, 1) := by decide +kernel
theorem dX10_copyFrom_63 : decode cX10_copyFrom 63 = .ok (.bipush 60, 2) := by decide +kernel
theorem dX10_copyFrom_65 : decode cX10_copyFrom 65 = .ok (.invokestatic 44, 3) := by decide +kernel
theorem dX10_copyFrom_68 : decode cX10_copyFrom 68 = .ok (.aload_n 1, 1) := by decide +kernel
theorem dX10_copyFrom_69 : decode cX10_copyFrom 69 = .ok (.getfield 25, 3) := by decide +kernel
theorem dX10_copyFrom_72 : decode cX10_copyFrom 72 = .ok (.iconst 0, 1) := by decide +kernel
theorem dX10_copyFrom_73 : decode cX10_copyFrom 73 = .ok (.aload_n 0, 1) := by decide +kernel
theorem dX10_copyFrom_74 : decode cX10_copyFrom 74 = .ok (.getfield 25, 3) := by decide +kernel
theorem dX10_copyFrom_77 : decode cX10_copyFrom 77 = .ok (.iconst 0, 1) := by decide +kernel
theorem dX10_copyFrom_78 : decode cX10_copyFrom 78 = .ok (.bipush 60, 2) := by decide +kernel
theorem dX10_copyFrom_80 : decode cX10_copyFrom 80 = .ok (.invokestatic 44, 3) := by decide +kernel
theorem dX10_copyFrom_83 : decode cX10_copyFrom 83 = .ok (.aload_n 1, 1) := by decide +kernel
theorem dX10_copyFrom_84 : decode cX10_copyFrom 84 = .ok (.getfield 28, 3) := by decide +kernel
theorem dX10_copyFrom_87 : decode cX10_copyFrom 87 = .ok (.iconst 0, 1) := by decide +kernel
theorem dX10_copyFrom_88 : decode cX10_copyFrom 88 = .ok (.aload_n 0, 1) := by decide +kernel
theorem dX10_copyFrom_89 : decode cX10_copyFrom 89 = .ok (.getfield 28, 3) := by decide +kernel
theorem dX10_copyFrom_92 : decode cX10_copyFrom 92 = .ok (.iconst 0, 1) := by decide +kernel
theorem dX10_copyFrom_93 : decode cX10_copyFrom 93 = .ok (.bipush 60, 2) := by decide +kernel
theorem dX10_copyFrom_95 : decode cX10_copyFrom 95 = .ok (.invokestatic 44, 3) := by decide +kernel
theorem dX10_copyFrom_98 : decode cX10_copyFrom 98 = .ok (.aload_n 1, 1) := by decide +kernel
theorem dX10_copyFrom_99 : decode cX10_copyFrom 99 = .ok (.getfield 31, 3) := by decide +kernel
theorem dX10_copyFrom_102 : decode cX10_copyFrom 102 = .ok (.iconst 0, 1) := by decide +kernel
theorem dX10_copyFrom_103 : decode cX10_copyFrom 103 = .ok (.aload_n 0, 1) := by decide +kernel
theorem dX10_copyFrom_104 : decode cX10_copyFrom 104 = .ok (.getfield 31, 3) := by decide +kernel
theorem dX10_copyFrom_107 : decode cX10_copyFrom 107 = .ok (.iconst 0, 1) := by decide +kernel
theorem dX10_copyFrom_108 : decode cX10_copyFrom 108 = .ok (.bipush 60, 2) := by decide +kernel
theorem dX10_copyFrom_110 : decode cX10_copyFrom 110 = .ok (.invokestatic 44, 3) := by decide +kernel
theorem dX10_copyFrom_113 : decode cX10_copyFrom 113 = .ok (.aload_n 1, 1) := by decide +kernel
theorem dX10_copyFrom_114 : decode cX10_copyFrom 114 = .ok (.getfield 34, 3) := by decide +kernel
theorem dX10_copyFrom_117 : decode cX10_copyFrom 117 = .ok (.iconst 0, 1) := by decide +kernel
theorem dX10_copyFrom_118 : decode cX10_copyFrom 118 = .ok (.aload_n 0, 1) := by decide +kernel
theorem dX10_copyFrom_119 : decode cX10_copyFrom 119 = .ok (.getfield 34, 3) := by decide +kernel
theorem dX10_copyFrom_122 : decode cX10_copyFrom 122 = .ok (.iconst 0, 1) := by decide +kernel
theorem dX10_copyFrom_123 : decode cX10_copyFrom 123 = .ok (.bipush 60, 2) := by decide +kernel
theorem dX10_copyFrom_125 : decode cX10_copyFrom 125 = .ok (.invokestatic 44, 3) := by decide +kernel
theorem dX10_copyFrom_128 : decode cX10_copyFrom 128 = .ok (.aload_n 1, 1) := by decide +kernel
theorem dX10_copyFrom_129 : decode cX10_copyFrom 129 = .ok (.getfield 37, 3) := by decide +kernel
theorem dX10_copyFrom_132 : decode cX10_copyFrom 132 = .ok (.iconst 0, 1) := by decide +kernel
theorem dX10_copyFrom_133 : decode cX10_copyFrom 133 = .ok (.aload_n 0, 1) := by decide +kernel
theorem dX10_copyFrom_134 : decode cX10_copyFrom 134 = .ok (.getfield 37, 3) := by decide +kernel
theorem dX10_copyFrom_137 : decode cX10_copyFrom 137 = .ok (.iconst 0, 1) := by decide +kernel
theorem dX10_copyFrom_138 : decode cX10_copyFrom 138 = .ok (.bipush 60, 2) := by decide +kernel
theorem dX10_copyFrom_140 : decode cX10_copyFrom 140 = .ok (.invokestatic 44, 3) := by decide +kernel
theorem dX10_copyFrom_143 : decode cX10_copyFrom 143 = .ok (.return_, 1) := by decide +kernel
theorem fgX10_40 : q_Fg RX10 40 10 9 := q_Fg.of (C := RX10) (T := TX10) (N := 10) rfl (by decide) inX10 240 (by decide +kernel) rfl rfl
theorem fpX10_40 : q_Fp RX10 40 10 9 .int false := ⟨RX10, TX10, 10, tyX10, rfl, by decide, inX10, q_tb 240 (by decide +kernel) rfl, tyX10_ok, nmX10, rfl, rfl, fun h => by first | rfl | cases h⟩
theorem fgX10_9 : q_Fg RX10 9 10 0 := q_Fg.of (C := RX10) (T := TX10) (N := 10) rfl (by decide) inX10 222 (by decide +kernel) rfl rfl
theorem fwX10_44_ac : Cond.methodLink RX10 44 arraycopyName ∈ q_tbl := q_tb 775 (by decide +kernel) rfl
theorem fgX10_15 : q_Fg RX10 15 10 1 := q_Fg.of (C := RX10) (T := TX10) (N := 10) rfl (by decide) inX10 224 (by decide +kernel) rfl rfl
theorem fgX10_18 : q_Fg RX10 18 10 2 := q_Fg.of (C := RX10) (T := TX10) (N := 10) rfl (by decide) inX10 226 (by decide +kernel) rfl rfl
theorem fgX10_21 : q_Fg RX10 21 10 3 := q_Fg.of (C := RX10) (T := TX10) (N := 10) rfl (by decide) inX10 228 (by decide +kernel) rfl rfl
theorem fgX10_25 : q_Fg RX10 25 10 4 := q_Fg.of (C := RX10) (T := TX10) (N := 10) rfl (by decide) inX10 230 (by decide +kernel) rfl rfl
theorem fgX10_28 : q_Fg RX10 28 10 5 := q_Fg.of (C := RX10) (T := TX10) (N := 10) rfl (by decide) inX10 232 (by decide +kernel) rfl rfl
theorem fgX10_31 : q_Fg RX10 31 10 6 := q_Fg.of (C := RX10) (T := TX10) (N := 10) rfl (by decide) inX10 234 (by decide +kernel) rfl rfl
theorem fgX10_34 : q_Fg RX10 34 10 7 := q_Fg.of (C := RX10) (T := TX10) (N := 10) rfl (by decide) inX10 236 (by decide +kernel) rfl rfl
theorem fgX10_37 : q_Fg RX10 37 10 8 := q_Fg.of (C := RX10) (T := TX10) (N := 10) rfl (by decide) inX10 239 (by decide +kernel) rfl rfl
def fX10_copyFrom (r0 : Nat) (r1 : Nat) (X : Mm) : Option (Unit × Mm) :=
if mT X r1 = 10 then
if mT X r0 = 10 then
nm (sI X r0 9 (mI X r1 9)) fun X5_2 =>
if mT X5_2 r1 = 10 then
if mR X5_2 r1 0 ≠ 0 then
if mT X5_2 r0 = 10 then
if mR X5_2 r0 0 ≠ 0 then
if q_cpok X5_2 (mR X5_2 r1 0) (mR X5_2 r0 0) 14 (0 : Int32) (0 : Int32) (60 : Int32) then
nm (wI X5_2 (mR X5_2 r0 0) (va_cpy (mI X5_2 (mR X5_2 r1 0)) (mI X5_2 (mR X5_2 r0 0)) ((0 : Int32)).toNatClampNeg ((0 : Int32)).toNatClampNeg ((60 : Int32)).toNatClampNeg)) fun X20_8 =>
if mT X20_8 r1 = 10 then
if mR X20_8 r1 1 ≠ 0 then
if mT X20_8 r0 = 10 then
if mR X20_8 r0 1 ≠ 0 then
if q_cpok X20_8 (mR X20_8 r1 1) (mR X20_8 r0 1) 14 (0 : Int32) (0 : Int32) (60 : Int32) then
nm (wI X20_8 (mR X20_8 r0 1) (va_cpy (mI X20_8 (mR X20_8 r1 1)) (mI X20_8 (mR X20_8 r0 1)) ((0 : Int32)).toNatClampNeg ((0 : Int32)).toNatClampNeg ((60 : Int32)).toNatClampNeg)) fun X35_14 =>
if mT X35_14 r1 = 10 then
if mR X35_14 r1 2 ≠ 0 then
if mT X35_14 r0 = 10 then
if mR X35_14 r0 2 ≠ 0 then
if q_cpok X35_14 (mR X35_14 r1 2) (mR X35_14 r0 2) 14 (0 : Int32) (0 : Int32) (60 : Int32) then
nm (wI X35_14 (mR X35_14 r0 2) (va_cpy (mI X35_14 (mR X35_14 r1 2)) (mI X35_14 (mR X35_14 r0 2)) ((0 : Int32)).toNatClampNeg ((0 : Int32)).toNatClampNeg ((60 : Int32)).toNatClampNeg)) fun X50_20 =>
if mT X50_20 r1 = 10 then
if mR X50_20 r1 3 ≠ 0 then
if mT X50_20 r0 = 10 then
if mR X50_20 r0 3 ≠ 0 then
if q_cpok X50_20 (mR X50_20 r1 3) (mR X50_20 r0 3) 15 (0 : Int32) (0 : Int32) (60 : Int32) then
nm (wJ X50_20 (mR X50_20 r0 3) (va_cpy (mJ X50_20 (mR X50_20 r1 3)) (mJ X50_20 (mR X50_20 r0 3)) ((0 : Int32)).toNatClampNeg ((0 : Int32)).toNatClampNeg ((60 : Int32)).toNatClampNeg)) fun X65_26 =>
if mT X65_26 r1 = 10 then
if mR X65_26 r1 4 ≠ 0 then
if mT X65_26 r0 = 10 then
if mR X65_26 r0 4 ≠ 0 then
if q_cpok X65_26 (mR X65_26 r1 4) (mR X65_26 r0 4) 15 (0 : Int32) (0 : Int32) (60 : Int32) then
nm (wJ X65_26 (mR X65_26 r0 4) (va_cpy (mJ X65_26 (mR X65_26 r1 4)) (mJ X65_26 (mR X65_26 r0 4)) ((0 : Int32)).toNatClampNeg ((0 : Int32)).toNatClampNeg ((60 : Int32)).toNatClampNeg)) fun X80_32 =>
if mT X80_32 r1 = 10 then
if mR X80_32 r1 5 ≠ 0 then
if mT X80_32 r0 = 10 then
if mR X80_32 r0 5 ≠ 0 then
if q_cpok X80_32 (mR X80_32 r1 5) (mR X80_32 r0 5) 14 (0 : Int32) (0 : Int32) (60 : Int32) then
nm (wI X80_32 (mR X80_32 r0 5) (va_cpy (mI X80_32 (mR X80_32 r1 5)) (mI X80_32 (mR X80_32 r0 5)) ((0 : Int32)).toNatClampNeg ((0 : Int32)).toNatClampNeg ((60 : Int32)).toNatClampNeg)) fun X95_38 =>
if mT X95_38 r1 = 10 then
if mR X95_38 r1 6 ≠ 0 then
if mT X95_38 r0 = 10 then
if mR X95_38 r0 6 ≠ 0 then
if q_cpok X95_38 (mR X95_38 r1 6) (mR X95_38 r0 6) 14 (0 : Int32) (0 : Int32) (60 : Int32) then
nm (wI X95_38 (mR X95_38 r0 6) (va_cpy (mI X95_38 (mR X95_38 r1 6)) (mI X95_38 (mR X95_38 r0 6)) ((0 : Int32)).toNatClampNeg ((0 : Int32)).toNatClampNeg ((60 : Int32)).toNatClampNeg)) fun X110_44 =>
if mT X110_44 r1 = 10 then
if mR X110_44 r1 7 ≠ 0 then
if mT X110_44 r0 = 10 then
if mR X110_44 r0 7 ≠ 0 then
if q_cpok X110_44 (mR X110_44 r1 7) (mR X110_44 r0 7) 14 (0 : Int32) (0 : Int32) (60 : Int32) then
nm (wI X110_44 (mR X110_44 r0 7) (va_cpy (mI X110_44 (mR X110_44 r1 7)) (mI X110_44 (mR X110_44 r0 7)) ((0 : Int32)).toNatClampNeg ((0 : Int32)).toNatClampNeg ((60 : Int32)).toNatClampNeg)) fun X125_50 =>
if mT X125_50 r1 = 10 then
if mR X125_50 r1 8 ≠ 0 then
if mT X125_50 r0 = 10 then
if mR X125_50 r0 8 ≠ 0 then
if q_cpok X125_50 (mR X125_50 r1 8) (mR X125_50 r0 8) 14 (0 : Int32) (0 : Int32) (60 : Int32) then
nm (wI X125_50 (mR X125_50 r0 8) (va_cpy (mI X125_50 (mR X125_50 r1 8)) (mI X125_50 (mR X125_50 r0 8)) ((0 : Int32)).toNatClampNeg ((0 : Int32)).toNatClampNeg ((60 : Int32)).toNatClampNeg)) fun X140_56 =>
some ((), X140_56)
else none
else none
else none
else none
else none
else none
else none
else none
else none
else none
else none
else none
else none
else none
else none
else none
else none
else none
else none
else none
else none
else none
else none
else none
else none
else none
else none
else none
else none
else none
else none
else none
else none
else none
else none
else none
else none
else none
else none
else none
else none
else none
else none
else none
else none
else none
else none
theorem sX10_copyFrom (r0 : Nat) (r1 : Nat) : q_Ct yX10_copyFrom cX10_copyFrom 2 none 1 26 0 0 q_eV (fun P => [.ref (P + r0), .ref (P + r1)]) (fX10_copyFrom r0 r1) := by
  refine q_meth (by decide +kernel) (fun P => Nat.le_of_ble_eq_true rfl) (fun E X C hn => ?_)
  show Sm E (q_fin E q_eV X 0 0) 0 0 0 [(0, .ref (q_P E + r0)), (1, .ref (q_P E + r1))] [] X _
  unfold fX10_copyFrom
  refine q_aload_n C 0 dX10_copyFrom_0 rfl rfl ?_
  refine q_aload_n C 1 dX10_copyFrom_1 rfl rfl ?_
  refine q_chk (fun h1 => ?_)
  refine p_getI C fgX10_40 rfl dX10_copyFrom_2 h1 ?_
  refine q_chk (fun h3 => ?_)
  refine p_putI C fpX10_40 rfl dX10_copyFrom_5 h3 ?_
  refine q_nmX (fun X5_2 => ?_)
  refine q_aload_n C 1 dX10_copyFrom_8 rfl rfl ?_
  refine q_chk (fun h4 => ?_)
  refine q_chk (fun h5 => ?_)
  refine p_getR C fgX10_9 rfl dX10_copyFrom_9 h4 h5 ?_
  refine q_iconst C (0 : Int32) dX10_copyFrom_12 rfl ?_
  refine q_aload_n C 0 dX10_copyFrom_13 rfl rfl ?_
  refine q_chk (fun h6 => ?_)
  refine q_chk (fun h7 => ?_)
  refine p_getR C fgX10_9 rfl dX10_copyFrom_14 h6 h7 ?_
  refine q_iconst C (0 : Int32) dX10_copyFrom_17 rfl ?_
  refine q_bipush C (60 : Int32) dX10_copyFrom_18 rfl ?_
  refine q_chk (fun h9 => ?_)
  refine p_cpI C fwX10_44_ac fw_ac2 fw_ac3 fw_ac4 ⟨Nat.le_of_ble_eq_true rfl, Nat.le_of_ble_eq_true rfl⟩ dX10_copyFrom_20 h9 ?_
  refine q_nmX (fun X20_8 => ?_)
  refine q_aload_n C 1 dX10_copyFrom_23 rfl rfl ?_
  refine q_chk (fun h10 => ?_)
  refine q_chk (fun h11 => ?_)
  refine p_getR C fgX10_15 rfl dX10_copyFrom_24 h10 h11 ?_
  refine q_iconst C (0 : Int32) dX10_copyFrom_27 rfl ?_
  refine q_aload_n C 0 dX10_copyFrom_28 rfl rfl ?_
  refine q_chk (fun h12 => ?_)
  refine q_chk (fun h13 => ?_)
  refine p_getR C fgX10_15 rfl dX10_copyFrom_29 h12 h13 ?_
  refine q_iconst C (0 : Int32) dX10_copyFrom_32 rfl ?_
  refine q_bipush C (60 : Int32) dX10_copyFrom_33 rfl ?_
  refine q_chk (fun h15 => ?_)
  refine p_cpI C fwX10_44_ac fw_ac2 fw_ac3 fw_ac4 ⟨Nat.le_of_ble_eq_true rfl, Nat.le_of_ble_eq_true rfl⟩ dX10_copyFrom_35 h15 ?_
  refine q_nmX (fun X35_14 => ?_)
  refine q_aload_n C 1 dX10_copyFrom_38 rfl rfl ?_
  refine q_chk (fun h16 => ?_)
  refine q_chk (fun h17 => ?_)
  refine p_getR C fgX10_18 rfl dX10_copyFrom_39 h16 h17 ?_
  refine q_iconst C (0 : Int32) dX10_copyFrom_42 rfl ?_
  refine q_aload_n C 0 dX10_copyFrom_43 rfl rfl ?_
  refine q_chk (fun h18 => ?_)
  refine q_chk (fun h19 => ?_)
  refine p_getR C fgX10_18 rfl dX10_copyFrom_44 h18 h19 ?_
  refine q_iconst C (0 : Int32) dX10_copyFrom_47 rfl ?_
  refine q_bipush C (60 : Int32) dX10_copyFrom_48 rfl ?_
  refine q_chk (fun h21 => ?_)
  refine p_cpI C fwX10_44_ac fw_ac2 fw_ac3 fw_ac4 ⟨Nat.le_of_ble_eq_true rfl, Nat.le_of_ble_eq_true rfl⟩ dX10_copyFrom_50 h21 ?_
  refine q_nmX (fun X50_20 => ?_)
  refine q_aload_n C 1 dX10_copyFrom_53 rfl rfl ?_
  refine q_chk (fun h22 => ?_)
  refine q_chk (fun h23 => ?_)
  refine p_getR C fgX10_21 rfl dX10_copyFrom_54 h22 h23 ?_
  refine q_iconst C (0 : Int32) dX10_copyFrom_57 rfl ?_
  refine q_aload_n C 0 dX10_copyFrom_58 rfl rfl ?_
  refine q_chk (fun h24 => ?_)
  refine q_chk (fun h25 => ?_)
  refine p_getR C fgX10_21 rfl dX10_copyFrom_59 h24 h25 ?_
  refine q_iconst C (0 : Int32) dX10_copyFrom_62 rfl ?_
  refine q_bipush C (60 : Int32) dX10_copyFrom_63 rfl ?_
  refine q_chk (fun h27 => ?_)
  refine p_cpJ C fwX10_44_ac fw_ac2 fw_ac3 fw_ac4 ⟨Nat.le_of_ble_eq_true rfl, Nat.le_of_ble_eq_true rfl⟩ dX10_copyFrom_65 h27 ?_
  refine q_nmX (fun X65_26 => ?_)
  refine q_aload_n C 1 dX10_copyFrom_68 rfl rfl ?_
  refine q_chk (fun h28 => ?_)
  refine q_chk (fun h29 => ?_)
  refine p_getR C fgX10_25 rfl dX10_copyFrom_69 h28 h29 ?_
  refine q_iconst C (0 : Int32) dX10_copyFrom_72 rfl ?_
  refine q_aload_n C 0 dX10_copyFrom_73 rfl rfl ?_
  refine q_chk (fun h30 => ?_)
  refine q_chk (fun h31 => ?_)
  refine p_getR C fgX10_25 rfl dX10_copyFrom_74 h30 h31 ?_
  refine q_iconst C (0 : Int32) dX10_copyFrom_77 rfl ?_
  refine q_bipush C (60 : Int32) dX10_copyFrom_78 rfl ?_
  refine q_chk (fun h33 => ?_)
  refine p_cpJ C fwX10_44_ac fw_ac2 fw_ac3 fw_ac4 ⟨Nat.le_of_ble_eq_true rfl, Nat.le_of_ble_eq_true rfl⟩ dX10_copyFrom_80 h33 ?_
  refine q_nmX (fun X80_32 => ?_)
  refine q_aload_n C 1 dX10_copyFrom_83 rfl rfl ?_
  refine q_chk (fun h34 => ?_)
  refine q_chk (fun h35 => ?_)
  refine p_getR C fgX10_28 rfl dX10_copyFrom_84 h34 h35 ?_
  refine q_iconst C (0 : Int32) dX10_copyFrom_87 rfl ?_
  refine q_aload_n C 0 dX10_copyFrom_88 rfl rfl ?_
  refine q_chk (fun h36 => ?_)
  refine q_chk (fun h37 => ?_)
  refine p_getR C fgX10_28 rfl dX10_copyFrom_89 h36 h37 ?_
  refine q_iconst C (0 : Int32) dX10_copyFrom_92 rfl ?_
  refine q_bipush C (60 : Int32) dX10_copyFrom_93 rfl ?_
  refine q_chk (fun h39 => ?_)
  refine p_cpI C fwX10_44_ac fw_ac2 fw_ac3 fw_ac4 ⟨Nat.le_of_ble_eq_true rfl, Nat.le_of_ble_eq_true rfl⟩ dX10_copyFrom_95 h39 ?_
  refine q_nmX (fun X95_38 => ?_)
  refine q_aload_n C 1 dX10_copyFrom_98 rfl rfl ?_
  refine q_chk (fun h40 => ?_)
  refine q_chk (fun h41 => ?_)
  refine p_getR C fgX10_31 rfl dX10_copyFrom_99 h40 h41 ?_
  refine q_iconst C (0 : Int32) dX10_copyFrom_102 rfl ?_
  refine q_aload_n C 0 dX10_copyFrom_103 rfl rfl ?_
  refine q_chk (fun h42 => ?_)
  refine q_chk (fun h43 => ?_)
  refine p_getR C fgX10_31 rfl dX10_copyFrom_104 h42 h43 ?_
  refine q_iconst C (0 : Int32) dX10_copyFrom_107 rfl ?_
  refine q_bipush C (60 : Int32) dX10_copyFrom_108 rfl ?_
  refine q_chk (fun h45 => ?_)
  refine p_cpI C fwX10_44_ac fw_ac2 fw_ac3 fw_ac4 ⟨Nat.le_of_ble_eq_true rfl, Nat.le_of_ble_eq_true rfl⟩ dX10_copyFrom_110 h45 ?_
  refine q_nmX (fun X110_44 => ?_)
  refine q_aload_n C 1 dX10_copyFrom_113 rfl rfl ?_
  refine q_chk (fun h46 => ?_)
  refine q_chk (fun h47 => ?_)
  refine p_getR C fgX10_34 rfl dX10_copyFrom_114 h46 h47 ?_
  refine q_iconst C (0 : Int32) dX10_copyFrom_117 rfl ?_
  refine q_aload_n C 0 dX10_copyFrom_118 rfl rfl ?_
  refine q_chk (fun h48 => ?_)
  refine q_chk (fun h49 => ?_)
  refine p_getR C fgX10_34 rfl dX10_copyFrom_119 h48 h49 ?_
  refine q_iconst C (0 : Int32) dX10_copyFrom_122 rfl ?_
  refine q_bipush C (60 : Int32) dX10_copyFrom_123 rfl ?_
  refine q_chk (fun h51 => ?_)
  refine p_cpI C fwX10_44_ac fw_ac2 fw_ac3 fw_ac4 ⟨Nat.le_of_ble_eq_true rfl, Nat.le_of_ble_eq_true rfl⟩ dX10_copyFrom_125 h51 ?_
  refine q_nmX (fun X125_50 => ?_)
  refine q_aload_n C 1 dX10_copyFrom_128 rfl rfl ?_
  refine q_chk (fun h52 => ?_)
  refine q_chk (fun h53 => ?_)
  refine p_getR C fgX10_37 rfl dX10_copyFrom_129 h52 h53 ?_
  refine q_iconst C (0 : Int32) dX10_copyFrom_132 rfl ?_
  refine q_aload_n C 0 dX10_copyFrom_133 rfl rfl ?_
  refine q_chk (fun h54 => ?_)
  refine q_chk (fun h55 => ?_)
  refine p_getR C fgX10_37 rfl dX10_copyFrom_134 h54 h55 ?_
  refine q_iconst C (0 : Int32) dX10_copyFrom_137 rfl ?_
  refine q_bipush C (60 : Int32) dX10_copyFrom_138 rfl ?_
  refine q_chk (fun h57 => ?_)
  refine p_cpI C fwX10_44_ac fw_ac2 fw_ac3 fw_ac4 ⟨Nat.le_of_ble_eq_true rfl, Nat.le_of_ble_eq_true rfl⟩ dX10_copyFrom_140 h57 ?_
  refine q_nmX (fun X140_56 => ?_)
  exact q_vret C dX10_copyFrom_143
/-! RecordClaims$Trades.add(LRecordClaims$Deed;I)I -/
abbrev cX10_add : ByteArray := prog_12_method_4_code
def yX10_add : MethodName := ⟨RX10, "add", "(LRecordClaims$Deed;I)I"⟩
theorem dX10_add_0 : decode cX10_add 0 = .ok (.aload_n 0, 1) := by decide +kernel
theorem dX10_add_1 : decode cX10_add 1 = .ok (.getfield 40, 3) := by decide +kernel
theorem dX10_add_4 : decode cX10_add 4 = .ok (.istore_n 3, 1) := by decide +kernel
theorem dX10_add_5 : decode cX10_add 5 = .ok (.iload_n 3, 1) := by decide +kernel
theorem dX10_add_6 : decode cX10_add 6 = .ok (.bipush 60, 2) := by decide +kernel
theorem dX10_add_8 : decode cX10_add 8 = .ok (.if_icmp .lt 5, 3) := by decide +kernel
theorem dX10_add_11 : decode cX10_add 11 = .ok (.iconst (-1), 1) := by decide +kernel
theorem dX10_add_12 : decode cX10_add 12 = .ok (.ireturn, 1) := by decide +kernel
theorem dX10_add_13 : decode cX10_add 13 = .ok (.aload_n 0, 1) := by decide +kernel
theorem dX10_add_14 : decode cX10_add 14 = .ok (.getfield 9, 3) := by decide +kernel
theorem dX10_add_17 : decode cX10_add 17 = .ok (.iload_n 3, 1) := by decide +kernel
theorem dX10_add_18 : decode cX10_add 18 = .ok (.aload_n 1, 1) := by decide +kernel
theorem dX10_add_19 : decode cX10_add 19 = .ok (.getfield 50, 3) := by decide +kernel
theorem dX10_add_22 : decode cX10_add 22 = .ok (.iastore, 1) := by decide +kernel
theorem dX10_add_23 : decode cX10_add 23 = .ok (.aload_n 0, 1) := by decide +kernel
theorem dX10_add_24 : decode cX10_add 24 = .ok (.getfield 15, 3) := by decide +kernel
theorem dX10_add_27 : decode cX10_add 27 = .ok (.iload_n 3, 1) := by decide +kernel
theorem dX10_add_28 : decode cX10_add 28 = .ok (.aload_n 1, 1) := by decide +kernel
theorem dX10_add_29 : decode cX10_add 29 = .ok (.getfield 55, 3) := by decide +kernel
theorem dX10_add_32 : decode cX10_add 32 = .ok (.iastore, 1) := by decide +kernel
theorem dX10_add_33 : decode cX10_add 33 = .ok (.aload_n 0, 1) := by decide +kernel
theorem dX10_add_34 : decode cX10_add 34 = .ok (.getfield 18, 3) := by decide +kernel
theorem dX10_add_37 : decode cX10_add 37 = .ok (.iload_n 3, 1) := by decide +kernel
theorem dX10_add_38 : decode cX10_add 38 = .ok (.aload_n 1, 1) := by decide +kernel
theorem dX10_add_39 : decode cX10_add 39 = .ok (.getfield 57, 3) := by decide +kernel
theorem dX10_add_42 : decode cX10_add 42 = .ok (.iastore, 1) := by decide +kernel
theorem dX10_add_43 : decode cX10_add 43 = .ok (.aload_n 0, 1) := by decide +kernel
theorem dX10_add_44 : decode cX10_add 44 = .ok (.getfield 21, 3) := by decide +kernel
theorem dX10_add_47 : decode cX10_add 47 = .ok (.iload_n 3, 1) := by decide +kernel
theorem dX10_add_48 : decode cX10_add 48 = .ok (.aload_n 1, 1) := by decide +kernel
theorem dX10_add_49 : decode cX10_add 49 = .ok (.getfield 59, 3) := by decide +kernel
theorem dX10_add_52 : decode cX10_add 52 = .ok (.i2l, 1) := by decide +kernel
theorem dX10_add_53 : decode cX10_add 53 = .ok (.lastore, 1) := by decide +kernel
theorem dX10_add_54 : decode cX10_add 54 = .ok (.aload_n 0, 1) := by decide +kernel
theorem dX10_add_55 : decode cX10_add 55 = .ok (.getfield 25, 3) := by decide +kernel
theorem dX10_add_58 : decode cX10_add 58 = .ok (.iload_n 3, 1) := by decide +kernel
theorem dX10_add_59 : decode cX10_add 59 = .ok (.aload_n 1, 1) := by decide +kernel
theorem dX10_add_60 : decode cX10_add 60 = .ok (.getfield 61, 3) := by decide +kernel
theorem dX10_add_63 : decode cX10_add 63 = .ok (.i2l, 1) := by decide +kernel
theorem dX10_add_64 : decode cX10_add 64 = .ok (.lastore, 1) := by decide +kernel
theorem dX10_add_65 : decode cX10_add 65 = .ok (.aload_n 0, 1) := by decide +kernel
theorem dX10_add_66 : decode cX10_add 66 = .ok (.getfield 28, 3) := by decide +kernel
theorem dX10_add_69 : decode cX10_add 69 = .ok (.iload_n 3, 1) := by decide +kernel
theorem dX10_add_70 : decode cX10_add 70 = .ok (.iload_n 2, 1) := by decide +kernel
theorem dX10_add_71 : decode cX10_add 71 = .ok (.iastore, 1) := by decide +kernel
theorem dX10_add_72 : decode cX10_add 72 = .ok (.aload_n 0, 1) := by decide +kernel
theorem dX10_add_73 : decode cX10_add 73 = .ok (.getfield 31, 3) := by decide +kernel
theorem dX10_add_76 : decode cX10_add 76 = .ok (.iload_n 3, 1) := by decide +kernel
theorem dX10_add_77 : decode cX10_add 77 = .ok (.iload_n 2, 1) := by decide +kernel
theorem dX10_add_78 : decode cX10_add 78 = .ok (.aload_n 1, 1) := by decide +kernel
theorem dX10_add_79 : decode cX10_add 79 = .ok (.getfield 63, 3) := by decide +kernel
theorem dX10_add_82 : decode cX10_add 82 = .ok (.iadd, 1) := by decide +kernel
theorem dX10_add_83 : decode cX10_add 83 = .ok (.iastore, 1) := by decide +kernel
theorem dX10_add_84 : decode cX10_add 84 = .ok (.aload_n 0, 1) := by decide +kernel
theorem dX10_add_85 : decode cX10_add 85 = .ok (.getfield 34, 3) := by decide +kernel
theorem dX10_add_88 : decode cX10_add 88 = .ok (.iload_n 3, 1) := by decide +kernel
theorem dX10_add_89 : decode cX10_add 89 = .ok (.iconst 0, 1) := by decide +kernel
theorem dX10_add_90 : decode cX10_add 90 = .ok (.iastore, 1) := by decide +kernel
theorem dX10_add_91 : decode cX10_add 91 = .ok (.aload_n 0, 1) := by decide +kernel
theorem dX10_add_92 : decode cX10_add 92 = .ok (.getfield 37, 3) := by decide +kernel
theorem dX10_add_95 : decode cX10_add 95 = .ok (.iload_n 3, 1) := by decide +kernel
theorem dX10_add_96 : decode cX10_add 96 = .ok (.iconst (-1), 1) := by decide +kernel
theorem dX10_add_97 : decode cX10_add 97 = .ok (.iastore, 1) := by decide +kernel
theorem dX10_add_98 : decode cX10_add 98 = .ok (.aload_n 0, 1) := by decide +kernel
theorem dX10_add_99 : decode cX10_add 99 = .ok (.dup, 1) := by decide +kernel
theorem dX10_add_100 : decode cX10_add 100 = .ok (.getfield 40, 3) := by decide +kernel
theorem dX10_add_103 : decode cX10_add 103 = .ok (.iconst 1, 1) := by decide +kernel
theorem dX10_add_104 : decode cX10_add 104 = .ok (.iadd, 1) := by decide +kernel
theorem dX10_add_105 : decode cX10_add 105 = .ok (.putfield 40, 3) := by decide +kernel
theorem dX10_add_108 : decode cX10_add 108 = .ok (.iload_n 3, 1) := by decide +kernel
theorem dX10_add_109 : decode cX10_add 109 = .ok (.ireturn, 1) := by decide +kernel
theorem fgX10_50 : q_Fg RX10 50 2 2 := q_Fg.of (C := RX2) (T := TX2) (N := 20) rfl (by decide) inX2 106 (by decide +kernel) rfl rfl
theorem fgX10_55 : q_Fg RX10 55 2 3 := q_Fg.of (C := RX2) (T := TX2) (N := 20) rfl (by decide) inX2 110 (by decide +kernel) rfl rfl
theorem fgX10_57 : q_Fg RX10 57 2 1 := q_Fg.of (C := RX2) (T := TX2) (N := 20) rfl (by decide) inX2 104 (by decide +kernel) rfl rfl
theorem fgX10_59 : q_Fg RX10 59 2 4 := q_Fg.of (C := RX2) (T := TX2) (N := 20) rfl (by decide) inX2 114 (by decide +kernel) rfl rfl
theorem fgX10_61 : q_Fg RX10 61 2 5 := q_Fg.of (C := RX2) (T := TX2) (N := 20) rfl (by decide) inX2 118 (by decide +kernel) rfl rfl
theorem fgX10_63 : q_Fg RX10 63 2 6 := q_Fg.of (C := RX2) (T := TX2) (N := 20) rfl (by decide) inX2 122 (by decide +kernel) rfl rfl
def fX10_add (r0 : Nat) (r1 : Nat) (v2 : Int32) (X : Mm) : Option (Int32 × Mm) :=
if mT X r0 = 10 then
nm ((mI X r0 9)) fun v3_4 =>
if v3_4 < (60 : Int32) then (
if mR X r0 0 ≠ 0 then
if mT X r1 = 2 then
if mT X (mR X r0 0) = 14 then
if q_b X (mR X r0 0) v3_4 then
nm (sI X (mR X r0 0) (v3_4).toNatClampNeg (mI X r1 2)) fun X22_5 =>
if mT X22_5 r0 = 10 then
if mR X22_5 r0 1 ≠ 0 then
if mT X22_5 r1 = 2 then
if mT X22_5 (mR X22_5 r0 1) = 14 then
if q_b X22_5 (mR X22_5 r0 1) v3_4 then
nm (sI X22_5 (mR X22_5 r0 1) (v3_4).toNatClampNeg (mI X22_5 r1 3)) fun X32_11 =>
if mT X32_11 r0 = 10 then
if mR X32_11 r0 2 ≠ 0 then
if mT X32_11 r1 = 2 then
if mT X32_11 (mR X32_11 r0 2) = 14 then
if q_b X32_11 (mR X32_11 r0 2) v3_4 then
nm (sI X32_11 (mR X32_11 r0 2) (v3_4).toNatClampNeg (mI X32_11 r1 1)) fun X42_17 =>
if mT X42_17 r0 = 10 then
if mR X42_17 r0 3 ≠ 0 then
if mT X42_17 r1 = 2 then
if mT X42_17 (mR X42_17 r0 3) = 15 then
if q_b X42_17 (mR X42_17 r0 3) v3_4 then
nm (sJ X42_17 (mR X42_17 r0 3) (v3_4).toNatClampNeg (((mI X42_17 r1 4)).toInt64)) fun X53_23 =>
if mT X53_23 r0 = 10 then
if mR X53_23 r0 4 ≠ 0 then
if mT X53_23 r1 = 2 then
if mT X53_23 (mR X53_23 r0 4) = 15 then
if q_b X53_23 (mR X53_23 r0 4) v3_4 then
nm (sJ X53_23 (mR X53_23 r0 4) (v3_4).toNatClampNeg (((mI X53_23 r1 5)).toInt64)) fun X64_29 =>
if mT X64_29 r0 = 10 then
if mR X64_29 r0 5 ≠ 0 then
if mT X64_29 (mR X64_29 r0 5) = 14 then
if q_b X64_29 (mR X64_29 r0 5) v3_4 then
nm (sI X64_29 (mR X64_29 r0 5) (v3_4).toNatClampNeg v2) fun X71_34 =>
if mT X71_34 r0 = 10 then
if mR X71_34 r0 6 ≠ 0 then
if mT X71_34 r1 = 2 then
if mT X71_34 (mR X71_34 r0 6) = 14 then
if q_b X71_34 (mR X71_34 r0 6) v3_4 then
nm (sI X71_34 (mR X71_34 r0 6) (v3_4).toNatClampNeg (v2 + (mI X71_34 r1 6))) fun X83_40 =>
if mT X83_40 r0 = 10 then
if mR X83_40 r0 7 ≠ 0 then
if mT X83_40 (mR X83_40 r0 7) = 14 then
if q_b X83_40 (mR X83_40 r0 7) v3_4 then
nm (sI X83_40 (mR X83_40 r0 7) (v3_4).toNatClampNeg (0 : Int32)) fun X90_45 =>
if mT X90_45 r0 = 10 then
if mR X90_45 r0 8 ≠ 0 then
if mT X90_45 (mR X90_45 r0 8) = 14 then
if q_b X90_45 (mR X90_45 r0 8) v3_4 then
nm (sI X90_45 (mR X90_45 r0 8) (v3_4).toNatClampNeg (-1 : Int32)) fun X97_50 =>
if mT X97_50 r0 = 10 then
nm (sI X97_50 r0 9 ((mI X97_50 r0 9) + (1 : Int32))) fun X105_54 =>
some (v3_4, X105_54)
else none
else none
else none
else none
else none
else none
else none
else none
else none
else none
else none
else none
else none
else none
else none
else none
else none
else none
else none
else none
else none
else none
else none
else none
else none
else none
else none
else none
else none
else none
else none
else none
else none
else none
else none
else none
else none
else none
else none
else none
else none
else none
) else (
some ((-1 : Int32), X)
)
else none
theorem sX10_add (r0 : Nat) (r1 : Nat) (v2 : Int32) : q_Ct yX10_add cX10_add 4 (some .int) 0 0 0 0 q_eI (fun P => [.ref (P + r0), .ref (P + r1), .int v2]) (fX10_add r0 r1 v2) := by
  refine q_meth (by decide +kernel) (fun P => Nat.le_of_ble_eq_true rfl) (fun E X C hn => ?_)
  show Sm E (q_fin E q_eI X 0 0) 0 0 0 [(0, .ref (q_P E + r0)), (1, .ref (q_P E + r1)), (2, .int v2)] [] X _
  unfold fX10_add
  refine q_aload_n C 0 dX10_add_0 rfl rfl ?_
  refine q_chk (fun h1 => ?_)
  refine p_getI C fgX10_40 rfl dX10_add_1 h1 ?_
  refine q_nmi (fun v3_4 => ?_)
  refine q_istore_n C [(3, .int v3_4), (0, .ref (q_P E + r0)), (1, .ref (q_P E + r1)), (2, .int v2)] dX10_add_4 rfl (Nat.le_of_ble_eq_true rfl) rfl ?_
  refine q_iload_n C 0 dX10_add_5 rfl rfl ?_
  refine q_bipush C (60 : Int32) dX10_add_6 rfl ?_
  refine q_icmp_lt C 13 dX10_add_8 (by decide) (fun _ => ?_) (fun _ => ?_)
  · refine q_aload_n C 1 dX10_add_13 rfl rfl ?_
    refine q_chk (fun h3 => ?_)
    refine p_getR C fgX10_9 rfl dX10_add_14 h1 h3 ?_
    refine q_iload_n C 0 dX10_add_17 rfl rfl ?_
    refine q_aload_n C 2 dX10_add_18 rfl rfl ?_
    refine q_chk (fun h4 => ?_)
    refine p_getI C fgX10_50 rfl dX10_add_19 h4 ?_
    refine q_chk (fun h6 => ?_)
    refine q_chk (fun h7 => ?_)
    refine p_iast C dX10_add_22 h6 h7 ?_
    refine q_nmX (fun X22_5 => ?_)
    refine q_aload_n C 1 dX10_add_23 rfl rfl ?_
    refine q_chk (fun h8 => ?_)
    refine q_chk (fun h9 => ?_)
    refine p_getR C fgX10_15 rfl dX10_add_24 h8 h9 ?_
    refine q_iload_n C 0 dX10_add_27 rfl rfl ?_
    refine q_aload_n C 2 dX10_add_28 rfl rfl ?_
    refine q_chk (fun h10 => ?_)
    refine p_getI C fgX10_55 rfl dX10_add_29 h10 ?_
    refine q_chk (fun h12 => ?_)
    refine q_chk (fun h13 => ?_)
    refine p_iast C dX10_add_32 h12 h13 ?_
    refine q_nmX (fun X32_11 => ?_)
    refine q_aload_n C 1 dX10_add_33 rfl rfl ?_
    refine q_chk (fun h14 => ?_)
    refine q_chk (fun h15 => ?_)
    refine p_getR C fgX10_18 rfl dX10_add_34 h14 h15 ?_
    refine q_iload_n C 0 dX10_add_37 rfl rfl ?_
    refine q_aload_n C 2 dX10_add_38 rfl rfl ?_
    refine q_chk (fun h16 => ?_)
    refine p_getI C fgX10_57 rfl dX10_add_39 h16 ?_
    refine q_chk (fun h18 => ?_)
    refine q_chk (fun h19 => ?_)
    refine p_iast C dX10_add_42 h18 h19 ?_
    refine q_nmX (fun X42_17 => ?_)
    refine q_aload_n C 1 dX10_add_43 rfl rfl ?_
    refine q_chk (fun h20 => ?_)
    refine q_chk (fun h21 => ?_)
    refine p_getR C fgX10_21 rfl dX10_add_44 h20 h21 ?_
    refine q_iload_n C 0 dX10_add_47 rfl rfl ?_
    refine q_aload_n C 2 dX10_add_48 rfl rfl ?_
    refine q_chk (fun h22 => ?_)
    refine p_getI C fgX10_59 rfl dX10_add_49 h22 ?_
    refine q_i2l C dX10_add_52 ?_
    refine q_chk (fun h24 => ?_)
    refine q_chk (fun h25 => ?_)
    refine p_last C dX10_add_53 h24 h25 ?_
    refine q_nmX (fun X53_23 => ?_)
    refine q_aload_n C 1 dX10_add_54 rfl rfl ?_
    refine q_chk (fun h26 => ?_)
    refine q_chk (fun h27 => ?_)
    refine p_getR C fgX10_25 rfl dX10_add_55 h26 h27 ?_
    refine q_iload_n C 0 dX10_add_58 rfl rfl ?_
    refine q_aload_n C 2 dX10_add_59 rfl rfl ?_
    refine q_chk (fun h28 => ?_)
    refine p_getI C fgX10_61 rfl dX10_add_60 h28 ?_
    refine q_i2l C dX10_add_63 ?_
    refine q_chk (fun h30 => ?_)
    refine q_chk (fun h31 => ?_)
    refine p_last C dX10_add_64 h30 h31 ?_
    refine q_nmX (fun X64_29 => ?_)
    refine q_aload_n C 1 dX10_add_65 rfl rfl ?_
    refine q_chk (fun h32 => ?_)
    refine q_chk (fun h33 => ?_)
    refine p_getR C fgX10_28 rfl dX10_add_66 h32 h33 ?_
    refine q_iload_n C 0 dX10_add_69 rfl rfl ?_
    refine q_iload_n C 3 dX10_add_70 rfl rfl ?_
    refine q_chk (fun h35 => ?_)
    refine q_chk (fun h36 => ?_)
    refine p_iast C dX10_add_71 h35 h36 ?_
    refine q_nmX (fun X71_34 => ?_)
    refine q_aload_n C 1 dX10_add_72 rfl rfl ?_
    refine q_chk (fun h37 => ?_)
    refine q_chk (fun h38 => ?_)
    refine p_getR C fgX10_31 rfl dX10_add_73 h37 h38 ?_
    refine q_iload_n C 0 dX10_add_76 rfl rfl ?_
    refine q_iload_n C 3 dX10_add_77 rfl rfl ?_
    refine q_aload_n C 2 dX10_add_78 rfl rfl ?_
    refine q_chk (fun h39 => ?_)
    refine p_getI C fgX10_63 rfl dX10_add_79 h39 ?_
    refine q_iadd C dX10_add_82 ?_
    refine q_chk (fun h41 => ?_)
    refine q_chk (fun h42 => ?_)
    refine p_iast C dX10_add_83 h41 h42 ?_
    refine q_nmX (fun X83_40 => ?_)
    refine q_aload_n C 1 dX10_add_84 rfl rfl ?_
    refine q_chk (fun h43 => ?_)
    refine q_chk (fun h44 => ?_)
    refine p_getR C fgX10_34 rfl dX10_add_85 h43 h44 ?_
    refine q_iload_n C 0 dX10_add_88 rfl rfl ?_
    refine q_iconst C (0 : Int32) dX10_add_89 rfl ?_
    refine q_chk (fun h46 => ?_)
    refine q_chk (fun h47 => ?_)
    refine p_iast C dX10_add_90 h46 h47 ?_
    refine q_nmX (fun X90_45 => ?_)
    refine q_aload_n C 1 dX10_add_91 rfl rfl ?_
    refine q_chk (fun h48 => ?_)
    refine q_chk (fun h49 => ?_)
    refine p_getR C fgX10_37 rfl dX10_add_92 h48 h49 ?_
    refine q_iload_n C 0 dX10_add_95 rfl rfl ?_
    refine q_iconst C (-1 : Int32) dX10_add_96 rfl ?_
    refine q_chk (fun h51 => ?_)
    refine q_chk (fun h52 => ?_)
    refine p_iast C dX10_add_97 h51 h52 ?_
    refine q_nmX (fun X97_50 => ?_)
    refine q_aload_n C 1 dX10_add_98 rfl rfl ?_
    refine q_dup C dX10_add_99 rfl ?_
    refine q_chk (fun h53 => ?_)
    refine p_getI C fgX10_40 rfl dX10_add_100 h53 ?_
    refine q_iconst C (1 : Int32) dX10_add_103 rfl ?_
    refine q_iadd C dX10_add_104 ?_
    refine p_putI C fpX10_40 rfl dX10_add_105 h53 ?_
    refine q_nmX (fun X105_54 => ?_)
    refine q_iload_n C 0 dX10_add_108 rfl rfl ?_
    exact q_iret C dX10_add_109
  · refine q_iconst C (-1 : Int32) dX10_add_11 rfl ?_
    exact q_iret C dX10_add_12
/-! RecordClaims$Trades.finish(III)V -/
abbrev cX10_finish : ByteArray := prog_12_method_5_code
def yX10_finish : MethodName := ⟨RX10, "finish", "(III)V"⟩
theorem dX10_finish_0 : decode cX10_finish 0 = .ok (.aload_n 0, 1) := by decide +kernel
theorem dX10_finish_1 : decode cX10_finish 1 = .ok (.getfield 34, 3) := by decide +kernel
theorem dX10_finish_4 : decode cX10_finish 4 = .ok (.iload_n 1, 1) := by decide +kernel
theorem dX10_finish_5 : decode cX10_finish 5 = .ok (.iload_n 2, 1) := by decide +kernel
theorem dX10_finish_6 : decode cX10_finish 6 = .ok (.iastore, 1) := by decide +kernel
theorem dX10_finish_7 : decode cX10_finish 7 = .ok (.aload_n 0, 1) := by decide +kernel
theorem dX10_finish_8 : decode cX10_finish 8 = .ok (.getfield 37, 3) := by decide +kernel
theorem dX10_finish_11 : decode cX10_finish 11 = .ok (.iload_n 1, 1) := by decide +kernel
theorem dX10_finish_12 : decode cX10_finish 12 = .ok (.iload_n 3, 1) := by decide +kernel
theorem dX10_finish_13 : decode cX10_finish 13 = .ok (.iastore, 1) := by decide +kernel
theorem dX10_finish_14 : decode cX10_finish 14 = .ok (.return_, 1) := by decide +kernel
def fX10_finish (r0 : Nat) (v1 : Int32) (v2 : Int32) (v3 : Int32) (X : Mm) : Option (Unit × Mm) :=
if mT X r0 = 10 then
if mR X r0 7 ≠ 0 then
if mT X (mR X r0 7) = 14 then
if q_b X (mR X r0 7) v1 then
nm (sI X (mR X r0 7) (v1).toNatClampNeg v2) fun X6_3 =>
if mT X6_3 r0 = 10 then
if mR X6_3 r0 8 ≠ 0 then
if mT X6_3 (mR X6_3 r0 8) = 14 then
if q_b X6_3 (mR X6_3 r0 8) v1 then
nm (sI X6_3 (mR X6_3 r0 8) (v1).toNatClampNeg v3) fun X13_8 =>
some ((), X13_8)
else none
else none
else none
else none
else none
else none
else none
else none
theorem sX10_finish (r0 : Nat) (v1 : Int32) (v2 : Int32) (v3 : Int32) : q_Ct yX10_finish cX10_finish 4 none 0 0 0 0 q_eV (fun P => [.ref (P + r0), .int v1, .int v2, .int v3]) (fX10_finish r0 v1 v2 v3) := by
  refine q_meth (by decide +kernel) (fun P => Nat.le_of_ble_eq_true rfl) (fun E X C hn => ?_)
  show Sm E (q_fin E q_eV X 0 0) 0 0 0 [(0, .ref (q_P E + r0)), (1, .int v1), (2, .int v2), (3, .int v3)] [] X _
  unfold fX10_finish
  refine q_aload_n C 0 dX10_finish_0 rfl rfl ?_
  refine q_chk (fun h1 => ?_)
  refine q_chk (fun h2 => ?_)
  refine p_getR C fgX10_34 rfl dX10_finish_1 h1 h2 ?_
  refine q_iload_n C 1 dX10_finish_4 rfl rfl ?_
  refine q_iload_n C 2 dX10_finish_5 rfl rfl ?_
  refine q_chk (fun h4 => ?_)
  refine q_chk (fun h5 => ?_)
  refine p_iast C dX10_finish_6 h4 h5 ?_
  refine q_nmX (fun X6_3 => ?_)
  refine q_aload_n C 0 dX10_finish_7 rfl rfl ?_
  refine q_chk (fun h6 => ?_)
  refine q_chk (fun h7 => ?_)
  refine p_getR C fgX10_37 rfl dX10_finish_8 h6 h7 ?_
  refine q_iload_n C 1 dX10_finish_11 rfl rfl ?_
  refine q_iload_n C 3 dX10_finish_12 rfl rfl ?_
  refine q_chk (fun h9 => ?_)
  refine q_chk (fun h10 => ?_)
  refine p_iast C dX10_finish_13 h9 h10 ?_
  refine q_nmX (fun X13_8 => ?_)
  exact q_vret C dX10_finish_14
/-! RecordClaims$Trades.isThere(I)Z -/
abbrev cX10_isThere : ByteArray := prog_12_method_2_code
def yX10_isThere : MethodName := ⟨RX10, "isThere", "(I)Z"⟩
theorem dX10_isThere_0 : decode cX10_isThere 0 = .ok (.iload_n 1, 1) := by decide +kernel
theorem dX10_isThere_1 : decode cX10_isThere 1 = .ok (.ifCond .lt 15, 3) := by decide +kernel
theorem dX10_isThere_4 : decode cX10_isThere 4 = .ok (.iload_n 1, 1) := by decide +kernel
theorem dX10_isThere_5 : decode cX10_isThere 5 = .ok (.aload_n 0, 1) := by decide +kernel
theorem dX10_isThere_6 : decode cX10_isThere 6 = .ok (.getfield 40, 3) := by decide +kernel
theorem dX10_isThere_9 : decode cX10_isThere 9 = .ok (.if_icmp .ge 7, 3) := by decide +kernel
theorem dX10_isThere_12 : decode cX10_isThere 12 = .ok (.iconst 1, 1) := by decide +kernel
theorem dX10_isThere_13 : decode cX10_isThere 13 = .ok (.goto 4, 3) := by decide +kernel
theorem dX10_isThere_16 : decode cX10_isThere 16 = .ok (.iconst 0, 1) := by decide +kernel
theorem dX10_isThere_17 : decode cX10_isThere 17 = .ok (.ireturn, 1) := by decide +kernel
def fX10_isThere_L16 (X : Mm) : Option (Int32 × Mm) :=
some (0, X)
def fX10_isThere (r0 : Nat) (v1 : Int32) (X : Mm) : Option (Int32 × Mm) :=
if v1 < 0 then (
fX10_isThere_L16 X
) else (
if mT X r0 = 10 then
if (mI X r0 9) ≤ v1 then (
fX10_isThere_L16 X
) else (
some (1, X)
)
else none
)
theorem gX10_isThere_L16 {E : q_E} {X0 : Mm} (C : Cx E cX10_isThere RX10 2 (some .boolean) (q_rm 0 0 0 0) X0) (X : Mm) : Sm E (q_fin E q_eI X0 0 0) 0 0 16 [] [] X (fX10_isThere_L16  X) := by
  unfold fX10_isThere_L16
  refine q_iconst C (0 : Int32) dX10_isThere_16 rfl ?_
  exact q_zret0 C dX10_isThere_17
theorem sX10_isThere (r0 : Nat) (v1 : Int32) : q_Ct yX10_isThere cX10_isThere 2 (some .boolean) 0 0 0 0 q_eI (fun P => [.ref (P + r0), .int v1]) (fX10_isThere r0 v1) := by
  refine q_meth (by decide +kernel) (fun P => Nat.le_of_ble_eq_true rfl) (fun E X C hn => ?_)
  show Sm E (q_fin E q_eI X 0 0) 0 0 0 [(0, .ref (q_P E + r0)), (1, .int v1)] [] X _
  unfold fX10_isThere
  refine q_iload_n C 1 dX10_isThere_0 rfl rfl ?_
  refine q_if_lt C 16 dX10_isThere_1 (by decide) (fun _ => ?_) (fun _ => ?_)
  · refine q_sub C [] [] rfl ?_
    exact gX10_isThere_L16 C X
  · refine q_iload_n C 1 dX10_isThere_4 rfl rfl ?_
    refine q_aload_n C 0 dX10_isThere_5 rfl rfl ?_
    refine q_chk (fun h1 => ?_)
    refine p_getI C fgX10_40 rfl dX10_isThere_6 h1 ?_
    refine q_icmp_ge C 16 dX10_isThere_9 (by decide) (fun _ => ?_) (fun _ => ?_)
    · refine q_sub C [] [] rfl ?_
      exact gX10_isThere_L16 C X
    · refine q_iconst C (1 : Int32) dX10_isThere_12 rfl ?_
      refine q_goto C 17 dX10_isThere_13 (by decide) ?_
      exact q_zret1 C dX10_isThere_17
/-! RecordClaims$Trades.partOf(II)J -/
abbrev cX10_partOf : ByteArray := prog_12_method_6_code
def yX10_partOf : MethodName := ⟨RX10, "partOf", "(II)J"⟩
theorem dX10_partOf_0 : decode cX10_partOf 0 = .ok (.iload_n 2, 1) := by decide +kernel
theorem dX10_partOf_1 : decode cX10_partOf 1 = .ok (.tableswitch 121 0 8 #[51, 59, 67, 75, 82, 89, 97, 105, 113], 51) := by decide +kernel
theorem dX10_partOf_52 : decode cX10_partOf 52 = .ok (.aload_n 0, 1) := by decide +kernel
theorem dX10_partOf_53 : decode cX10_partOf 53 = .ok (.getfield 9, 3) := by decide +kernel
theorem dX10_partOf_56 : decode cX10_partOf 56 = .ok (.iload_n 1, 1) := by decide +kernel
theorem dX10_partOf_57 : decode cX10_partOf 57 = .ok (.iaload, 1) := by decide +kernel
theorem dX10_partOf_58 : decode cX10_partOf 58 = .ok (.i2l, 1) := by decide +kernel
theorem dX10_partOf_59 : decode cX10_partOf 59 = .ok (.lreturn, 1) := by decide +kernel
theorem dX10_partOf_60 : decode cX10_partOf 60 = .ok (.aload_n 0, 1) := by decide +kernel
theorem dX10_partOf_61 : decode cX10_partOf 61 = .ok (.getfield 15, 3) := by decide +kernel
theorem dX10_partOf_64 : decode cX10_partOf 64 = .ok (.iload_n 1, 1) := by decide +kernel
theorem dX10_partOf_65 : decode cX10_partOf 65 = .ok (.iaload, 1) := by decide +kernel
theorem dX10_partOf_66 : decode cX10_partOf 66 = .ok (.i2l, 1) := by decide +kernel
theorem dX10_partOf_67 : decode cX10_partOf 67 = .ok (.lreturn, 1) := by decide +kernel
theorem dX10_partOf_68 : decode cX10_partOf 68 = .ok (.aload_n 0, 1) := by decide +kernel
theorem dX10_partOf_69 : decode cX10_partOf 69 = .ok (.getfield 18, 3) := by decide +kernel
theorem dX10_partOf_72 : decode cX10_partOf 72 = .ok (.iload_n 1, 1) := by decide +kernel
theorem dX10_partOf_73 : decode cX10_partOf 73 = .ok (.iaload, 1) := by decide +kernel
theorem dX10_partOf_74 : decode cX10_partOf 74 = .ok (.i2l, 1) := by decide +kernel
theorem dX10_partOf_75 : decode cX10_partOf 75 = .ok (.lreturn, 1) := by decide +kernel
theorem dX10_partOf_76 : decode cX10_partOf 76 = .ok (.aload_n 0, 1) := by decide +kernel
theorem dX10_partOf_77 : decode cX10_partOf 77 = .ok (.getfield 21, 3) := by decide +kernel
theorem dX10_partOf_80 : decode cX10_partOf 80 = .ok (.iload_n 1, 1) := by decide +kernel
theorem dX10_partOf_81 : decode cX10_partOf 81 = .ok (.laload, 1) := by decide +kernel
theorem dX10_partOf_82 : decode cX10_partOf 82 = .ok (.lreturn, 1) := by decide +kernel
theorem dX10_partOf_83 : decode cX10_partOf 83 = .ok (.aload_n 0, 1) := by decide +kernel
theorem dX10_partOf_84 : decode cX10_partOf 84 = .ok (.getfield 25, 3) := by decide +kernel
theorem dX10_partOf_87 : decode cX10_partOf 87 = .ok (.iload_n 1, 1) := by decide +kernel
theorem dX10_partOf_88 : decode cX10_partOf 88 = .ok (.laload, 1) := by decide +kernel
theorem dX10_partOf_89 : decode cX10_partOf 89 = .ok (.lreturn, 1) := by decide +kernel
theorem dX10_partOf_90 : decode cX10_partOf 90 = .ok (.aload_n 0, 1) := by decide +kernel
theorem dX10_partOf_91 : decode cX10_partOf 91 = .ok (.getfield 28, 3) := by decide +kernel
theorem dX10_partOf_94 : decode cX10_partOf 94 = .ok (.iload_n 1, 1) := by decide +kernel
theorem dX10_partOf_95 : decode cX10_partOf 95 = .ok (.iaload, 1) := by decide +kernel
theorem dX10_partOf_96 : decode cX10_partOf 96 = .ok (.i2l, 1) := by decide +kernel
theorem dX10_partOf_97 : decode cX10_partOf 97 = .ok (.lreturn, 1) := by decide +kernel
theorem dX10_partOf_98 : decode cX10_partOf 98 = .ok (.aload_n 0, 1) := by decide +kernel
theorem dX10_partOf_99 : decode cX10_partOf 99 = .ok (.getfield 31, 3) := by decide +kernel
theorem dX10_partOf_102 : decode cX10_partOf 102 = .ok (.iload_n 1, 1) := by decide +kernel
theorem dX10_partOf_103 : decode cX10_partOf 103 = .ok (.iaload, 1) := by decide +kernel
theorem dX10_partOf_104 : decode cX10_partOf 104 = .ok (.i2l, 1) := by decide +kernel
theorem dX10_partOf_105 : decode cX10_partOf 105 = .ok (.lreturn, 1) := by decide +kernel
theorem dX10_partOf_106 : decode cX10_partOf 106 = .ok (.aload_n 0, 1) := by decide +kernel
theorem dX10_partOf_107 : decode cX10_partOf 107 = .ok (.getfield 34, 3) := by decide +kernel
theorem dX10_partOf_110 : decode cX10_partOf 110 = .ok (.iload_n 1, 1) := by decide +kernel
theorem dX10_partOf_111 : decode cX10_partOf 111 = .ok (.iaload, 1) := by decide +kernel
theorem dX10_partOf_112 : decode cX10_partOf 112 = .ok (.i2l, 1) := by decide +kernel
theorem dX10_partOf_113 : decode cX10_partOf 113 = .ok (.lreturn, 1) := by decide +kernel
theorem dX10_partOf_114 : decode cX10_partOf 114 = .ok (.aload_n 0, 1) := by decide +kernel
theorem dX10_partOf_115 : decode cX10_partOf 115 = .ok (.getfield 37, 3) := by decide +kernel
theorem dX10_partOf_118 : decode cX10_partOf 118 = .ok (.iload_n 1, 1) := by decide +kernel
theorem dX10_partOf_119 : decode cX10_partOf 119 = .ok (.iaload, 1) := by decide +kernel
theorem dX10_partOf_120 : decode cX10_partOf 120 = .ok (.i2l, 1) := by decide +kernel
theorem dX10_partOf_121 : decode cX10_partOf 121 = .ok (.lreturn, 1) := by decide +kernel
theorem dX10_partOf_122 : decode cX10_partOf 122 = .ok (.ldc2_w 66, 3) := by decide +kernel
theorem dX10_partOf_125 : decode cX10_partOf 125 = .ok (.lreturn, 1) := by decide +kernel
theorem fkX10_66 : Cond.constantLong RX10 66 (-9223372036854775808 : Int64) ∈ q_tbl := q_tb 1060 (by decide +kernel) rfl
def fX10_partOf (r0 : Nat) (v1 : Int32) (v2 : Int32) (X : Mm) : Option (Int64 × Mm) :=
if v2 = (0 : Int32) then (
if mT X r0 = 10 then
if mR X r0 0 ≠ 0 then
if mT X (mR X r0 0) = 14 then
if q_b X (mR X r0 0) v1 then
some ((((mI X (mR X r0 0) (v1).toNatClampNeg)).toInt64), X)
else none
else none
else none
else none
) else (
if v2 = (1 : Int32) then (
if mT X r0 = 10 then
if mR X r0 1 ≠ 0 then
if mT X (mR X r0 1) = 14 then
if q_b X (mR X r0 1) v1 then
some ((((mI X (mR X r0 1) (v1).toNatClampNeg)).toInt64), X)
else none
else none
else none
else none
) else (
if v2 = (2 : Int32) then (
if mT X r0 = 10 then
if mR X r0 2 ≠ 0 then
if mT X (mR X r0 2) = 14 then
if q_b X (mR X r0 2) v1 then
some ((((mI X (mR X r0 2) (v1).toNatClampNeg)).toInt64), X)
else none
else none
else none
else none
) else (
if v2 = (3 : Int32) then (
if mT X r0 = 10 then
if mR X r0 3 ≠ 0 then
if mT X (mR X r0 3) = 15 then
if q_b X (mR X r0 3) v1 then
some ((mJ X (mR X r0 3) (v1).toNatClampNeg), X)
else none
else none
else none
else none
) else (
if v2 = (4 : Int32) then (
if mT X r0 = 10 then
if mR X r0 4 ≠ 0 then
if mT X (mR X r0 4) = 15 then
if q_b X (mR X r0 4) v1 then
some ((mJ X (mR X r0 4) (v1).toNatClampNeg), X)
else none
else none
else none
else none
) else (
if v2 = (5 : Int32) then (
if mT X r0 = 10 then
if mR X r0 5 ≠ 0 then
if mT X (mR X r0 5) = 14 then
if q_b X (mR X r0 5) v1 then
some ((((mI X (mR X r0 5) (v1).toNatClampNeg)).toInt64), X)
else none
else none
else none
else none
) else (
if v2 = (6 : Int32) then (
if mT X r0 = 10 then
if mR X r0 6 ≠ 0 then
if mT X (mR X r0 6) = 14 then
if q_b X (mR X r0 6) v1 then
some ((((mI X (mR X r0 6) (v1).toNatClampNeg)).toInt64), X)
else none
else none
else none
else none
) else (
if v2 = (7 : Int32) then (
if mT X r0 = 10 then
if mR X r0 7 ≠ 0 then
if mT X (mR X r0 7) = 14 then
if q_b X (mR X r0 7) v1 then
some ((((mI X (mR X r0 7) (v1).toNatClampNeg)).toInt64), X)
else none
else none
else none
else none
) else (
if v2 = (8 : Int32) then (
if mT X r0 = 10 then
if mR X r0 8 ≠ 0 then
if mT X (mR X r0 8) = 14 then
if q_b X (mR X r0 8) v1 then
some ((((mI X (mR X r0 8) (v1).toNatClampNeg)).toInt64), X)
else none
else none
else none
else none
) else (
some ((-9223372036854775808 : Int64), X)
)
)
)
)
)
)
)
)
)
theorem sX10_partOf (r0 : Nat) (v1 : Int32) (v2 : Int32) : q_Ct yX10_partOf cX10_partOf 3 (some .long) 0 0 0 0 q_eL (fun P => [.ref (P + r0), .int v1, .int v2]) (fX10_partOf r0 v1 v2) := by
  refine q_meth (by decide +kernel) (fun P => Nat.le_of_ble_eq_true rfl) (fun E X C hn => ?_)
  show Sm E (q_fin E q_eL X 0 0) 0 0 0 [(0, .ref (q_P E + r0)), (1, .int v1), (2, .int v2)] [] X _
  unfold fX10_partOf
  refine q_iload_n C 2 dX10_partOf_0 rfl rfl ?_
  refine q_ite (fun e0 => ?_) (fun e0 => ?_)
  · refine q_tabIn C (v := 0) 52 dX10_partOf_1 (by rw [e0]; rfl) (by decide) (by decide) rfl (by decide) ?_
    refine q_aload_n C 0 dX10_partOf_52 rfl rfl ?_
    refine q_chk (fun h1 => ?_)
    refine q_chk (fun h2 => ?_)
    refine p_getR C fgX10_9 rfl dX10_partOf_53 h1 h2 ?_
    refine q_iload_n C 1 dX10_partOf_56 rfl rfl ?_
    refine q_chk (fun h3 => ?_)
    refine q_chk (fun h4 => ?_)
    refine p_iald C dX10_partOf_57 h3 h4 ?_
    refine q_i2l C dX10_partOf_58 ?_
    exact q_lret C dX10_partOf_59
  · refine q_ite (fun e1 => ?_) (fun e1 => ?_)
    · refine q_tabIn C (v := 1) 60 dX10_partOf_1 (by rw [e1]; rfl) (by decide) (by decide) rfl (by decide) ?_
      refine q_aload_n C 0 dX10_partOf_60 rfl rfl ?_
      refine q_chk (fun h5 => ?_)
      refine q_chk (fun h6 => ?_)
      refine p_getR C fgX10_15 rfl dX10_partOf_61 h5 h6 ?_
      refine q_iload_n C 1 dX10_partOf_64 rfl rfl ?_
      refine q_chk (fun h7 => ?_)
      refine q_chk (fun h8 => ?_)
      refine p_iald C dX10_partOf_65 h7 h8 ?_
      refine q_i2l C dX10_partOf_66 ?_
      exact q_lret C dX10_partOf_67
    · refine q_ite (fun e2 => ?_) (fun e2 => ?_)
      · refine q_tabIn C (v := 2) 68 dX10_partOf_1 (by rw [e2]; rfl) (by decide) (by decide) rfl (by decide) ?_
        refine q_aload_n C 0 dX10_partOf_68 rfl rfl ?_
        refine q_chk (fun h9 => ?_)
        refine q_chk (fun h10 => ?_)
        refine p_getR C fgX10_18 rfl dX10_partOf_69 h9 h10 ?_
        refine q_iload_n C 1 dX10_partOf_72 rfl rfl ?_
        refine q_chk (fun h11 => ?_)
        refine q_chk (fun h12 => ?_)
        refine p_iald C dX10_partOf_73 h11 h12 ?_
        refine q_i2l C dX10_partOf_74 ?_
        exact q_lret C dX10_partOf_75
      · refine q_ite (fun e3 => ?_) (fun e3 => ?_)
        · refine q_tabIn C (v := 3) 76 dX10_partOf_1 (by rw [e3]; rfl) (by decide) (by decide) rfl (by decide) ?_
          refine q_aload_n C 0 dX10_partOf_76 rfl rfl ?_
          refine q_chk (fun h13 => ?_)
          refine q_chk (fun h14 => ?_)
          refine p_getR C fgX10_21 rfl dX10_partOf_77 h13 h14 ?_
          refine q_iload_n C 1 dX10_partOf_80 rfl rfl ?_
          refine q_chk (fun h15 => ?_)
          refine q_chk (fun h16 => ?_)
          refine p_lald C dX10_partOf_81 h15 h16 ?_
          exact q_lret C dX10_partOf_82
        · refine q_ite (fun e4 => ?_) (fun e4 => ?_)
          · refine q_tabIn C (v := 4) 83 dX10_partOf_1 (by rw [e4]; rfl) (by decide) (by decide) rfl (by decide) ?_
            refine q_aload_n C 0 dX10_partOf_83 rfl rfl ?_
            refine q_chk (fun h17 => ?_)
            refine q_chk (fun h18 => ?_)
            refine p_getR C fgX10_25 rfl dX10_partOf_84 h17 h18 ?_
            refine q_iload_n C 1 dX10_partOf_87 rfl rfl ?_
            refine q_chk (fun h19 => ?_)
            refine q_chk (fun h20 => ?_)
            refine p_lald C dX10_partOf_88 h19 h20 ?_
            exact q_lret C dX10_partOf_89
          · refine q_ite (fun e5 => ?_) (fun e5 => ?_)
            · refine q_tabIn C (v := 5) 90 dX10_partOf_1 (by rw [e5]; rfl) (by decide) (by decide) rfl (by decide) ?_
              refine q_aload_n C 0 dX10_partOf_90 rfl rfl ?_
              refine q_chk (fun h21 => ?_)
              refine q_chk (fun h22 => ?_)
              refine p_getR C fgX10_28 rfl dX10_partOf_91 h21 h22 ?_
              refine q_iload_n C 1 dX10_partOf_94 rfl rfl ?_
              refine q_chk (fun h23 => ?_)
              refine q_chk (fun h24 => ?_)
              refine p_iald C dX10_partOf_95 h23 h24 ?_
              refine q_i2l C dX10_partOf_96 ?_
              exact q_lret C dX10_partOf_97
            · refine q_ite (fun e6 => ?_) (fun e6 => ?_)
              · refine q_tabIn C (v := 6) 98 dX10_partOf_1 (by rw [e6]; rfl) (by decide) (by decide) rfl (by decide) ?_
                refine q_aload_n C 0 dX10_partOf_98 rfl rfl ?_
                refine q_chk (fun h25 => ?_)
                refine q_chk (fun h26 => ?_)
                refine p_getR C fgX10_31 rfl dX10_partOf_99 h25 h26 ?_
                refine q_iload_n C 1 dX10_partOf_102 rfl rfl ?_
                refine q_chk (fun h27 => ?_)
                refine q_chk (fun h28 => ?_)
                refine p_iald C dX10_partOf_103 h27 h28 ?_
                refine q_i2l C dX10_partOf_104 ?_
                exact q_lret C dX10_partOf_105
              · refine q_ite (fun e7 => ?_) (fun e7 => ?_)
                · refine q_tabIn C (v := 7) 106 dX10_partOf_1 (by rw [e7]; rfl) (by decide) (by decide) rfl (by decide) ?_
                  refine q_aload_n C 0 dX10_partOf_106 rfl rfl ?_
                  refine q_chk (fun h29 => ?_)
                  refine q_chk (fun h30 => ?_)
                  refine p_getR C fgX10_34 rfl dX10_partOf_107 h29 h30 ?_
                  refine q_iload_n C 1 dX10_partOf_110 rfl rfl ?_
                  refine q_chk (fun h31 => ?_)
                  refine q_chk (fun h32 => ?_)
                  refine p_iald C dX10_partOf_111 h31 h32 ?_
                  refine q_i2l C dX10_partOf_112 ?_
                  exact q_lret C dX10_partOf_113
                · refine q_ite (fun e8 => ?_) (fun e8 => ?_)
                  · refine q_tabIn C (v := 8) 114 dX10_partOf_1 (by rw [e8]; rfl) (by decide) (by decide) rfl (by decide) ?_
                    refine q_aload_n C 0 dX10_partOf_114 rfl rfl ?_
                    refine q_chk (fun h33 => ?_)
                    refine q_chk (fun h34 => ?_)
                    refine p_getR C fgX10_37 rfl dX10_partOf_115 h33 h34 ?_
                    refine q_iload_n C 1 dX10_partOf_118 rfl rfl ?_
                    refine q_chk (fun h35 => ?_)
                    refine q_chk (fun h36 => ?_)
                    refine p_iald C dX10_partOf_119 h35 h36 ?_
                    refine q_i2l C dX10_partOf_120 ?_
                    exact q_lret C dX10_partOf_121
                  · have n0 := q_ne e0 (i := 0) rfl
                    have n1 := q_ne e1 (i := 1) rfl
                    have n2 := q_ne e2 (i := 2) rfl
                    have n3 := q_ne e3 (i := 3) rfl
                    have n4 := q_ne e4 (i := 4) rfl
                    have n5 := q_ne e5 (i := 5) rfl
                    have n6 := q_ne e6 (i := 6) rfl
                    have n7 := q_ne e7 (i := 7) rfl
                    have n8 := q_ne e8 (i := 8) rfl
                    refine q_tabOut C 122 dX10_partOf_1 (by omega) (by decide) ?_
                    refine q_ldc2 C dX10_partOf_122 fkX10_66 ?_
                    exact q_lret C dX10_partOf_125
/-! RecordClaims$Trades.openDueBy(I)I -/
abbrev cX10_openDueBy : ByteArray := prog_12_method_7_code
def yX10_openDueBy : MethodName := ⟨RX10, "openDueBy", "(I)I"⟩
theorem dX10_openDueBy_0 : decode cX10_openDueBy 0 = .ok (.iconst 0, 1) := by decide +kernel
theorem dX10_openDueBy_1 : decode cX10_openDueBy 1 = .ok (.istore_n 2, 1) := by decide +kernel
theorem dX10_openDueBy_2 : decode cX10_openDueBy 2 = .ok (.iconst 0, 1) := by decide +kernel
theorem dX10_openDueBy_3 : decode cX10_openDueBy 3 = .ok (.istore_n 3, 1) := by decide +kernel
theorem dX10_openDueBy_4 : decode cX10_openDueBy 4 = .ok (.iload_n 3, 1) := by decide +kernel
theorem dX10_openDueBy_5 : decode cX10_openDueBy 5 = .ok (.aload_n 0, 1) := by decide +kernel
theorem dX10_openDueBy_6 : decode cX10_openDueBy 6 = .ok (.getfield 40, 3) := by decide +kernel
theorem dX10_openDueBy_9 : decode cX10_openDueBy 9 = .ok (.if_icmp .ge 31, 3) := by decide +kernel
theorem dX10_openDueBy_12 : decode cX10_openDueBy 12 = .ok (.aload_n 0, 1) := by decide +kernel
theorem dX10_openDueBy_13 : decode cX10_openDueBy 13 = .ok (.getfield 34, 3) := by decide +kernel
theorem dX10_openDueBy_16 : decode cX10_openDueBy 16 = .ok (.iload_n 3, 1) := by decide +kernel
theorem dX10_openDueBy_17 : decode cX10_openDueBy 17 = .ok (.iaload, 1) := by decide +kernel
theorem dX10_openDueBy_18 : decode cX10_openDueBy 18 = .ok (.ifCond .ne 16, 3) := by decide +kernel
theorem dX10_openDueBy_21 : decode cX10_openDueBy 21 = .ok (.aload_n 0, 1) := by decide +kernel
theorem dX10_openDueBy_22 : decode cX10_openDueBy 22 = .ok (.getfield 31, 3) := by decide +kernel
theorem dX10_openDueBy_25 : decode cX10_openDueBy 25 = .ok (.iload_n 3, 1) := by decide +kernel
theorem dX10_openDueBy_26 : decode cX10_openDueBy 26 = .ok (.iaload, 1) := by decide +kernel
theorem dX10_openDueBy_27 : decode cX10_openDueBy 27 = .ok (.iload_n 1, 1) := by decide +kernel
theorem dX10_openDueBy_28 : decode cX10_openDueBy 28 = .ok (.if_icmp .gt 6, 3) := by decide +kernel
theorem dX10_openDueBy_31 : decode cX10_openDueBy 31 = .ok (.iinc 2 1, 3) := by decide +kernel
theorem dX10_openDueBy_34 : decode cX10_openDueBy 34 = .ok (.iinc 3 1, 3) := by decide +kernel
theorem dX10_openDueBy_37 : decode cX10_openDueBy 37 = .ok (.goto (-33), 3) := by decide +kernel
theorem dX10_openDueBy_40 : decode cX10_openDueBy 40 = .ok (.iload_n 2, 1) := by decide +kernel
theorem dX10_openDueBy_41 : decode cX10_openDueBy 41 = .ok (.ireturn, 1) := by decide +kernel
def fX10_openDueBy_L34 (n : Nat) (k4 : Nat → Int32 → Int32 → Int32 → Mm → Option (Int32 × Mm)) (r0 : Nat) (v1 : Int32) (v2 : Int32) (v3 : Int32) (X : Mm) : Option (Int32 × Mm) :=
nm (v3 + (1 : Int32)) fun v3_34 =>
k4 r0 v1 v2 v3_34 X
def fX10_openDueBy_L4 (n : Nat) : Nat → Nat → Int32 → Int32 → Int32 → Mm → Option (Int32 × Mm)
| 0, _, _, _, _, _ => none
| j + 1, r0, v1, v2, v3, X =>
if mT X r0 = 10 then
if (mI X r0 9) ≤ v3 then (
some (v2, X)
) else (
if mR X r0 7 ≠ 0 then
if mT X (mR X r0 7) = 14 then
if q_b X (mR X r0 7) v3 then
if (mI X (mR X r0 7) (v3).toNatClampNeg) = 0 then (
if mR X r0 6 ≠ 0 then
if mT X (mR X r0 6) = 14 then
if q_b X (mR X r0 6) v3 then
if v1 < (mI X (mR X r0 6) (v3).toNatClampNeg) then (
fX10_openDueBy_L34 n (fX10_openDueBy_L4 n j) r0 v1 v2 v3 X
) else (
nm (v2 + (1 : Int32)) fun v2_31 =>
fX10_openDueBy_L34 n (fX10_openDueBy_L4 n j) r0 v1 v2_31 v3 X
)
else none
else none
else none
) else (
fX10_openDueBy_L34 n (fX10_openDueBy_L4 n j) r0 v1 v2 v3 X
)
else none
else none
else none
)
else none
def fX10_openDueBy (n : Nat) (r0 : Nat) (v1 : Int32) (X : Mm) : Option (Int32 × Mm) :=
fX10_openDueBy_L4 n n r0 v1 (0 : Int32) (0 : Int32) X
theorem gX10_openDueBy_L34 {E : q_E} {X0 : Mm} (C : Cx E cX10_openDueBy RX10 4 (some .int) (q_rm 0 0 0 0) X0) (n : Nat) (k4 : Nat → Int32 → Int32 → Int32 → Mm → Option (Int32 × Mm)) (hk4 : ∀ (r0 : Nat) (v1 : Int32) (v2 : Int32) (v3 : Int32) (X : Mm), Sm E (q_fin E q_eI X0 0 0) 0 0 4 [(0, .ref (q_P E + r0)), (1, .int v1), (2, .int v2), (3, .int v3)] [] X (k4 r0 v1 v2 v3 X)) (r0 : Nat) (v1 : Int32) (v2 : Int32) (v3 : Int32) (X : Mm) : Sm E (q_fin E q_eI X0 0 0) 0 0 34 [(0, .ref (q_P E + r0)), (1, .int v1), (2, .int v2), (3, .int v3)] [] X (fX10_openDueBy_L34 n k4 r0 v1 v2 v3 X) := by
  unfold fX10_openDueBy_L34
  refine q_iincN C (1 : Int32) 3 (fun v3_34 => [(3, .int v3_34), (0, .ref (q_P E + r0)), (1, .int v1), (2, .int v2)]) dX10_openDueBy_34 rfl rfl (Nat.le_of_ble_eq_true rfl) (fun _ => rfl) (fun v3_34 => ?_)
  refine q_goto C 4 dX10_openDueBy_37 (by decide) ?_
  refine q_sub C [(0, .ref (q_P E + r0)), (1, .int v1), (2, .int v2), (3, .int v3_34)] [1, 2, 3, 0] rfl ?_
  exact hk4 r0 v1 v2 v3_34 X
theorem gX10_openDueBy_L4 {E : q_E} {X0 : Mm} (C : Cx E cX10_openDueBy RX10 4 (some .int) (q_rm 0 0 0 0) X0) (n : Nat) : ∀ (j : Nat) (r0 : Nat) (v1 : Int32) (v2 : Int32) (v3 : Int32) (X : Mm), Sm E (q_fin E q_eI X0 0 0) 0 0 4 [(0, .ref (q_P E + r0)), (1, .int v1), (2, .int v2), (3, .int v3)] [] X (fX10_openDueBy_L4 n j r0 v1 v2 v3 X) := by
  intro j
  induction j with
  | zero => intros; exact Sm.none
  | succ j ih =>
    intro r0 v1 v2 v3 X
    rw [fX10_openDueBy_L4]
    refine q_iload_n C 3 dX10_openDueBy_4 rfl rfl ?_
    refine q_aload_n C 0 dX10_openDueBy_5 rfl rfl ?_
    refine q_chk (fun h1 => ?_)
    refine p_getI C fgX10_40 rfl dX10_openDueBy_6 h1 ?_
    refine q_icmp_ge C 40 dX10_openDueBy_9 (by decide) (fun _ => ?_) (fun _ => ?_)
    · refine q_iload_n C 2 dX10_openDueBy_40 rfl rfl ?_
      exact q_iret C dX10_openDueBy_41
    · refine q_aload_n C 0 dX10_openDueBy_12 rfl rfl ?_
      refine q_chk (fun h2 => ?_)
      refine p_getR C fgX10_34 rfl dX10_openDueBy_13 h1 h2 ?_
      refine q_iload_n C 3 dX10_openDueBy_16 rfl rfl ?_
      refine q_chk (fun h3 => ?_)
      refine q_chk (fun h4 => ?_)
      refine p_iald C dX10_openDueBy_17 h3 h4 ?_
      refine q_if_ne C 34 dX10_openDueBy_18 (by decide) (fun _ => ?_) (fun _ => ?_)
      · refine q_aload_n C 0 dX10_openDueBy_21 rfl rfl ?_
        refine q_chk (fun h5 => ?_)
        refine p_getR C fgX10_31 rfl dX10_openDueBy_22 h1 h5 ?_
        refine q_iload_n C 3 dX10_openDueBy_25 rfl rfl ?_
        refine q_chk (fun h6 => ?_)
        refine q_chk (fun h7 => ?_)
        refine p_iald C dX10_openDueBy_26 h6 h7 ?_
        refine q_iload_n C 1 dX10_openDueBy_27 rfl rfl ?_
        refine q_icmp_gt C 34 dX10_openDueBy_28 (by decide) (fun _ => ?_) (fun _ => ?_)
        · exact gX10_openDueBy_L34 C n (fX10_openDueBy_L4 n j) ih r0 v1 v2 v3 X
        · refine q_iincN C (1 : Int32) 2 (fun v2_31 => [(2, .int v2_31), (0, .ref (q_P E + r0)), (1, .int v1), (3, .int v3)]) dX10_openDueBy_31 rfl rfl (Nat.le_of_ble_eq_true rfl) (fun _ => rfl) (fun v2_31 => ?_)
          refine q_sub C [(0, .ref (q_P E + r0)), (1, .int v1), (2, .int v2_31), (3, .int v3)] [1, 2, 0, 3] rfl ?_
          exact gX10_openDueBy_L34 C n (fX10_openDueBy_L4 n j) ih r0 v1 v2_31 v3 X
      · exact gX10_openDueBy_L34 C n (fX10_openDueBy_L4 n j) ih r0 v1 v2 v3 X
theorem sX10_openDueBy (n : Nat) (r0 : Nat) (v1 : Int32) : q_Ct yX10_openDueBy cX10_openDueBy 4 (some .int) 0 0 0 0 q_eI (fun P => [.ref (P + r0), .int v1]) (fX10_openDueBy n r0 v1) := by
  refine q_meth (by decide +kernel) (fun P => Nat.le_of_ble_eq_true rfl) (fun E X C hn => ?_)
  show Sm E (q_fin E q_eI X 0 0) 0 0 0 [(0, .ref (q_P E + r0)), (1, .int v1)] [] X _
  unfold fX10_openDueBy
  refine q_iconst C (0 : Int32) dX10_openDueBy_0 rfl ?_
  refine q_istore_n C [(2, .int (0 : Int32)), (0, .ref (q_P E + r0)), (1, .int v1)] dX10_openDueBy_1 rfl (Nat.le_of_ble_eq_true rfl) rfl ?_
  refine q_iconst C (0 : Int32) dX10_openDueBy_2 rfl ?_
  refine q_istore_n C [(3, .int (0 : Int32)), (2, .int (0 : Int32)), (0, .ref (q_P E + r0)), (1, .int v1)] dX10_openDueBy_3 rfl (Nat.le_of_ble_eq_true rfl) rfl ?_
  refine q_sub C [(0, .ref (q_P E + r0)), (1, .int v1), (2, .int (0 : Int32)), (3, .int (0 : Int32))] [2, 3, 1, 0] rfl ?_
  exact gX10_openDueBy_L4 C n n r0 v1 (0 : Int32) (0 : Int32) X
/-! RecordClaims$Trades.openSharesFrom(II)J -/
abbrev cX10_openSharesFrom : ByteArray := prog_12_method_8_code
def yX10_openSharesFrom : MethodName := ⟨RX10, "openSharesFrom", "(II)J"⟩
theorem dX10_openSharesFrom_0 : decode cX10_openSharesFrom 0 = .ok (.lconst 0, 1) := by decide +kernel
theorem dX10_openSharesFrom_1 : decode cX10_openSharesFrom 1 = .ok (.lstore_n 3, 1) := by decide +kernel
theorem dX10_openSharesFrom_2 : decode cX10_openSharesFrom 2 = .ok (.iconst 0, 1) := by decide +kernel
theorem dX10_openSharesFrom_3 : decode cX10_openSharesFrom 3 = .ok (.istore 5, 2) := by decide +kernel
theorem dX10_openSharesFrom_5 : decode cX10_openSharesFrom 5 = .ok (.iload 5, 2) := by decide +kernel
theorem dX10_openSharesFrom_7 : decode cX10_openSharesFrom 7 = .ok (.aload_n 0, 1) := by decide +kernel
theorem dX10_openSharesFrom_8 : decode cX10_openSharesFrom 8 = .ok (.getfield 40, 3) := by decide +kernel
theorem dX10_openSharesFrom_11 : decode cX10_openSharesFrom 11 = .ok (.if_icmp .ge 51, 3) := by decide +kernel
theorem dX10_openSharesFrom_14 : decode cX10_openSharesFrom 14 = .ok (.aload_n 0, 1) := by decide +kernel
theorem dX10_openSharesFrom_15 : decode cX10_openSharesFrom 15 = .ok (.getfield 34, 3) := by decide +kernel
theorem dX10_openSharesFrom_18 : decode cX10_openSharesFrom 18 = .ok (.iload 5, 2) := by decide +kernel
theorem dX10_openSharesFrom_20 : decode cX10_openSharesFrom 20 = .ok (.iaload, 1) := by decide +kernel
theorem dX10_openSharesFrom_21 : decode cX10_openSharesFrom 21 = .ok (.ifCond .ne 35, 3) := by decide +kernel
theorem dX10_openSharesFrom_24 : decode cX10_openSharesFrom 24 = .ok (.aload_n 0, 1) := by decide +kernel
theorem dX10_openSharesFrom_25 : decode cX10_openSharesFrom 25 = .ok (.getfield 15, 3) := by decide +kernel
theorem dX10_openSharesFrom_28 : decode cX10_openSharesFrom 28 = .ok (.iload 5, 2) := by decide +kernel
theorem dX10_openSharesFrom_30 : decode cX10_openSharesFrom 30 = .ok (.iaload, 1) := by decide +kernel
theorem dX10_openSharesFrom_31 : decode cX10_openSharesFrom 31 = .ok (.iload_n 1, 1) := by decide +kernel
theorem dX10_openSharesFrom_32 : decode cX10_openSharesFrom 32 = .ok (.if_icmp .ne 24, 3) := by decide +kernel
theorem dX10_openSharesFrom_35 : decode cX10_openSharesFrom 35 = .ok (.aload_n 0, 1) := by decide +kernel
theorem dX10_openSharesFrom_36 : decode cX10_openSharesFrom 36 = .ok (.getfield 18, 3) := by decide +kernel
theorem dX10_openSharesFrom_39 : decode cX10_openSharesFrom 39 = .ok (.iload 5, 2) := by decide +kernel
theorem dX10_openSharesFrom_41 : decode cX10_openSharesFrom 41 = .ok (.iaload, 1) := by decide +kernel
theorem dX10_openSharesFrom_42 : decode cX10_openSharesFrom 42 = .ok (.iload_n 2, 1) := by decide +kernel
theorem dX10_openSharesFrom_43 : decode cX10_openSharesFrom 43 = .ok (.if_icmp .ne 13, 3) := by decide +kernel
theorem dX10_openSharesFrom_46 : decode cX10_openSharesFrom 46 = .ok (.lload_n 3, 1) := by decide +kernel
theorem dX10_openSharesFrom_47 : decode cX10_openSharesFrom 47 = .ok (.aload_n 0, 1) := by decide +kernel
theorem dX10_openSharesFrom_48 : decode cX10_openSharesFrom 48 = .ok (.getfield 21, 3) := by decide +kernel
theorem dX10_openSharesFrom_51 : decode cX10_openSharesFrom 51 = .ok (.iload 5, 2) := by decide +kernel
theorem dX10_openSharesFrom_53 : decode cX10_openSharesFrom 53 = .ok (.laload, 1) := by decide +kernel
theorem dX10_openSharesFrom_54 : decode cX10_openSharesFrom 54 = .ok (.ladd, 1) := by decide +kernel
theorem dX10_openSharesFrom_55 : decode cX10_openSharesFrom 55 = .ok (.lstore_n 3, 1) := by decide +kernel
theorem dX10_openSharesFrom_56 : decode cX10_openSharesFrom 56 = .ok (.iinc 5 1, 3) := by decide +kernel
theorem dX10_openSharesFrom_59 : decode cX10_openSharesFrom 59 = .ok (.goto (-54), 3) := by decide +kernel
theorem dX10_openSharesFrom_62 : decode cX10_openSharesFrom 62 = .ok (.lload_n 3, 1) := by decide +kernel
theorem dX10_openSharesFrom_63 : decode cX10_openSharesFrom 63 = .ok (.lreturn, 1) := by decide +kernel
def fX10_openSharesFrom_L56 (n : Nat) (k5 : Nat → Int32 → Int32 → Int64 → Int32 → Mm → Option (Int64 × Mm)) (r0 : Nat) (v1 : Int32) (v2 : Int32) (v3 : Int64) (v5 : Int32) (X : Mm) : Option (Int64 × Mm) :=
nm (v5 + (1 : Int32)) fun v5_56 =>
k5 r0 v1 v2 v3 v5_56 X
def fX10_openSharesFrom_L5 (n : Nat) : Nat → Nat → Int32 → Int32 → Int64 → Int32 → Mm → Option (Int64 × Mm)
| 0, _, _, _, _, _, _ => none
| j + 1, r0, v1, v2, v3, v5, X =>
if mT X r0 = 10 then
if (mI X r0 9) ≤ v5 then (
some (v3, X)
) else (
if mR X r0 7 ≠ 0 then
if mT X (mR X r0 7) = 14 then
if q_b X (mR X r0 7) v5 then
if (mI X (mR X r0 7) (v5).toNatClampNeg) = 0 then (
if mR X r0 1 ≠ 0 then
if mT X (mR X r0 1) = 14 then
if q_b X (mR X r0 1) v5 then
if (mI X (mR X r0 1) (v5).toNatClampNeg) = v1 then (
if mR X r0 2 ≠ 0 then
if mT X (mR X r0 2) = 14 then
if q_b X (mR X r0 2) v5 then
if (mI X (mR X r0 2) (v5).toNatClampNeg) = v2 then (
if mR X r0 3 ≠ 0 then
if mT X (mR X r0 3) = 15 then
if q_b X (mR X r0 3) v5 then
nm ((v3 + (mJ X (mR X r0 3) (v5).toNatClampNeg))) fun v3_55 =>
fX10_openSharesFrom_L56 n (fX10_openSharesFrom_L5 n j) r0 v1 v2 v3_55 v5 X
else none
else none
else none
) else (
fX10_openSharesFrom_L56 n (fX10_openSharesFrom_L5 n j) r0 v1 v2 v3 v5 X
)
else none
else none
else none
) else (
fX10_openSharesFrom_L56 n (fX10_openSharesFrom_L5 n j) r0 v1 v2 v3 v5 X
)
else none
else none
else none
) else (
fX10_openSharesFrom_L56 n (fX10_openSharesFrom_L5 n j) r0 v1 v2 v3 v5 X
)
else none
else none
else none
)
else none
def fX10_openSharesFrom (n : Nat) (r0 : Nat) (v1 : Int32) (v2 : Int32) (X : Mm) : Option (Int64 × Mm) :=
fX10_openSharesFrom_L5 n n r0 v1 v2 (0 : Int64) (0 : Int32) X
theorem gX10_openSharesFrom_L56 {E : q_E} {X0 : Mm} (C : Cx E cX10_openSharesFrom RX10 6 (some .long) (q_rm 0 0 0 0) X0) (n : Nat) (k5 : Nat → Int32 → Int32 → Int64 → Int32 → Mm → Option (Int64 × Mm)) (hk5 : ∀ (r0 : Nat) (v1 : Int32) (v2 : Int32) (v3 : Int64) (v5 : Int32) (X : Mm), Sm E (q_fin E q_eL X0 0 0) 0 0 5 [(0, .ref (q_P E + r0)), (1, .int v1), (2, .int v2), (3, .long v3), (5, .int v5)] [] X (k5 r0 v1 v2 v3 v5 X)) (r0 : Nat) (v1 : Int32) (v2 : Int32) (v3 : Int64) (v5 : Int32) (X : Mm) : Sm E (q_fin E q_eL X0 0 0) 0 0 56 [(0, .ref (q_P E + r0)), (1, .int v1), (2, .int v2), (3, .long v3), (5, .int v5)] [] X (fX10_openSharesFrom_L56 n k5 r0 v1 v2 v3 v5 X) := by
  unfold fX10_openSharesFrom_L56
  refine q_iincN C (1 : Int32) 4 (fun v5_56 => [(5, .int v5_56), (0, .ref (q_P E + r0)), (1, .int v1), (2, .int v2), (3, .long v3)]) dX10_openSharesFrom_56 rfl rfl (Nat.le_of_ble_eq_true rfl) (fun _ => rfl) (fun v5_56 => ?_)
  refine q_goto C 5 dX10_openSharesFrom_59 (by decide) ?_
  refine q_sub C [(0, .ref (q_P E + r0)), (1, .int v1), (2, .int v2), (3, .long v3), (5, .int v5_56)] [1, 2, 3, 4, 0] rfl ?_
  exact hk5 r0 v1 v2 v3 v5_56 X
theorem gX10_openSharesFrom_L5 {E : q_E} {X0 : Mm} (C : Cx E cX10_openSharesFrom RX10 6 (some .long) (q_rm 0 0 0 0) X0) (n : Nat) : ∀ (j : Nat) (r0 : Nat) (v1 : Int32) (v2 : Int32) (v3 : Int64) (v5 : Int32) (X : Mm), Sm E (q_fin E q_eL X0 0 0) 0 0 5 [(0, .ref (q_P E + r0)), (1, .int v1), (2, .int v2), (3, .long v3), (5, .int v5)] [] X (fX10_openSharesFrom_L5 n j r0 v1 v2 v3 v5 X) := by
  intro j
  induction j with
  | zero => intros; exact Sm.none
  | succ j ih =>
    intro r0 v1 v2 v3 v5 X
    rw [fX10_openSharesFrom_L5]
    refine q_iload C 4 dX10_openSharesFrom_5 rfl ?_
    refine q_aload_n C 0 dX10_openSharesFrom_7 rfl rfl ?_
    refine q_chk (fun h1 => ?_)
    refine p_getI C fgX10_40 rfl dX10_openSharesFrom_8 h1 ?_
    refine q_icmp_ge C 62 dX10_openSharesFrom_11 (by decide) (fun _ => ?_) (fun _ => ?_)
    · refine q_lload_n C 3 dX10_openSharesFrom_62 rfl rfl ?_
      exact q_lret C dX10_openSharesFrom_63
    · refine q_aload_n C 0 dX10_openSharesFrom_14 rfl rfl ?_
      refine q_chk (fun h2 => ?_)
      refine p_getR C fgX10_34 rfl dX10_openSharesFrom_15 h1 h2 ?_
      refine q_iload C 4 dX10_openSharesFrom_18 rfl ?_
      refine q_chk (fun h3 => ?_)
      refine q_chk (fun h4 => ?_)
      refine p_iald C dX10_openSharesFrom_20 h3 h4 ?_
      refine q_if_ne C 56 dX10_openSharesFrom_21 (by decide) (fun _ => ?_) (fun _ => ?_)
      · refine q_aload_n C 0 dX10_openSharesFrom_24 rfl rfl ?_
        refine q_chk (fun h5 => ?_)
        refine p_getR C fgX10_15 rfl dX10_openSharesFrom_25 h1 h5 ?_
        refine q_iload C 4 dX10_openSharesFrom_28 rfl ?_
        refine q_chk (fun h6 => ?_)
        refine q_chk (fun h7 => ?_)
        refine p_iald C dX10_openSharesFrom_30 h6 h7 ?_
        refine q_iload_n C 1 dX10_openSharesFrom_31 rfl rfl ?_
        refine q_icmp_ne C 56 dX10_openSharesFrom_32 (by decide) (fun _ => ?_) (fun _ => ?_)
        · refine q_aload_n C 0 dX10_openSharesFrom_35 rfl rfl ?_
          refine q_chk (fun h8 => ?_)
          refine p_getR C fgX10_18 rfl dX10_openSharesFrom_36 h1 h8 ?_
          refine q_iload C 4 dX10_openSharesFrom_39 rfl ?_
          refine q_chk (fun h9 => ?_)
          refine q_chk (fun h10 => ?_)
          refine p_iald C dX10_openSharesFrom_41 h9 h10 ?_
          refine q_iload_n C 2 dX10_openSharesFrom_42 rfl rfl ?_
          refine q_icmp_ne C 56 dX10_openSharesFrom_43 (by decide) (fun _ => ?_) (fun _ => ?_)
          · refine q_lload_n C 3 dX10_openSharesFrom_46 rfl rfl ?_
            refine q_aload_n C 0 dX10_openSharesFrom_47 rfl rfl ?_
            refine q_chk (fun h11 => ?_)
            refine p_getR C fgX10_21 rfl dX10_openSharesFrom_48 h1 h11 ?_
            refine q_iload C 4 dX10_openSharesFrom_51 rfl ?_
            refine q_chk (fun h12 => ?_)
            refine q_chk (fun h13 => ?_)
            refine p_lald C dX10_openSharesFrom_53 h12 h13 ?_
            refine q_ladd C dX10_openSharesFrom_54 ?_
            refine q_nml (fun v3_55 => ?_)
            refine q_lstore_n C [(3, .long v3_55), (0, .ref (q_P E + r0)), (1, .int v1), (2, .int v2), (5, .int v5)] dX10_openSharesFrom_55 rfl (Nat.le_of_ble_eq_true rfl) rfl ?_
            refine q_sub C [(0, .ref (q_P E + r0)), (1, .int v1), (2, .int v2), (3, .long v3_55), (5, .int v5)] [1, 2, 3, 0, 4] rfl ?_
            exact gX10_openSharesFrom_L56 C n (fX10_openSharesFrom_L5 n j) ih r0 v1 v2 v3_55 v5 X
          · exact gX10_openSharesFrom_L56 C n (fX10_openSharesFrom_L5 n j) ih r0 v1 v2 v3 v5 X
        · exact gX10_openSharesFrom_L56 C n (fX10_openSharesFrom_L5 n j) ih r0 v1 v2 v3 v5 X
      · exact gX10_openSharesFrom_L56 C n (fX10_openSharesFrom_L5 n j) ih r0 v1 v2 v3 v5 X
theorem sX10_openSharesFrom (n : Nat) (r0 : Nat) (v1 : Int32) (v2 : Int32) : q_Ct yX10_openSharesFrom cX10_openSharesFrom 6 (some .long) 0 0 0 0 q_eL (fun P => [.ref (P + r0), .int v1, .int v2]) (fX10_openSharesFrom n r0 v1 v2) := by
  refine q_meth (by decide +kernel) (fun P => Nat.le_of_ble_eq_true rfl) (fun E X C hn => ?_)
  show Sm E (q_fin E q_eL X 0 0) 0 0 0 [(0, .ref (q_P E + r0)), (1, .int v1), (2, .int v2)] [] X _
  unfold fX10_openSharesFrom
  refine q_lconst C (0 : Int64) dX10_openSharesFrom_0 rfl ?_
  refine q_lstore_n C [(3, .long (0 : Int64)), (0, .ref (q_P E + r0)), (1, .int v1), (2, .int v2)] dX10_openSharesFrom_1 rfl (Nat.le_of_ble_eq_true rfl) rfl ?_
  refine q_iconst C (0 : Int32) dX10_openSharesFrom_2 rfl ?_
  refine q_istore C [(5, .int (0 : Int32)), (3, .long (0 : Int64)), (0, .ref (q_P E + r0)), (1, .int v1), (2, .int v2)] dX10_openSharesFrom_3 (Nat.le_of_ble_eq_true rfl) rfl ?_
  refine q_sub C [(0, .ref (q_P E + r0)), (1, .int v1), (2, .int v2), (3, .long (0 : Int64)), (5, .int (0 : Int32))] [2, 3, 4, 1, 0] rfl ?_
  exact gX10_openSharesFrom_L5 C n n r0 v1 v2 (0 : Int64) (0 : Int32) X
