/-! RecordClaims$Deed.<init>()V -/
abbrev cX2_init : ByteArray := prog_4_method_1_code
def yX2_init : MethodName := ⟨RX2, "<init>", "()V"⟩
theorem dX2_init_0 : decode cX2_init 0 = .ok (.aload_n 0, 1) := by decide +kernel
theorem dX2_init_1 : decode cX2_init 1 = .ok (.invokespecial 3, 3) := by decide +kernel
theorem dX2_init_4 : decode cX2_init 4 = .ok (.return_, 1) := by decide +kernel
theorem fwX2_3_oi : Cond.methodLink RX2 3 Lib.objectInit ∈ q_tbl := q_tb 98 (by decide +kernel) rfl
def fX2_init (r0 : Nat) (X : Mm) : Option (Unit × Mm) :=
some ((), X)
theorem sX2_init (r0 : Nat) : q_Ct yX2_init cX2_init 1 none 1 20 0 0 q_eV (fun P => [.ref (P + r0)]) (fX2_init r0) := by
  refine q_meth (by decide +kernel) (fun P => Nat.le_of_ble_eq_true rfl) (fun E X C hn => ?_)
  show Sm E (q_fin E q_eV X 0 0) 0 0 0 [(0, .ref (q_P E + r0))] [] X _
  unfold fX2_init
  refine q_aload_n C 0 dX2_init_0 rfl rfl ?_
  refine q_objInit C fwX2_3_oi fw_oi2 fw_oi3 ⟨Nat.le_of_ble_eq_true rfl, Nat.le_of_ble_eq_true rfl⟩ dX2_init_1 ?_
  exact q_vret C dX2_init_4
/-! RecordClaims$Deed.begin(II)V -/
abbrev cX2_begin : ByteArray := prog_4_method_2_code
def yX2_begin : MethodName := ⟨RX2, "begin", "(II)V"⟩
theorem dX2_begin_0 : decode cX2_begin 0 = .ok (.aload_n 0, 1) := by decide +kernel
theorem dX2_begin_1 : decode cX2_begin 1 = .ok (.iload_n 1, 1) := by decide +kernel
theorem dX2_begin_2 : decode cX2_begin 2 = .ok (.putfield 9, 3) := by decide +kernel
theorem dX2_begin_5 : decode cX2_begin 5 = .ok (.aload_n 0, 1) := by decide +kernel
theorem dX2_begin_6 : decode cX2_begin 6 = .ok (.iload_n 2, 1) := by decide +kernel
theorem dX2_begin_7 : decode cX2_begin 7 = .ok (.putfield 15, 3) := by decide +kernel
theorem dX2_begin_10 : decode cX2_begin 10 = .ok (.aload_n 0, 1) := by decide +kernel
theorem dX2_begin_11 : decode cX2_begin 11 = .ok (.iconst (-1), 1) := by decide +kernel
theorem dX2_begin_12 : decode cX2_begin 12 = .ok (.putfield 18, 3) := by decide +kernel
theorem dX2_begin_15 : decode cX2_begin 15 = .ok (.aload_n 0, 1) := by decide +kernel
theorem dX2_begin_16 : decode cX2_begin 16 = .ok (.iconst 0, 1) := by decide +kernel
theorem dX2_begin_17 : decode cX2_begin 17 = .ok (.putfield 21, 3) := by decide +kernel
theorem dX2_begin_20 : decode cX2_begin 20 = .ok (.aload_n 0, 1) := by decide +kernel
theorem dX2_begin_21 : decode cX2_begin 21 = .ok (.iconst 1, 1) := by decide +kernel
theorem dX2_begin_22 : decode cX2_begin 22 = .ok (.putfield 24, 3) := by decide +kernel
theorem dX2_begin_25 : decode cX2_begin 25 = .ok (.aload_n 0, 1) := by decide +kernel
theorem dX2_begin_26 : decode cX2_begin 26 = .ok (.iconst 0, 1) := by decide +kernel
theorem dX2_begin_27 : decode cX2_begin 27 = .ok (.putfield 27, 3) := by decide +kernel
theorem dX2_begin_30 : decode cX2_begin 30 = .ok (.aload_n 0, 1) := by decide +kernel
theorem dX2_begin_31 : decode cX2_begin 31 = .ok (.iconst 0, 1) := by decide +kernel
theorem dX2_begin_32 : decode cX2_begin 32 = .ok (.putfield 30, 3) := by decide +kernel
theorem dX2_begin_35 : decode cX2_begin 35 = .ok (.aload_n 0, 1) := by decide +kernel
theorem dX2_begin_36 : decode cX2_begin 36 = .ok (.iconst (-1), 1) := by decide +kernel
theorem dX2_begin_37 : decode cX2_begin 37 = .ok (.putfield 33, 3) := by decide +kernel
theorem dX2_begin_40 : decode cX2_begin 40 = .ok (.return_, 1) := by decide +kernel
theorem fpX2_9 : q_Fp RX2 9 2 0 .int false := ⟨RX2, TX2, 20, tyX2, rfl, by decide, inX2, q_tb 99 (by decide +kernel) rfl, tyX2_ok, nmX2, rfl, rfl, fun h => by first | rfl | cases h⟩
theorem fpX2_15 : q_Fp RX2 15 2 1 .int false := ⟨RX2, TX2, 20, tyX2, rfl, by decide, inX2, q_tb 102 (by decide +kernel) rfl, tyX2_ok, nmX2, rfl, rfl, fun h => by first | rfl | cases h⟩
theorem fpX2_18 : q_Fp RX2 18 2 7 .int false := ⟨RX2, TX2, 20, tyX2, rfl, by decide, inX2, q_tb 126 (by decide +kernel) rfl, tyX2_ok, nmX2, rfl, rfl, fun h => by first | rfl | cases h⟩
theorem fpX2_21 : q_Fp RX2 21 2 8 .int false := ⟨RX2, TX2, 20, tyX2, rfl, by decide, inX2, q_tb 130 (by decide +kernel) rfl, tyX2_ok, nmX2, rfl, rfl, fun h => by first | rfl | cases h⟩
theorem fpX2_24 : q_Fp RX2 24 2 9 .int false := ⟨RX2, TX2, 20, tyX2, rfl, by decide, inX2, q_tb 133 (by decide +kernel) rfl, tyX2_ok, nmX2, rfl, rfl, fun h => by first | rfl | cases h⟩
theorem fpX2_27 : q_Fp RX2 27 2 10 .int false := ⟨RX2, TX2, 20, tyX2, rfl, by decide, inX2, q_tb 136 (by decide +kernel) rfl, tyX2_ok, nmX2, rfl, rfl, fun h => by first | rfl | cases h⟩
theorem fpX2_30 : q_Fp RX2 30 2 11 .int false := ⟨RX2, TX2, 20, tyX2, rfl, by decide, inX2, q_tb 140 (by decide +kernel) rfl, tyX2_ok, nmX2, rfl, rfl, fun h => by first | rfl | cases h⟩
theorem fpX2_33 : q_Fp RX2 33 2 12 .int false := ⟨RX2, TX2, 20, tyX2, rfl, by decide, inX2, q_tb 144 (by decide +kernel) rfl, tyX2_ok, nmX2, rfl, rfl, fun h => by first | rfl | cases h⟩
def fX2_begin (r0 : Nat) (v1 : Int32) (v2 : Int32) (X : Mm) : Option (Unit × Mm) :=
if mT X r0 = 2 then
nm (sI X r0 0 v1) fun X2_1 =>
if mT X2_1 r0 = 2 then
nm (sI X2_1 r0 1 v2) fun X7_3 =>
if mT X7_3 r0 = 2 then
nm (sI X7_3 r0 7 (-1 : Int32)) fun X12_5 =>
if mT X12_5 r0 = 2 then
nm (sI X12_5 r0 8 (0 : Int32)) fun X17_7 =>
if mT X17_7 r0 = 2 then
nm (sI X17_7 r0 9 (1 : Int32)) fun X22_9 =>
if mT X22_9 r0 = 2 then
nm (sI X22_9 r0 10 (0 : Int32)) fun X27_11 =>
if mT X27_11 r0 = 2 then
nm (sI X27_11 r0 11 (0 : Int32)) fun X32_13 =>
if mT X32_13 r0 = 2 then
nm (sI X32_13 r0 12 (-1 : Int32)) fun X37_15 =>
some ((), X37_15)
else none
else none
else none
else none
else none
else none
else none
else none
theorem sX2_begin (r0 : Nat) (v1 : Int32) (v2 : Int32) : q_Ct yX2_begin cX2_begin 3 none 0 0 0 0 q_eV (fun P => [.ref (P + r0), .int v1, .int v2]) (fX2_begin r0 v1 v2) := by
  refine q_meth (by decide +kernel) (fun P => Nat.le_of_ble_eq_true rfl) (fun E X C hn => ?_)
  show Sm E (q_fin E q_eV X 0 0) 0 0 0 [(0, .ref (q_P E + r0)), (1, .int v1), (2, .int v2)] [] X _
  unfold fX2_begin
  refine q_aload_n C 0 dX2_begin_0 rfl rfl ?_
  refine q_iload_n C 1 dX2_begin_1 rfl rfl ?_
  refine q_chk (fun h2 => ?_)
  refine p_putI C fpX2_9 rfl dX2_begin_2 h2 ?_
  refine q_nmX (fun X2_1 => ?_)
  refine q_aload_n C 0 dX2_begin_5 rfl rfl ?_
  refine q_iload_n C 2 dX2_begin_6 rfl rfl ?_
  refine q_chk (fun h4 => ?_)
  refine p_putI C fpX2_15 rfl dX2_begin_7 h4 ?_
  refine q_nmX (fun X7_3 => ?_)
  refine q_aload_n C 0 dX2_begin_10 rfl rfl ?_
  refine q_iconst C (-1 : Int32) dX2_begin_11 rfl ?_
  refine q_chk (fun h6 => ?_)
  refine p_putI C fpX2_18 rfl dX2_begin_12 h6 ?_
  refine q_nmX (fun X12_5 => ?_)
  refine q_aload_n C 0 dX2_begin_15 rfl rfl ?_
  refine q_iconst C (0 : Int32) dX2_begin_16 rfl ?_
  refine q_chk (fun h8 => ?_)
  refine p_putI C fpX2_21 rfl dX2_begin_17 h8 ?_
  refine q_nmX (fun X17_7 => ?_)
  refine q_aload_n C 0 dX2_begin_20 rfl rfl ?_
  refine q_iconst C (1 : Int32) dX2_begin_21 rfl ?_
  refine q_chk (fun h10 => ?_)
  refine p_putI C fpX2_24 rfl dX2_begin_22 h10 ?_
  refine q_nmX (fun X22_9 => ?_)
  refine q_aload_n C 0 dX2_begin_25 rfl rfl ?_
  refine q_iconst C (0 : Int32) dX2_begin_26 rfl ?_
  refine q_chk (fun h12 => ?_)
  refine p_putI C fpX2_27 rfl dX2_begin_27 h12 ?_
  refine q_nmX (fun X27_11 => ?_)
  refine q_aload_n C 0 dX2_begin_30 rfl rfl ?_
  refine q_iconst C (0 : Int32) dX2_begin_31 rfl ?_
  refine q_chk (fun h14 => ?_)
  refine p_putI C fpX2_30 rfl dX2_begin_32 h14 ?_
  refine q_nmX (fun X32_13 => ?_)
  refine q_aload_n C 0 dX2_begin_35 rfl rfl ?_
  refine q_iconst C (-1 : Int32) dX2_begin_36 rfl ?_
  refine q_chk (fun h16 => ?_)
  refine p_putI C fpX2_33 rfl dX2_begin_37 h16 ?_
  refine q_nmX (fun X37_15 => ?_)
  exact q_vret C dX2_begin_40
/-! RecordClaims$Deed.setRatio(I)V -/
abbrev cX2_setRatio : ByteArray := prog_4_method_3_code
def yX2_setRatio : MethodName := ⟨RX2, "setRatio", "(I)V"⟩
theorem dX2_setRatio_0 : decode cX2_setRatio 0 = .ok (.aload_n 0, 1) := by decide +kernel
theorem dX2_setRatio_1 : decode cX2_setRatio 1 = .ok (.iload_n 1, 1) := by decide +kernel
theorem dX2_setRatio_2 : decode cX2_setRatio 2 = .ok (.bipush 10, 2) := by decide +kernel
theorem dX2_setRatio_4 : decode cX2_setRatio 4 = .ok (.idiv, 1) := by decide +kernel
theorem dX2_setRatio_5 : decode cX2_setRatio 5 = .ok (.putfield 21, 3) := by decide +kernel
theorem dX2_setRatio_8 : decode cX2_setRatio 8 = .ok (.aload_n 0, 1) := by decide +kernel
theorem dX2_setRatio_9 : decode cX2_setRatio 9 = .ok (.iload_n 1, 1) := by decide +kernel
theorem dX2_setRatio_10 : decode cX2_setRatio 10 = .ok (.bipush 10, 2) := by decide +kernel
theorem dX2_setRatio_12 : decode cX2_setRatio 12 = .ok (.irem, 1) := by decide +kernel
theorem dX2_setRatio_13 : decode cX2_setRatio 13 = .ok (.putfield 24, 3) := by decide +kernel
theorem dX2_setRatio_16 : decode cX2_setRatio 16 = .ok (.return_, 1) := by decide +kernel
def fX2_setRatio (r0 : Nat) (v1 : Int32) (X : Mm) : Option (Unit × Mm) :=
if (10 : Int32) = 0 then none else
if mT X r0 = 2 then
nm (sI X r0 8 (v1 / (10 : Int32))) fun X5_1 =>
if (10 : Int32) = 0 then none else
if mT X5_1 r0 = 2 then
nm (sI X5_1 r0 9 (v1 - v1 / (10 : Int32) * (10 : Int32))) fun X13_3 =>
some ((), X13_3)
else none
else none
theorem sX2_setRatio (r0 : Nat) (v1 : Int32) : q_Ct yX2_setRatio cX2_setRatio 2 none 0 0 0 0 q_eV (fun P => [.ref (P + r0), .int v1]) (fX2_setRatio r0 v1) := by
  refine q_meth (by decide +kernel) (fun P => Nat.le_of_ble_eq_true rfl) (fun E X C hn => ?_)
  show Sm E (q_fin E q_eV X 0 0) 0 0 0 [(0, .ref (q_P E + r0)), (1, .int v1)] [] X _
  unfold fX2_setRatio
  refine q_aload_n C 0 dX2_setRatio_0 rfl rfl ?_
  refine q_iload_n C 1 dX2_setRatio_1 rfl rfl ?_
  refine q_bipush C (10 : Int32) dX2_setRatio_2 rfl ?_
  refine q_idiv C dX2_setRatio_4 ?_
  refine q_chk (fun h2 => ?_)
  refine p_putI C fpX2_21 rfl dX2_setRatio_5 h2 ?_
  refine q_nmX (fun X5_1 => ?_)
  refine q_aload_n C 0 dX2_setRatio_8 rfl rfl ?_
  refine q_iload_n C 1 dX2_setRatio_9 rfl rfl ?_
  refine q_bipush C (10 : Int32) dX2_setRatio_10 rfl ?_
  refine q_irem C dX2_setRatio_12 ?_
  refine q_chk (fun h4 => ?_)
  refine p_putI C fpX2_24 rfl dX2_setRatio_13 h4 ?_
  refine q_nmX (fun X13_3 => ?_)
  exact q_vret C dX2_setRatio_16
/-! RecordClaims$Deed.setPrices(I)V -/
abbrev cX2_setPrices : ByteArray := prog_4_method_4_code
def yX2_setPrices : MethodName := ⟨RX2, "setPrices", "(I)V"⟩
theorem dX2_setPrices_0 : decode cX2_setPrices 0 = .ok (.aload_n 0, 1) := by decide +kernel
theorem dX2_setPrices_1 : decode cX2_setPrices 1 = .ok (.iload_n 1, 1) := by decide +kernel
theorem dX2_setPrices_2 : decode cX2_setPrices 2 = .ok (.sipush 1000, 3) := by decide +kernel
theorem dX2_setPrices_5 : decode cX2_setPrices 5 = .ok (.idiv, 1) := by decide +kernel
theorem dX2_setPrices_6 : decode cX2_setPrices 6 = .ok (.putfield 27, 3) := by decide +kernel
theorem dX2_setPrices_9 : decode cX2_setPrices 9 = .ok (.aload_n 0, 1) := by decide +kernel
theorem dX2_setPrices_10 : decode cX2_setPrices 10 = .ok (.iload_n 1, 1) := by decide +kernel
theorem dX2_setPrices_11 : decode cX2_setPrices 11 = .ok (.sipush 1000, 3) := by decide +kernel
theorem dX2_setPrices_14 : decode cX2_setPrices 14 = .ok (.irem, 1) := by decide +kernel
theorem dX2_setPrices_15 : decode cX2_setPrices 15 = .ok (.putfield 30, 3) := by decide +kernel
theorem dX2_setPrices_18 : decode cX2_setPrices 18 = .ok (.return_, 1) := by decide +kernel
def fX2_setPrices (r0 : Nat) (v1 : Int32) (X : Mm) : Option (Unit × Mm) :=
if (1000 : Int32) = 0 then none else
if mT X r0 = 2 then
nm (sI X r0 10 (v1 / (1000 : Int32))) fun X6_1 =>
if (1000 : Int32) = 0 then none else
if mT X6_1 r0 = 2 then
nm (sI X6_1 r0 11 (v1 - v1 / (1000 : Int32) * (1000 : Int32))) fun X15_3 =>
some ((), X15_3)
else none
else none
theorem sX2_setPrices (r0 : Nat) (v1 : Int32) : q_Ct yX2_setPrices cX2_setPrices 2 none 0 0 0 0 q_eV (fun P => [.ref (P + r0), .int v1]) (fX2_setPrices r0 v1) := by
  refine q_meth (by decide +kernel) (fun P => Nat.le_of_ble_eq_true rfl) (fun E X C hn => ?_)
  show Sm E (q_fin E q_eV X 0 0) 0 0 0 [(0, .ref (q_P E + r0)), (1, .int v1)] [] X _
  unfold fX2_setPrices
  refine q_aload_n C 0 dX2_setPrices_0 rfl rfl ?_
  refine q_iload_n C 1 dX2_setPrices_1 rfl rfl ?_
  refine q_sipush C (1000 : Int32) dX2_setPrices_2 rfl ?_
  refine q_idiv C dX2_setPrices_5 ?_
  refine q_chk (fun h2 => ?_)
  refine p_putI C fpX2_27 rfl dX2_setPrices_6 h2 ?_
  refine q_nmX (fun X6_1 => ?_)
  refine q_aload_n C 0 dX2_setPrices_9 rfl rfl ?_
  refine q_iload_n C 1 dX2_setPrices_10 rfl rfl ?_
  refine q_sipush C (1000 : Int32) dX2_setPrices_11 rfl ?_
  refine q_irem C dX2_setPrices_14 ?_
  refine q_chk (fun h4 => ?_)
  refine p_putI C fpX2_30 rfl dX2_setPrices_15 h4 ?_
  refine q_nmX (fun X15_3 => ?_)
  exact q_vret C dX2_setPrices_18
/-! RecordClaims$Deed.setWhen(III)V -/
abbrev cX2_setWhen : ByteArray := prog_4_method_5_code
def yX2_setWhen : MethodName := ⟨RX2, "setWhen", "(III)V"⟩
theorem dX2_setWhen_0 : decode cX2_setWhen 0 = .ok (.aload_n 0, 1) := by decide +kernel
theorem dX2_setWhen_1 : decode cX2_setWhen 1 = .ok (.iload_n 1, 1) := by decide +kernel
theorem dX2_setWhen_2 : decode cX2_setWhen 2 = .ok (.putfield 36, 3) := by decide +kernel
theorem dX2_setWhen_5 : decode cX2_setWhen 5 = .ok (.aload_n 0, 1) := by decide +kernel
theorem dX2_setWhen_6 : decode cX2_setWhen 6 = .ok (.iload_n 2, 1) := by decide +kernel
theorem dX2_setWhen_7 : decode cX2_setWhen 7 = .ok (.putfield 39, 3) := by decide +kernel
theorem dX2_setWhen_10 : decode cX2_setWhen 10 = .ok (.aload_n 0, 1) := by decide +kernel
theorem dX2_setWhen_11 : decode cX2_setWhen 11 = .ok (.iload_n 3, 1) := by decide +kernel
theorem dX2_setWhen_12 : decode cX2_setWhen 12 = .ok (.putfield 42, 3) := by decide +kernel
theorem dX2_setWhen_15 : decode cX2_setWhen 15 = .ok (.return_, 1) := by decide +kernel
theorem fpX2_36 : q_Fp RX2 36 2 13 .int false := ⟨RX2, TX2, 20, tyX2, rfl, by decide, inX2, q_tb 149 (by decide +kernel) rfl, tyX2_ok, nmX2, rfl, rfl, fun h => by first | rfl | cases h⟩
theorem fpX2_39 : q_Fp RX2 39 2 14 .int false := ⟨RX2, TX2, 20, tyX2, rfl, by decide, inX2, q_tb 152 (by decide +kernel) rfl, tyX2_ok, nmX2, rfl, rfl, fun h => by first | rfl | cases h⟩
theorem fpX2_42 : q_Fp RX2 42 2 15 .int false := ⟨RX2, TX2, 20, tyX2, rfl, by decide, inX2, q_tb 155 (by decide +kernel) rfl, tyX2_ok, nmX2, rfl, rfl, fun h => by first | rfl | cases h⟩
def fX2_setWhen (r0 : Nat) (v1 : Int32) (v2 : Int32) (v3 : Int32) (X : Mm) : Option (Unit × Mm) :=
if mT X r0 = 2 then
nm (sI X r0 13 v1) fun X2_1 =>
if mT X2_1 r0 = 2 then
nm (sI X2_1 r0 14 v2) fun X7_3 =>
if mT X7_3 r0 = 2 then
nm (sI X7_3 r0 15 v3) fun X12_5 =>
some ((), X12_5)
else none
else none
else none
theorem sX2_setWhen (r0 : Nat) (v1 : Int32) (v2 : Int32) (v3 : Int32) : q_Ct yX2_setWhen cX2_setWhen 4 none 0 0 0 0 q_eV (fun P => [.ref (P + r0), .int v1, .int v2, .int v3]) (fX2_setWhen r0 v1 v2 v3) := by
  refine q_meth (by decide +kernel) (fun P => Nat.le_of_ble_eq_true rfl) (fun E X C hn => ?_)
  show Sm E (q_fin E q_eV X 0 0) 0 0 0 [(0, .ref (q_P E + r0)), (1, .int v1), (2, .int v2), (3, .int v3)] [] X _
  unfold fX2_setWhen
  refine q_aload_n C 0 dX2_setWhen_0 rfl rfl ?_
  refine q_iload_n C 1 dX2_setWhen_1 rfl rfl ?_
  refine q_chk (fun h2 => ?_)
  refine p_putI C fpX2_36 rfl dX2_setWhen_2 h2 ?_
  refine q_nmX (fun X2_1 => ?_)
  refine q_aload_n C 0 dX2_setWhen_5 rfl rfl ?_
  refine q_iload_n C 2 dX2_setWhen_6 rfl rfl ?_
  refine q_chk (fun h4 => ?_)
  refine p_putI C fpX2_39 rfl dX2_setWhen_7 h4 ?_
  refine q_nmX (fun X7_3 => ?_)
  refine q_aload_n C 0 dX2_setWhen_10 rfl rfl ?_
  refine q_iload_n C 3 dX2_setWhen_11 rfl rfl ?_
  refine q_chk (fun h6 => ?_)
  refine p_putI C fpX2_42 rfl dX2_setWhen_12 h6 ?_
  refine q_nmX (fun X12_5 => ?_)
  exact q_vret C dX2_setWhen_15
/-! RecordClaims$Deed.readTrade(LRecordClaims$Tape;LRecordClaims$Book;)V -/
abbrev cX2_readTrade : ByteArray := prog_4_method_7_code
def yX2_readTrade : MethodName := ⟨RX2, "readTrade", "(LRecordClaims$Tape;LRecordClaims$Book;)V"⟩
theorem dX2_readTrade_0 : decode cX2_readTrade 0 = .ok (.aload_n 0, 1) := by decide +kernel
theorem dX2_readTrade_1 : decode cX2_readTrade 1 = .ok (.iconst 4, 1) := by decide +kernel
theorem dX2_readTrade_2 : decode cX2_readTrade 2 = .ok (.iconst (-1), 1) := by decide +kernel
theorem dX2_readTrade_3 : decode cX2_readTrade 3 = .ok (.invokevirtual 74, 3) := by decide +kernel
theorem dX2_readTrade_6 : decode cX2_readTrade 6 = .ok (.aload_n 0, 1) := by decide +kernel
theorem dX2_readTrade_7 : decode cX2_readTrade 7 = .ok (.aload_n 2, 1) := by decide +kernel
theorem dX2_readTrade_8 : decode cX2_readTrade 8 = .ok (.aload_n 1, 1) := by decide +kernel
theorem dX2_readTrade_9 : decode cX2_readTrade 9 = .ok (.invokevirtual 88, 3) := by decide +kernel
theorem dX2_readTrade_12 : decode cX2_readTrade 12 = .ok (.putfield 94, 3) := by decide +kernel
theorem dX2_readTrade_15 : decode cX2_readTrade 15 = .ok (.aload_n 0, 1) := by decide +kernel
theorem dX2_readTrade_16 : decode cX2_readTrade 16 = .ok (.aload_n 2, 1) := by decide +kernel
theorem dX2_readTrade_17 : decode cX2_readTrade 17 = .ok (.aload_n 1, 1) := by decide +kernel
theorem dX2_readTrade_18 : decode cX2_readTrade 18 = .ok (.invokevirtual 88, 3) := by decide +kernel
theorem dX2_readTrade_21 : decode cX2_readTrade 21 = .ok (.putfield 97, 3) := by decide +kernel
theorem dX2_readTrade_24 : decode cX2_readTrade 24 = .ok (.aload_n 0, 1) := by decide +kernel
theorem dX2_readTrade_25 : decode cX2_readTrade 25 = .ok (.aload_n 2, 1) := by decide +kernel
theorem dX2_readTrade_26 : decode cX2_readTrade 26 = .ok (.aload_n 1, 1) := by decide +kernel
theorem dX2_readTrade_27 : decode cX2_readTrade 27 = .ok (.invokevirtual 100, 3) := by decide +kernel
theorem dX2_readTrade_30 : decode cX2_readTrade 30 = .ok (.putfield 15, 3) := by decide +kernel
theorem dX2_readTrade_33 : decode cX2_readTrade 33 = .ok (.aload_n 0, 1) := by decide +kernel
theorem dX2_readTrade_34 : decode cX2_readTrade 34 = .ok (.aload_n 1, 1) := by decide +kernel
theorem dX2_readTrade_35 : decode cX2_readTrade 35 = .ok (.invokevirtual 78, 3) := by decide +kernel
theorem dX2_readTrade_38 : decode cX2_readTrade 38 = .ok (.putfield 103, 3) := by decide +kernel
theorem dX2_readTrade_41 : decode cX2_readTrade 41 = .ok (.aload_n 0, 1) := by decide +kernel
theorem dX2_readTrade_42 : decode cX2_readTrade 42 = .ok (.aload_n 1, 1) := by decide +kernel
theorem dX2_readTrade_43 : decode cX2_readTrade 43 = .ok (.invokevirtual 78, 3) := by decide +kernel
theorem dX2_readTrade_46 : decode cX2_readTrade 46 = .ok (.putfield 106, 3) := by decide +kernel
theorem dX2_readTrade_49 : decode cX2_readTrade 49 = .ok (.aload_n 0, 1) := by decide +kernel
theorem dX2_readTrade_50 : decode cX2_readTrade 50 = .ok (.aload_n 1, 1) := by decide +kernel
theorem dX2_readTrade_51 : decode cX2_readTrade 51 = .ok (.iconst 4, 1) := by decide +kernel
theorem dX2_readTrade_52 : decode cX2_readTrade 52 = .ok (.invokevirtual 45, 3) := by decide +kernel
theorem dX2_readTrade_55 : decode cX2_readTrade 55 = .ok (.ifCond .eq 10, 3) := by decide +kernel
theorem dX2_readTrade_58 : decode cX2_readTrade 58 = .ok (.aload_n 1, 1) := by decide +kernel
theorem dX2_readTrade_59 : decode cX2_readTrade 59 = .ok (.invokevirtual 78, 3) := by decide +kernel
theorem dX2_readTrade_62 : decode cX2_readTrade 62 = .ok (.goto 4, 3) := by decide +kernel
theorem dX2_readTrade_65 : decode cX2_readTrade 65 = .ok (.iconst 2, 1) := by decide +kernel
theorem dX2_readTrade_66 : decode cX2_readTrade 66 = .ok (.putfield 109, 3) := by decide +kernel
theorem dX2_readTrade_69 : decode cX2_readTrade 69 = .ok (.return_, 1) := by decide +kernel
theorem fcX2_74 : q_LV RX2 74 yX2_begin cX2_begin 3 none 2 2 := ⟨q_tb 719 (by decide +kernel) rfl, q_tb 720 (by decide +kernel) rfl, q_tb 721 (by decide +kernel) rfl, q_tb 4 (by decide +kernel) rfl, q_tb 722 (by decide +kernel) rfl, ⟨by decide +kernel, by decide +kernel, by decide +kernel⟩, TX2, 20, rfl⟩
theorem fcX2_88 : q_LV RX2 88 yX0_takeHolder cX0_takeHolder 2 (some .int) 1 0 := ⟨q_tb 723 (by decide +kernel) rfl, q_tb 665 (by decide +kernel) rfl, q_tb 666 (by decide +kernel) rfl, q_tb 3 (by decide +kernel) rfl, q_tb 667 (by decide +kernel) rfl, ⟨by decide +kernel, by decide +kernel, by decide +kernel⟩, TX0, 5, rfl⟩
theorem fpX2_94 : q_Fp RX2 94 2 2 .int false := ⟨RX2, TX2, 20, tyX2, rfl, by decide, inX2, q_tb 107 (by decide +kernel) rfl, tyX2_ok, nmX2, rfl, rfl, fun h => by first | rfl | cases h⟩
theorem fpX2_97 : q_Fp RX2 97 2 3 .int false := ⟨RX2, TX2, 20, tyX2, rfl, by decide, inX2, q_tb 111 (by decide +kernel) rfl, tyX2_ok, nmX2, rfl, rfl, fun h => by first | rfl | cases h⟩
theorem fcX2_100 : q_LV RX2 100 yX0_takePaper cX0_takePaper 2 (some .int) 1 0 := ⟨q_tb 724 (by decide +kernel) rfl, q_tb 674 (by decide +kernel) rfl, q_tb 675 (by decide +kernel) rfl, q_tb 3 (by decide +kernel) rfl, q_tb 676 (by decide +kernel) rfl, ⟨by decide +kernel, by decide +kernel, by decide +kernel⟩, TX0, 5, rfl⟩
theorem fcX2_78 : q_LV RX2 78 yX9_takeNumber cX9_takeNumber 1 (some .int) 0 9 := ⟨q_tb 725 (by decide +kernel) rfl, q_tb 683 (by decide +kernel) rfl, q_tb 684 (by decide +kernel) rfl, q_tb 2 (by decide +kernel) rfl, q_tb 685 (by decide +kernel) rfl, ⟨by decide +kernel, by decide +kernel, by decide +kernel⟩, TX9, 8, rfl⟩
theorem fpX2_103 : q_Fp RX2 103 2 4 .int false := ⟨RX2, TX2, 20, tyX2, rfl, by decide, inX2, q_tb 115 (by decide +kernel) rfl, tyX2_ok, nmX2, rfl, rfl, fun h => by first | rfl | cases h⟩
theorem fpX2_106 : q_Fp RX2 106 2 5 .int false := ⟨RX2, TX2, 20, tyX2, rfl, by decide, inX2, q_tb 119 (by decide +kernel) rfl, tyX2_ok, nmX2, rfl, rfl, fun h => by first | rfl | cases h⟩
theorem fcX2_45 : q_LV RX2 45 yX9_passesWord cX9_passesWord 2 (some .boolean) 1 9 := ⟨q_tb 711 (by decide +kernel) rfl, q_tb 712 (by decide +kernel) rfl, q_tb 713 (by decide +kernel) rfl, q_tb 2 (by decide +kernel) rfl, q_tb 714 (by decide +kernel) rfl, ⟨by decide +kernel, by decide +kernel, by decide +kernel⟩, TX9, 8, rfl⟩
theorem fpX2_109 : q_Fp RX2 109 2 6 .int false := ⟨RX2, TX2, 20, tyX2, rfl, by decide, inX2, q_tb 123 (by decide +kernel) rfl, tyX2_ok, nmX2, rfl, rfl, fun h => by first | rfl | cases h⟩
def fX2_readTrade_L66 (n : Nat) (s0 : Int32) (rs1 : Nat) (X : Mm) : Option (Unit × Mm) :=
if mT X rs1 = 2 then
nm (sI X rs1 6 s0) fun X66_32 =>
some ((), X66_32)
else none
def fX2_readTrade (n : Nat) (r0 : Nat) (r1 : Nat) (r2 : Nat) (X : Mm) : Option (Unit × Mm) :=
if mT X r0 = 2 then
bd (fX2_begin r0 (4 : Int32) (-1 : Int32) X) fun _ X3_2 =>
if mT X3_2 r2 = 0 then
bd (fX0_takeHolder n r2 r1 X3_2) fun w4 X9_5 =>
if mT X9_5 r0 = 2 then
nm (sI X9_5 r0 2 w4) fun X12_7 =>
if mT X12_7 r2 = 0 then
bd (fX0_takeHolder n r2 r1 X12_7) fun w9 X18_10 =>
if mT X18_10 r0 = 2 then
nm (sI X18_10 r0 3 w9) fun X21_12 =>
if mT X21_12 r2 = 0 then
bd (fX0_takePaper n r2 r1 X21_12) fun w14 X27_15 =>
if mT X27_15 r0 = 2 then
nm (sI X27_15 r0 1 w14) fun X30_17 =>
if mT X30_17 r1 = 9 then
bd (fX9_takeNumber r1 X30_17) fun w19 X35_20 =>
if mT X35_20 r0 = 2 then
nm (sI X35_20 r0 4 w19) fun X38_22 =>
if mT X38_22 r1 = 9 then
bd (fX9_takeNumber r1 X38_22) fun w24 X43_25 =>
if mT X43_25 r0 = 2 then
nm (sI X43_25 r0 5 w24) fun X46_27 =>
if mT X46_27 r1 = 9 then
bd (fX9_passesWord r1 (4 : Int32) X46_27) fun w29 X52_30 =>
if w29 = 0 then (
fX2_readTrade_L66 n (2 : Int32) r0 X52_30
) else (
if mT X52_30 r1 = 9 then
bd (fX9_takeNumber r1 X52_30) fun w34 X59_35 =>
fX2_readTrade_L66 n w34 r0 X59_35
else none
)
else none
else none
else none
else none
else none
else none
else none
else none
else none
else none
else none
else none
theorem gX2_readTrade_L66 {E : q_E} {X0 : Mm} (C : Cx E cX2_readTrade RX2 3 none (q_rm 3 67 0 0) X0) (n : Nat) (s0 : Int32) (rs1 : Nat) (X : Mm) : Sm E (q_fin E q_eV X0 0 0) 0 0 66 [] [.int s0, .ref (q_P E + rs1)] X (fX2_readTrade_L66 n s0 rs1 X) := by
  unfold fX2_readTrade_L66
  refine q_chk (fun h33 => ?_)
  refine p_putI C fpX2_109 rfl dX2_readTrade_66 h33 ?_
  refine q_nmX (fun X66_32 => ?_)
  exact q_vret C dX2_readTrade_69
theorem sX2_readTrade (n : Nat) (r0 : Nat) (r1 : Nat) (r2 : Nat) : q_Ct yX2_readTrade cX2_readTrade 3 none 3 67 0 0 q_eV (fun P => [.ref (P + r0), .ref (P + r1), .ref (P + r2)]) (fX2_readTrade n r0 r1 r2) := by
  refine q_meth (by decide +kernel) (fun P => Nat.le_of_ble_eq_true rfl) (fun E X C hn => ?_)
  show Sm E (q_fin E q_eV X 0 0) 0 0 0 [(0, .ref (q_P E + r0)), (1, .ref (q_P E + r1)), (2, .ref (q_P E + r2))] [] X _
  unfold fX2_readTrade
  refine q_aload_n C 0 dX2_readTrade_0 rfl rfl ?_
  refine q_iconst C (4 : Int32) dX2_readTrade_1 rfl ?_
  refine q_iconst C (-1 : Int32) dX2_readTrade_2 rfl ?_
  refine q_chk (fun h3 => ?_)
  refine q_cVV (As := (fun P => [.int (4 : Int32), .int (-1 : Int32)])) C [] (sX2_begin r0 (4 : Int32) (-1 : Int32)) fcX2_74 rfl (fun _ => rfl) ⟨Nat.le_of_ble_eq_true rfl, Nat.le_of_ble_eq_true rfl⟩ ⟨Nat.le_of_ble_eq_true rfl, Nat.le_of_ble_eq_true rfl⟩ (Nat.le_of_ble_eq_true rfl) dX2_readTrade_3 h3 (fun _ X3_2 => ?_)
  refine q_aload_n C 0 dX2_readTrade_6 rfl rfl ?_
  refine q_aload_n C 2 dX2_readTrade_7 rfl rfl ?_
  refine q_aload_n C 1 dX2_readTrade_8 rfl rfl ?_
  refine q_chk (fun h6 => ?_)
  refine q_cVI (As := (fun P => [.ref (P + r1)])) C [.ref (q_P E + r0)] (sX0_takeHolder n r2 r1) fcX2_88 rfl (fun _ => rfl) ⟨Nat.le_of_ble_eq_true rfl, Nat.le_of_ble_eq_true rfl⟩ ⟨Nat.le_of_ble_eq_true rfl, Nat.le_of_ble_eq_true rfl⟩ (Nat.le_of_ble_eq_true rfl) dX2_readTrade_9 h6 (fun w4 X9_5 => ?_)
  refine q_chk (fun h8 => ?_)
  refine p_putI C fpX2_94 rfl dX2_readTrade_12 h8 ?_
  refine q_nmX (fun X12_7 => ?_)
  refine q_aload_n C 0 dX2_readTrade_15 rfl rfl ?_
  refine q_aload_n C 2 dX2_readTrade_16 rfl rfl ?_
  refine q_aload_n C 1 dX2_readTrade_17 rfl rfl ?_
  refine q_chk (fun h11 => ?_)
  refine q_cVI (As := (fun P => [.ref (P + r1)])) C [.ref (q_P E + r0)] (sX0_takeHolder n r2 r1) fcX2_88 rfl (fun _ => rfl) ⟨Nat.le_of_ble_eq_true rfl, Nat.le_of_ble_eq_true rfl⟩ ⟨Nat.le_of_ble_eq_true rfl, Nat.le_of_ble_eq_true rfl⟩ (Nat.le_of_ble_eq_true rfl) dX2_readTrade_18 h11 (fun w9 X18_10 => ?_)
  refine q_chk (fun h13 => ?_)
  refine p_putI C fpX2_97 rfl dX2_readTrade_21 h13 ?_
  refine q_nmX (fun X21_12 => ?_)
  refine q_aload_n C 0 dX2_readTrade_24 rfl rfl ?_
  refine q_aload_n C 2 dX2_readTrade_25 rfl rfl ?_
  refine q_aload_n C 1 dX2_readTrade_26 rfl rfl ?_
  refine q_chk (fun h16 => ?_)
  refine q_cVI (As := (fun P => [.ref (P + r1)])) C [.ref (q_P E + r0)] (sX0_takePaper n r2 r1) fcX2_100 rfl (fun _ => rfl) ⟨Nat.le_of_ble_eq_true rfl, Nat.le_of_ble_eq_true rfl⟩ ⟨Nat.le_of_ble_eq_true rfl, Nat.le_of_ble_eq_true rfl⟩ (Nat.le_of_ble_eq_true rfl) dX2_readTrade_27 h16 (fun w14 X27_15 => ?_)
  refine q_chk (fun h18 => ?_)
  refine p_putI C fpX2_15 rfl dX2_readTrade_30 h18 ?_
  refine q_nmX (fun X30_17 => ?_)
  refine q_aload_n C 0 dX2_readTrade_33 rfl rfl ?_
  refine q_aload_n C 1 dX2_readTrade_34 rfl rfl ?_
  refine q_chk (fun h21 => ?_)
  refine q_cVI (As := (fun P => [])) C [.ref (q_P E + r0)] (sX9_takeNumber r1) fcX2_78 rfl (fun _ => rfl) ⟨Nat.le_of_ble_eq_true rfl, Nat.le_of_ble_eq_true rfl⟩ ⟨Nat.le_of_ble_eq_true rfl, Nat.le_of_ble_eq_true rfl⟩ (Nat.le_of_ble_eq_true rfl) dX2_readTrade_35 h21 (fun w19 X35_20 => ?_)
  refine q_chk (fun h23 => ?_)
  refine p_putI C fpX2_103 rfl dX2_readTrade_38 h23 ?_
  refine q_nmX (fun X38_22 => ?_)
  refine q_aload_n C 0 dX2_readTrade_41 rfl rfl ?_
  refine q_aload_n C 1 dX2_readTrade_42 rfl rfl ?_
  refine q_chk (fun h26 => ?_)
  refine q_cVI (As := (fun P => [])) C [.ref (q_P E + r0)] (sX9_takeNumber r1) fcX2_78 rfl (fun _ => rfl) ⟨Nat.le_of_ble_eq_true rfl, Nat.le_of_ble_eq_true rfl⟩ ⟨Nat.le_of_ble_eq_true rfl, Nat.le_of_ble_eq_true rfl⟩ (Nat.le_of_ble_eq_true rfl) dX2_readTrade_43 h26 (fun w24 X43_25 => ?_)
  refine q_chk (fun h28 => ?_)
  refine p_putI C fpX2_106 rfl dX2_readTrade_46 h28 ?_
  refine q_nmX (fun X46_27 => ?_)
  refine q_aload_n C 0 dX2_readTrade_49 rfl rfl ?_
  refine q_aload_n C 1 dX2_readTrade_50 rfl rfl ?_
  refine q_iconst C (4 : Int32) dX2_readTrade_51 rfl ?_
  refine q_chk (fun h31 => ?_)
  refine q_cVI (As := (fun P => [.int (4 : Int32)])) C [.ref (q_P E + r0)] (sX9_passesWord r1 (4 : Int32)) fcX2_45 rfl (fun _ => rfl) ⟨Nat.le_of_ble_eq_true rfl, Nat.le_of_ble_eq_true rfl⟩ ⟨Nat.le_of_ble_eq_true rfl, Nat.le_of_ble_eq_true rfl⟩ (Nat.le_of_ble_eq_true rfl) dX2_readTrade_52 h31 (fun w29 X52_30 => ?_)
  refine q_if_eq C 65 dX2_readTrade_55 (by decide) (fun _ => ?_) (fun _ => ?_)
  · refine q_iconst C (2 : Int32) dX2_readTrade_65 rfl ?_
    refine q_sub C [] [] rfl ?_
    exact gX2_readTrade_L66 C n (2 : Int32) r0 X52_30
  · refine q_aload_n C 1 dX2_readTrade_58 rfl rfl ?_
    refine q_chk (fun h36 => ?_)
    refine q_cVI (As := (fun P => [])) C [.ref (q_P E + r0)] (sX9_takeNumber r1) fcX2_78 rfl (fun _ => rfl) ⟨Nat.le_of_ble_eq_true rfl, Nat.le_of_ble_eq_true rfl⟩ ⟨Nat.le_of_ble_eq_true rfl, Nat.le_of_ble_eq_true rfl⟩ (Nat.le_of_ble_eq_true rfl) dX2_readTrade_59 h36 (fun w34 X59_35 => ?_)
    refine q_goto C 66 dX2_readTrade_62 (by decide) ?_
    refine q_sub C [] [] rfl ?_
    exact gX2_readTrade_L66 C n w34 r0 X59_35
/-! RecordClaims$Deed.takeBehind(LRecordClaims$Tape;I)I -/
abbrev cX2_takeBehind : ByteArray := prog_4_method_15_code
def yX2_takeBehind : MethodName := ⟨RX2, "takeBehind", "(LRecordClaims$Tape;I)I"⟩
theorem dX2_takeBehind_0 : decode cX2_takeBehind 0 = .ok (.aload_n 0, 1) := by decide +kernel
theorem dX2_takeBehind_1 : decode cX2_takeBehind 1 = .ok (.iload_n 1, 1) := by decide +kernel
theorem dX2_takeBehind_2 : decode cX2_takeBehind 2 = .ok (.invokevirtual 70, 3) := by decide +kernel
theorem dX2_takeBehind_5 : decode cX2_takeBehind 5 = .ok (.aload_n 0, 1) := by decide +kernel
theorem dX2_takeBehind_6 : decode cX2_takeBehind 6 = .ok (.invokevirtual 78, 3) := by decide +kernel
theorem dX2_takeBehind_9 : decode cX2_takeBehind 9 = .ok (.ireturn, 1) := by decide +kernel
theorem fcX2_70 : q_LV RX2 70 yX9_takeWord cX9_takeWord 2 none 1 9 := ⟨q_tb 737 (by decide +kernel) rfl, q_tb 628 (by decide +kernel) rfl, q_tb 629 (by decide +kernel) rfl, q_tb 2 (by decide +kernel) rfl, q_tb 630 (by decide +kernel) rfl, ⟨by decide +kernel, by decide +kernel, by decide +kernel⟩, TX9, 8, rfl⟩
def fX2_takeBehind (r0 : Nat) (v1 : Int32) (X : Mm) : Option (Int32 × Mm) :=
if mT X r0 = 9 then
bd (fX9_takeWord r0 v1 X) fun _ X2_2 =>
if mT X2_2 r0 = 9 then
bd (fX9_takeNumber r0 X2_2) fun w4 X6_5 =>
some (w4, X6_5)
else none
else none
theorem sX2_takeBehind (r0 : Nat) (v1 : Int32) : q_Ct yX2_takeBehind cX2_takeBehind 2 (some .int) 2 42 0 0 q_eI (fun P => [.ref (P + r0), .int v1]) (fX2_takeBehind r0 v1) := by
  refine q_meth (by decide +kernel) (fun P => Nat.le_of_ble_eq_true rfl) (fun E X C hn => ?_)
  show Sm E (q_fin E q_eI X 0 0) 0 0 0 [(0, .ref (q_P E + r0)), (1, .int v1)] [] X _
  unfold fX2_takeBehind
  refine q_aload_n C 0 dX2_takeBehind_0 rfl rfl ?_
  refine q_iload_n C 1 dX2_takeBehind_1 rfl rfl ?_
  refine q_chk (fun h3 => ?_)
  refine q_cVV (As := (fun P => [.int v1])) C [] (sX9_takeWord r0 v1) fcX2_70 rfl (fun _ => rfl) ⟨Nat.le_of_ble_eq_true rfl, Nat.le_of_ble_eq_true rfl⟩ ⟨Nat.le_of_ble_eq_true rfl, Nat.le_of_ble_eq_true rfl⟩ (Nat.le_of_ble_eq_true rfl) dX2_takeBehind_2 h3 (fun _ X2_2 => ?_)
  refine q_aload_n C 0 dX2_takeBehind_5 rfl rfl ?_
  refine q_chk (fun h6 => ?_)
  refine q_cVI (As := (fun P => [])) C [] (sX9_takeNumber r0) fcX2_78 rfl (fun _ => rfl) ⟨Nat.le_of_ble_eq_true rfl, Nat.le_of_ble_eq_true rfl⟩ ⟨Nat.le_of_ble_eq_true rfl, Nat.le_of_ble_eq_true rfl⟩ (Nat.le_of_ble_eq_true rfl) dX2_takeBehind_6 h6 (fun w4 X6_5 => ?_)
  exact q_iret C dX2_takeBehind_9
/-! RecordClaims$Deed.readWhen(LRecordClaims$Tape;)V -/
abbrev cX2_readWhen : ByteArray := prog_4_method_14_code
def yX2_readWhen : MethodName := ⟨RX2, "readWhen", "(LRecordClaims$Tape;)V"⟩
theorem dX2_readWhen_0 : decode cX2_readWhen 0 = .ok (.aload_n 0, 1) := by decide +kernel
theorem dX2_readWhen_1 : decode cX2_readWhen 1 = .ok (.aload_n 1, 1) := by decide +kernel
theorem dX2_readWhen_2 : decode cX2_readWhen 2 = .ok (.bipush 16, 2) := by decide +kernel
theorem dX2_readWhen_4 : decode cX2_readWhen 4 = .ok (.invokestatic 119, 3) := by decide +kernel
theorem dX2_readWhen_7 : decode cX2_readWhen 7 = .ok (.putfield 36, 3) := by decide +kernel
theorem dX2_readWhen_10 : decode cX2_readWhen 10 = .ok (.aload_n 0, 1) := by decide +kernel
theorem dX2_readWhen_11 : decode cX2_readWhen 11 = .ok (.aload_n 1, 1) := by decide +kernel
theorem dX2_readWhen_12 : decode cX2_readWhen 12 = .ok (.bipush 17, 2) := by decide +kernel
theorem dX2_readWhen_14 : decode cX2_readWhen 14 = .ok (.invokestatic 119, 3) := by decide +kernel
theorem dX2_readWhen_17 : decode cX2_readWhen 17 = .ok (.putfield 39, 3) := by decide +kernel
theorem dX2_readWhen_20 : decode cX2_readWhen 20 = .ok (.aload_n 0, 1) := by decide +kernel
theorem dX2_readWhen_21 : decode cX2_readWhen 21 = .ok (.aload_n 1, 1) := by decide +kernel
theorem dX2_readWhen_22 : decode cX2_readWhen 22 = .ok (.bipush 18, 2) := by decide +kernel
theorem dX2_readWhen_24 : decode cX2_readWhen 24 = .ok (.invokestatic 119, 3) := by decide +kernel
theorem dX2_readWhen_27 : decode cX2_readWhen 27 = .ok (.putfield 42, 3) := by decide +kernel
theorem dX2_readWhen_30 : decode cX2_readWhen 30 = .ok (.return_, 1) := by decide +kernel
theorem fcX2_119 : q_LS RX2 119 yX2_takeBehind cX2_takeBehind 2 (some .int) 2 := ⟨q_tb 734 (by decide +kernel) rfl, q_tb 735 (by decide +kernel) rfl, q_tb 4 (by decide +kernel) rfl, q_tb 736 (by decide +kernel) rfl, ⟨by decide +kernel, by decide +kernel, by decide +kernel⟩⟩
def fX2_readWhen (r0 : Nat) (r1 : Nat) (X : Mm) : Option (Unit × Mm) :=
bd (fX2_takeBehind r1 (16 : Int32) X) fun w1 X4_2 =>
if mT X4_2 r0 = 2 then
nm (sI X4_2 r0 13 w1) fun X7_3 =>
bd (fX2_takeBehind r1 (17 : Int32) X7_3) fun w5 X14_6 =>
if mT X14_6 r0 = 2 then
nm (sI X14_6 r0 14 w5) fun X17_7 =>
bd (fX2_takeBehind r1 (18 : Int32) X17_7) fun w9 X24_10 =>
if mT X24_10 r0 = 2 then
nm (sI X24_10 r0 15 w9) fun X27_11 =>
some ((), X27_11)
else none
else none
else none
theorem sX2_readWhen (r0 : Nat) (r1 : Nat) : q_Ct yX2_readWhen cX2_readWhen 2 none 3 63 0 0 q_eV (fun P => [.ref (P + r0), .ref (P + r1)]) (fX2_readWhen r0 r1) := by
  refine q_meth (by decide +kernel) (fun P => Nat.le_of_ble_eq_true rfl) (fun E X C hn => ?_)
  show Sm E (q_fin E q_eV X 0 0) 0 0 0 [(0, .ref (q_P E + r0)), (1, .ref (q_P E + r1))] [] X _
  unfold fX2_readWhen
  refine q_aload_n C 0 dX2_readWhen_0 rfl rfl ?_
  refine q_aload_n C 1 dX2_readWhen_1 rfl rfl ?_
  refine q_bipush C (16 : Int32) dX2_readWhen_2 rfl ?_
  refine q_cSI (As := (fun P => [.ref (P + r1), .int (16 : Int32)])) C [.ref (q_P E + r0)] (sX2_takeBehind r1 (16 : Int32)) fcX2_119 rfl (fun _ => rfl) ⟨Nat.le_of_ble_eq_true rfl, Nat.le_of_ble_eq_true rfl⟩ ⟨Nat.le_of_ble_eq_true rfl, Nat.le_of_ble_eq_true rfl⟩ (Nat.le_of_ble_eq_true rfl) dX2_readWhen_4 (fun w1 X4_2 => ?_)
  refine q_chk (fun h4 => ?_)
  refine p_putI C fpX2_36 rfl dX2_readWhen_7 h4 ?_
  refine q_nmX (fun X7_3 => ?_)
  refine q_aload_n C 0 dX2_readWhen_10 rfl rfl ?_
  refine q_aload_n C 1 dX2_readWhen_11 rfl rfl ?_
  refine q_bipush C (17 : Int32) dX2_readWhen_12 rfl ?_
  refine q_cSI (As := (fun P => [.ref (P + r1), .int (17 : Int32)])) C [.ref (q_P E + r0)] (sX2_takeBehind r1 (17 : Int32)) fcX2_119 rfl (fun _ => rfl) ⟨Nat.le_of_ble_eq_true rfl, Nat.le_of_ble_eq_true rfl⟩ ⟨Nat.le_of_ble_eq_true rfl, Nat.le_of_ble_eq_true rfl⟩ (Nat.le_of_ble_eq_true rfl) dX2_readWhen_14 (fun w5 X14_6 => ?_)
  refine q_chk (fun h8 => ?_)
  refine p_putI C fpX2_39 rfl dX2_readWhen_17 h8 ?_
  refine q_nmX (fun X17_7 => ?_)
  refine q_aload_n C 0 dX2_readWhen_20 rfl rfl ?_
  refine q_aload_n C 1 dX2_readWhen_21 rfl rfl ?_
  refine q_bipush C (18 : Int32) dX2_readWhen_22 rfl ?_
  refine q_cSI (As := (fun P => [.ref (P + r1), .int (18 : Int32)])) C [.ref (q_P E + r0)] (sX2_takeBehind r1 (18 : Int32)) fcX2_119 rfl (fun _ => rfl) ⟨Nat.le_of_ble_eq_true rfl, Nat.le_of_ble_eq_true rfl⟩ ⟨Nat.le_of_ble_eq_true rfl, Nat.le_of_ble_eq_true rfl⟩ (Nat.le_of_ble_eq_true rfl) dX2_readWhen_24 (fun w9 X24_10 => ?_)
  refine q_chk (fun h12 => ?_)
  refine p_putI C fpX2_42 rfl dX2_readWhen_27 h12 ?_
  refine q_nmX (fun X27_11 => ?_)
  exact q_vret C dX2_readWhen_30
/-! RecordClaims$Deed.readMoney(LRecordClaims$Tape;LRecordClaims$Book;)V -/
abbrev cX2_readMoney : ByteArray := prog_4_method_8_code
def yX2_readMoney : MethodName := ⟨RX2, "readMoney", "(LRecordClaims$Tape;LRecordClaims$Book;)V"⟩
theorem dX2_readMoney_0 : decode cX2_readMoney 0 = .ok (.aload_n 0, 1) := by decide +kernel
theorem dX2_readMoney_1 : decode cX2_readMoney 1 = .ok (.iconst 0, 1) := by decide +kernel
theorem dX2_readMoney_2 : decode cX2_readMoney 2 = .ok (.aload_n 2, 1) := by decide +kernel
theorem dX2_readMoney_3 : decode cX2_readMoney 3 = .ok (.aload_n 1, 1) := by decide +kernel
theorem dX2_readMoney_4 : decode cX2_readMoney 4 = .ok (.invokevirtual 100, 3) := by decide +kernel
theorem dX2_readMoney_7 : decode cX2_readMoney 7 = .ok (.invokevirtual 74, 3) := by decide +kernel
theorem dX2_readMoney_10 : decode cX2_readMoney 10 = .ok (.aload_n 0, 1) := by decide +kernel
theorem dX2_readMoney_11 : decode cX2_readMoney 11 = .ok (.aload_n 1, 1) := by decide +kernel
theorem dX2_readMoney_12 : decode cX2_readMoney 12 = .ok (.invokevirtual 78, 3) := by decide +kernel
theorem dX2_readMoney_15 : decode cX2_readMoney 15 = .ok (.putfield 27, 3) := by decide +kernel
theorem dX2_readMoney_18 : decode cX2_readMoney 18 = .ok (.aload_n 0, 1) := by decide +kernel
theorem dX2_readMoney_19 : decode cX2_readMoney 19 = .ok (.aload_n 1, 1) := by decide +kernel
theorem dX2_readMoney_20 : decode cX2_readMoney 20 = .ok (.invokevirtual 112, 3) := by decide +kernel
theorem dX2_readMoney_23 : decode cX2_readMoney 23 = .ok (.return_, 1) := by decide +kernel
theorem fcX2_112 : q_LV RX2 112 yX2_readWhen cX2_readWhen 2 none 1 2 := ⟨q_tb 730 (by decide +kernel) rfl, q_tb 732 (by decide +kernel) rfl, q_tbs (q := (yX2_readWhen, 20)) 12 (by decide +kernel) rfl, q_tb 4 (by decide +kernel) rfl, q_tb 733 (by decide +kernel) rfl, ⟨by decide +kernel, by decide +kernel, by decide +kernel⟩, TX2, 20, rfl⟩
def fX2_readMoney (n : Nat) (r0 : Nat) (r1 : Nat) (r2 : Nat) (X : Mm) : Option (Unit × Mm) :=
if mT X r2 = 0 then
bd (fX0_takePaper n r2 r1 X) fun w1 X4_2 =>
if mT X4_2 r0 = 2 then
bd (fX2_begin r0 (0 : Int32) w1 X4_2) fun _ X7_5 =>
if mT X7_5 r1 = 9 then
bd (fX9_takeNumber r1 X7_5) fun w7 X12_8 =>
if mT X12_8 r0 = 2 then
nm (sI X12_8 r0 10 w7) fun X15_10 =>
if mT X15_10 r0 = 2 then
bd (fX2_readWhen r0 r1 X15_10) fun _ X20_13 =>
some ((), X20_13)
else none
else none
else none
else none
else none
theorem sX2_readMoney (n : Nat) (r0 : Nat) (r1 : Nat) (r2 : Nat) : q_Ct yX2_readMoney cX2_readMoney 3 none 4 84 0 0 q_eV (fun P => [.ref (P + r0), .ref (P + r1), .ref (P + r2)]) (fX2_readMoney n r0 r1 r2) := by
  refine q_meth (by decide +kernel) (fun P => Nat.le_of_ble_eq_true rfl) (fun E X C hn => ?_)
  show Sm E (q_fin E q_eV X 0 0) 0 0 0 [(0, .ref (q_P E + r0)), (1, .ref (q_P E + r1)), (2, .ref (q_P E + r2))] [] X _
  unfold fX2_readMoney
  refine q_aload_n C 0 dX2_readMoney_0 rfl rfl ?_
  refine q_iconst C (0 : Int32) dX2_readMoney_1 rfl ?_
  refine q_aload_n C 2 dX2_readMoney_2 rfl rfl ?_
  refine q_aload_n C 1 dX2_readMoney_3 rfl rfl ?_
  refine q_chk (fun h3 => ?_)
  refine q_cVI (As := (fun P => [.ref (P + r1)])) C [.int (0 : Int32), .ref (q_P E + r0)] (sX0_takePaper n r2 r1) fcX2_100 rfl (fun _ => rfl) ⟨Nat.le_of_ble_eq_true rfl, Nat.le_of_ble_eq_true rfl⟩ ⟨Nat.le_of_ble_eq_true rfl, Nat.le_of_ble_eq_true rfl⟩ (Nat.le_of_ble_eq_true rfl) dX2_readMoney_4 h3 (fun w1 X4_2 => ?_)
  refine q_chk (fun h6 => ?_)
  refine q_cVV (As := (fun P => [.int (0 : Int32), .int w1])) C [] (sX2_begin r0 (0 : Int32) w1) fcX2_74 rfl (fun _ => rfl) ⟨Nat.le_of_ble_eq_true rfl, Nat.le_of_ble_eq_true rfl⟩ ⟨Nat.le_of_ble_eq_true rfl, Nat.le_of_ble_eq_true rfl⟩ (Nat.le_of_ble_eq_true rfl) dX2_readMoney_7 h6 (fun _ X7_5 => ?_)
  refine q_aload_n C 0 dX2_readMoney_10 rfl rfl ?_
  refine q_aload_n C 1 dX2_readMoney_11 rfl rfl ?_
  refine q_chk (fun h9 => ?_)
  refine q_cVI (As := (fun P => [])) C [.ref (q_P E + r0)] (sX9_takeNumber r1) fcX2_78 rfl (fun _ => rfl) ⟨Nat.le_of_ble_eq_true rfl, Nat.le_of_ble_eq_true rfl⟩ ⟨Nat.le_of_ble_eq_true rfl, Nat.le_of_ble_eq_true rfl⟩ (Nat.le_of_ble_eq_true rfl) dX2_readMoney_12 h9 (fun w7 X12_8 => ?_)
  refine q_chk (fun h11 => ?_)
  refine p_putI C fpX2_27 rfl dX2_readMoney_15 h11 ?_
  refine q_nmX (fun X15_10 => ?_)
  refine q_aload_n C 0 dX2_readMoney_18 rfl rfl ?_
  refine q_aload_n C 1 dX2_readMoney_19 rfl rfl ?_
  refine q_chk (fun h14 => ?_)
  refine q_cVV (As := (fun P => [.ref (P + r1)])) C [] (sX2_readWhen r0 r1) fcX2_112 rfl (fun _ => rfl) ⟨Nat.le_of_ble_eq_true rfl, Nat.le_of_ble_eq_true rfl⟩ ⟨Nat.le_of_ble_eq_true rfl, Nat.le_of_ble_eq_true rfl⟩ (Nat.le_of_ble_eq_true rfl) dX2_readMoney_20 h14 (fun _ X20_13 => ?_)
  exact q_vret C dX2_readMoney_23
/-! RecordClaims$Deed.readRatio(LRecordClaims$Tape;)V -/
abbrev cX2_readRatio : ByteArray := prog_4_method_13_code
def yX2_readRatio : MethodName := ⟨RX2, "readRatio", "(LRecordClaims$Tape;)V"⟩
theorem dX2_readRatio_0 : decode cX2_readRatio 0 = .ok (.aload_n 0, 1) := by decide +kernel
theorem dX2_readRatio_1 : decode cX2_readRatio 1 = .ok (.aload_n 1, 1) := by decide +kernel
theorem dX2_readRatio_2 : decode cX2_readRatio 2 = .ok (.invokevirtual 78, 3) := by decide +kernel
theorem dX2_readRatio_5 : decode cX2_readRatio 5 = .ok (.putfield 21, 3) := by decide +kernel
theorem dX2_readRatio_8 : decode cX2_readRatio 8 = .ok (.aload_n 0, 1) := by decide +kernel
theorem dX2_readRatio_9 : decode cX2_readRatio 9 = .ok (.aload_n 1, 1) := by decide +kernel
theorem dX2_readRatio_10 : decode cX2_readRatio 10 = .ok (.bipush 10, 2) := by decide +kernel
theorem dX2_readRatio_12 : decode cX2_readRatio 12 = .ok (.invokestatic 119, 3) := by decide +kernel
theorem dX2_readRatio_15 : decode cX2_readRatio 15 = .ok (.putfield 24, 3) := by decide +kernel
theorem dX2_readRatio_18 : decode cX2_readRatio 18 = .ok (.return_, 1) := by decide +kernel
def fX2_readRatio (r0 : Nat) (r1 : Nat) (X : Mm) : Option (Unit × Mm) :=
if mT X r1 = 9 then
bd (fX9_takeNumber r1 X) fun w1 X2_2 =>
if mT X2_2 r0 = 2 then
nm (sI X2_2 r0 8 w1) fun X5_4 =>
bd (fX2_takeBehind r1 (10 : Int32) X5_4) fun w6 X12_7 =>
if mT X12_7 r0 = 2 then
nm (sI X12_7 r0 9 w6) fun X15_8 =>
some ((), X15_8)
else none
else none
else none
theorem sX2_readRatio (r0 : Nat) (r1 : Nat) : q_Ct yX2_readRatio cX2_readRatio 2 none 3 63 0 0 q_eV (fun P => [.ref (P + r0), .ref (P + r1)]) (fX2_readRatio r0 r1) := by
  refine q_meth (by decide +kernel) (fun P => Nat.le_of_ble_eq_true rfl) (fun E X C hn => ?_)
  show Sm E (q_fin E q_eV X 0 0) 0 0 0 [(0, .ref (q_P E + r0)), (1, .ref (q_P E + r1))] [] X _
  unfold fX2_readRatio
  refine q_aload_n C 0 dX2_readRatio_0 rfl rfl ?_
  refine q_aload_n C 1 dX2_readRatio_1 rfl rfl ?_
  refine q_chk (fun h3 => ?_)
  refine q_cVI (As := (fun P => [])) C [.ref (q_P E + r0)] (sX9_takeNumber r1) fcX2_78 rfl (fun _ => rfl) ⟨Nat.le_of_ble_eq_true rfl, Nat.le_of_ble_eq_true rfl⟩ ⟨Nat.le_of_ble_eq_true rfl, Nat.le_of_ble_eq_true rfl⟩ (Nat.le_of_ble_eq_true rfl) dX2_readRatio_2 h3 (fun w1 X2_2 => ?_)
  refine q_chk (fun h5 => ?_)
  refine p_putI C fpX2_21 rfl dX2_readRatio_5 h5 ?_
  refine q_nmX (fun X5_4 => ?_)
  refine q_aload_n C 0 dX2_readRatio_8 rfl rfl ?_
  refine q_aload_n C 1 dX2_readRatio_9 rfl rfl ?_
  refine q_bipush C (10 : Int32) dX2_readRatio_10 rfl ?_
  refine q_cSI (As := (fun P => [.ref (P + r1), .int (10 : Int32)])) C [.ref (q_P E + r0)] (sX2_takeBehind r1 (10 : Int32)) fcX2_119 rfl (fun _ => rfl) ⟨Nat.le_of_ble_eq_true rfl, Nat.le_of_ble_eq_true rfl⟩ ⟨Nat.le_of_ble_eq_true rfl, Nat.le_of_ble_eq_true rfl⟩ (Nat.le_of_ble_eq_true rfl) dX2_readRatio_12 (fun w6 X12_7 => ?_)
  refine q_chk (fun h9 => ?_)
  refine p_putI C fpX2_24 rfl dX2_readRatio_15 h9 ?_
  refine q_nmX (fun X15_8 => ?_)
  exact q_vret C dX2_readRatio_18
/-! RecordClaims$Deed.readGift(LRecordClaims$Tape;LRecordClaims$Book;)V -/
abbrev cX2_readGift : ByteArray := prog_4_method_9_code
def yX2_readGift : MethodName := ⟨RX2, "readGift", "(LRecordClaims$Tape;LRecordClaims$Book;)V"⟩
theorem dX2_readGift_0 : decode cX2_readGift 0 = .ok (.aload_n 0, 1) := by decide +kernel
theorem dX2_readGift_1 : decode cX2_readGift 1 = .ok (.iconst 1, 1) := by decide +kernel
theorem dX2_readGift_2 : decode cX2_readGift 2 = .ok (.aload_n 2, 1) := by decide +kernel
theorem dX2_readGift_3 : decode cX2_readGift 3 = .ok (.aload_n 1, 1) := by decide +kernel
theorem dX2_readGift_4 : decode cX2_readGift 4 = .ok (.invokevirtual 100, 3) := by decide +kernel
theorem dX2_readGift_7 : decode cX2_readGift 7 = .ok (.invokevirtual 74, 3) := by decide +kernel
theorem dX2_readGift_10 : decode cX2_readGift 10 = .ok (.aload_n 0, 1) := by decide +kernel
theorem dX2_readGift_11 : decode cX2_readGift 11 = .ok (.aload_n 1, 1) := by decide +kernel
theorem dX2_readGift_12 : decode cX2_readGift 12 = .ok (.invokevirtual 116, 3) := by decide +kernel
theorem dX2_readGift_15 : decode cX2_readGift 15 = .ok (.aload_n 0, 1) := by decide +kernel
theorem dX2_readGift_16 : decode cX2_readGift 16 = .ok (.aload_n 1, 1) := by decide +kernel
theorem dX2_readGift_17 : decode cX2_readGift 17 = .ok (.bipush 15, 2) := by decide +kernel
theorem dX2_readGift_19 : decode cX2_readGift 19 = .ok (.invokestatic 119, 3) := by decide +kernel
theorem dX2_readGift_22 : decode cX2_readGift 22 = .ok (.putfield 30, 3) := by decide +kernel
theorem dX2_readGift_25 : decode cX2_readGift 25 = .ok (.aload_n 0, 1) := by decide +kernel
theorem dX2_readGift_26 : decode cX2_readGift 26 = .ok (.aload_n 1, 1) := by decide +kernel
theorem dX2_readGift_27 : decode cX2_readGift 27 = .ok (.invokevirtual 112, 3) := by decide +kernel
theorem dX2_readGift_30 : decode cX2_readGift 30 = .ok (.return_, 1) := by decide +kernel
theorem fcX2_116 : q_LV RX2 116 yX2_readRatio cX2_readRatio 2 none 1 2 := ⟨q_tb 742 (by decide +kernel) rfl, q_tb 744 (by decide +kernel) rfl, q_tbs (q := (yX2_readRatio, 20)) 14 (by decide +kernel) rfl, q_tb 4 (by decide +kernel) rfl, q_tb 745 (by decide +kernel) rfl, ⟨by decide +kernel, by decide +kernel, by decide +kernel⟩, TX2, 20, rfl⟩
def fX2_readGift (n : Nat) (r0 : Nat) (r1 : Nat) (r2 : Nat) (X : Mm) : Option (Unit × Mm) :=
if mT X r2 = 0 then
bd (fX0_takePaper n r2 r1 X) fun w1 X4_2 =>
if mT X4_2 r0 = 2 then
bd (fX2_begin r0 (1 : Int32) w1 X4_2) fun _ X7_5 =>
if mT X7_5 r0 = 2 then
bd (fX2_readRatio r0 r1 X7_5) fun _ X12_8 =>
bd (fX2_takeBehind r1 (15 : Int32) X12_8) fun w10 X19_11 =>
if mT X19_11 r0 = 2 then
nm (sI X19_11 r0 11 w10) fun X22_12 =>
if mT X22_12 r0 = 2 then
bd (fX2_readWhen r0 r1 X22_12) fun _ X27_15 =>
some ((), X27_15)
else none
else none
else none
else none
else none
theorem sX2_readGift (n : Nat) (r0 : Nat) (r1 : Nat) (r2 : Nat) : q_Ct yX2_readGift cX2_readGift 3 none 4 84 0 0 q_eV (fun P => [.ref (P + r0), .ref (P + r1), .ref (P + r2)]) (fX2_readGift n r0 r1 r2) := by
  refine q_meth (by decide +kernel) (fun P => Nat.le_of_ble_eq_true rfl) (fun E X C hn => ?_)
  show Sm E (q_fin E q_eV X 0 0) 0 0 0 [(0, .ref (q_P E + r0)), (1, .ref (q_P E + r1)), (2, .ref (q_P E + r2))] [] X _
  unfold fX2_readGift
  refine q_aload_n C 0 dX2_readGift_0 rfl rfl ?_
  refine q_iconst C (1 : Int32) dX2_readGift_1 rfl ?_
  refine q_aload_n C 2 dX2_readGift_2 rfl rfl ?_
  refine q_aload_n C 1 dX2_readGift_3 rfl rfl ?_
  refine q_chk (fun h3 => ?_)
  refine q_cVI (As := (fun P => [.ref (P + r1)])) C [.int (1 : Int32), .ref (q_P E + r0)] (sX0_takePaper n r2 r1) fcX2_100 rfl (fun _ => rfl) ⟨Nat.le_of_ble_eq_true rfl, Nat.le_of_ble_eq_true rfl⟩ ⟨Nat.le_of_ble_eq_true rfl, Nat.le_of_ble_eq_true rfl⟩ (Nat.le_of_ble_eq_true rfl) dX2_readGift_4 h3 (fun w1 X4_2 => ?_)
  refine q_chk (fun h6 => ?_)
  refine q_cVV (As := (fun P => [.int (1 : Int32), .int w1])) C [] (sX2_begin r0 (1 : Int32) w1) fcX2_74 rfl (fun _ => rfl) ⟨Nat.le_of_ble_eq_true rfl, Nat.le_of_ble_eq_true rfl⟩ ⟨Nat.le_of_ble_eq_true rfl, Nat.le_of_ble_eq_true rfl⟩ (Nat.le_of_ble_eq_true rfl) dX2_readGift_7 h6 (fun _ X7_5 => ?_)
  refine q_aload_n C 0 dX2_readGift_10 rfl rfl ?_
  refine q_aload_n C 1 dX2_readGift_11 rfl rfl ?_
  refine q_chk (fun h9 => ?_)
  refine q_cVV (As := (fun P => [.ref (P + r1)])) C [] (sX2_readRatio r0 r1) fcX2_116 rfl (fun _ => rfl) ⟨Nat.le_of_ble_eq_true rfl, Nat.le_of_ble_eq_true rfl⟩ ⟨Nat.le_of_ble_eq_true rfl, Nat.le_of_ble_eq_true rfl⟩ (Nat.le_of_ble_eq_true rfl) dX2_readGift_12 h9 (fun _ X12_8 => ?_)
  refine q_aload_n C 0 dX2_readGift_15 rfl rfl ?_
  refine q_aload_n C 1 dX2_readGift_16 rfl rfl ?_
  refine q_bipush C (15 : Int32) dX2_readGift_17 rfl ?_
  refine q_cSI (As := (fun P => [.ref (P + r1), .int (15 : Int32)])) C [.ref (q_P E + r0)] (sX2_takeBehind r1 (15 : Int32)) fcX2_119 rfl (fun _ => rfl) ⟨Nat.le_of_ble_eq_true rfl, Nat.le_of_ble_eq_true rfl⟩ ⟨Nat.le_of_ble_eq_true rfl, Nat.le_of_ble_eq_true rfl⟩ (Nat.le_of_ble_eq_true rfl) dX2_readGift_19 (fun w10 X19_11 => ?_)
  refine q_chk (fun h13 => ?_)
  refine p_putI C fpX2_30 rfl dX2_readGift_22 h13 ?_
  refine q_nmX (fun X22_12 => ?_)
  refine q_aload_n C 0 dX2_readGift_25 rfl rfl ?_
  refine q_aload_n C 1 dX2_readGift_26 rfl rfl ?_
  refine q_chk (fun h16 => ?_)
  refine q_cVV (As := (fun P => [.ref (P + r1)])) C [] (sX2_readWhen r0 r1) fcX2_112 rfl (fun _ => rfl) ⟨Nat.le_of_ble_eq_true rfl, Nat.le_of_ble_eq_true rfl⟩ ⟨Nat.le_of_ble_eq_true rfl, Nat.le_of_ble_eq_true rfl⟩ (Nat.le_of_ble_eq_true rfl) dX2_readGift_27 h16 (fun _ X27_15 => ?_)
  exact q_vret C dX2_readGift_30
/-! RecordClaims$Deed.readRights(LRecordClaims$Tape;LRecordClaims$Book;)V -/
abbrev cX2_readRights : ByteArray := prog_4_method_10_code
def yX2_readRights : MethodName := ⟨RX2, "readRights", "(LRecordClaims$Tape;LRecordClaims$Book;)V"⟩
theorem dX2_readRights_0 : decode cX2_readRights 0 = .ok (.aload_n 0, 1) := by decide +kernel
theorem dX2_readRights_1 : decode cX2_readRights 1 = .ok (.iconst 2, 1) := by decide +kernel
theorem dX2_readRights_2 : decode cX2_readRights 2 = .ok (.aload_n 2, 1) := by decide +kernel
theorem dX2_readRights_3 : decode cX2_readRights 3 = .ok (.aload_n 1, 1) := by decide +kernel
theorem dX2_readRights_4 : decode cX2_readRights 4 = .ok (.invokevirtual 100, 3) := by decide +kernel
theorem dX2_readRights_7 : decode cX2_readRights 7 = .ok (.invokevirtual 74, 3) := by decide +kernel
theorem dX2_readRights_10 : decode cX2_readRights 10 = .ok (.aload_n 0, 1) := by decide +kernel
theorem dX2_readRights_11 : decode cX2_readRights 11 = .ok (.aload_n 1, 1) := by decide +kernel
theorem dX2_readRights_12 : decode cX2_readRights 12 = .ok (.invokevirtual 116, 3) := by decide +kernel
theorem dX2_readRights_15 : decode cX2_readRights 15 = .ok (.aload_n 0, 1) := by decide +kernel
theorem dX2_readRights_16 : decode cX2_readRights 16 = .ok (.aload_n 1, 1) := by decide +kernel
theorem dX2_readRights_17 : decode cX2_readRights 17 = .ok (.bipush 11, 2) := by decide +kernel
theorem dX2_readRights_19 : decode cX2_readRights 19 = .ok (.invokestatic 119, 3) := by decide +kernel
theorem dX2_readRights_22 : decode cX2_readRights 22 = .ok (.putfield 27, 3) := by decide +kernel
theorem dX2_readRights_25 : decode cX2_readRights 25 = .ok (.aload_n 0, 1) := by decide +kernel
theorem dX2_readRights_26 : decode cX2_readRights 26 = .ok (.aload_n 1, 1) := by decide +kernel
theorem dX2_readRights_27 : decode cX2_readRights 27 = .ok (.bipush 12, 2) := by decide +kernel
theorem dX2_readRights_29 : decode cX2_readRights 29 = .ok (.invokestatic 119, 3) := by decide +kernel
theorem dX2_readRights_32 : decode cX2_readRights 32 = .ok (.putfield 30, 3) := by decide +kernel
theorem dX2_readRights_35 : decode cX2_readRights 35 = .ok (.aload_n 0, 1) := by decide +kernel
theorem dX2_readRights_36 : decode cX2_readRights 36 = .ok (.aload_n 1, 1) := by decide +kernel
theorem dX2_readRights_37 : decode cX2_readRights 37 = .ok (.bipush 13, 2) := by decide +kernel
theorem dX2_readRights_39 : decode cX2_readRights 39 = .ok (.invokestatic 119, 3) := by decide +kernel
theorem dX2_readRights_42 : decode cX2_readRights 42 = .ok (.putfield 33, 3) := by decide +kernel
theorem dX2_readRights_45 : decode cX2_readRights 45 = .ok (.aload_n 0, 1) := by decide +kernel
theorem dX2_readRights_46 : decode cX2_readRights 46 = .ok (.aload_n 1, 1) := by decide +kernel
theorem dX2_readRights_47 : decode cX2_readRights 47 = .ok (.invokevirtual 112, 3) := by decide +kernel
theorem dX2_readRights_50 : decode cX2_readRights 50 = .ok (.return_, 1) := by decide +kernel
def fX2_readRights (n : Nat) (r0 : Nat) (r1 : Nat) (r2 : Nat) (X : Mm) : Option (Unit × Mm) :=
if mT X r2 = 0 then
bd (fX0_takePaper n r2 r1 X) fun w1 X4_2 =>
if mT X4_2 r0 = 2 then
bd (fX2_begin r0 (2 : Int32) w1 X4_2) fun _ X7_5 =>
if mT X7_5 r0 = 2 then
bd (fX2_readRatio r0 r1 X7_5) fun _ X12_8 =>
bd (fX2_takeBehind r1 (11 : Int32) X12_8) fun w10 X19_11 =>
if mT X19_11 r0 = 2 then
nm (sI X19_11 r0 10 w10) fun X22_12 =>
bd (fX2_takeBehind r1 (12 : Int32) X22_12) fun w14 X29_15 =>
if mT X29_15 r0 = 2 then
nm (sI X29_15 r0 11 w14) fun X32_16 =>
bd (fX2_takeBehind r1 (13 : Int32) X32_16) fun w18 X39_19 =>
if mT X39_19 r0 = 2 then
nm (sI X39_19 r0 12 w18) fun X42_20 =>
if mT X42_20 r0 = 2 then
bd (fX2_readWhen r0 r1 X42_20) fun _ X47_23 =>
some ((), X47_23)
else none
else none
else none
else none
else none
else none
else none
theorem sX2_readRights (n : Nat) (r0 : Nat) (r1 : Nat) (r2 : Nat) : q_Ct yX2_readRights cX2_readRights 3 none 4 84 0 0 q_eV (fun P => [.ref (P + r0), .ref (P + r1), .ref (P + r2)]) (fX2_readRights n r0 r1 r2) := by
  refine q_meth (by decide +kernel) (fun P => Nat.le_of_ble_eq_true rfl) (fun E X C hn => ?_)
  show Sm E (q_fin E q_eV X 0 0) 0 0 0 [(0, .ref (q_P E + r0)), (1, .ref (q_P E + r1)), (2, .ref (q_P E + r2))] [] X _
  unfold fX2_readRights
  refine q_aload_n C 0 dX2_readRights_0 rfl rfl ?_
  refine q_iconst C (2 : Int32) dX2_readRights_1 rfl ?_
  refine q_aload_n C 2 dX2_readRights_2 rfl rfl ?_
  refine q_aload_n C 1 dX2_readRights_3 rfl rfl ?_
  refine q_chk (fun h3 => ?_)
  refine q_cVI (As := (fun P => [.ref (P + r1)])) C [.int (2 : Int32), .ref (q_P E + r0)] (sX0_takePaper n r2 r1) fcX2_100 rfl (fun _ => rfl) ⟨Nat.le_of_ble_eq_true rfl, Nat.le_of_ble_eq_true rfl⟩ ⟨Nat.le_of_ble_eq_true rfl, Nat.le_of_ble_eq_true rfl⟩ (Nat.le_of_ble_eq_true rfl) dX2_readRights_4 h3 (fun w1 X4_2 => ?_)
  refine q_chk (fun h6 => ?_)
  refine q_cVV (As := (fun P => [.int (2 : Int32), .int w1])) C [] (sX2_begin r0 (2 : Int32) w1) fcX2_74 rfl (fun _ => rfl) ⟨Nat.le_of_ble_eq_true rfl, Nat.le_of_ble_eq_true rfl⟩ ⟨Nat.le_of_ble_eq_true rfl, Nat.le_of_ble_eq_true rfl⟩ (Nat.le_of_ble_eq_true rfl) dX2_readRights_7 h6 (fun _ X7_5 => ?_)
  refine q_aload_n C 0 dX2_readRights_10 rfl rfl ?_
  refine q_aload_n C 1 dX2_readRights_11 rfl rfl ?_
  refine q_chk (fun h9 => ?_)
  refine q_cVV (As := (fun P => [.ref (P + r1)])) C [] (sX2_readRatio r0 r1) fcX2_116 rfl (fun _ => rfl) ⟨Nat.le_of_ble_eq_true rfl, Nat.le_of_ble_eq_true rfl⟩ ⟨Nat.le_of_ble_eq_true rfl, Nat.le_of_ble_eq_true rfl⟩ (Nat.le_of_ble_eq_true rfl) dX2_readRights_12 h9 (fun _ X12_8 => ?_)
  refine q_aload_n C 0 dX2_readRights_15 rfl rfl ?_
  refine q_aload_n C 1 dX2_readRights_16 rfl rfl ?_
  refine q_bipush C (11 : Int32) dX2_readRights_17 rfl ?_
  refine q_cSI (As := (fun P => [.ref (P + r1), .int (11 : Int32)])) C [.ref (q_P E + r0)] (sX2_takeBehind r1 (11 : Int32)) fcX2_119 rfl (fun _ => rfl) ⟨Nat.le_of_ble_eq_true rfl, Nat.le_of_ble_eq_true rfl⟩ ⟨Nat.le_of_ble_eq_true rfl, Nat.le_of_ble_eq_true rfl⟩ (Nat.le_of_ble_eq_true rfl) dX2_readRights_19 (fun w10 X19_11 => ?_)
  refine q_chk (fun h13 => ?_)
  refine p_putI C fpX2_27 rfl dX2_readRights_22 h13 ?_
  refine q_nmX (fun X22_12 => ?_)
  refine q_aload_n C 0 dX2_readRights_25 rfl rfl ?_
  refine q_aload_n C 1 dX2_readRights_26 rfl rfl ?_
  refine q_bipush C (12 : Int32) dX2_readRights_27 rfl ?_
  refine q_cSI (As := (fun P => [.ref (P + r1), .int (12 : Int32)])) C [.ref (q_P E + r0)] (sX2_takeBehind r1 (12 : Int32)) fcX2_119 rfl (fun _ => rfl) ⟨Nat.le_of_ble_eq_true rfl, Nat.le_of_ble_eq_true rfl⟩ ⟨Nat.le_of_ble_eq_true rfl, Nat.le_of_ble_eq_true rfl⟩ (Nat.le_of_ble_eq_true rfl) dX2_readRights_29 (fun w14 X29_15 => ?_)
  refine q_chk (fun h17 => ?_)
  refine p_putI C fpX2_30 rfl dX2_readRights_32 h17 ?_
  refine q_nmX (fun X32_16 => ?_)
  refine q_aload_n C 0 dX2_readRights_35 rfl rfl ?_
  refine q_aload_n C 1 dX2_readRights_36 rfl rfl ?_
  refine q_bipush C (13 : Int32) dX2_readRights_37 rfl ?_
  refine q_cSI (As := (fun P => [.ref (P + r1), .int (13 : Int32)])) C [.ref (q_P E + r0)] (sX2_takeBehind r1 (13 : Int32)) fcX2_119 rfl (fun _ => rfl) ⟨Nat.le_of_ble_eq_true rfl, Nat.le_of_ble_eq_true rfl⟩ ⟨Nat.le_of_ble_eq_true rfl, Nat.le_of_ble_eq_true rfl⟩ (Nat.le_of_ble_eq_true rfl) dX2_readRights_39 (fun w18 X39_19 => ?_)
  refine q_chk (fun h21 => ?_)
  refine p_putI C fpX2_33 rfl dX2_readRights_42 h21 ?_
  refine q_nmX (fun X42_20 => ?_)
  refine q_aload_n C 0 dX2_readRights_45 rfl rfl ?_
  refine q_aload_n C 1 dX2_readRights_46 rfl rfl ?_
  refine q_chk (fun h24 => ?_)
  refine q_cVV (As := (fun P => [.ref (P + r1)])) C [] (sX2_readWhen r0 r1) fcX2_112 rfl (fun _ => rfl) ⟨Nat.le_of_ble_eq_true rfl, Nat.le_of_ble_eq_true rfl⟩ ⟨Nat.le_of_ble_eq_true rfl, Nat.le_of_ble_eq_true rfl⟩ (Nat.le_of_ble_eq_true rfl) dX2_readRights_47 h24 (fun _ X47_23 => ?_)
  exact q_vret C dX2_readRights_50
/-! RecordClaims$Deed.readTurn(LRecordClaims$Tape;LRecordClaims$Book;)V -/
abbrev cX2_readTurn : ByteArray := prog_4_method_11_code
def yX2_readTurn : MethodName := ⟨RX2, "readTurn", "(LRecordClaims$Tape;LRecordClaims$Book;)V"⟩
theorem dX2_readTurn_0 : decode cX2_readTurn 0 = .ok (.aload_n 0, 1) := by decide +kernel
theorem dX2_readTurn_1 : decode cX2_readTurn 1 = .ok (.iconst 3, 1) := by decide +kernel
theorem dX2_readTurn_2 : decode cX2_readTurn 2 = .ok (.aload_n 2, 1) := by decide +kernel
theorem dX2_readTurn_3 : decode cX2_readTurn 3 = .ok (.aload_n 1, 1) := by decide +kernel
theorem dX2_readTurn_4 : decode cX2_readTurn 4 = .ok (.invokevirtual 100, 3) := by decide +kernel
theorem dX2_readTurn_7 : decode cX2_readTurn 7 = .ok (.invokevirtual 74, 3) := by decide +kernel
theorem dX2_readTurn_10 : decode cX2_readTurn 10 = .ok (.aload_n 1, 1) := by decide +kernel
theorem dX2_readTurn_11 : decode cX2_readTurn 11 = .ok (.bipush 9, 2) := by decide +kernel
theorem dX2_readTurn_13 : decode cX2_readTurn 13 = .ok (.invokevirtual 70, 3) := by decide +kernel
theorem dX2_readTurn_16 : decode cX2_readTurn 16 = .ok (.aload_n 0, 1) := by decide +kernel
theorem dX2_readTurn_17 : decode cX2_readTurn 17 = .ok (.aload_n 2, 1) := by decide +kernel
theorem dX2_readTurn_18 : decode cX2_readTurn 18 = .ok (.aload_n 1, 1) := by decide +kernel
theorem dX2_readTurn_19 : decode cX2_readTurn 19 = .ok (.invokevirtual 100, 3) := by decide +kernel
theorem dX2_readTurn_22 : decode cX2_readTurn 22 = .ok (.putfield 18, 3) := by decide +kernel
theorem dX2_readTurn_25 : decode cX2_readTurn 25 = .ok (.aload_n 0, 1) := by decide +kernel
theorem dX2_readTurn_26 : decode cX2_readTurn 26 = .ok (.aload_n 1, 1) := by decide +kernel
theorem dX2_readTurn_27 : decode cX2_readTurn 27 = .ok (.invokevirtual 116, 3) := by decide +kernel
theorem dX2_readTurn_30 : decode cX2_readTurn 30 = .ok (.aload_n 0, 1) := by decide +kernel
theorem dX2_readTurn_31 : decode cX2_readTurn 31 = .ok (.aload_n 1, 1) := by decide +kernel
theorem dX2_readTurn_32 : decode cX2_readTurn 32 = .ok (.bipush 14, 2) := by decide +kernel
theorem dX2_readTurn_34 : decode cX2_readTurn 34 = .ok (.invokestatic 119, 3) := by decide +kernel
theorem dX2_readTurn_37 : decode cX2_readTurn 37 = .ok (.putfield 27, 3) := by decide +kernel
theorem dX2_readTurn_40 : decode cX2_readTurn 40 = .ok (.aload_n 0, 1) := by decide +kernel
theorem dX2_readTurn_41 : decode cX2_readTurn 41 = .ok (.aload_n 1, 1) := by decide +kernel
theorem dX2_readTurn_42 : decode cX2_readTurn 42 = .ok (.bipush 15, 2) := by decide +kernel
theorem dX2_readTurn_44 : decode cX2_readTurn 44 = .ok (.invokestatic 119, 3) := by decide +kernel
theorem dX2_readTurn_47 : decode cX2_readTurn 47 = .ok (.putfield 30, 3) := by decide +kernel
theorem dX2_readTurn_50 : decode cX2_readTurn 50 = .ok (.aload_n 0, 1) := by decide +kernel
theorem dX2_readTurn_51 : decode cX2_readTurn 51 = .ok (.aload_n 1, 1) := by decide +kernel
theorem dX2_readTurn_52 : decode cX2_readTurn 52 = .ok (.bipush 17, 2) := by decide +kernel
theorem dX2_readTurn_54 : decode cX2_readTurn 54 = .ok (.invokestatic 119, 3) := by decide +kernel
theorem dX2_readTurn_57 : decode cX2_readTurn 57 = .ok (.putfield 39, 3) := by decide +kernel
theorem dX2_readTurn_60 : decode cX2_readTurn 60 = .ok (.aload_n 0, 1) := by decide +kernel
theorem dX2_readTurn_61 : decode cX2_readTurn 61 = .ok (.aload_n 0, 1) := by decide +kernel
theorem dX2_readTurn_62 : decode cX2_readTurn 62 = .ok (.getfield 39, 3) := by decide +kernel
theorem dX2_readTurn_65 : decode cX2_readTurn 65 = .ok (.putfield 36, 3) := by decide +kernel
theorem dX2_readTurn_68 : decode cX2_readTurn 68 = .ok (.aload_n 0, 1) := by decide +kernel
theorem dX2_readTurn_69 : decode cX2_readTurn 69 = .ok (.aload_n 0, 1) := by decide +kernel
theorem dX2_readTurn_70 : decode cX2_readTurn 70 = .ok (.getfield 39, 3) := by decide +kernel
theorem dX2_readTurn_73 : decode cX2_readTurn 73 = .ok (.putfield 42, 3) := by decide +kernel
theorem dX2_readTurn_76 : decode cX2_readTurn 76 = .ok (.return_, 1) := by decide +kernel
theorem fgX2_39 : q_Fg RX2 39 2 14 := q_Fg.of (C := RX2) (T := TX2) (N := 20) rfl (by decide) inX2 152 (by decide +kernel) rfl rfl
def fX2_readTurn (n : Nat) (r0 : Nat) (r1 : Nat) (r2 : Nat) (X : Mm) : Option (Unit × Mm) :=
if mT X r2 = 0 then
bd (fX0_takePaper n r2 r1 X) fun w1 X4_2 =>
if mT X4_2 r0 = 2 then
bd (fX2_begin r0 (3 : Int32) w1 X4_2) fun _ X7_5 =>
if mT X7_5 r1 = 9 then
bd (fX9_takeWord r1 (9 : Int32) X7_5) fun _ X13_8 =>
if mT X13_8 r2 = 0 then
bd (fX0_takePaper n r2 r1 X13_8) fun w10 X19_11 =>
if mT X19_11 r0 = 2 then
nm (sI X19_11 r0 7 w10) fun X22_13 =>
if mT X22_13 r0 = 2 then
bd (fX2_readRatio r0 r1 X22_13) fun _ X27_16 =>
bd (fX2_takeBehind r1 (14 : Int32) X27_16) fun w18 X34_19 =>
if mT X34_19 r0 = 2 then
nm (sI X34_19 r0 10 w18) fun X37_20 =>
bd (fX2_takeBehind r1 (15 : Int32) X37_20) fun w22 X44_23 =>
if mT X44_23 r0 = 2 then
nm (sI X44_23 r0 11 w22) fun X47_24 =>
bd (fX2_takeBehind r1 (17 : Int32) X47_24) fun w26 X54_27 =>
if mT X54_27 r0 = 2 then
nm (sI X54_27 r0 14 w26) fun X57_28 =>
if mT X57_28 r0 = 2 then
nm (sI X57_28 r0 13 (mI X57_28 r0 14)) fun X65_31 =>
if mT X65_31 r0 = 2 then
nm (sI X65_31 r0 15 (mI X65_31 r0 14)) fun X73_33 =>
some ((), X73_33)
else none
else none
else none
else none
else none
else none
else none
else none
else none
else none
else none
theorem sX2_readTurn (n : Nat) (r0 : Nat) (r1 : Nat) (r2 : Nat) : q_Ct yX2_readTurn cX2_readTurn 3 none 4 84 0 0 q_eV (fun P => [.ref (P + r0), .ref (P + r1), .ref (P + r2)]) (fX2_readTurn n r0 r1 r2) := by
  refine q_meth (by decide +kernel) (fun P => Nat.le_of_ble_eq_true rfl) (fun E X C hn => ?_)
  show Sm E (q_fin E q_eV X 0 0) 0 0 0 [(0, .ref (q_P E + r0)), (1, .ref (q_P E + r1)), (2, .ref (q_P E + r2))] [] X _
  unfold fX2_readTurn
  refine q_aload_n C 0 dX2_readTurn_0 rfl rfl ?_
  refine q_iconst C (3 : Int32) dX2_readTurn_1 rfl ?_
  refine q_aload_n C 2 dX2_readTurn_2 rfl rfl ?_
  refine q_aload_n C 1 dX2_readTurn_3 rfl rfl ?_
  refine q_chk (fun h3 => ?_)
  refine q_cVI (As := (fun P => [.ref (P + r1)])) C [.int (3 : Int32), .ref (q_P E + r0)] (sX0_takePaper n r2 r1) fcX2_100 rfl (fun _ => rfl) ⟨Nat.le_of_ble_eq_true rfl, Nat.le_of_ble_eq_true rfl⟩ ⟨Nat.le_of_ble_eq_true rfl, Nat.le_of_ble_eq_true rfl⟩ (Nat.le_of_ble_eq_true rfl) dX2_readTurn_4 h3 (fun w1 X4_2 => ?_)
  refine q_chk (fun h6 => ?_)
  refine q_cVV (As := (fun P => [.int (3 : Int32), .int w1])) C [] (sX2_begin r0 (3 : Int32) w1) fcX2_74 rfl (fun _ => rfl) ⟨Nat.le_of_ble_eq_true rfl, Nat.le_of_ble_eq_true rfl⟩ ⟨Nat.le_of_ble_eq_true rfl, Nat.le_of_ble_eq_true rfl⟩ (Nat.le_of_ble_eq_true rfl) dX2_readTurn_7 h6 (fun _ X7_5 => ?_)
  refine q_aload_n C 1 dX2_readTurn_10 rfl rfl ?_
  refine q_bipush C (9 : Int32) dX2_readTurn_11 rfl ?_
  refine q_chk (fun h9 => ?_)
  refine q_cVV (As := (fun P => [.int (9 : Int32)])) C [] (sX9_takeWord r1 (9 : Int32)) fcX2_70 rfl (fun _ => rfl) ⟨Nat.le_of_ble_eq_true rfl, Nat.le_of_ble_eq_true rfl⟩ ⟨Nat.le_of_ble_eq_true rfl, Nat.le_of_ble_eq_true rfl⟩ (Nat.le_of_ble_eq_true rfl) dX2_readTurn_13 h9 (fun _ X13_8 => ?_)
  refine q_aload_n C 0 dX2_readTurn_16 rfl rfl ?_
  refine q_aload_n C 2 dX2_readTurn_17 rfl rfl ?_
  refine q_aload_n C 1 dX2_readTurn_18 rfl rfl ?_
  refine q_chk (fun h12 => ?_)
  refine q_cVI (As := (fun P => [.ref (P + r1)])) C [.ref (q_P E + r0)] (sX0_takePaper n r2 r1) fcX2_100 rfl (fun _ => rfl) ⟨Nat.le_of_ble_eq_true rfl, Nat.le_of_ble_eq_true rfl⟩ ⟨Nat.le_of_ble_eq_true rfl, Nat.le_of_ble_eq_true rfl⟩ (Nat.le_of_ble_eq_true rfl) dX2_readTurn_19 h12 (fun w10 X19_11 => ?_)
  refine q_chk (fun h14 => ?_)
  refine p_putI C fpX2_18 rfl dX2_readTurn_22 h14 ?_
  refine q_nmX (fun X22_13 => ?_)
  refine q_aload_n C 0 dX2_readTurn_25 rfl rfl ?_
  refine q_aload_n C 1 dX2_readTurn_26 rfl rfl ?_
  refine q_chk (fun h17 => ?_)
  refine q_cVV (As := (fun P => [.ref (P + r1)])) C [] (sX2_readRatio r0 r1) fcX2_116 rfl (fun _ => rfl) ⟨Nat.le_of_ble_eq_true rfl, Nat.le_of_ble_eq_true rfl⟩ ⟨Nat.le_of_ble_eq_true rfl, Nat.le_of_ble_eq_true rfl⟩ (Nat.le_of_ble_eq_true rfl) dX2_readTurn_27 h17 (fun _ X27_16 => ?_)
  refine q_aload_n C 0 dX2_readTurn_30 rfl rfl ?_
  refine q_aload_n C 1 dX2_readTurn_31 rfl rfl ?_
  refine q_bipush C (14 : Int32) dX2_readTurn_32 rfl ?_
  refine q_cSI (As := (fun P => [.ref (P + r1), .int (14 : Int32)])) C [.ref (q_P E + r0)] (sX2_takeBehind r1 (14 : Int32)) fcX2_119 rfl (fun _ => rfl) ⟨Nat.le_of_ble_eq_true rfl, Nat.le_of_ble_eq_true rfl⟩ ⟨Nat.le_of_ble_eq_true rfl, Nat.le_of_ble_eq_true rfl⟩ (Nat.le_of_ble_eq_true rfl) dX2_readTurn_34 (fun w18 X34_19 => ?_)
  refine q_chk (fun h21 => ?_)
  refine p_putI C fpX2_27 rfl dX2_readTurn_37 h21 ?_
  refine q_nmX (fun X37_20 => ?_)
  refine q_aload_n C 0 dX2_readTurn_40 rfl rfl ?_
  refine q_aload_n C 1 dX2_readTurn_41 rfl rfl ?_
  refine q_bipush C (15 : Int32) dX2_readTurn_42 rfl ?_
  refine q_cSI (As := (fun P => [.ref (P + r1), .int (15 : Int32)])) C [.ref (q_P E + r0)] (sX2_takeBehind r1 (15 : Int32)) fcX2_119 rfl (fun _ => rfl) ⟨Nat.le_of_ble_eq_true rfl, Nat.le_of_ble_eq_true rfl⟩ ⟨Nat.le_of_ble_eq_true rfl, Nat.le_of_ble_eq_true rfl⟩ (Nat.le_of_ble_eq_true rfl) dX2_readTurn_44 (fun w22 X44_23 => ?_)
  refine q_chk (fun h25 => ?_)
  refine p_putI C fpX2_30 rfl dX2_readTurn_47 h25 ?_
  refine q_nmX (fun X47_24 => ?_)
  refine q_aload_n C 0 dX2_readTurn_50 rfl rfl ?_
  refine q_aload_n C 1 dX2_readTurn_51 rfl rfl ?_
  refine q_bipush C (17 : Int32) dX2_readTurn_52 rfl ?_
  refine q_cSI (As := (fun P => [.ref (P + r1), .int (17 : Int32)])) C [.ref (q_P E + r0)] (sX2_takeBehind r1 (17 : Int32)) fcX2_119 rfl (fun _ => rfl) ⟨Nat.le_of_ble_eq_true rfl, Nat.le_of_ble_eq_true rfl⟩ ⟨Nat.le_of_ble_eq_true rfl, Nat.le_of_ble_eq_true rfl⟩ (Nat.le_of_ble_eq_true rfl) dX2_readTurn_54 (fun w26 X54_27 => ?_)
  refine q_chk (fun h29 => ?_)
  refine p_putI C fpX2_39 rfl dX2_readTurn_57 h29 ?_
  refine q_nmX (fun X57_28 => ?_)
  refine q_aload_n C 0 dX2_readTurn_60 rfl rfl ?_
  refine q_aload_n C 0 dX2_readTurn_61 rfl rfl ?_
  refine q_chk (fun h30 => ?_)
  refine p_getI C fgX2_39 rfl dX2_readTurn_62 h30 ?_
  refine p_putI C fpX2_36 rfl dX2_readTurn_65 h30 ?_
  refine q_nmX (fun X65_31 => ?_)
  refine q_aload_n C 0 dX2_readTurn_68 rfl rfl ?_
  refine q_aload_n C 0 dX2_readTurn_69 rfl rfl ?_
  refine q_chk (fun h32 => ?_)
  refine p_getI C fgX2_39 rfl dX2_readTurn_70 h32 ?_
  refine p_putI C fpX2_42 rfl dX2_readTurn_73 h32 ?_
  refine q_nmX (fun X73_33 => ?_)
  exact q_vret C dX2_readTurn_76
/-! RecordClaims$Deed.readChoice(LRecordClaims$Tape;LRecordClaims$Book;)V -/
abbrev cX2_readChoice : ByteArray := prog_4_method_12_code
def yX2_readChoice : MethodName := ⟨RX2, "readChoice", "(LRecordClaims$Tape;LRecordClaims$Book;)V"⟩
theorem dX2_readChoice_0 : decode cX2_readChoice 0 = .ok (.aload_n 0, 1) := by decide +kernel
theorem dX2_readChoice_1 : decode cX2_readChoice 1 = .ok (.iconst 5, 1) := by decide +kernel
theorem dX2_readChoice_2 : decode cX2_readChoice 2 = .ok (.iconst (-1), 1) := by decide +kernel
theorem dX2_readChoice_3 : decode cX2_readChoice 3 = .ok (.invokevirtual 74, 3) := by decide +kernel
theorem dX2_readChoice_6 : decode cX2_readChoice 6 = .ok (.aload_n 0, 1) := by decide +kernel
theorem dX2_readChoice_7 : decode cX2_readChoice 7 = .ok (.aload_n 1, 1) := by decide +kernel
theorem dX2_readChoice_8 : decode cX2_readChoice 8 = .ok (.invokevirtual 78, 3) := by decide +kernel
theorem dX2_readChoice_11 : decode cX2_readChoice 11 = .ok (.putfield 123, 3) := by decide +kernel
theorem dX2_readChoice_14 : decode cX2_readChoice 14 = .ok (.aload_n 0, 1) := by decide +kernel
theorem dX2_readChoice_15 : decode cX2_readChoice 15 = .ok (.aload_n 2, 1) := by decide +kernel
theorem dX2_readChoice_16 : decode cX2_readChoice 16 = .ok (.aload_n 1, 1) := by decide +kernel
theorem dX2_readChoice_17 : decode cX2_readChoice 17 = .ok (.invokevirtual 88, 3) := by decide +kernel
theorem dX2_readChoice_20 : decode cX2_readChoice 20 = .ok (.putfield 94, 3) := by decide +kernel
theorem dX2_readChoice_23 : decode cX2_readChoice 23 = .ok (.aload_n 0, 1) := by decide +kernel
theorem dX2_readChoice_24 : decode cX2_readChoice 24 = .ok (.aload_n 1, 1) := by decide +kernel
theorem dX2_readChoice_25 : decode cX2_readChoice 25 = .ok (.invokevirtual 78, 3) := by decide +kernel
theorem dX2_readChoice_28 : decode cX2_readChoice 28 = .ok (.putfield 126, 3) := by decide +kernel
theorem dX2_readChoice_31 : decode cX2_readChoice 31 = .ok (.aload_n 0, 1) := by decide +kernel
theorem dX2_readChoice_32 : decode cX2_readChoice 32 = .ok (.aload_n 1, 1) := by decide +kernel
theorem dX2_readChoice_33 : decode cX2_readChoice 33 = .ok (.invokevirtual 78, 3) := by decide +kernel
theorem dX2_readChoice_36 : decode cX2_readChoice 36 = .ok (.putfield 129, 3) := by decide +kernel
theorem dX2_readChoice_39 : decode cX2_readChoice 39 = .ok (.return_, 1) := by decide +kernel
theorem fpX2_123 : q_Fp RX2 123 2 16 .int false := ⟨RX2, TX2, 20, tyX2, rfl, by decide, inX2, q_tb 158 (by decide +kernel) rfl, tyX2_ok, nmX2, rfl, rfl, fun h => by first | rfl | cases h⟩
theorem fpX2_126 : q_Fp RX2 126 2 17 .int false := ⟨RX2, TX2, 20, tyX2, rfl, by decide, inX2, q_tb 161 (by decide +kernel) rfl, tyX2_ok, nmX2, rfl, rfl, fun h => by first | rfl | cases h⟩
theorem fpX2_129 : q_Fp RX2 129 2 18 .int false := ⟨RX2, TX2, 20, tyX2, rfl, by decide, inX2, q_tb 163 (by decide +kernel) rfl, tyX2_ok, nmX2, rfl, rfl, fun h => by first | rfl | cases h⟩
def fX2_readChoice (n : Nat) (r0 : Nat) (r1 : Nat) (r2 : Nat) (X : Mm) : Option (Unit × Mm) :=
if mT X r0 = 2 then
bd (fX2_begin r0 (5 : Int32) (-1 : Int32) X) fun _ X3_2 =>
if mT X3_2 r1 = 9 then
bd (fX9_takeNumber r1 X3_2) fun w4 X8_5 =>
if mT X8_5 r0 = 2 then
nm (sI X8_5 r0 16 w4) fun X11_7 =>
if mT X11_7 r2 = 0 then
bd (fX0_takeHolder n r2 r1 X11_7) fun w9 X17_10 =>
if mT X17_10 r0 = 2 then
nm (sI X17_10 r0 2 w9) fun X20_12 =>
if mT X20_12 r1 = 9 then
bd (fX9_takeNumber r1 X20_12) fun w14 X25_15 =>
if mT X25_15 r0 = 2 then
nm (sI X25_15 r0 17 w14) fun X28_17 =>
if mT X28_17 r1 = 9 then
bd (fX9_takeNumber r1 X28_17) fun w19 X33_20 =>
if mT X33_20 r0 = 2 then
nm (sI X33_20 r0 18 w19) fun X36_22 =>
some ((), X36_22)
else none
else none
else none
else none
else none
else none
else none
else none
else none
theorem sX2_readChoice (n : Nat) (r0 : Nat) (r1 : Nat) (r2 : Nat) : q_Ct yX2_readChoice cX2_readChoice 3 none 3 67 0 0 q_eV (fun P => [.ref (P + r0), .ref (P + r1), .ref (P + r2)]) (fX2_readChoice n r0 r1 r2) := by
  refine q_meth (by decide +kernel) (fun P => Nat.le_of_ble_eq_true rfl) (fun E X C hn => ?_)
  show Sm E (q_fin E q_eV X 0 0) 0 0 0 [(0, .ref (q_P E + r0)), (1, .ref (q_P E + r1)), (2, .ref (q_P E + r2))] [] X _
  unfold fX2_readChoice
  refine q_aload_n C 0 dX2_readChoice_0 rfl rfl ?_
  refine q_iconst C (5 : Int32) dX2_readChoice_1 rfl ?_
  refine q_iconst C (-1 : Int32) dX2_readChoice_2 rfl ?_
  refine q_chk (fun h3 => ?_)
  refine q_cVV (As := (fun P => [.int (5 : Int32), .int (-1 : Int32)])) C [] (sX2_begin r0 (5 : Int32) (-1 : Int32)) fcX2_74 rfl (fun _ => rfl) ⟨Nat.le_of_ble_eq_true rfl, Nat.le_of_ble_eq_true rfl⟩ ⟨Nat.le_of_ble_eq_true rfl, Nat.le_of_ble_eq_true rfl⟩ (Nat.le_of_ble_eq_true rfl) dX2_readChoice_3 h3 (fun _ X3_2 => ?_)
  refine q_aload_n C 0 dX2_readChoice_6 rfl rfl ?_
  refine q_aload_n C 1 dX2_readChoice_7 rfl rfl ?_
  refine q_chk (fun h6 => ?_)
  refine q_cVI (As := (fun P => [])) C [.ref (q_P E + r0)] (sX9_takeNumber r1) fcX2_78 rfl (fun _ => rfl) ⟨Nat.le_of_ble_eq_true rfl, Nat.le_of_ble_eq_true rfl⟩ ⟨Nat.le_of_ble_eq_true rfl, Nat.le_of_ble_eq_true rfl⟩ (Nat.le_of_ble_eq_true rfl) dX2_readChoice_8 h6 (fun w4 X8_5 => ?_)
  refine q_chk (fun h8 => ?_)
  refine p_putI C fpX2_123 rfl dX2_readChoice_11 h8 ?_
  refine q_nmX (fun X11_7 => ?_)
  refine q_aload_n C 0 dX2_readChoice_14 rfl rfl ?_
  refine q_aload_n C 2 dX2_readChoice_15 rfl rfl ?_
  refine q_aload_n C 1 dX2_readChoice_16 rfl rfl ?_
  refine q_chk (fun h11 => ?_)
  refine q_cVI (As := (fun P => [.ref (P + r1)])) C [.ref (q_P E + r0)] (sX0_takeHolder n r2 r1) fcX2_88 rfl (fun _ => rfl) ⟨Nat.le_of_ble_eq_true rfl, Nat.le_of_ble_eq_true rfl⟩ ⟨Nat.le_of_ble_eq_true rfl, Nat.le_of_ble_eq_true rfl⟩ (Nat.le_of_ble_eq_true rfl) dX2_readChoice_17 h11 (fun w9 X17_10 => ?_)
  refine q_chk (fun h13 => ?_)
  refine p_putI C fpX2_94 rfl dX2_readChoice_20 h13 ?_
  refine q_nmX (fun X20_12 => ?_)
  refine q_aload_n C 0 dX2_readChoice_23 rfl rfl ?_
  refine q_aload_n C 1 dX2_readChoice_24 rfl rfl ?_
  refine q_chk (fun h16 => ?_)
  refine q_cVI (As := (fun P => [])) C [.ref (q_P E + r0)] (sX9_takeNumber r1) fcX2_78 rfl (fun _ => rfl) ⟨Nat.le_of_ble_eq_true rfl, Nat.le_of_ble_eq_true rfl⟩ ⟨Nat.le_of_ble_eq_true rfl, Nat.le_of_ble_eq_true rfl⟩ (Nat.le_of_ble_eq_true rfl) dX2_readChoice_25 h16 (fun w14 X25_15 => ?_)
  refine q_chk (fun h18 => ?_)
  refine p_putI C fpX2_126 rfl dX2_readChoice_28 h18 ?_
  refine q_nmX (fun X28_17 => ?_)
  refine q_aload_n C 0 dX2_readChoice_31 rfl rfl ?_
  refine q_aload_n C 1 dX2_readChoice_32 rfl rfl ?_
  refine q_chk (fun h21 => ?_)
  refine q_cVI (As := (fun P => [])) C [.ref (q_P E + r0)] (sX9_takeNumber r1) fcX2_78 rfl (fun _ => rfl) ⟨Nat.le_of_ble_eq_true rfl, Nat.le_of_ble_eq_true rfl⟩ ⟨Nat.le_of_ble_eq_true rfl, Nat.le_of_ble_eq_true rfl⟩ (Nat.le_of_ble_eq_true rfl) dX2_readChoice_33 h21 (fun w19 X33_20 => ?_)
  refine q_chk (fun h23 => ?_)
  refine p_putI C fpX2_129 rfl dX2_readChoice_36 h23 ?_
  refine q_nmX (fun X36_22 => ?_)
  exact q_vret C dX2_readChoice_39
/-! RecordClaims$Deed.readFrom(LRecordClaims$Tape;LRecordClaims$Book;)V -/
abbrev cX2_readFrom : ByteArray := prog_4_method_6_code
def yX2_readFrom : MethodName := ⟨RX2, "readFrom", "(LRecordClaims$Tape;LRecordClaims$Book;)V"⟩
theorem dX2_readFrom_0 : decode cX2_readFrom 0 = .ok (.aload_n 1, 1) := by decide +kernel
theorem dX2_readFrom_1 : decode cX2_readFrom 1 = .ok (.iconst 3, 1) := by decide +kernel
theorem dX2_readFrom_2 : decode cX2_readFrom 2 = .ok (.invokevirtual 45, 3) := by decide +kernel
theorem dX2_readFrom_5 : decode cX2_readFrom 5 = .ok (.ifCond .eq 12, 3) := by decide +kernel
theorem dX2_readFrom_8 : decode cX2_readFrom 8 = .ok (.aload_n 0, 1) := by decide +kernel
theorem dX2_readFrom_9 : decode cX2_readFrom 9 = .ok (.aload_n 1, 1) := by decide +kernel
theorem dX2_readFrom_10 : decode cX2_readFrom 10 = .ok (.aload_n 2, 1) := by decide +kernel
theorem dX2_readFrom_11 : decode cX2_readFrom 11 = .ok (.invokevirtual 51, 3) := by decide +kernel
theorem dX2_readFrom_14 : decode cX2_readFrom 14 = .ok (.goto 113, 3) := by decide +kernel
theorem dX2_readFrom_17 : decode cX2_readFrom 17 = .ok (.aload_n 1, 1) := by decide +kernel
theorem dX2_readFrom_18 : decode cX2_readFrom 18 = .ok (.iconst 5, 1) := by decide +kernel
theorem dX2_readFrom_19 : decode cX2_readFrom 19 = .ok (.invokevirtual 45, 3) := by decide +kernel
theorem dX2_readFrom_22 : decode cX2_readFrom 22 = .ok (.ifCond .eq 12, 3) := by decide +kernel
theorem dX2_readFrom_25 : decode cX2_readFrom 25 = .ok (.aload_n 0, 1) := by decide +kernel
theorem dX2_readFrom_26 : decode cX2_readFrom 26 = .ok (.aload_n 1, 1) := by decide +kernel
theorem dX2_readFrom_27 : decode cX2_readFrom 27 = .ok (.aload_n 2, 1) := by decide +kernel
theorem dX2_readFrom_28 : decode cX2_readFrom 28 = .ok (.invokevirtual 55, 3) := by decide +kernel
theorem dX2_readFrom_31 : decode cX2_readFrom 31 = .ok (.goto 96, 3) := by decide +kernel
theorem dX2_readFrom_34 : decode cX2_readFrom 34 = .ok (.aload_n 1, 1) := by decide +kernel
theorem dX2_readFrom_35 : decode cX2_readFrom 35 = .ok (.bipush 6, 2) := by decide +kernel
theorem dX2_readFrom_37 : decode cX2_readFrom 37 = .ok (.invokevirtual 45, 3) := by decide +kernel
theorem dX2_readFrom_40 : decode cX2_readFrom 40 = .ok (.ifCond .eq 12, 3) := by decide +kernel
theorem dX2_readFrom_43 : decode cX2_readFrom 43 = .ok (.aload_n 0, 1) := by decide +kernel
theorem dX2_readFrom_44 : decode cX2_readFrom 44 = .ok (.aload_n 1, 1) := by decide +kernel
theorem dX2_readFrom_45 : decode cX2_readFrom 45 = .ok (.aload_n 2, 1) := by decide +kernel
theorem dX2_readFrom_46 : decode cX2_readFrom 46 = .ok (.invokevirtual 58, 3) := by decide +kernel
theorem dX2_readFrom_49 : decode cX2_readFrom 49 = .ok (.goto 78, 3) := by decide +kernel
theorem dX2_readFrom_52 : decode cX2_readFrom 52 = .ok (.aload_n 1, 1) := by decide +kernel
theorem dX2_readFrom_53 : decode cX2_readFrom 53 = .ok (.bipush 7, 2) := by decide +kernel
theorem dX2_readFrom_55 : decode cX2_readFrom 55 = .ok (.invokevirtual 45, 3) := by decide +kernel
theorem dX2_readFrom_58 : decode cX2_readFrom 58 = .ok (.ifCond .eq 12, 3) := by decide +kernel
theorem dX2_readFrom_61 : decode cX2_readFrom 61 = .ok (.aload_n 0, 1) := by decide +kernel
theorem dX2_readFrom_62 : decode cX2_readFrom 62 = .ok (.aload_n 1, 1) := by decide +kernel
theorem dX2_readFrom_63 : decode cX2_readFrom 63 = .ok (.aload_n 2, 1) := by decide +kernel
theorem dX2_readFrom_64 : decode cX2_readFrom 64 = .ok (.invokevirtual 61, 3) := by decide +kernel
theorem dX2_readFrom_67 : decode cX2_readFrom 67 = .ok (.goto 60, 3) := by decide +kernel
theorem dX2_readFrom_70 : decode cX2_readFrom 70 = .ok (.aload_n 1, 1) := by decide +kernel
theorem dX2_readFrom_71 : decode cX2_readFrom 71 = .ok (.bipush 8, 2) := by decide +kernel
theorem dX2_readFrom_73 : decode cX2_readFrom 73 = .ok (.invokevirtual 45, 3) := by decide +kernel
theorem dX2_readFrom_76 : decode cX2_readFrom 76 = .ok (.ifCond .eq 12, 3) := by decide +kernel
theorem dX2_readFrom_79 : decode cX2_readFrom 79 = .ok (.aload_n 0, 1) := by decide +kernel
theorem dX2_readFrom_80 : decode cX2_readFrom 80 = .ok (.aload_n 1, 1) := by decide +kernel
theorem dX2_readFrom_81 : decode cX2_readFrom 81 = .ok (.aload_n 2, 1) := by decide +kernel
theorem dX2_readFrom_82 : decode cX2_readFrom 82 = .ok (.invokevirtual 64, 3) := by decide +kernel
theorem dX2_readFrom_85 : decode cX2_readFrom 85 = .ok (.goto 42, 3) := by decide +kernel
theorem dX2_readFrom_88 : decode cX2_readFrom 88 = .ok (.aload_n 1, 1) := by decide +kernel
theorem dX2_readFrom_89 : decode cX2_readFrom 89 = .ok (.bipush 19, 2) := by decide +kernel
theorem dX2_readFrom_91 : decode cX2_readFrom 91 = .ok (.invokevirtual 45, 3) := by decide +kernel
theorem dX2_readFrom_94 : decode cX2_readFrom 94 = .ok (.ifCond .eq 12, 3) := by decide +kernel
theorem dX2_readFrom_97 : decode cX2_readFrom 97 = .ok (.aload_n 0, 1) := by decide +kernel
theorem dX2_readFrom_98 : decode cX2_readFrom 98 = .ok (.aload_n 1, 1) := by decide +kernel
theorem dX2_readFrom_99 : decode cX2_readFrom 99 = .ok (.aload_n 2, 1) := by decide +kernel
theorem dX2_readFrom_100 : decode cX2_readFrom 100 = .ok (.invokevirtual 67, 3) := by decide +kernel
theorem dX2_readFrom_103 : decode cX2_readFrom 103 = .ok (.goto 24, 3) := by decide +kernel
theorem dX2_readFrom_106 : decode cX2_readFrom 106 = .ok (.aload_n 1, 1) := by decide +kernel
theorem dX2_readFrom_107 : decode cX2_readFrom 107 = .ok (.bipush 20, 2) := by decide +kernel
theorem dX2_readFrom_109 : decode cX2_readFrom 109 = .ok (.invokevirtual 70, 3) := by decide +kernel
theorem dX2_readFrom_112 : decode cX2_readFrom 112 = .ok (.aload_n 0, 1) := by decide +kernel
theorem dX2_readFrom_113 : decode cX2_readFrom 113 = .ok (.bipush 6, 2) := by decide +kernel
theorem dX2_readFrom_115 : decode cX2_readFrom 115 = .ok (.iconst (-1), 1) := by decide +kernel
theorem dX2_readFrom_116 : decode cX2_readFrom 116 = .ok (.invokevirtual 74, 3) := by decide +kernel
theorem dX2_readFrom_119 : decode cX2_readFrom 119 = .ok (.aload_n 0, 1) := by decide +kernel
theorem dX2_readFrom_120 : decode cX2_readFrom 120 = .ok (.aload_n 1, 1) := by decide +kernel
theorem dX2_readFrom_121 : decode cX2_readFrom 121 = .ok (.invokevirtual 78, 3) := by decide +kernel
theorem dX2_readFrom_124 : decode cX2_readFrom 124 = .ok (.putfield 82, 3) := by decide +kernel
theorem dX2_readFrom_127 : decode cX2_readFrom 127 = .ok (.aload_n 1, 1) := by decide +kernel
theorem dX2_readFrom_128 : decode cX2_readFrom 128 = .ok (.invokevirtual 85, 3) := by decide +kernel
theorem dX2_readFrom_131 : decode cX2_readFrom 131 = .ok (.return_, 1) := by decide +kernel
theorem fpX2_82 : q_Fp RX2 82 2 19 .int false := ⟨RX2, TX2, 20, tyX2, rfl, by decide, inX2, q_tb 166 (by decide +kernel) rfl, tyX2_ok, nmX2, rfl, rfl, fun h => by first | rfl | cases h⟩
theorem fcX2_85 : q_LV RX2 85 yX9_takeStop cX9_takeStop 1 none 0 9 := ⟨q_tb 758 (by decide +kernel) rfl, q_tb 687 (by decide +kernel) rfl, q_tb 688 (by decide +kernel) rfl, q_tb 2 (by decide +kernel) rfl, q_tb 689 (by decide +kernel) rfl, ⟨by decide +kernel, by decide +kernel, by decide +kernel⟩, TX9, 8, rfl⟩
theorem fcX2_67 : q_LV RX2 67 yX2_readChoice cX2_readChoice 3 none 2 2 := ⟨q_tb 754 (by decide +kernel) rfl, q_tb 756 (by decide +kernel) rfl, q_tbs (q := (yX2_readChoice, 20)) 17 (by decide +kernel) rfl, q_tb 4 (by decide +kernel) rfl, q_tb 757 (by decide +kernel) rfl, ⟨by decide +kernel, by decide +kernel, by decide +kernel⟩, TX2, 20, rfl⟩
theorem fcX2_64 : q_LV RX2 64 yX2_readTurn cX2_readTurn 3 none 2 2 := ⟨q_tb 750 (by decide +kernel) rfl, q_tb 752 (by decide +kernel) rfl, q_tbs (q := (yX2_readTurn, 20)) 16 (by decide +kernel) rfl, q_tb 4 (by decide +kernel) rfl, q_tb 753 (by decide +kernel) rfl, ⟨by decide +kernel, by decide +kernel, by decide +kernel⟩, TX2, 20, rfl⟩
theorem fcX2_61 : q_LV RX2 61 yX2_readRights cX2_readRights 3 none 2 2 := ⟨q_tb 746 (by decide +kernel) rfl, q_tb 748 (by decide +kernel) rfl, q_tbs (q := (yX2_readRights, 20)) 15 (by decide +kernel) rfl, q_tb 4 (by decide +kernel) rfl, q_tb 749 (by decide +kernel) rfl, ⟨by decide +kernel, by decide +kernel, by decide +kernel⟩, TX2, 20, rfl⟩
theorem fcX2_58 : q_LV RX2 58 yX2_readGift cX2_readGift 3 none 2 2 := ⟨q_tb 738 (by decide +kernel) rfl, q_tb 740 (by decide +kernel) rfl, q_tbs (q := (yX2_readGift, 20)) 13 (by decide +kernel) rfl, q_tb 4 (by decide +kernel) rfl, q_tb 741 (by decide +kernel) rfl, ⟨by decide +kernel, by decide +kernel, by decide +kernel⟩, TX2, 20, rfl⟩
theorem fcX2_55 : q_LV RX2 55 yX2_readMoney cX2_readMoney 3 none 2 2 := ⟨q_tb 726 (by decide +kernel) rfl, q_tb 728 (by decide +kernel) rfl, q_tbs (q := (yX2_readMoney, 20)) 11 (by decide +kernel) rfl, q_tb 4 (by decide +kernel) rfl, q_tb 729 (by decide +kernel) rfl, ⟨by decide +kernel, by decide +kernel, by decide +kernel⟩, TX2, 20, rfl⟩
theorem fcX2_51 : q_LV RX2 51 yX2_readTrade cX2_readTrade 3 none 2 2 := ⟨q_tb 715 (by decide +kernel) rfl, q_tb 717 (by decide +kernel) rfl, q_tbs (q := (yX2_readTrade, 20)) 10 (by decide +kernel) rfl, q_tb 4 (by decide +kernel) rfl, q_tb 718 (by decide +kernel) rfl, ⟨by decide +kernel, by decide +kernel, by decide +kernel⟩, TX2, 20, rfl⟩
def fX2_readFrom_L127 (n : Nat) (r1 : Nat) (X : Mm) : Option (Unit × Mm) :=
if mT X r1 = 9 then
bd (fX9_takeStop r1 X) fun _ X128_31 =>
some ((), X128_31)
else none
def fX2_readFrom (n : Nat) (r0 : Nat) (r1 : Nat) (r2 : Nat) (X : Mm) : Option (Unit × Mm) :=
if mT X r1 = 9 then
bd (fX9_passesWord r1 (3 : Int32) X) fun w1 X2_2 =>
if w1 = 0 then (
if mT X2_2 r1 = 9 then
bd (fX9_passesWord r1 (5 : Int32) X2_2) fun w4 X19_5 =>
if w4 = 0 then (
if mT X19_5 r1 = 9 then
bd (fX9_passesWord r1 (6 : Int32) X19_5) fun w7 X37_8 =>
if w7 = 0 then (
if mT X37_8 r1 = 9 then
bd (fX9_passesWord r1 (7 : Int32) X37_8) fun w10 X55_11 =>
if w10 = 0 then (
if mT X55_11 r1 = 9 then
bd (fX9_passesWord r1 (8 : Int32) X55_11) fun w13 X73_14 =>
if w13 = 0 then (
if mT X73_14 r1 = 9 then
bd (fX9_passesWord r1 (19 : Int32) X73_14) fun w16 X91_17 =>
if w16 = 0 then (
if mT X91_17 r1 = 9 then
bd (fX9_takeWord r1 (20 : Int32) X91_17) fun _ X109_20 =>
if mT X109_20 r0 = 2 then
bd (fX2_begin r0 (6 : Int32) (-1 : Int32) X109_20) fun _ X116_23 =>
if mT X116_23 r1 = 9 then
bd (fX9_takeNumber r1 X116_23) fun w25 X121_26 =>
if mT X121_26 r0 = 2 then
nm (sI X121_26 r0 19 w25) fun X124_28 =>
fX2_readFrom_L127 n r1 X124_28
else none
else none
else none
else none
) else (
if mT X91_17 r0 = 2 then
bd (fX2_readChoice n r0 r1 r2 X91_17) fun _ X100_34 =>
fX2_readFrom_L127 n r1 X100_34
else none
)
else none
) else (
if mT X73_14 r0 = 2 then
bd (fX2_readTurn n r0 r1 r2 X73_14) fun _ X82_37 =>
fX2_readFrom_L127 n r1 X82_37
else none
)
else none
) else (
if mT X55_11 r0 = 2 then
bd (fX2_readRights n r0 r1 r2 X55_11) fun _ X64_40 =>
fX2_readFrom_L127 n r1 X64_40
else none
)
else none
) else (
if mT X37_8 r0 = 2 then
bd (fX2_readGift n r0 r1 r2 X37_8) fun _ X46_43 =>
fX2_readFrom_L127 n r1 X46_43
else none
)
else none
) else (
if mT X19_5 r0 = 2 then
bd (fX2_readMoney n r0 r1 r2 X19_5) fun _ X28_46 =>
fX2_readFrom_L127 n r1 X28_46
else none
)
else none
) else (
if mT X2_2 r0 = 2 then
bd (fX2_readTrade n r0 r1 r2 X2_2) fun _ X11_49 =>
fX2_readFrom_L127 n r1 X11_49
else none
)
else none
theorem gX2_readFrom_L127 {E : q_E} {X0 : Mm} (C : Cx E cX2_readFrom RX2 3 none (q_rm 5 106 0 0) X0) (n : Nat) (r1 : Nat) (X : Mm) : Sm E (q_fin E q_eV X0 0 0) 0 0 127 [(1, .ref (q_P E + r1))] [] X (fX2_readFrom_L127 n r1 X) := by
  unfold fX2_readFrom_L127
  refine q_aload_n C 0 dX2_readFrom_127 rfl rfl ?_
  refine q_chk (fun h32 => ?_)
  refine q_cVV (As := (fun P => [])) C [] (sX9_takeStop r1) fcX2_85 rfl (fun _ => rfl) ⟨Nat.le_of_ble_eq_true rfl, Nat.le_of_ble_eq_true rfl⟩ ⟨Nat.le_of_ble_eq_true rfl, Nat.le_of_ble_eq_true rfl⟩ (Nat.le_of_ble_eq_true rfl) dX2_readFrom_128 h32 (fun _ X128_31 => ?_)
  exact q_vret C dX2_readFrom_131
theorem sX2_readFrom (n : Nat) (r0 : Nat) (r1 : Nat) (r2 : Nat) : q_Ct yX2_readFrom cX2_readFrom 3 none 5 106 0 0 q_eV (fun P => [.ref (P + r0), .ref (P + r1), .ref (P + r2)]) (fX2_readFrom n r0 r1 r2) := by
  refine q_meth (by decide +kernel) (fun P => Nat.le_of_ble_eq_true rfl) (fun E X C hn => ?_)
  show Sm E (q_fin E q_eV X 0 0) 0 0 0 [(0, .ref (q_P E + r0)), (1, .ref (q_P E + r1)), (2, .ref (q_P E + r2))] [] X _
  unfold fX2_readFrom
  refine q_aload_n C 1 dX2_readFrom_0 rfl rfl ?_
  refine q_iconst C (3 : Int32) dX2_readFrom_1 rfl ?_
  refine q_chk (fun h3 => ?_)
  refine q_cVI (As := (fun P => [.int (3 : Int32)])) C [] (sX9_passesWord r1 (3 : Int32)) fcX2_45 rfl (fun _ => rfl) ⟨Nat.le_of_ble_eq_true rfl, Nat.le_of_ble_eq_true rfl⟩ ⟨Nat.le_of_ble_eq_true rfl, Nat.le_of_ble_eq_true rfl⟩ (Nat.le_of_ble_eq_true rfl) dX2_readFrom_2 h3 (fun w1 X2_2 => ?_)
  refine q_if_eq C 17 dX2_readFrom_5 (by decide) (fun _ => ?_) (fun _ => ?_)
  · refine q_aload_n C 1 dX2_readFrom_17 rfl rfl ?_
    refine q_iconst C (5 : Int32) dX2_readFrom_18 rfl ?_
    refine q_chk (fun h6 => ?_)
    refine q_cVI (As := (fun P => [.int (5 : Int32)])) C [] (sX9_passesWord r1 (5 : Int32)) fcX2_45 rfl (fun _ => rfl) ⟨Nat.le_of_ble_eq_true rfl, Nat.le_of_ble_eq_true rfl⟩ ⟨Nat.le_of_ble_eq_true rfl, Nat.le_of_ble_eq_true rfl⟩ (Nat.le_of_ble_eq_true rfl) dX2_readFrom_19 h6 (fun w4 X19_5 => ?_)
    refine q_if_eq C 34 dX2_readFrom_22 (by decide) (fun _ => ?_) (fun _ => ?_)
    · refine q_aload_n C 1 dX2_readFrom_34 rfl rfl ?_
      refine q_bipush C (6 : Int32) dX2_readFrom_35 rfl ?_
      refine q_chk (fun h9 => ?_)
      refine q_cVI (As := (fun P => [.int (6 : Int32)])) C [] (sX9_passesWord r1 (6 : Int32)) fcX2_45 rfl (fun _ => rfl) ⟨Nat.le_of_ble_eq_true rfl, Nat.le_of_ble_eq_true rfl⟩ ⟨Nat.le_of_ble_eq_true rfl, Nat.le_of_ble_eq_true rfl⟩ (Nat.le_of_ble_eq_true rfl) dX2_readFrom_37 h9 (fun w7 X37_8 => ?_)
      refine q_if_eq C 52 dX2_readFrom_40 (by decide) (fun _ => ?_) (fun _ => ?_)
      · refine q_aload_n C 1 dX2_readFrom_52 rfl rfl ?_
        refine q_bipush C (7 : Int32) dX2_readFrom_53 rfl ?_
        refine q_chk (fun h12 => ?_)
        refine q_cVI (As := (fun P => [.int (7 : Int32)])) C [] (sX9_passesWord r1 (7 : Int32)) fcX2_45 rfl (fun _ => rfl) ⟨Nat.le_of_ble_eq_true rfl, Nat.le_of_ble_eq_true rfl⟩ ⟨Nat.le_of_ble_eq_true rfl, Nat.le_of_ble_eq_true rfl⟩ (Nat.le_of_ble_eq_true rfl) dX2_readFrom_55 h12 (fun w10 X55_11 => ?_)
        refine q_if_eq C 70 dX2_readFrom_58 (by decide) (fun _ => ?_) (fun _ => ?_)
        · refine q_aload_n C 1 dX2_readFrom_70 rfl rfl ?_
          refine q_bipush C (8 : Int32) dX2_readFrom_71 rfl ?_
          refine q_chk (fun h15 => ?_)
          refine q_cVI (As := (fun P => [.int (8 : Int32)])) C [] (sX9_passesWord r1 (8 : Int32)) fcX2_45 rfl (fun _ => rfl) ⟨Nat.le_of_ble_eq_true rfl, Nat.le_of_ble_eq_true rfl⟩ ⟨Nat.le_of_ble_eq_true rfl, Nat.le_of_ble_eq_true rfl⟩ (Nat.le_of_ble_eq_true rfl) dX2_readFrom_73 h15 (fun w13 X73_14 => ?_)
          refine q_if_eq C 88 dX2_readFrom_76 (by decide) (fun _ => ?_) (fun _ => ?_)
          · refine q_aload_n C 1 dX2_readFrom_88 rfl rfl ?_
            refine q_bipush C (19 : Int32) dX2_readFrom_89 rfl ?_
            refine q_chk (fun h18 => ?_)
            refine q_cVI (As := (fun P => [.int (19 : Int32)])) C [] (sX9_passesWord r1 (19 : Int32)) fcX2_45 rfl (fun _ => rfl) ⟨Nat.le_of_ble_eq_true rfl, Nat.le_of_ble_eq_true rfl⟩ ⟨Nat.le_of_ble_eq_true rfl, Nat.le_of_ble_eq_true rfl⟩ (Nat.le_of_ble_eq_true rfl) dX2_readFrom_91 h18 (fun w16 X91_17 => ?_)
            refine q_if_eq C 106 dX2_readFrom_94 (by decide) (fun _ => ?_) (fun _ => ?_)
            · refine q_aload_n C 1 dX2_readFrom_106 rfl rfl ?_
              refine q_bipush C (20 : Int32) dX2_readFrom_107 rfl ?_
              refine q_chk (fun h21 => ?_)
              refine q_cVV (As := (fun P => [.int (20 : Int32)])) C [] (sX9_takeWord r1 (20 : Int32)) fcX2_70 rfl (fun _ => rfl) ⟨Nat.le_of_ble_eq_true rfl, Nat.le_of_ble_eq_true rfl⟩ ⟨Nat.le_of_ble_eq_true rfl, Nat.le_of_ble_eq_true rfl⟩ (Nat.le_of_ble_eq_true rfl) dX2_readFrom_109 h21 (fun _ X109_20 => ?_)
              refine q_aload_n C 0 dX2_readFrom_112 rfl rfl ?_
              refine q_bipush C (6 : Int32) dX2_readFrom_113 rfl ?_
              refine q_iconst C (-1 : Int32) dX2_readFrom_115 rfl ?_
              refine q_chk (fun h24 => ?_)
              refine q_cVV (As := (fun P => [.int (6 : Int32), .int (-1 : Int32)])) C [] (sX2_begin r0 (6 : Int32) (-1 : Int32)) fcX2_74 rfl (fun _ => rfl) ⟨Nat.le_of_ble_eq_true rfl, Nat.le_of_ble_eq_true rfl⟩ ⟨Nat.le_of_ble_eq_true rfl, Nat.le_of_ble_eq_true rfl⟩ (Nat.le_of_ble_eq_true rfl) dX2_readFrom_116 h24 (fun _ X116_23 => ?_)
              refine q_aload_n C 0 dX2_readFrom_119 rfl rfl ?_
              refine q_aload_n C 1 dX2_readFrom_120 rfl rfl ?_
              refine q_chk (fun h27 => ?_)
              refine q_cVI (As := (fun P => [])) C [.ref (q_P E + r0)] (sX9_takeNumber r1) fcX2_78 rfl (fun _ => rfl) ⟨Nat.le_of_ble_eq_true rfl, Nat.le_of_ble_eq_true rfl⟩ ⟨Nat.le_of_ble_eq_true rfl, Nat.le_of_ble_eq_true rfl⟩ (Nat.le_of_ble_eq_true rfl) dX2_readFrom_121 h27 (fun w25 X121_26 => ?_)
              refine q_chk (fun h29 => ?_)
              refine p_putI C fpX2_82 rfl dX2_readFrom_124 h29 ?_
              refine q_nmX (fun X124_28 => ?_)
              refine q_sub C [(1, .ref (q_P E + r1))] [1] rfl ?_
              exact gX2_readFrom_L127 C n r1 X124_28
            · refine q_aload_n C 0 dX2_readFrom_97 rfl rfl ?_
              refine q_aload_n C 1 dX2_readFrom_98 rfl rfl ?_
              refine q_aload_n C 2 dX2_readFrom_99 rfl rfl ?_
              refine q_chk (fun h35 => ?_)
              refine q_cVV (As := (fun P => [.ref (P + r1), .ref (P + r2)])) C [] (sX2_readChoice n r0 r1 r2) fcX2_67 rfl (fun _ => rfl) ⟨Nat.le_of_ble_eq_true rfl, Nat.le_of_ble_eq_true rfl⟩ ⟨Nat.le_of_ble_eq_true rfl, Nat.le_of_ble_eq_true rfl⟩ (Nat.le_of_ble_eq_true rfl) dX2_readFrom_100 h35 (fun _ X100_34 => ?_)
              refine q_goto C 127 dX2_readFrom_103 (by decide) ?_
              refine q_sub C [(1, .ref (q_P E + r1))] [1] rfl ?_
              exact gX2_readFrom_L127 C n r1 X100_34
          · refine q_aload_n C 0 dX2_readFrom_79 rfl rfl ?_
            refine q_aload_n C 1 dX2_readFrom_80 rfl rfl ?_
            refine q_aload_n C 2 dX2_readFrom_81 rfl rfl ?_
            refine q_chk (fun h38 => ?_)
            refine q_cVV (As := (fun P => [.ref (P + r1), .ref (P + r2)])) C [] (sX2_readTurn n r0 r1 r2) fcX2_64 rfl (fun _ => rfl) ⟨Nat.le_of_ble_eq_true rfl, Nat.le_of_ble_eq_true rfl⟩ ⟨Nat.le_of_ble_eq_true rfl, Nat.le_of_ble_eq_true rfl⟩ (Nat.le_of_ble_eq_true rfl) dX2_readFrom_82 h38 (fun _ X82_37 => ?_)
            refine q_goto C 127 dX2_readFrom_85 (by decide) ?_
            refine q_sub C [(1, .ref (q_P E + r1))] [1] rfl ?_
            exact gX2_readFrom_L127 C n r1 X82_37
        · refine q_aload_n C 0 dX2_readFrom_61 rfl rfl ?_
          refine q_aload_n C 1 dX2_readFrom_62 rfl rfl ?_
          refine q_aload_n C 2 dX2_readFrom_63 rfl rfl ?_
          refine q_chk (fun h41 => ?_)
          refine q_cVV (As := (fun P => [.ref (P + r1), .ref (P + r2)])) C [] (sX2_readRights n r0 r1 r2) fcX2_61 rfl (fun _ => rfl) ⟨Nat.le_of_ble_eq_true rfl, Nat.le_of_ble_eq_true rfl⟩ ⟨Nat.le_of_ble_eq_true rfl, Nat.le_of_ble_eq_true rfl⟩ (Nat.le_of_ble_eq_true rfl) dX2_readFrom_64 h41 (fun _ X64_40 => ?_)
          refine q_goto C 127 dX2_readFrom_67 (by decide) ?_
          refine q_sub C [(1, .ref (q_P E + r1))] [1] rfl ?_
          exact gX2_readFrom_L127 C n r1 X64_40
      · refine q_aload_n C 0 dX2_readFrom_43 rfl rfl ?_
        refine q_aload_n C 1 dX2_readFrom_44 rfl rfl ?_
        refine q_aload_n C 2 dX2_readFrom_45 rfl rfl ?_
        refine q_chk (fun h44 => ?_)
        refine q_cVV (As := (fun P => [.ref (P + r1), .ref (P + r2)])) C [] (sX2_readGift n r0 r1 r2) fcX2_58 rfl (fun _ => rfl) ⟨Nat.le_of_ble_eq_true rfl, Nat.le_of_ble_eq_true rfl⟩ ⟨Nat.le_of_ble_eq_true rfl, Nat.le_of_ble_eq_true rfl⟩ (Nat.le_of_ble_eq_true rfl) dX2_readFrom_46 h44 (fun _ X46_43 => ?_)
        refine q_goto C 127 dX2_readFrom_49 (by decide) ?_
        refine q_sub C [(1, .ref (q_P E + r1))] [1] rfl ?_
        exact gX2_readFrom_L127 C n r1 X46_43
    · refine q_aload_n C 0 dX2_readFrom_25 rfl rfl ?_
      refine q_aload_n C 1 dX2_readFrom_26 rfl rfl ?_
      refine q_aload_n C 2 dX2_readFrom_27 rfl rfl ?_
      refine q_chk (fun h47 => ?_)
      refine q_cVV (As := (fun P => [.ref (P + r1), .ref (P + r2)])) C [] (sX2_readMoney n r0 r1 r2) fcX2_55 rfl (fun _ => rfl) ⟨Nat.le_of_ble_eq_true rfl, Nat.le_of_ble_eq_true rfl⟩ ⟨Nat.le_of_ble_eq_true rfl, Nat.le_of_ble_eq_true rfl⟩ (Nat.le_of_ble_eq_true rfl) dX2_readFrom_28 h47 (fun _ X28_46 => ?_)
      refine q_goto C 127 dX2_readFrom_31 (by decide) ?_
      refine q_sub C [(1, .ref (q_P E + r1))] [1] rfl ?_
      exact gX2_readFrom_L127 C n r1 X28_46
  · refine q_aload_n C 0 dX2_readFrom_8 rfl rfl ?_
    refine q_aload_n C 1 dX2_readFrom_9 rfl rfl ?_
    refine q_aload_n C 2 dX2_readFrom_10 rfl rfl ?_
    refine q_chk (fun h50 => ?_)
    refine q_cVV (As := (fun P => [.ref (P + r1), .ref (P + r2)])) C [] (sX2_readTrade n r0 r1 r2) fcX2_51 rfl (fun _ => rfl) ⟨Nat.le_of_ble_eq_true rfl, Nat.le_of_ble_eq_true rfl⟩ ⟨Nat.le_of_ble_eq_true rfl, Nat.le_of_ble_eq_true rfl⟩ (Nat.le_of_ble_eq_true rfl) dX2_readFrom_11 h50 (fun _ X11_49 => ?_)
    refine q_goto C 127 dX2_readFrom_14 (by decide) ?_
    refine q_sub C [(1, .ref (q_P E + r1))] [1] rfl ?_
    exact gX2_readFrom_L127 C n r1 X11_49
