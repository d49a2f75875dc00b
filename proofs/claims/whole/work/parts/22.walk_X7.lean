/-! RecordClaims$Shown.<init>()V -/
abbrev cX7_init : ByteArray := prog_9_method_1_code
def yX7_init : MethodName := ⟨RX7, "<init>", "()V"⟩
theorem dX7_init_0 : decode cX7_init 0 = .ok (.aload_n 0, 1) := by decide +kernel
theorem dX7_init_1 : decode cX7_init 1 = .ok (.invokespecial 3, 3) := by decide +kernel
theorem dX7_init_4 : decode cX7_init 4 = .ok (.aload_n 0, 1) := by decide +kernel
theorem dX7_init_5 : decode cX7_init 5 = .ok (.sipush 300, 3) := by decide +kernel
theorem dX7_init_8 : decode cX7_init 8 = .ok (.newarray .byte, 2) := by decide +kernel
theorem dX7_init_10 : decode cX7_init 10 = .ok (.putfield 11, 3) := by decide +kernel
theorem dX7_init_13 : decode cX7_init 13 = .ok (.return_, 1) := by decide +kernel
theorem fwX7_3_oi : Cond.methodLink RX7 3 Lib.objectInit ∈ q_tbl := q_tb 457 (by decide +kernel) rfl
theorem fabyte : Cond.arrayClass .byte ∈ q_tbl := q_tb 63 (by decide +kernel) rfl
theorem fpX7_11 : q_Fp RX7 11 7 0 (.array .byte) true := ⟨RX7, TX7, 2, tyX7, rfl, by decide, inX7, q_tb 458 (by decide +kernel) rfl, tyX7_ok, nmX7, rfl, rfl, fun h => by first | rfl | cases h⟩
def fX7_init (r0 : Nat) (X : Mm) : Option (Unit × Mm) :=
nm (mN X + 1) fun rN2 =>
nm (q_nw X 16 300) fun X8_1 =>
if mT X8_1 r0 = 7 then
if rN2 ≠ 0 then
nm (sR X8_1 r0 0 rN2) fun X10_3 =>
some ((), X10_3)
else none
else none
theorem sX7_init (r0 : Nat) : q_Ct yX7_init cX7_init 1 none 1 20 1 300 q_eV (fun P => [.ref (P + r0)]) (fX7_init r0) := by
  refine q_meth (by decide +kernel) (fun P => Nat.le_of_ble_eq_true rfl) (fun E X C hn => ?_)
  show Sm E (q_fin E q_eV X 1 300) 0 0 0 [(0, .ref (q_P E + r0))] [] X _
  unfold fX7_init
  refine q_aload_n C 0 dX7_init_0 rfl rfl ?_
  refine q_objInit C fwX7_3_oi fw_oi2 fw_oi3 ⟨Nat.le_of_ble_eq_true rfl, Nat.le_of_ble_eq_true rfl⟩ dX7_init_1 ?_
  refine q_aload_n C 0 dX7_init_4 rfl rfl ?_
  refine q_sipush C (300 : Int32) dX7_init_5 rfl ?_
  refine q_newa (atype := .byte) (ty := .byte) (tg := 16) (N := 300) C rfl fabyte (Or.inr (Or.inr ⟨rfl, rfl⟩)) (by decide) rfl (Nat.le_of_ble_eq_true rfl) ⟨Nat.le_of_ble_eq_true rfl, Nat.le_of_ble_eq_true rfl⟩ dX7_init_8 ?_
  refine q_nmr (fun rN2 => ?_)
  refine q_nmX (fun X8_1 => ?_)
  refine q_chk (fun h4 => ?_)
  refine q_chk (fun h5 => ?_)
  refine p_putF C fpX7_11 hn (fun _ => rfl) (fun _ => rfl) rfl dX7_init_10 h4 h5 ?_
  refine q_nmX (fun X10_3 => ?_)
  exact q_vret C dX7_init_13
/-! RecordClaims$Shown.addByte(I)V -/
abbrev cX7_addByte : ByteArray := prog_9_method_3_code
def yX7_addByte : MethodName := ⟨RX7, "addByte", "(I)V"⟩
theorem dX7_addByte_0 : decode cX7_addByte 0 = .ok (.aload_n 0, 1) := by decide +kernel
theorem dX7_addByte_1 : decode cX7_addByte 1 = .ok (.getfield 15, 3) := by decide +kernel
theorem dX7_addByte_4 : decode cX7_addByte 4 = .ok (.sipush 300, 3) := by decide +kernel
theorem dX7_addByte_7 : decode cX7_addByte 7 = .ok (.if_icmp .ge 24, 3) := by decide +kernel
theorem dX7_addByte_10 : decode cX7_addByte 10 = .ok (.aload_n 0, 1) := by decide +kernel
theorem dX7_addByte_11 : decode cX7_addByte 11 = .ok (.getfield 11, 3) := by decide +kernel
theorem dX7_addByte_14 : decode cX7_addByte 14 = .ok (.aload_n 0, 1) := by decide +kernel
theorem dX7_addByte_15 : decode cX7_addByte 15 = .ok (.getfield 15, 3) := by decide +kernel
theorem dX7_addByte_18 : decode cX7_addByte 18 = .ok (.iload_n 1, 1) := by decide +kernel
theorem dX7_addByte_19 : decode cX7_addByte 19 = .ok (.i2b, 1) := by decide +kernel
theorem dX7_addByte_20 : decode cX7_addByte 20 = .ok (.bastore, 1) := by decide +kernel
theorem dX7_addByte_21 : decode cX7_addByte 21 = .ok (.aload_n 0, 1) := by decide +kernel
theorem dX7_addByte_22 : decode cX7_addByte 22 = .ok (.dup, 1) := by decide +kernel
theorem dX7_addByte_23 : decode cX7_addByte 23 = .ok (.getfield 15, 3) := by decide +kernel
theorem dX7_addByte_26 : decode cX7_addByte 26 = .ok (.iconst 1, 1) := by decide +kernel
theorem dX7_addByte_27 : decode cX7_addByte 27 = .ok (.iadd, 1) := by decide +kernel
theorem dX7_addByte_28 : decode cX7_addByte 28 = .ok (.putfield 15, 3) := by decide +kernel
theorem dX7_addByte_31 : decode cX7_addByte 31 = .ok (.return_, 1) := by decide +kernel
theorem fgX7_15 : q_Fg RX7 15 7 1 := q_Fg.of (C := RX7) (T := TX7) (N := 2) rfl (by decide) inX7 460 (by decide +kernel) rfl rfl
theorem fgX7_11 : q_Fg RX7 11 7 0 := q_Fg.of (C := RX7) (T := TX7) (N := 2) rfl (by decide) inX7 458 (by decide +kernel) rfl rfl
theorem fpX7_15 : q_Fp RX7 15 7 1 .int false := ⟨RX7, TX7, 2, tyX7, rfl, by decide, inX7, q_tb 460 (by decide +kernel) rfl, tyX7_ok, nmX7, rfl, rfl, fun h => by first | rfl | cases h⟩
def fX7_addByte (r0 : Nat) (v1 : Int32) (X : Mm) : Option (Unit × Mm) :=
if mT X r0 = 7 then
if (300 : Int32) ≤ (mI X r0 1) then (
some ((), X)
) else (
if mR X r0 0 ≠ 0 then
if mT X (mR X r0 0) = 16 then
if q_b X (mR X r0 0) (mI X r0 1) then
nm (sI X (mR X r0 0) ((mI X r0 1)).toNatClampNeg (((v1).toInt8.toInt32)).toInt8.toInt32) fun X20_3 =>
if mT X20_3 r0 = 7 then
nm (sI X20_3 r0 1 ((mI X20_3 r0 1) + (1 : Int32))) fun X28_7 =>
some ((), X28_7)
else none
else none
else none
else none
)
else none
theorem sX7_addByte (r0 : Nat) (v1 : Int32) : q_Ct yX7_addByte cX7_addByte 2 none 0 0 0 0 q_eV (fun P => [.ref (P + r0), .int v1]) (fX7_addByte r0 v1) := by
  refine q_meth (by decide +kernel) (fun P => Nat.le_of_ble_eq_true rfl) (fun E X C hn => ?_)
  show Sm E (q_fin E q_eV X 0 0) 0 0 0 [(0, .ref (q_P E + r0)), (1, .int v1)] [] X _
  unfold fX7_addByte
  refine q_aload_n C 0 dX7_addByte_0 rfl rfl ?_
  refine q_chk (fun h1 => ?_)
  refine p_getI C fgX7_15 rfl dX7_addByte_1 h1 ?_
  refine q_sipush C (300 : Int32) dX7_addByte_4 rfl ?_
  refine q_icmp_ge C 31 dX7_addByte_7 (by decide) (fun _ => ?_) (fun _ => ?_)
  · exact q_vret C dX7_addByte_31
  · refine q_aload_n C 0 dX7_addByte_10 rfl rfl ?_
    refine q_chk (fun h2 => ?_)
    refine p_getR C fgX7_11 rfl dX7_addByte_11 h1 h2 ?_
    refine q_aload_n C 0 dX7_addByte_14 rfl rfl ?_
    refine p_getI C fgX7_15 rfl dX7_addByte_15 h1 ?_
    refine q_iload_n C 1 dX7_addByte_18 rfl rfl ?_
    refine q_i2b C dX7_addByte_19 ?_
    refine q_chk (fun h4 => ?_)
    refine q_chk (fun h5 => ?_)
    refine p_bast C dX7_addByte_20 h4 h5 ?_
    refine q_nmX (fun X20_3 => ?_)
    refine q_aload_n C 0 dX7_addByte_21 rfl rfl ?_
    refine q_dup C dX7_addByte_22 rfl ?_
    refine q_chk (fun h6 => ?_)
    refine p_getI C fgX7_15 rfl dX7_addByte_23 h6 ?_
    refine q_iconst C (1 : Int32) dX7_addByte_26 rfl ?_
    refine q_iadd C dX7_addByte_27 ?_
    refine p_putI C fpX7_15 rfl dX7_addByte_28 h6 ?_
    refine q_nmX (fun X28_7 => ?_)
    exact q_vret C dX7_addByte_31
/-! RecordClaims$Shown.addName(I)V -/
abbrev cX7_addName : ByteArray := prog_9_method_4_code
def yX7_addName : MethodName := ⟨RX7, "addName", "(I)V"⟩
theorem dX7_addName_0 : decode cX7_addName 0 = .ok (.bipush 25, 2) := by decide +kernel
theorem dX7_addName_2 : decode cX7_addName 2 = .ok (.istore_n 2, 1) := by decide +kernel
theorem dX7_addName_3 : decode cX7_addName 3 = .ok (.iload_n 2, 1) := by decide +kernel
theorem dX7_addName_4 : decode cX7_addName 4 = .ok (.ifCond .lt 30, 3) := by decide +kernel
theorem dX7_addName_7 : decode cX7_addName 7 = .ok (.iload_n 1, 1) := by decide +kernel
theorem dX7_addName_8 : decode cX7_addName 8 = .ok (.iload_n 2, 1) := by decide +kernel
theorem dX7_addName_9 : decode cX7_addName 9 = .ok (.iushr, 1) := by decide +kernel
theorem dX7_addName_10 : decode cX7_addName 10 = .ok (.bipush 31, 2) := by decide +kernel
theorem dX7_addName_12 : decode cX7_addName 12 = .ok (.iand, 1) := by decide +kernel
theorem dX7_addName_13 : decode cX7_addName 13 = .ok (.istore_n 3, 1) := by decide +kernel
theorem dX7_addName_14 : decode cX7_addName 14 = .ok (.iload_n 3, 1) := by decide +kernel
theorem dX7_addName_15 : decode cX7_addName 15 = .ok (.ifCond .eq 13, 3) := by decide +kernel
theorem dX7_addName_18 : decode cX7_addName 18 = .ok (.aload_n 0, 1) := by decide +kernel
theorem dX7_addName_19 : decode cX7_addName 19 = .ok (.bipush 97, 2) := by decide +kernel
theorem dX7_addName_21 : decode cX7_addName 21 = .ok (.iload_n 3, 1) := by decide +kernel
theorem dX7_addName_22 : decode cX7_addName 22 = .ok (.iadd, 1) := by decide +kernel
theorem dX7_addName_23 : decode cX7_addName 23 = .ok (.iconst 1, 1) := by decide +kernel
theorem dX7_addName_24 : decode cX7_addName 24 = .ok (.isub, 1) := by decide +kernel
theorem dX7_addName_25 : decode cX7_addName 25 = .ok (.invokevirtual 29, 3) := by decide +kernel
theorem dX7_addName_28 : decode cX7_addName 28 = .ok (.iinc 2 (-5), 3) := by decide +kernel
theorem dX7_addName_31 : decode cX7_addName 31 = .ok (.goto (-28), 3) := by decide +kernel
theorem dX7_addName_34 : decode cX7_addName 34 = .ok (.return_, 1) := by decide +kernel
theorem fcX7_29 : q_LV RX7 29 yX7_addByte cX7_addByte 2 none 1 7 := ⟨q_tb 1207 (by decide +kernel) rfl, q_tb 1209 (by decide +kernel) rfl, q_tbs (q := (yX7_addByte, 2)) 48 (by decide +kernel) rfl, q_tb 11 (by decide +kernel) rfl, q_tb 1210 (by decide +kernel) rfl, ⟨by decide +kernel, by decide +kernel, by decide +kernel⟩, TX7, 2, rfl⟩
def fX7_addName_L28 (n : Nat) (k3 : Nat → Int32 → Int32 → Mm → Option (Unit × Mm)) (r0 : Nat) (v1 : Int32) (v2 : Int32) (X : Mm) : Option (Unit × Mm) :=
nm (v2 + (-5 : Int32)) fun v2_28 =>
k3 r0 v1 v2_28 X
def fX7_addName_L3 (n : Nat) : Nat → Nat → Int32 → Int32 → Mm → Option (Unit × Mm)
| 0, _, _, _, _ => none
| j + 1, r0, v1, v2, X =>
if v2 < 0 then (
some ((), X)
) else (
nm (((q_ushr v1 v2) &&& (31 : Int32))) fun v3_13 =>
if v3_13 = 0 then (
fX7_addName_L28 n (fX7_addName_L3 n j) r0 v1 v2 X
) else (
if mT X r0 = 7 then
bd (fX7_addByte r0 ((((97 : Int32) + v3_13) - (1 : Int32))) X) fun _ X25_3 =>
fX7_addName_L28 n (fX7_addName_L3 n j) r0 v1 v2 X25_3
else none
)
)
def fX7_addName (n : Nat) (r0 : Nat) (v1 : Int32) (X : Mm) : Option (Unit × Mm) :=
fX7_addName_L3 n n r0 v1 (25 : Int32) X
theorem gX7_addName_L28 {E : q_E} {X0 : Mm} (C : Cx E cX7_addName RX7 4 none (q_rm 1 21 0 0) X0) (n : Nat) (k3 : Nat → Int32 → Int32 → Mm → Option (Unit × Mm)) (hk3 : ∀ (r0 : Nat) (v1 : Int32) (v2 : Int32) (X : Mm), Sm E (q_fin E q_eV X0 0 0) 0 0 3 [(0, .ref (q_P E + r0)), (1, .int v1), (2, .int v2)] [] X (k3 r0 v1 v2 X)) (r0 : Nat) (v1 : Int32) (v2 : Int32) (X : Mm) : Sm E (q_fin E q_eV X0 0 0) 0 0 28 [(0, .ref (q_P E + r0)), (1, .int v1), (2, .int v2)] [] X (fX7_addName_L28 n k3 r0 v1 v2 X) := by
  unfold fX7_addName_L28
  refine q_iincN C (-5 : Int32) 2 (fun v2_28 => [(2, .int v2_28), (0, .ref (q_P E + r0)), (1, .int v1)]) dX7_addName_28 rfl rfl (Nat.le_of_ble_eq_true rfl) (fun _ => rfl) (fun v2_28 => ?_)
  refine q_goto C 3 dX7_addName_31 (by decide) ?_
  refine q_sub C [(0, .ref (q_P E + r0)), (1, .int v1), (2, .int v2_28)] [1, 2, 0] rfl ?_
  exact hk3 r0 v1 v2_28 X
theorem gX7_addName_L3 {E : q_E} {X0 : Mm} (C : Cx E cX7_addName RX7 4 none (q_rm 1 21 0 0) X0) (n : Nat) : ∀ (j : Nat) (r0 : Nat) (v1 : Int32) (v2 : Int32) (X : Mm), Sm E (q_fin E q_eV X0 0 0) 0 0 3 [(0, .ref (q_P E + r0)), (1, .int v1), (2, .int v2)] [] X (fX7_addName_L3 n j r0 v1 v2 X) := by
  intro j
  induction j with
  | zero => intros; exact Sm.none
  | succ j ih =>
    intro r0 v1 v2 X
    rw [fX7_addName_L3]
    refine q_iload_n C 2 dX7_addName_3 rfl rfl ?_
    refine q_if_lt C 34 dX7_addName_4 (by decide) (fun _ => ?_) (fun _ => ?_)
    · exact q_vret C dX7_addName_34
    · refine q_iload_n C 1 dX7_addName_7 rfl rfl ?_
      refine q_iload_n C 2 dX7_addName_8 rfl rfl ?_
      refine q_iushr C dX7_addName_9 ?_
      refine q_bipush C (31 : Int32) dX7_addName_10 rfl ?_
      refine q_iand C dX7_addName_12 ?_
      refine q_nmi (fun v3_13 => ?_)
      refine q_istore_n C [(3, .int v3_13), (0, .ref (q_P E + r0)), (1, .int v1), (2, .int v2)] dX7_addName_13 rfl (Nat.le_of_ble_eq_true rfl) rfl ?_
      refine q_iload_n C 0 dX7_addName_14 rfl rfl ?_
      refine q_if_eq C 28 dX7_addName_15 (by decide) (fun _ => ?_) (fun _ => ?_)
      · refine q_sub C [(0, .ref (q_P E + r0)), (1, .int v1), (2, .int v2)] [1, 2, 3] rfl ?_
        exact gX7_addName_L28 C n (fX7_addName_L3 n j) ih r0 v1 v2 X
      · refine q_aload_n C 1 dX7_addName_18 rfl rfl ?_
        refine q_bipush C (97 : Int32) dX7_addName_19 rfl ?_
        refine q_iload_n C 0 dX7_addName_21 rfl rfl ?_
        refine q_iadd C dX7_addName_22 ?_
        refine q_iconst C (1 : Int32) dX7_addName_23 rfl ?_
        refine q_isub C dX7_addName_24 ?_
        refine q_chk (fun h4 => ?_)
        refine q_cVV (As := (fun P => [.int (((97 : Int32) + v3_13) - (1 : Int32))])) C [] (sX7_addByte r0 ((((97 : Int32) + v3_13) - (1 : Int32)))) fcX7_29 rfl (fun _ => rfl) ⟨Nat.le_of_ble_eq_true rfl, Nat.le_of_ble_eq_true rfl⟩ ⟨Nat.le_of_ble_eq_true rfl, Nat.le_of_ble_eq_true rfl⟩ (Nat.le_of_ble_eq_true rfl) dX7_addName_25 h4 (fun _ X25_3 => ?_)
        refine q_sub C [(0, .ref (q_P E + r0)), (1, .int v1), (2, .int v2)] [1, 2, 3] rfl ?_
        exact gX7_addName_L28 C n (fX7_addName_L3 n j) ih r0 v1 v2 X25_3
theorem sX7_addName (n : Nat) (r0 : Nat) (v1 : Int32) : q_Ct yX7_addName cX7_addName 4 none 1 21 0 0 q_eV (fun P => [.ref (P + r0), .int v1]) (fX7_addName n r0 v1) := by
  refine q_meth (by decide +kernel) (fun P => Nat.le_of_ble_eq_true rfl) (fun E X C hn => ?_)
  show Sm E (q_fin E q_eV X 0 0) 0 0 0 [(0, .ref (q_P E + r0)), (1, .int v1)] [] X _
  unfold fX7_addName
  refine q_bipush C (25 : Int32) dX7_addName_0 rfl ?_
  refine q_istore_n C [(2, .int (25 : Int32)), (0, .ref (q_P E + r0)), (1, .int v1)] dX7_addName_2 rfl (Nat.le_of_ble_eq_true rfl) rfl ?_
  refine q_sub C [(0, .ref (q_P E + r0)), (1, .int v1), (2, .int (25 : Int32))] [1, 2, 0] rfl ?_
  exact gX7_addName_L3 C n n r0 v1 (25 : Int32) X
/-! RecordClaims$Shown.addNumber(J)V -/
abbrev cX7_addNumber : ByteArray := prog_9_method_5_code
def yX7_addNumber : MethodName := ⟨RX7, "addNumber", "(J)V"⟩
theorem dX7_addNumber_0 : decode cX7_addNumber 0 = .ok (.lload_n 1, 1) := by decide +kernel
theorem dX7_addNumber_1 : decode cX7_addNumber 1 = .ok (.lconst 0, 1) := by decide +kernel
theorem dX7_addNumber_2 : decode cX7_addNumber 2 = .ok (.lcmp, 1) := by decide +kernel
theorem dX7_addNumber_3 : decode cX7_addNumber 3 = .ok (.ifCond .ge 9, 3) := by decide +kernel
theorem dX7_addNumber_6 : decode cX7_addNumber 6 = .ok (.aload_n 0, 1) := by decide +kernel
theorem dX7_addNumber_7 : decode cX7_addNumber 7 = .ok (.bipush 45, 2) := by decide +kernel
theorem dX7_addNumber_9 : decode cX7_addNumber 9 = .ok (.invokevirtual 29, 3) := by decide +kernel
theorem dX7_addNumber_12 : decode cX7_addNumber 12 = .ok (.lload_n 1, 1) := by decide +kernel
theorem dX7_addNumber_13 : decode cX7_addNumber 13 = .ok (.invokestatic 52, 3) := by decide +kernel
theorem dX7_addNumber_16 : decode cX7_addNumber 16 = .ok (.lstore_n 3, 1) := by decide +kernel
theorem dX7_addNumber_17 : decode cX7_addNumber 17 = .ok (.iconst 1, 1) := by decide +kernel
theorem dX7_addNumber_18 : decode cX7_addNumber 18 = .ok (.istore 5, 2) := by decide +kernel
theorem dX7_addNumber_20 : decode cX7_addNumber 20 = .ok (.lload_n 3, 1) := by decide +kernel
theorem dX7_addNumber_21 : decode cX7_addNumber 21 = .ok (.ldc2_w 58, 3) := by decide +kernel
theorem dX7_addNumber_24 : decode cX7_addNumber 24 = .ok (.ldiv, 1) := by decide +kernel
theorem dX7_addNumber_25 : decode cX7_addNumber 25 = .ok (.lstore 6, 2) := by decide +kernel
theorem dX7_addNumber_27 : decode cX7_addNumber 27 = .ok (.lload 6, 2) := by decide +kernel
theorem dX7_addNumber_29 : decode cX7_addNumber 29 = .ok (.lconst 0, 1) := by decide +kernel
theorem dX7_addNumber_30 : decode cX7_addNumber 30 = .ok (.lcmp, 1) := by decide +kernel
theorem dX7_addNumber_31 : decode cX7_addNumber 31 = .ok (.ifCond .le 25, 3) := by decide +kernel
theorem dX7_addNumber_34 : decode cX7_addNumber 34 = .ok (.iload 5, 2) := by decide +kernel
theorem dX7_addNumber_36 : decode cX7_addNumber 36 = .ok (.sipush 300, 3) := by decide +kernel
theorem dX7_addNumber_39 : decode cX7_addNumber 39 = .ok (.if_icmp .ge 17, 3) := by decide +kernel
theorem dX7_addNumber_42 : decode cX7_addNumber 42 = .ok (.iinc 5 1, 3) := by decide +kernel
theorem dX7_addNumber_45 : decode cX7_addNumber 45 = .ok (.lload 6, 2) := by decide +kernel
theorem dX7_addNumber_47 : decode cX7_addNumber 47 = .ok (.ldc2_w 58, 3) := by decide +kernel
theorem dX7_addNumber_50 : decode cX7_addNumber 50 = .ok (.ldiv, 1) := by decide +kernel
theorem dX7_addNumber_51 : decode cX7_addNumber 51 = .ok (.lstore 6, 2) := by decide +kernel
theorem dX7_addNumber_53 : decode cX7_addNumber 53 = .ok (.goto (-26), 3) := by decide +kernel
theorem dX7_addNumber_56 : decode cX7_addNumber 56 = .ok (.aload_n 0, 1) := by decide +kernel
theorem dX7_addNumber_57 : decode cX7_addNumber 57 = .ok (.getfield 15, 3) := by decide +kernel
theorem dX7_addNumber_60 : decode cX7_addNumber 60 = .ok (.iload 5, 2) := by decide +kernel
theorem dX7_addNumber_62 : decode cX7_addNumber 62 = .ok (.iadd, 1) := by decide +kernel
theorem dX7_addNumber_63 : decode cX7_addNumber 63 = .ok (.sipush 300, 3) := by decide +kernel
theorem dX7_addNumber_66 : decode cX7_addNumber 66 = .ok (.if_icmp .le 4, 3) := by decide +kernel
theorem dX7_addNumber_69 : decode cX7_addNumber 69 = .ok (.return_, 1) := by decide +kernel
theorem dX7_addNumber_70 : decode cX7_addNumber 70 = .ok (.iload 5, 2) := by decide +kernel
theorem dX7_addNumber_72 : decode cX7_addNumber 72 = .ok (.iconst 1, 1) := by decide +kernel
theorem dX7_addNumber_73 : decode cX7_addNumber 73 = .ok (.isub, 1) := by decide +kernel
theorem dX7_addNumber_74 : decode cX7_addNumber 74 = .ok (.istore 6, 2) := by decide +kernel
theorem dX7_addNumber_76 : decode cX7_addNumber 76 = .ok (.iload 6, 2) := by decide +kernel
theorem dX7_addNumber_78 : decode cX7_addNumber 78 = .ok (.ifCond .lt 38, 3) := by decide +kernel
theorem dX7_addNumber_81 : decode cX7_addNumber 81 = .ok (.aload_n 0, 1) := by decide +kernel
theorem dX7_addNumber_82 : decode cX7_addNumber 82 = .ok (.getfield 11, 3) := by decide +kernel
theorem dX7_addNumber_85 : decode cX7_addNumber 85 = .ok (.aload_n 0, 1) := by decide +kernel
theorem dX7_addNumber_86 : decode cX7_addNumber 86 = .ok (.getfield 15, 3) := by decide +kernel
theorem dX7_addNumber_89 : decode cX7_addNumber 89 = .ok (.iload 6, 2) := by decide +kernel
theorem dX7_addNumber_91 : decode cX7_addNumber 91 = .ok (.iadd, 1) := by decide +kernel
theorem dX7_addNumber_92 : decode cX7_addNumber 92 = .ok (.ldc2_w 60, 3) := by decide +kernel
theorem dX7_addNumber_95 : decode cX7_addNumber 95 = .ok (.lload_n 3, 1) := by decide +kernel
theorem dX7_addNumber_96 : decode cX7_addNumber 96 = .ok (.ldc2_w 58, 3) := by decide +kernel
theorem dX7_addNumber_99 : decode cX7_addNumber 99 = .ok (.lrem, 1) := by decide +kernel
theorem dX7_addNumber_100 : decode cX7_addNumber 100 = .ok (.ladd, 1) := by decide +kernel
theorem dX7_addNumber_101 : decode cX7_addNumber 101 = .ok (.l2i, 1) := by decide +kernel
theorem dX7_addNumber_102 : decode cX7_addNumber 102 = .ok (.i2b, 1) := by decide +kernel
theorem dX7_addNumber_103 : decode cX7_addNumber 103 = .ok (.bastore, 1) := by decide +kernel
theorem dX7_addNumber_104 : decode cX7_addNumber 104 = .ok (.lload_n 3, 1) := by decide +kernel
theorem dX7_addNumber_105 : decode cX7_addNumber 105 = .ok (.ldc2_w 58, 3) := by decide +kernel
theorem dX7_addNumber_108 : decode cX7_addNumber 108 = .ok (.ldiv, 1) := by decide +kernel
theorem dX7_addNumber_109 : decode cX7_addNumber 109 = .ok (.lstore_n 3, 1) := by decide +kernel
theorem dX7_addNumber_110 : decode cX7_addNumber 110 = .ok (.iinc 6 (-1), 3) := by decide +kernel
theorem dX7_addNumber_113 : decode cX7_addNumber 113 = .ok (.goto (-37), 3) := by decide +kernel
theorem dX7_addNumber_116 : decode cX7_addNumber 116 = .ok (.aload_n 0, 1) := by decide +kernel
theorem dX7_addNumber_117 : decode cX7_addNumber 117 = .ok (.dup, 1) := by decide +kernel
theorem dX7_addNumber_118 : decode cX7_addNumber 118 = .ok (.getfield 15, 3) := by decide +kernel
theorem dX7_addNumber_121 : decode cX7_addNumber 121 = .ok (.iload 5, 2) := by decide +kernel
theorem dX7_addNumber_123 : decode cX7_addNumber 123 = .ok (.iadd, 1) := by decide +kernel
theorem dX7_addNumber_124 : decode cX7_addNumber 124 = .ok (.putfield 15, 3) := by decide +kernel
theorem dX7_addNumber_127 : decode cX7_addNumber 127 = .ok (.return_, 1) := by decide +kernel
theorem fmX7_52 : q_LM RX7 52 Lib.MathLoose.abs_long.x Lib.MathLoose.abs_long.code 2 .long := ⟨q_tb 1216 (by decide +kernel) rfl, q_tb 1140 (by decide +kernel) rfl, q_tb 19 (by decide +kernel) rfl, q_tb 1141 (by decide +kernel) rfl⟩
theorem fkX7_58 : Cond.constantLong RX7 58 (10 : Int64) ∈ q_tbl := q_tb 1217 (by decide +kernel) rfl
theorem fkX7_60 : Cond.constantLong RX7 60 (48 : Int64) ∈ q_tbl := q_tb 1218 (by decide +kernel) rfl
def fX7_addNumber_L76 (n : Nat) : Nat → Nat → Int64 → Int32 → Int32 → Mm → Option (Unit × Mm)
| 0, _, _, _, _, _ => none
| j + 1, r0, v3, v5, v6, X =>
if v6 < 0 then (
if mT X r0 = 7 then
nm (sI X r0 1 ((mI X r0 1) + v5)) fun X124_6 =>
some ((), X124_6)
else none
) else (
if mT X r0 = 7 then
if mR X r0 0 ≠ 0 then
if (10 : Int64) = 0 then none else
if mT X (mR X r0 0) = 16 then
if q_b X (mR X r0 0) ((mI X r0 1) + v6) then
nm (sI X (mR X r0 0) (((mI X r0 1) + v6)).toNatClampNeg (((((((48 : Int64) + (v3 - v3 / (10 : Int64) * (10 : Int64)))).toInt32)).toInt8.toInt32)).toInt8.toInt32) fun X103_9 =>
if (10 : Int64) = 0 then none else
nm ((v3 / (10 : Int64))) fun v3_109 =>
nm (v6 + (-1 : Int32)) fun v6_110 =>
(fX7_addNumber_L76 n j) r0 v3_109 v5 v6_110 X103_9
else none
else none
else none
else none
)
def fX7_addNumber_L56 (n : Nat) (r0 : Nat) (v3 : Int64) (v5 : Int32) (X : Mm) : Option (Unit × Mm) :=
if mT X r0 = 7 then
if ((mI X r0 1) + v5) ≤ (300 : Int32) then (
nm ((v5 - (1 : Int32))) fun v6_74 =>
fX7_addNumber_L76 n n r0 v3 v5 v6_74 X
) else (
some ((), X)
)
else none
def fX7_addNumber_L27 (n : Nat) : Nat → Nat → Int64 → Int32 → Int64 → Mm → Option (Unit × Mm)
| 0, _, _, _, _, _ => none
| j + 1, r0, v3, v5, v6, X =>
if (lg_cmp v6 (0 : Int64)) ≤ 0 then (
fX7_addNumber_L56 n r0 v3 v5 X
) else (
if (300 : Int32) ≤ v5 then (
fX7_addNumber_L56 n r0 v3 v5 X
) else (
nm (v5 + (1 : Int32)) fun v5_42 =>
if (10 : Int64) = 0 then none else
nm ((v6 / (10 : Int64))) fun v6_51 =>
(fX7_addNumber_L27 n j) r0 v3 v5_42 v6_51 X
)
)
def fX7_addNumber_L12 (n : Nat) (r0 : Nat) (v1 : Int64) (X : Mm) : Option (Unit × Mm) :=
nm ((if 0 < v1 then v1 else -v1)) fun v3_16 =>
if (10 : Int64) = 0 then none else
nm ((v3_16 / (10 : Int64))) fun v6_25 =>
fX7_addNumber_L27 n n r0 v3_16 (1 : Int32) v6_25 X
def fX7_addNumber (n : Nat) (r0 : Nat) (v1 : Int64) (X : Mm) : Option (Unit × Mm) :=
if 0 ≤ (lg_cmp v1 (0 : Int64)) then (
fX7_addNumber_L12 n r0 v1 X
) else (
if mT X r0 = 7 then
bd (fX7_addByte r0 (45 : Int32) X) fun _ X9_15 =>
fX7_addNumber_L12 n r0 v1 X9_15
else none
)
theorem gX7_addNumber_L76 {E : q_E} {X0 : Mm} (C : Cx E cX7_addNumber RX7 8 none (q_rm 1 23 0 0) X0) (n : Nat) : ∀ (j : Nat) (r0 : Nat) (v3 : Int64) (v5 : Int32) (v6 : Int32) (X : Mm), Sm E (q_fin E q_eV X0 0 0) 0 0 76 [(0, .ref (q_P E + r0)), (3, .long v3), (5, .int v5), (6, .int v6)] [] X (fX7_addNumber_L76 n j r0 v3 v5 v6 X) := by
  intro j
  induction j with
  | zero => intros; exact Sm.none
  | succ j ih =>
    intro r0 v3 v5 v6 X
    rw [fX7_addNumber_L76]
    refine q_iload C 3 dX7_addNumber_76 rfl ?_
    refine q_if_lt C 116 dX7_addNumber_78 (by decide) (fun _ => ?_) (fun _ => ?_)
    · refine q_aload_n C 0 dX7_addNumber_116 rfl rfl ?_
      refine q_dup C dX7_addNumber_117 rfl ?_
      refine q_chk (fun h5 => ?_)
      refine p_getI C fgX7_15 rfl dX7_addNumber_118 h5 ?_
      refine q_iload C 2 dX7_addNumber_121 rfl ?_
      refine q_iadd C dX7_addNumber_123 ?_
      refine p_putI C fpX7_15 rfl dX7_addNumber_124 h5 ?_
      refine q_nmX (fun X124_6 => ?_)
      exact q_vret C dX7_addNumber_127
    · refine q_aload_n C 0 dX7_addNumber_81 rfl rfl ?_
      refine q_chk (fun h7 => ?_)
      refine q_chk (fun h8 => ?_)
      refine p_getR C fgX7_11 rfl dX7_addNumber_82 h7 h8 ?_
      refine q_aload_n C 0 dX7_addNumber_85 rfl rfl ?_
      refine p_getI C fgX7_15 rfl dX7_addNumber_86 h7 ?_
      refine q_iload C 3 dX7_addNumber_89 rfl ?_
      refine q_iadd C dX7_addNumber_91 ?_
      refine q_ldc2 C dX7_addNumber_92 fkX7_60 ?_
      refine q_lload_n C 1 dX7_addNumber_95 rfl rfl ?_
      refine q_ldc2 C dX7_addNumber_96 fkX7_58 ?_
      refine q_lrem C dX7_addNumber_99 ?_
      refine q_ladd C dX7_addNumber_100 ?_
      refine q_l2i C dX7_addNumber_101 ?_
      refine q_i2b C dX7_addNumber_102 ?_
      refine q_chk (fun h10 => ?_)
      refine q_chk (fun h11 => ?_)
      refine p_bast C dX7_addNumber_103 h10 h11 ?_
      refine q_nmX (fun X103_9 => ?_)
      refine q_lload_n C 1 dX7_addNumber_104 rfl rfl ?_
      refine q_ldc2 C dX7_addNumber_105 fkX7_58 ?_
      refine q_ldiv C dX7_addNumber_108 ?_
      refine q_nml (fun v3_109 => ?_)
      refine q_lstore_n C [(3, .long v3_109), (0, .ref (q_P E + r0)), (5, .int v5), (6, .int v6)] dX7_addNumber_109 rfl (Nat.le_of_ble_eq_true rfl) rfl ?_
      refine q_iincN C (-1 : Int32) 3 (fun v6_110 => [(6, .int v6_110), (3, .long v3_109), (0, .ref (q_P E + r0)), (5, .int v5)]) dX7_addNumber_110 rfl rfl (Nat.le_of_ble_eq_true rfl) (fun _ => rfl) (fun v6_110 => ?_)
      refine q_goto C 76 dX7_addNumber_113 (by decide) ?_
      refine q_sub C [(0, .ref (q_P E + r0)), (3, .long v3_109), (5, .int v5), (6, .int v6_110)] [2, 1, 3, 0] rfl ?_
      exact ih r0 v3_109 v5 v6_110 X103_9
theorem gX7_addNumber_L56 {E : q_E} {X0 : Mm} (C : Cx E cX7_addNumber RX7 8 none (q_rm 1 23 0 0) X0) (n : Nat) (r0 : Nat) (v3 : Int64) (v5 : Int32) (X : Mm) : Sm E (q_fin E q_eV X0 0 0) 0 0 56 [(0, .ref (q_P E + r0)), (3, .long v3), (5, .int v5)] [] X (fX7_addNumber_L56 n r0 v3 v5 X) := by
  unfold fX7_addNumber_L56
  refine q_aload_n C 0 dX7_addNumber_56 rfl rfl ?_
  refine q_chk (fun h3 => ?_)
  refine p_getI C fgX7_15 rfl dX7_addNumber_57 h3 ?_
  refine q_iload C 2 dX7_addNumber_60 rfl ?_
  refine q_iadd C dX7_addNumber_62 ?_
  refine q_sipush C (300 : Int32) dX7_addNumber_63 rfl ?_
  refine q_icmp_le C 70 dX7_addNumber_66 (by decide) (fun _ => ?_) (fun _ => ?_)
  · refine q_iload C 2 dX7_addNumber_70 rfl ?_
    refine q_iconst C (1 : Int32) dX7_addNumber_72 rfl ?_
    refine q_isub C dX7_addNumber_73 ?_
    refine q_nmi (fun v6_74 => ?_)
    refine q_istore C [(6, .int v6_74), (0, .ref (q_P E + r0)), (3, .long v3), (5, .int v5)] dX7_addNumber_74 (Nat.le_of_ble_eq_true rfl) rfl ?_
    refine q_sub C [(0, .ref (q_P E + r0)), (3, .long v3), (5, .int v5), (6, .int v6_74)] [1, 2, 3, 0] rfl ?_
    exact gX7_addNumber_L76 C n n r0 v3 v5 v6_74 X
  · exact q_vret C dX7_addNumber_69
theorem gX7_addNumber_L27 {E : q_E} {X0 : Mm} (C : Cx E cX7_addNumber RX7 8 none (q_rm 1 23 0 0) X0) (n : Nat) : ∀ (j : Nat) (r0 : Nat) (v3 : Int64) (v5 : Int32) (v6 : Int64) (X : Mm), Sm E (q_fin E q_eV X0 0 0) 0 0 27 [(0, .ref (q_P E + r0)), (3, .long v3), (5, .int v5), (6, .long v6)] [] X (fX7_addNumber_L27 n j r0 v3 v5 v6 X) := by
  intro j
  induction j with
  | zero => intros; exact Sm.none
  | succ j ih =>
    intro r0 v3 v5 v6 X
    rw [fX7_addNumber_L27]
    refine q_lload C 3 dX7_addNumber_27 rfl ?_
    refine q_lconst C (0 : Int64) dX7_addNumber_29 rfl ?_
    refine q_lcmp C dX7_addNumber_30 ?_
    refine q_if_le C 56 dX7_addNumber_31 (by decide) (fun _ => ?_) (fun _ => ?_)
    · refine q_sub C [(0, .ref (q_P E + r0)), (3, .long v3), (5, .int v5)] [0, 1, 2] rfl ?_
      exact gX7_addNumber_L56 C n r0 v3 v5 X
    · refine q_iload C 2 dX7_addNumber_34 rfl ?_
      refine q_sipush C (300 : Int32) dX7_addNumber_36 rfl ?_
      refine q_icmp_ge C 56 dX7_addNumber_39 (by decide) (fun _ => ?_) (fun _ => ?_)
      · refine q_sub C [(0, .ref (q_P E + r0)), (3, .long v3), (5, .int v5)] [0, 1, 2] rfl ?_
        exact gX7_addNumber_L56 C n r0 v3 v5 X
      · refine q_iincN C (1 : Int32) 2 (fun v5_42 => [(5, .int v5_42), (0, .ref (q_P E + r0)), (3, .long v3), (6, .long v6)]) dX7_addNumber_42 rfl rfl (Nat.le_of_ble_eq_true rfl) (fun _ => rfl) (fun v5_42 => ?_)
        refine q_lload C 3 dX7_addNumber_45 rfl ?_
        refine q_ldc2 C dX7_addNumber_47 fkX7_58 ?_
        refine q_ldiv C dX7_addNumber_50 ?_
        refine q_nml (fun v6_51 => ?_)
        refine q_lstore C [(6, .long v6_51), (5, .int v5_42), (0, .ref (q_P E + r0)), (3, .long v3)] dX7_addNumber_51 (Nat.le_of_ble_eq_true rfl) rfl ?_
        refine q_goto C 27 dX7_addNumber_53 (by decide) ?_
        refine q_sub C [(0, .ref (q_P E + r0)), (3, .long v3), (5, .int v5_42), (6, .long v6_51)] [2, 3, 1, 0] rfl ?_
        exact ih r0 v3 v5_42 v6_51 X
theorem gX7_addNumber_L12 {E : q_E} {X0 : Mm} (C : Cx E cX7_addNumber RX7 8 none (q_rm 1 23 0 0) X0) (n : Nat) (r0 : Nat) (v1 : Int64) (X : Mm) : Sm E (q_fin E q_eV X0 0 0) 0 0 12 [(0, .ref (q_P E + r0)), (1, .long v1)] [] X (fX7_addNumber_L12 n r0 v1 X) := by
  unfold fX7_addNumber_L12
  refine q_lload_n C 1 dX7_addNumber_12 rfl rfl ?_
  refine q_absL C fmX7_52 ⟨Nat.le_of_ble_eq_true rfl, Nat.le_of_ble_eq_true rfl, Nat.le_of_ble_eq_true rfl, Nat.le_of_ble_eq_true rfl⟩ dX7_addNumber_13 ?_
  refine q_nml (fun v3_16 => ?_)
  refine q_lstore_n C [(3, .long v3_16), (0, .ref (q_P E + r0)), (1, .long v1)] dX7_addNumber_16 rfl (Nat.le_of_ble_eq_true rfl) rfl ?_
  refine q_iconst C (1 : Int32) dX7_addNumber_17 rfl ?_
  refine q_istore C [(5, .int (1 : Int32)), (3, .long v3_16), (0, .ref (q_P E + r0)), (1, .long v1)] dX7_addNumber_18 (Nat.le_of_ble_eq_true rfl) rfl ?_
  refine q_lload_n C 1 dX7_addNumber_20 rfl rfl ?_
  refine q_ldc2 C dX7_addNumber_21 fkX7_58 ?_
  refine q_ldiv C dX7_addNumber_24 ?_
  refine q_nml (fun v6_25 => ?_)
  refine q_lstore C [(6, .long v6_25), (5, .int (1 : Int32)), (3, .long v3_16), (0, .ref (q_P E + r0)), (1, .long v1)] dX7_addNumber_25 (Nat.le_of_ble_eq_true rfl) rfl ?_
  refine q_sub C [(0, .ref (q_P E + r0)), (3, .long v3_16), (5, .int (1 : Int32)), (6, .long v6_25)] [3, 2, 1, 0] rfl ?_
  exact gX7_addNumber_L27 C n n r0 v3_16 (1 : Int32) v6_25 X
theorem sX7_addNumber (n : Nat) (r0 : Nat) (v1 : Int64) : q_Ct yX7_addNumber cX7_addNumber 8 none 1 23 0 0 q_eV (fun P => [.ref (P + r0), .long v1]) (fX7_addNumber n r0 v1) := by
  refine q_meth (by decide +kernel) (fun P => Nat.le_of_ble_eq_true rfl) (fun E X C hn => ?_)
  show Sm E (q_fin E q_eV X 0 0) 0 0 0 [(0, .ref (q_P E + r0)), (1, .long v1)] [] X _
  unfold fX7_addNumber
  refine q_lload_n C 1 dX7_addNumber_0 rfl rfl ?_
  refine q_lconst C (0 : Int64) dX7_addNumber_1 rfl ?_
  refine q_lcmp C dX7_addNumber_2 ?_
  refine q_if_ge C 12 dX7_addNumber_3 (by decide) (fun _ => ?_) (fun _ => ?_)
  · exact gX7_addNumber_L12 C n r0 v1 X
  · refine q_aload_n C 0 dX7_addNumber_6 rfl rfl ?_
    refine q_bipush C (45 : Int32) dX7_addNumber_7 rfl ?_
    refine q_chk (fun h16 => ?_)
    refine q_cVV (As := (fun P => [.int (45 : Int32)])) C [] (sX7_addByte r0 (45 : Int32)) fcX7_29 rfl (fun _ => rfl) ⟨Nat.le_of_ble_eq_true rfl, Nat.le_of_ble_eq_true rfl⟩ ⟨Nat.le_of_ble_eq_true rfl, Nat.le_of_ble_eq_true rfl⟩ (Nat.le_of_ble_eq_true rfl) dX7_addNumber_9 h16 (fun _ X9_15 => ?_)
    exact gX7_addNumber_L12 C n r0 v1 X9_15
/-! RecordClaims$Shown.tell(LRecordClaims$State;LRecordClaims$Book;I)V -/
abbrev cX7_tell : ByteArray := prog_9_method_2_code
def yX7_tell : MethodName := ⟨RX7, "tell", "(LRecordClaims$State;LRecordClaims$Book;I)V"⟩
theorem dX7_tell_0 : decode cX7_tell 0 = .ok (.aload_n 0, 1) := by decide +kernel
theorem dX7_tell_1 : decode cX7_tell 1 = .ok (.iconst 0, 1) := by decide +kernel
theorem dX7_tell_2 : decode cX7_tell 2 = .ok (.putfield 15, 3) := by decide +kernel
theorem dX7_tell_5 : decode cX7_tell 5 = .ok (.aload_n 0, 1) := by decide +kernel
theorem dX7_tell_6 : decode cX7_tell 6 = .ok (.aload_n 2, 1) := by decide +kernel
theorem dX7_tell_7 : decode cX7_tell 7 = .ok (.getfield 19, 3) := by decide +kernel
theorem dX7_tell_10 : decode cX7_tell 10 = .ok (.iload_n 3, 1) := by decide +kernel
theorem dX7_tell_11 : decode cX7_tell 11 = .ok (.iaload, 1) := by decide +kernel
theorem dX7_tell_12 : decode cX7_tell 12 = .ok (.invokevirtual 25, 3) := by decide +kernel
theorem dX7_tell_15 : decode cX7_tell 15 = .ok (.aload_n 0, 1) := by decide +kernel
theorem dX7_tell_16 : decode cX7_tell 16 = .ok (.bipush 58, 2) := by decide +kernel
theorem dX7_tell_18 : decode cX7_tell 18 = .ok (.invokevirtual 29, 3) := by decide +kernel
theorem dX7_tell_21 : decode cX7_tell 21 = .ok (.iconst 0, 1) := by decide +kernel
theorem dX7_tell_22 : decode cX7_tell 22 = .ok (.istore 4, 2) := by decide +kernel
theorem dX7_tell_24 : decode cX7_tell 24 = .ok (.iload 4, 2) := by decide +kernel
theorem dX7_tell_26 : decode cX7_tell 26 = .ok (.aload_n 1, 1) := by decide +kernel
theorem dX7_tell_27 : decode cX7_tell 27 = .ok (.getfield 32, 3) := by decide +kernel
theorem dX7_tell_30 : decode cX7_tell 30 = .ok (.if_icmp .ge 61, 3) := by decide +kernel
theorem dX7_tell_33 : decode cX7_tell 33 = .ok (.aload_n 1, 1) := by decide +kernel
theorem dX7_tell_34 : decode cX7_tell 34 = .ok (.iload_n 3, 1) := by decide +kernel
theorem dX7_tell_35 : decode cX7_tell 35 = .ok (.iload 4, 2) := by decide +kernel
theorem dX7_tell_37 : decode cX7_tell 37 = .ok (.invokevirtual 37, 3) := by decide +kernel
theorem dX7_tell_40 : decode cX7_tell 40 = .ok (.lconst 0, 1) := by decide +kernel
theorem dX7_tell_41 : decode cX7_tell 41 = .ok (.lcmp, 1) := by decide +kernel
theorem dX7_tell_42 : decode cX7_tell 42 = .ok (.ifCond .le 43, 3) := by decide +kernel
theorem dX7_tell_45 : decode cX7_tell 45 = .ok (.aload_n 0, 1) := by decide +kernel
theorem dX7_tell_46 : decode cX7_tell 46 = .ok (.bipush 32, 2) := by decide +kernel
theorem dX7_tell_48 : decode cX7_tell 48 = .ok (.invokevirtual 29, 3) := by decide +kernel
theorem dX7_tell_51 : decode cX7_tell 51 = .ok (.aload_n 0, 1) := by decide +kernel
theorem dX7_tell_52 : decode cX7_tell 52 = .ok (.aload_n 1, 1) := by decide +kernel
theorem dX7_tell_53 : decode cX7_tell 53 = .ok (.iload_n 3, 1) := by decide +kernel
theorem dX7_tell_54 : decode cX7_tell 54 = .ok (.iload 4, 2) := by decide +kernel
theorem dX7_tell_56 : decode cX7_tell 56 = .ok (.invokevirtual 37, 3) := by decide +kernel
theorem dX7_tell_59 : decode cX7_tell 59 = .ok (.invokevirtual 41, 3) := by decide +kernel
theorem dX7_tell_62 : decode cX7_tell 62 = .ok (.aload_n 0, 1) := by decide +kernel
theorem dX7_tell_63 : decode cX7_tell 63 = .ok (.bipush 32, 2) := by decide +kernel
theorem dX7_tell_65 : decode cX7_tell 65 = .ok (.invokevirtual 29, 3) := by decide +kernel
theorem dX7_tell_68 : decode cX7_tell 68 = .ok (.aload_n 0, 1) := by decide +kernel
theorem dX7_tell_69 : decode cX7_tell 69 = .ok (.aload_n 2, 1) := by decide +kernel
theorem dX7_tell_70 : decode cX7_tell 70 = .ok (.getfield 45, 3) := by decide +kernel
theorem dX7_tell_73 : decode cX7_tell 73 = .ok (.iload 4, 2) := by decide +kernel
theorem dX7_tell_75 : decode cX7_tell 75 = .ok (.iaload, 1) := by decide +kernel
theorem dX7_tell_76 : decode cX7_tell 76 = .ok (.invokevirtual 25, 3) := by decide +kernel
theorem dX7_tell_79 : decode cX7_tell 79 = .ok (.aload_n 0, 1) := by decide +kernel
theorem dX7_tell_80 : decode cX7_tell 80 = .ok (.bipush 44, 2) := by decide +kernel
theorem dX7_tell_82 : decode cX7_tell 82 = .ok (.invokevirtual 29, 3) := by decide +kernel
theorem dX7_tell_85 : decode cX7_tell 85 = .ok (.iinc 4 1, 3) := by decide +kernel
theorem dX7_tell_88 : decode cX7_tell 88 = .ok (.goto (-64), 3) := by decide +kernel
theorem dX7_tell_91 : decode cX7_tell 91 = .ok (.aload_n 0, 1) := by decide +kernel
theorem dX7_tell_92 : decode cX7_tell 92 = .ok (.bipush 32, 2) := by decide +kernel
theorem dX7_tell_94 : decode cX7_tell 94 = .ok (.invokevirtual 29, 3) := by decide +kernel
theorem dX7_tell_97 : decode cX7_tell 97 = .ok (.aload_n 0, 1) := by decide +kernel
theorem dX7_tell_98 : decode cX7_tell 98 = .ok (.aload_n 1, 1) := by decide +kernel
theorem dX7_tell_99 : decode cX7_tell 99 = .ok (.getfield 48, 3) := by decide +kernel
theorem dX7_tell_102 : decode cX7_tell 102 = .ok (.iload_n 3, 1) := by decide +kernel
theorem dX7_tell_103 : decode cX7_tell 103 = .ok (.laload, 1) := by decide +kernel
theorem dX7_tell_104 : decode cX7_tell 104 = .ok (.invokevirtual 41, 3) := by decide +kernel
theorem dX7_tell_107 : decode cX7_tell 107 = .ok (.aload_n 0, 1) := by decide +kernel
theorem dX7_tell_108 : decode cX7_tell 108 = .ok (.bipush 46, 2) := by decide +kernel
theorem dX7_tell_110 : decode cX7_tell 110 = .ok (.invokevirtual 29, 3) := by decide +kernel
theorem dX7_tell_113 : decode cX7_tell 113 = .ok (.return_, 1) := by decide +kernel
theorem fgX7_19 : q_Fg RX7 19 0 0 := q_Fg.of (C := RX0) (T := TX0) (N := 5) rfl (by decide) inX0 72 (by decide +kernel) rfl rfl
theorem fcX7_25 : q_LV RX7 25 yX7_addName cX7_addName 4 none 1 7 := ⟨q_tb 1203 (by decide +kernel) rfl, q_tb 1205 (by decide +kernel) rfl, q_tbs (q := (yX7_addName, 2)) 47 (by decide +kernel) rfl, q_tb 11 (by decide +kernel) rfl, q_tb 1206 (by decide +kernel) rfl, ⟨by decide +kernel, by decide +kernel, by decide +kernel⟩, TX7, 2, rfl⟩
theorem fgX7_32 : q_Fg RX7 32 8 7 := q_Fg.of (C := RX8) (T := TX8) (N := 9) rfl (by decide) inX8 408 (by decide +kernel) rfl rfl
theorem fgX7_48 : q_Fg RX7 48 8 1 := q_Fg.of (C := RX8) (T := TX8) (N := 9) rfl (by decide) inX8 398 (by decide +kernel) rfl rfl
theorem fcX7_41 : q_LV RX7 41 yX7_addNumber cX7_addNumber 8 none 1 7 := ⟨q_tb 1212 (by decide +kernel) rfl, q_tb 1214 (by decide +kernel) rfl, q_tbs (q := (yX7_addNumber, 2)) 49 (by decide +kernel) rfl, q_tb 11 (by decide +kernel) rfl, q_tb 1215 (by decide +kernel) rfl, ⟨by decide +kernel, by decide +kernel, by decide +kernel⟩, TX7, 2, rfl⟩
theorem fcX7_37 : q_LV RX7 37 yX8_sharesOf cX8_sharesOf 3 (some .long) 2 8 := ⟨q_tb 1211 (by decide +kernel) rfl, q_tb 846 (by decide +kernel) rfl, q_tb 847 (by decide +kernel) rfl, q_tb 5 (by decide +kernel) rfl, q_tb 848 (by decide +kernel) rfl, ⟨by decide +kernel, by decide +kernel, by decide +kernel⟩, TX8, 9, rfl⟩
theorem fgX7_45 : q_Fg RX7 45 0 1 := q_Fg.of (C := RX0) (T := TX0) (N := 5) rfl (by decide) inX0 74 (by decide +kernel) rfl rfl
def fX7_tell_L85 (n : Nat) (k24 : Nat → Nat → Nat → Int32 → Int32 → Mm → Option (Unit × Mm)) (r0 : Nat) (r1 : Nat) (r2 : Nat) (v3 : Int32) (v4 : Int32) (X : Mm) : Option (Unit × Mm) :=
nm (v4 + (1 : Int32)) fun v4_85 =>
k24 r0 r1 r2 v3 v4_85 X
def fX7_tell_L24 (n : Nat) : Nat → Nat → Nat → Nat → Int32 → Int32 → Mm → Option (Unit × Mm)
| 0, _, _, _, _, _, _ => none
| j + 1, r0, r1, r2, v3, v4, X =>
if mT X r1 = 8 then
if (mI X r1 7) ≤ v4 then (
if mT X r0 = 7 then
bd (fX7_addByte r0 (32 : Int32) X) fun _ X94_15 =>
if mT X94_15 r1 = 8 then
if mR X94_15 r1 1 ≠ 0 then
if mT X94_15 (mR X94_15 r1 1) = 15 then
if q_b X94_15 (mR X94_15 r1 1) v3 then
if mT X94_15 r0 = 7 then
bd (fX7_addNumber n r0 ((mJ X94_15 (mR X94_15 r1 1) (v3).toNatClampNeg)) X94_15) fun _ X104_22 =>
if mT X104_22 r0 = 7 then
bd (fX7_addByte r0 (46 : Int32) X104_22) fun _ X110_25 =>
some ((), X110_25)
else none
else none
else none
else none
else none
else none
else none
) else (
bd (fX8_sharesOf r1 v3 v4 X) fun w27 X37_28 =>
if (lg_cmp w27 (0 : Int64)) ≤ 0 then (
fX7_tell_L85 n (fX7_tell_L24 n j) r0 r1 r2 v3 v4 X37_28
) else (
if mT X37_28 r0 = 7 then
bd (fX7_addByte r0 (32 : Int32) X37_28) fun _ X48_30 =>
if mT X48_30 r1 = 8 then
bd (fX8_sharesOf r1 v3 v4 X48_30) fun w32 X56_33 =>
if mT X56_33 r0 = 7 then
bd (fX7_addNumber n r0 w32 X56_33) fun _ X59_36 =>
if mT X59_36 r0 = 7 then
bd (fX7_addByte r0 (32 : Int32) X59_36) fun _ X65_39 =>
if mT X65_39 r2 = 0 then
if mR X65_39 r2 1 ≠ 0 then
if mT X65_39 (mR X65_39 r2 1) = 14 then
if q_b X65_39 (mR X65_39 r2 1) v4 then
if mT X65_39 r0 = 7 then
bd (fX7_addName n r0 ((mI X65_39 (mR X65_39 r2 1) (v4).toNatClampNeg)) X65_39) fun _ X76_46 =>
if mT X76_46 r0 = 7 then
bd (fX7_addByte r0 (44 : Int32) X76_46) fun _ X82_49 =>
fX7_tell_L85 n (fX7_tell_L24 n j) r0 r1 r2 v3 v4 X82_49
else none
else none
else none
else none
else none
else none
else none
else none
else none
else none
)
)
else none
def fX7_tell (n : Nat) (r0 : Nat) (r1 : Nat) (r2 : Nat) (v3 : Int32) (X : Mm) : Option (Unit × Mm) :=
if mT X r0 = 7 then
nm (sI X r0 1 (0 : Int32)) fun X2_1 =>
if mT X2_1 r2 = 0 then
if mR X2_1 r2 0 ≠ 0 then
if mT X2_1 (mR X2_1 r2 0) = 14 then
if q_b X2_1 (mR X2_1 r2 0) v3 then
if mT X2_1 r0 = 7 then
bd (fX7_addName n r0 ((mI X2_1 (mR X2_1 r2 0) (v3).toNatClampNeg)) X2_1) fun _ X12_8 =>
if mT X12_8 r0 = 7 then
bd (fX7_addByte r0 (58 : Int32) X12_8) fun _ X18_11 =>
fX7_tell_L24 n n r0 r1 r2 v3 (0 : Int32) X18_11
else none
else none
else none
else none
else none
else none
else none
theorem gX7_tell_L85 {E : q_E} {X0 : Mm} (C : Cx E cX7_tell RX7 5 none (q_rm 2 50 0 0) X0) (n : Nat) (k24 : Nat → Nat → Nat → Int32 → Int32 → Mm → Option (Unit × Mm)) (hk24 : ∀ (r0 : Nat) (r1 : Nat) (r2 : Nat) (v3 : Int32) (v4 : Int32) (X : Mm), Sm E (q_fin E q_eV X0 0 0) 0 0 24 [(0, .ref (q_P E + r0)), (1, .ref (q_P E + r1)), (2, .ref (q_P E + r2)), (3, .int v3), (4, .int v4)] [] X (k24 r0 r1 r2 v3 v4 X)) (r0 : Nat) (r1 : Nat) (r2 : Nat) (v3 : Int32) (v4 : Int32) (X : Mm) : Sm E (q_fin E q_eV X0 0 0) 0 0 85 [(0, .ref (q_P E + r0)), (1, .ref (q_P E + r1)), (2, .ref (q_P E + r2)), (3, .int v3), (4, .int v4)] [] X (fX7_tell_L85 n k24 r0 r1 r2 v3 v4 X) := by
  unfold fX7_tell_L85
  refine q_iincN C (1 : Int32) 4 (fun v4_85 => [(4, .int v4_85), (0, .ref (q_P E + r0)), (1, .ref (q_P E + r1)), (2, .ref (q_P E + r2)), (3, .int v3)]) dX7_tell_85 rfl rfl (Nat.le_of_ble_eq_true rfl) (fun _ => rfl) (fun v4_85 => ?_)
  refine q_goto C 24 dX7_tell_88 (by decide) ?_
  refine q_sub C [(0, .ref (q_P E + r0)), (1, .ref (q_P E + r1)), (2, .ref (q_P E + r2)), (3, .int v3), (4, .int v4_85)] [1, 2, 3, 4, 0] rfl ?_
  exact hk24 r0 r1 r2 v3 v4_85 X
theorem gX7_tell_L24 {E : q_E} {X0 : Mm} (C : Cx E cX7_tell RX7 5 none (q_rm 2 50 0 0) X0) (n : Nat) : ∀ (j : Nat) (r0 : Nat) (r1 : Nat) (r2 : Nat) (v3 : Int32) (v4 : Int32) (X : Mm), Sm E (q_fin E q_eV X0 0 0) 0 0 24 [(0, .ref (q_P E + r0)), (1, .ref (q_P E + r1)), (2, .ref (q_P E + r2)), (3, .int v3), (4, .int v4)] [] X (fX7_tell_L24 n j r0 r1 r2 v3 v4 X) := by
  intro j
  induction j with
  | zero => intros; exact Sm.none
  | succ j ih =>
    intro r0 r1 r2 v3 v4 X
    rw [fX7_tell_L24]
    refine q_iload C 4 dX7_tell_24 rfl ?_
    refine q_aload_n C 1 dX7_tell_26 rfl rfl ?_
    refine q_chk (fun h13 => ?_)
    refine p_getI C fgX7_32 rfl dX7_tell_27 h13 ?_
    refine q_icmp_ge C 91 dX7_tell_30 (by decide) (fun _ => ?_) (fun _ => ?_)
    · refine q_aload_n C 0 dX7_tell_91 rfl rfl ?_
      refine q_bipush C (32 : Int32) dX7_tell_92 rfl ?_
      refine q_chk (fun h16 => ?_)
      refine q_cVV (As := (fun P => [.int (32 : Int32)])) C [] (sX7_addByte r0 (32 : Int32)) fcX7_29 rfl (fun _ => rfl) ⟨Nat.le_of_ble_eq_true rfl, Nat.le_of_ble_eq_true rfl⟩ ⟨Nat.le_of_ble_eq_true rfl, Nat.le_of_ble_eq_true rfl⟩ (Nat.le_of_ble_eq_true rfl) dX7_tell_94 h16 (fun _ X94_15 => ?_)
      refine q_aload_n C 0 dX7_tell_97 rfl rfl ?_
      refine q_aload_n C 1 dX7_tell_98 rfl rfl ?_
      refine q_chk (fun h17 => ?_)
      refine q_chk (fun h18 => ?_)
      refine p_getR C fgX7_48 rfl dX7_tell_99 h17 h18 ?_
      refine q_iload_n C 3 dX7_tell_102 rfl rfl ?_
      refine q_chk (fun h19 => ?_)
      refine q_chk (fun h20 => ?_)
      refine p_lald C dX7_tell_103 h19 h20 ?_
      refine q_chk (fun h23 => ?_)
      refine q_cVV (As := (fun P => [.long (mJ X94_15 (mR X94_15 r1 1) (v3).toNatClampNeg)])) C [] (sX7_addNumber n r0 ((mJ X94_15 (mR X94_15 r1 1) (v3).toNatClampNeg))) fcX7_41 rfl (fun _ => rfl) ⟨Nat.le_of_ble_eq_true rfl, Nat.le_of_ble_eq_true rfl⟩ ⟨Nat.le_of_ble_eq_true rfl, Nat.le_of_ble_eq_true rfl⟩ (Nat.le_of_ble_eq_true rfl) dX7_tell_104 h23 (fun _ X104_22 => ?_)
      refine q_aload_n C 0 dX7_tell_107 rfl rfl ?_
      refine q_bipush C (46 : Int32) dX7_tell_108 rfl ?_
      refine q_chk (fun h26 => ?_)
      refine q_cVV (As := (fun P => [.int (46 : Int32)])) C [] (sX7_addByte r0 (46 : Int32)) fcX7_29 rfl (fun _ => rfl) ⟨Nat.le_of_ble_eq_true rfl, Nat.le_of_ble_eq_true rfl⟩ ⟨Nat.le_of_ble_eq_true rfl, Nat.le_of_ble_eq_true rfl⟩ (Nat.le_of_ble_eq_true rfl) dX7_tell_110 h26 (fun _ X110_25 => ?_)
      exact q_vret C dX7_tell_113
    · refine q_aload_n C 1 dX7_tell_33 rfl rfl ?_
      refine q_iload_n C 3 dX7_tell_34 rfl rfl ?_
      refine q_iload C 4 dX7_tell_35 rfl ?_
      refine q_cVL (As := (fun P => [.int v3, .int v4])) C [] (sX8_sharesOf r1 v3 v4) fcX7_37 rfl (fun _ => rfl) ⟨Nat.le_of_ble_eq_true rfl, Nat.le_of_ble_eq_true rfl⟩ ⟨Nat.le_of_ble_eq_true rfl, Nat.le_of_ble_eq_true rfl⟩ (Nat.le_of_ble_eq_true rfl) dX7_tell_37 h13 (fun w27 X37_28 => ?_)
      refine q_lconst C (0 : Int64) dX7_tell_40 rfl ?_
      refine q_lcmp C dX7_tell_41 ?_
      refine q_if_le C 85 dX7_tell_42 (by decide) (fun _ => ?_) (fun _ => ?_)
      · exact gX7_tell_L85 C n (fX7_tell_L24 n j) ih r0 r1 r2 v3 v4 X37_28
      · refine q_aload_n C 0 dX7_tell_45 rfl rfl ?_
        refine q_bipush C (32 : Int32) dX7_tell_46 rfl ?_
        refine q_chk (fun h31 => ?_)
        refine q_cVV (As := (fun P => [.int (32 : Int32)])) C [] (sX7_addByte r0 (32 : Int32)) fcX7_29 rfl (fun _ => rfl) ⟨Nat.le_of_ble_eq_true rfl, Nat.le_of_ble_eq_true rfl⟩ ⟨Nat.le_of_ble_eq_true rfl, Nat.le_of_ble_eq_true rfl⟩ (Nat.le_of_ble_eq_true rfl) dX7_tell_48 h31 (fun _ X48_30 => ?_)
        refine q_aload_n C 0 dX7_tell_51 rfl rfl ?_
        refine q_aload_n C 1 dX7_tell_52 rfl rfl ?_
        refine q_iload_n C 3 dX7_tell_53 rfl rfl ?_
        refine q_iload C 4 dX7_tell_54 rfl ?_
        refine q_chk (fun h34 => ?_)
        refine q_cVL (As := (fun P => [.int v3, .int v4])) C [.ref (q_P E + r0)] (sX8_sharesOf r1 v3 v4) fcX7_37 rfl (fun _ => rfl) ⟨Nat.le_of_ble_eq_true rfl, Nat.le_of_ble_eq_true rfl⟩ ⟨Nat.le_of_ble_eq_true rfl, Nat.le_of_ble_eq_true rfl⟩ (Nat.le_of_ble_eq_true rfl) dX7_tell_56 h34 (fun w32 X56_33 => ?_)
        refine q_chk (fun h37 => ?_)
        refine q_cVV (As := (fun P => [.long w32])) C [] (sX7_addNumber n r0 w32) fcX7_41 rfl (fun _ => rfl) ⟨Nat.le_of_ble_eq_true rfl, Nat.le_of_ble_eq_true rfl⟩ ⟨Nat.le_of_ble_eq_true rfl, Nat.le_of_ble_eq_true rfl⟩ (Nat.le_of_ble_eq_true rfl) dX7_tell_59 h37 (fun _ X59_36 => ?_)
        refine q_aload_n C 0 dX7_tell_62 rfl rfl ?_
        refine q_bipush C (32 : Int32) dX7_tell_63 rfl ?_
        refine q_chk (fun h40 => ?_)
        refine q_cVV (As := (fun P => [.int (32 : Int32)])) C [] (sX7_addByte r0 (32 : Int32)) fcX7_29 rfl (fun _ => rfl) ⟨Nat.le_of_ble_eq_true rfl, Nat.le_of_ble_eq_true rfl⟩ ⟨Nat.le_of_ble_eq_true rfl, Nat.le_of_ble_eq_true rfl⟩ (Nat.le_of_ble_eq_true rfl) dX7_tell_65 h40 (fun _ X65_39 => ?_)
        refine q_aload_n C 0 dX7_tell_68 rfl rfl ?_
        refine q_aload_n C 2 dX7_tell_69 rfl rfl ?_
        refine q_chk (fun h41 => ?_)
        refine q_chk (fun h42 => ?_)
        refine p_getR C fgX7_45 rfl dX7_tell_70 h41 h42 ?_
        refine q_iload C 4 dX7_tell_73 rfl ?_
        refine q_chk (fun h43 => ?_)
        refine q_chk (fun h44 => ?_)
        refine p_iald C dX7_tell_75 h43 h44 ?_
        refine q_chk (fun h47 => ?_)
        refine q_cVV (As := (fun P => [.int (mI X65_39 (mR X65_39 r2 1) (v4).toNatClampNeg)])) C [] (sX7_addName n r0 ((mI X65_39 (mR X65_39 r2 1) (v4).toNatClampNeg))) fcX7_25 rfl (fun _ => rfl) ⟨Nat.le_of_ble_eq_true rfl, Nat.le_of_ble_eq_true rfl⟩ ⟨Nat.le_of_ble_eq_true rfl, Nat.le_of_ble_eq_true rfl⟩ (Nat.le_of_ble_eq_true rfl) dX7_tell_76 h47 (fun _ X76_46 => ?_)
        refine q_aload_n C 0 dX7_tell_79 rfl rfl ?_
        refine q_bipush C (44 : Int32) dX7_tell_80 rfl ?_
        refine q_chk (fun h50 => ?_)
        refine q_cVV (As := (fun P => [.int (44 : Int32)])) C [] (sX7_addByte r0 (44 : Int32)) fcX7_29 rfl (fun _ => rfl) ⟨Nat.le_of_ble_eq_true rfl, Nat.le_of_ble_eq_true rfl⟩ ⟨Nat.le_of_ble_eq_true rfl, Nat.le_of_ble_eq_true rfl⟩ (Nat.le_of_ble_eq_true rfl) dX7_tell_82 h50 (fun _ X82_49 => ?_)
        exact gX7_tell_L85 C n (fX7_tell_L24 n j) ih r0 r1 r2 v3 v4 X82_49
theorem sX7_tell (n : Nat) (r0 : Nat) (r1 : Nat) (r2 : Nat) (v3 : Int32) : q_Ct yX7_tell cX7_tell 5 none 2 50 0 0 q_eV (fun P => [.ref (P + r0), .ref (P + r1), .ref (P + r2), .int v3]) (fX7_tell n r0 r1 r2 v3) := by
  refine q_meth (by decide +kernel) (fun P => Nat.le_of_ble_eq_true rfl) (fun E X C hn => ?_)
  show Sm E (q_fin E q_eV X 0 0) 0 0 0 [(0, .ref (q_P E + r0)), (1, .ref (q_P E + r1)), (2, .ref (q_P E + r2)), (3, .int v3)] [] X _
  unfold fX7_tell
  refine q_aload_n C 0 dX7_tell_0 rfl rfl ?_
  refine q_iconst C (0 : Int32) dX7_tell_1 rfl ?_
  refine q_chk (fun h2 => ?_)
  refine p_putI C fpX7_15 rfl dX7_tell_2 h2 ?_
  refine q_nmX (fun X2_1 => ?_)
  refine q_aload_n C 0 dX7_tell_5 rfl rfl ?_
  refine q_aload_n C 2 dX7_tell_6 rfl rfl ?_
  refine q_chk (fun h3 => ?_)
  refine q_chk (fun h4 => ?_)
  refine p_getR C fgX7_19 rfl dX7_tell_7 h3 h4 ?_
  refine q_iload_n C 3 dX7_tell_10 rfl rfl ?_
  refine q_chk (fun h5 => ?_)
  refine q_chk (fun h6 => ?_)
  refine p_iald C dX7_tell_11 h5 h6 ?_
  refine q_chk (fun h9 => ?_)
  refine q_cVV (As := (fun P => [.int (mI X2_1 (mR X2_1 r2 0) (v3).toNatClampNeg)])) C [] (sX7_addName n r0 ((mI X2_1 (mR X2_1 r2 0) (v3).toNatClampNeg))) fcX7_25 rfl (fun _ => rfl) ⟨Nat.le_of_ble_eq_true rfl, Nat.le_of_ble_eq_true rfl⟩ ⟨Nat.le_of_ble_eq_true rfl, Nat.le_of_ble_eq_true rfl⟩ (Nat.le_of_ble_eq_true rfl) dX7_tell_12 h9 (fun _ X12_8 => ?_)
  refine q_aload_n C 0 dX7_tell_15 rfl rfl ?_
  refine q_bipush C (58 : Int32) dX7_tell_16 rfl ?_
  refine q_chk (fun h12 => ?_)
  refine q_cVV (As := (fun P => [.int (58 : Int32)])) C [] (sX7_addByte r0 (58 : Int32)) fcX7_29 rfl (fun _ => rfl) ⟨Nat.le_of_ble_eq_true rfl, Nat.le_of_ble_eq_true rfl⟩ ⟨Nat.le_of_ble_eq_true rfl, Nat.le_of_ble_eq_true rfl⟩ (Nat.le_of_ble_eq_true rfl) dX7_tell_18 h12 (fun _ X18_11 => ?_)
  refine q_iconst C (0 : Int32) dX7_tell_21 rfl ?_
  refine q_istore C [(4, .int (0 : Int32)), (0, .ref (q_P E + r0)), (1, .ref (q_P E + r1)), (2, .ref (q_P E + r2)), (3, .int v3)] dX7_tell_22 (Nat.le_of_ble_eq_true rfl) rfl ?_
  refine q_sub C [(0, .ref (q_P E + r0)), (1, .ref (q_P E + r1)), (2, .ref (q_P E + r2)), (3, .int v3), (4, .int (0 : Int32))] [1, 2, 3, 4, 0] rfl ?_
  exact gX7_tell_L24 C n n r0 r1 r2 v3 (0 : Int32) X18_11
