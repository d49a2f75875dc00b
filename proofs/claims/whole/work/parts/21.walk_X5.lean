/-! RecordClaims$Netting.<init>()V -/
abbrev cX5_init : ByteArray := prog_7_method_1_code
def yX5_init : MethodName := ⟨RX5, "<init>", "()V"⟩
theorem dX5_init_0 : decode cX5_init 0 = .ok (.aload_n 0, 1) := by decide +kernel
theorem dX5_init_1 : decode cX5_init 1 = .ok (.invokespecial 3, 3) := by decide +kernel
theorem dX5_init_4 : decode cX5_init 4 = .ok (.aload_n 0, 1) := by decide +kernel
theorem dX5_init_5 : decode cX5_init 5 = .ok (.bipush 10, 2) := by decide +kernel
theorem dX5_init_7 : decode cX5_init 7 = .ok (.newarray .long, 2) := by decide +kernel
theorem dX5_init_9 : decode cX5_init 9 = .ok (.putfield 9, 3) := by decide +kernel
theorem dX5_init_12 : decode cX5_init 12 = .ok (.return_, 1) := by decide +kernel
theorem fwX5_3_oi : Cond.methodLink RX5 3 Lib.objectInit ∈ q_tbl := q_tb 472 (by decide +kernel) rfl
theorem fpX5_9 : q_Fp RX5 9 5 0 (.array .long) true := ⟨RX5, TX5, 1, tyX5, rfl, by decide, inX5, q_tb 473 (by decide +kernel) rfl, tyX5_ok, nmX5, rfl, rfl, fun h => by first | rfl | cases h⟩
def fX5_init (r0 : Nat) (X : Mm) : Option (Unit × Mm) :=
nm (mN X + 1) fun rN2 =>
nm (q_nw X 15 10) fun X7_1 =>
if mT X7_1 r0 = 5 then
if rN2 ≠ 0 then
nm (sR X7_1 r0 0 rN2) fun X9_3 =>
some ((), X9_3)
else none
else none
theorem sX5_init (r0 : Nat) : q_Ct yX5_init cX5_init 1 none 1 20 1 10 q_eV (fun P => [.ref (P + r0)]) (fX5_init r0) := by
  refine q_meth (by decide +kernel) (fun P => Nat.le_of_ble_eq_true rfl) (fun E X C hn => ?_)
  show Sm E (q_fin E q_eV X 1 10) 0 0 0 [(0, .ref (q_P E + r0))] [] X _
  unfold fX5_init
  refine q_aload_n C 0 dX5_init_0 rfl rfl ?_
  refine q_objInit C fwX5_3_oi fw_oi2 fw_oi3 ⟨Nat.le_of_ble_eq_true rfl, Nat.le_of_ble_eq_true rfl⟩ dX5_init_1 ?_
  refine q_aload_n C 0 dX5_init_4 rfl rfl ?_
  refine q_bipush C (10 : Int32) dX5_init_5 rfl ?_
  refine q_newa (atype := .long) (ty := .long) (tg := 15) (N := 10) C rfl falong (Or.inr (Or.inl ⟨rfl, rfl⟩)) (by decide) rfl (Nat.le_of_ble_eq_true rfl) ⟨Nat.le_of_ble_eq_true rfl, Nat.le_of_ble_eq_true rfl⟩ dX5_init_7 ?_
  refine q_nmr (fun rN2 => ?_)
  refine q_nmX (fun X7_1 => ?_)
  refine q_chk (fun h4 => ?_)
  refine q_chk (fun h5 => ?_)
  refine p_putF C fpX5_9 hn (fun _ => rfl) (fun _ => rfl) rfl dX5_init_9 h4 h5 ?_
  refine q_nmX (fun X9_3 => ?_)
  exact q_vret C dX5_init_12
/-! RecordClaims$Netting.firstOwed()I -/
abbrev cX5_firstOwed : ByteArray := prog_7_method_4_code
def yX5_firstOwed : MethodName := ⟨RX5, "firstOwed", "()I"⟩
theorem dX5_firstOwed_0 : decode cX5_firstOwed 0 = .ok (.iconst 0, 1) := by decide +kernel
theorem dX5_firstOwed_1 : decode cX5_firstOwed 1 = .ok (.istore_n 1, 1) := by decide +kernel
theorem dX5_firstOwed_2 : decode cX5_firstOwed 2 = .ok (.iload_n 1, 1) := by decide +kernel
theorem dX5_firstOwed_3 : decode cX5_firstOwed 3 = .ok (.bipush 10, 2) := by decide +kernel
theorem dX5_firstOwed_5 : decode cX5_firstOwed 5 = .ok (.if_icmp .ge 22, 3) := by decide +kernel
theorem dX5_firstOwed_8 : decode cX5_firstOwed 8 = .ok (.aload_n 0, 1) := by decide +kernel
theorem dX5_firstOwed_9 : decode cX5_firstOwed 9 = .ok (.getfield 9, 3) := by decide +kernel
theorem dX5_firstOwed_12 : decode cX5_firstOwed 12 = .ok (.iload_n 1, 1) := by decide +kernel
theorem dX5_firstOwed_13 : decode cX5_firstOwed 13 = .ok (.laload, 1) := by decide +kernel
theorem dX5_firstOwed_14 : decode cX5_firstOwed 14 = .ok (.lconst 0, 1) := by decide +kernel
theorem dX5_firstOwed_15 : decode cX5_firstOwed 15 = .ok (.lcmp, 1) := by decide +kernel
theorem dX5_firstOwed_16 : decode cX5_firstOwed 16 = .ok (.ifCond .le 5, 3) := by decide +kernel
theorem dX5_firstOwed_19 : decode cX5_firstOwed 19 = .ok (.iload_n 1, 1) := by decide +kernel
theorem dX5_firstOwed_20 : decode cX5_firstOwed 20 = .ok (.ireturn, 1) := by decide +kernel
theorem dX5_firstOwed_21 : decode cX5_firstOwed 21 = .ok (.iinc 1 1, 3) := by decide +kernel
theorem dX5_firstOwed_24 : decode cX5_firstOwed 24 = .ok (.goto (-22), 3) := by decide +kernel
theorem dX5_firstOwed_27 : decode cX5_firstOwed 27 = .ok (.iconst (-1), 1) := by decide +kernel
theorem dX5_firstOwed_28 : decode cX5_firstOwed 28 = .ok (.ireturn, 1) := by decide +kernel
theorem fgX5_9 : q_Fg RX5 9 5 0 := q_Fg.of (C := RX5) (T := TX5) (N := 1) rfl (by decide) inX5 473 (by decide +kernel) rfl rfl
def fX5_firstOwed_L2 (n : Nat) : Nat → Nat → Int32 → Mm → Option (Int32 × Mm)
| 0, _, _, _ => none
| j + 1, r0, v1, X =>
if (10 : Int32) ≤ v1 then (
some ((-1 : Int32), X)
) else (
if mT X r0 = 5 then
if mR X r0 0 ≠ 0 then
if mT X (mR X r0 0) = 15 then
if q_b X (mR X r0 0) v1 then
if (lg_cmp (mJ X (mR X r0 0) (v1).toNatClampNeg) (0 : Int64)) ≤ 0 then (
nm (v1 + (1 : Int32)) fun v1_21 =>
(fX5_firstOwed_L2 n j) r0 v1_21 X
) else (
some (v1, X)
)
else none
else none
else none
else none
)
def fX5_firstOwed (n : Nat) (r0 : Nat) (X : Mm) : Option (Int32 × Mm) :=
fX5_firstOwed_L2 n n r0 (0 : Int32) X
theorem gX5_firstOwed_L2 {E : q_E} {X0 : Mm} (C : Cx E cX5_firstOwed RX5 2 (some .int) (q_rm 0 0 0 0) X0) (n : Nat) : ∀ (j : Nat) (r0 : Nat) (v1 : Int32) (X : Mm), Sm E (q_fin E q_eI X0 0 0) 0 0 2 [(0, .ref (q_P E + r0)), (1, .int v1)] [] X (fX5_firstOwed_L2 n j r0 v1 X) := by
  intro j
  induction j with
  | zero => intros; exact Sm.none
  | succ j ih =>
    intro r0 v1 X
    rw [fX5_firstOwed_L2]
    refine q_iload_n C 1 dX5_firstOwed_2 rfl rfl ?_
    refine q_bipush C (10 : Int32) dX5_firstOwed_3 rfl ?_
    refine q_icmp_ge C 27 dX5_firstOwed_5 (by decide) (fun _ => ?_) (fun _ => ?_)
    · refine q_iconst C (-1 : Int32) dX5_firstOwed_27 rfl ?_
      exact q_iret C dX5_firstOwed_28
    · refine q_aload_n C 0 dX5_firstOwed_8 rfl rfl ?_
      refine q_chk (fun h1 => ?_)
      refine q_chk (fun h2 => ?_)
      refine p_getR C fgX5_9 rfl dX5_firstOwed_9 h1 h2 ?_
      refine q_iload_n C 1 dX5_firstOwed_12 rfl rfl ?_
      refine q_chk (fun h3 => ?_)
      refine q_chk (fun h4 => ?_)
      refine p_lald C dX5_firstOwed_13 h3 h4 ?_
      refine q_lconst C (0 : Int64) dX5_firstOwed_14 rfl ?_
      refine q_lcmp C dX5_firstOwed_15 ?_
      refine q_if_le C 21 dX5_firstOwed_16 (by decide) (fun _ => ?_) (fun _ => ?_)
      · refine q_iincN C (1 : Int32) 1 (fun v1_21 => [(1, .int v1_21), (0, .ref (q_P E + r0))]) dX5_firstOwed_21 rfl rfl (Nat.le_of_ble_eq_true rfl) (fun _ => rfl) (fun v1_21 => ?_)
        refine q_goto C 2 dX5_firstOwed_24 (by decide) ?_
        refine q_sub C [(0, .ref (q_P E + r0)), (1, .int v1_21)] [1, 0] rfl ?_
        exact ih r0 v1_21 X
      · refine q_iload_n C 1 dX5_firstOwed_19 rfl rfl ?_
        exact q_iret C dX5_firstOwed_20
theorem sX5_firstOwed (n : Nat) (r0 : Nat) : q_Ct yX5_firstOwed cX5_firstOwed 2 (some .int) 0 0 0 0 q_eI (fun P => [.ref (P + r0)]) (fX5_firstOwed n r0) := by
  refine q_meth (by decide +kernel) (fun P => Nat.le_of_ble_eq_true rfl) (fun E X C hn => ?_)
  show Sm E (q_fin E q_eI X 0 0) 0 0 0 [(0, .ref (q_P E + r0))] [] X _
  unfold fX5_firstOwed
  refine q_iconst C (0 : Int32) dX5_firstOwed_0 rfl ?_
  refine q_istore_n C [(1, .int (0 : Int32)), (0, .ref (q_P E + r0))] dX5_firstOwed_1 rfl (Nat.le_of_ble_eq_true rfl) rfl ?_
  refine q_sub C [(0, .ref (q_P E + r0)), (1, .int (0 : Int32))] [1, 0] rfl ?_
  exact gX5_firstOwed_L2 C n n r0 (0 : Int32) X
/-! RecordClaims$Netting.firstOwing()I -/
abbrev cX5_firstOwing : ByteArray := prog_7_method_5_code
def yX5_firstOwing : MethodName := ⟨RX5, "firstOwing", "()I"⟩
theorem dX5_firstOwing_0 : decode cX5_firstOwing 0 = .ok (.iconst 0, 1) := by decide +kernel
theorem dX5_firstOwing_1 : decode cX5_firstOwing 1 = .ok (.istore_n 1, 1) := by decide +kernel
theorem dX5_firstOwing_2 : decode cX5_firstOwing 2 = .ok (.iload_n 1, 1) := by decide +kernel
theorem dX5_firstOwing_3 : decode cX5_firstOwing 3 = .ok (.bipush 10, 2) := by decide +kernel
theorem dX5_firstOwing_5 : decode cX5_firstOwing 5 = .ok (.if_icmp .ge 22, 3) := by decide +kernel
theorem dX5_firstOwing_8 : decode cX5_firstOwing 8 = .ok (.aload_n 0, 1) := by decide +kernel
theorem dX5_firstOwing_9 : decode cX5_firstOwing 9 = .ok (.getfield 9, 3) := by decide +kernel
theorem dX5_firstOwing_12 : decode cX5_firstOwing 12 = .ok (.iload_n 1, 1) := by decide +kernel
theorem dX5_firstOwing_13 : decode cX5_firstOwing 13 = .ok (.laload, 1) := by decide +kernel
theorem dX5_firstOwing_14 : decode cX5_firstOwing 14 = .ok (.lconst 0, 1) := by decide +kernel
theorem dX5_firstOwing_15 : decode cX5_firstOwing 15 = .ok (.lcmp, 1) := by decide +kernel
theorem dX5_firstOwing_16 : decode cX5_firstOwing 16 = .ok (.ifCond .ge 5, 3) := by decide +kernel
theorem dX5_firstOwing_19 : decode cX5_firstOwing 19 = .ok (.iload_n 1, 1) := by decide +kernel
theorem dX5_firstOwing_20 : decode cX5_firstOwing 20 = .ok (.ireturn, 1) := by decide +kernel
theorem dX5_firstOwing_21 : decode cX5_firstOwing 21 = .ok (.iinc 1 1, 3) := by decide +kernel
theorem dX5_firstOwing_24 : decode cX5_firstOwing 24 = .ok (.goto (-22), 3) := by decide +kernel
theorem dX5_firstOwing_27 : decode cX5_firstOwing 27 = .ok (.iconst (-1), 1) := by decide +kernel
theorem dX5_firstOwing_28 : decode cX5_firstOwing 28 = .ok (.ireturn, 1) := by decide +kernel
def fX5_firstOwing_L2 (n : Nat) : Nat → Nat → Int32 → Mm → Option (Int32 × Mm)
| 0, _, _, _ => none
| j + 1, r0, v1, X =>
if (10 : Int32) ≤ v1 then (
some ((-1 : Int32), X)
) else (
if mT X r0 = 5 then
if mR X r0 0 ≠ 0 then
if mT X (mR X r0 0) = 15 then
if q_b X (mR X r0 0) v1 then
if 0 ≤ (lg_cmp (mJ X (mR X r0 0) (v1).toNatClampNeg) (0 : Int64)) then (
nm (v1 + (1 : Int32)) fun v1_21 =>
(fX5_firstOwing_L2 n j) r0 v1_21 X
) else (
some (v1, X)
)
else none
else none
else none
else none
)
def fX5_firstOwing (n : Nat) (r0 : Nat) (X : Mm) : Option (Int32 × Mm) :=
fX5_firstOwing_L2 n n r0 (0 : Int32) X
theorem gX5_firstOwing_L2 {E : q_E} {X0 : Mm} (C : Cx E cX5_firstOwing RX5 2 (some .int) (q_rm 0 0 0 0) X0) (n : Nat) : ∀ (j : Nat) (r0 : Nat) (v1 : Int32) (X : Mm), Sm E (q_fin E q_eI X0 0 0) 0 0 2 [(0, .ref (q_P E + r0)), (1, .int v1)] [] X (fX5_firstOwing_L2 n j r0 v1 X) := by
  intro j
  induction j with
  | zero => intros; exact Sm.none
  | succ j ih =>
    intro r0 v1 X
    rw [fX5_firstOwing_L2]
    refine q_iload_n C 1 dX5_firstOwing_2 rfl rfl ?_
    refine q_bipush C (10 : Int32) dX5_firstOwing_3 rfl ?_
    refine q_icmp_ge C 27 dX5_firstOwing_5 (by decide) (fun _ => ?_) (fun _ => ?_)
    · refine q_iconst C (-1 : Int32) dX5_firstOwing_27 rfl ?_
      exact q_iret C dX5_firstOwing_28
    · refine q_aload_n C 0 dX5_firstOwing_8 rfl rfl ?_
      refine q_chk (fun h1 => ?_)
      refine q_chk (fun h2 => ?_)
      refine p_getR C fgX5_9 rfl dX5_firstOwing_9 h1 h2 ?_
      refine q_iload_n C 1 dX5_firstOwing_12 rfl rfl ?_
      refine q_chk (fun h3 => ?_)
      refine q_chk (fun h4 => ?_)
      refine p_lald C dX5_firstOwing_13 h3 h4 ?_
      refine q_lconst C (0 : Int64) dX5_firstOwing_14 rfl ?_
      refine q_lcmp C dX5_firstOwing_15 ?_
      refine q_if_ge C 21 dX5_firstOwing_16 (by decide) (fun _ => ?_) (fun _ => ?_)
      · refine q_iincN C (1 : Int32) 1 (fun v1_21 => [(1, .int v1_21), (0, .ref (q_P E + r0))]) dX5_firstOwing_21 rfl rfl (Nat.le_of_ble_eq_true rfl) (fun _ => rfl) (fun v1_21 => ?_)
        refine q_goto C 2 dX5_firstOwing_24 (by decide) ?_
        refine q_sub C [(0, .ref (q_P E + r0)), (1, .int v1_21)] [1, 0] rfl ?_
        exact ih r0 v1_21 X
      · refine q_iload_n C 1 dX5_firstOwing_19 rfl rfl ?_
        exact q_iret C dX5_firstOwing_20
theorem sX5_firstOwing (n : Nat) (r0 : Nat) : q_Ct yX5_firstOwing cX5_firstOwing 2 (some .int) 0 0 0 0 q_eI (fun P => [.ref (P + r0)]) (fX5_firstOwing n r0) := by
  refine q_meth (by decide +kernel) (fun P => Nat.le_of_ble_eq_true rfl) (fun E X C hn => ?_)
  show Sm E (q_fin E q_eI X 0 0) 0 0 0 [(0, .ref (q_P E + r0))] [] X _
  unfold fX5_firstOwing
  refine q_iconst C (0 : Int32) dX5_firstOwing_0 rfl ?_
  refine q_istore_n C [(1, .int (0 : Int32)), (0, .ref (q_P E + r0))] dX5_firstOwing_1 rfl (Nat.le_of_ble_eq_true rfl) rfl ?_
  refine q_sub C [(0, .ref (q_P E + r0)), (1, .int (0 : Int32))] [1, 0] rfl ?_
  exact gX5_firstOwing_L2 C n n r0 (0 : Int32) X
/-! RecordClaims$Netting.partOf(IIJI)J -/
abbrev cX5_partOf : ByteArray := prog_7_method_3_code
def yX5_partOf : MethodName := ⟨RX5, "partOf", "(IIJI)J"⟩
theorem dX5_partOf_0 : decode cX5_partOf 0 = .ok (.iload 4, 2) := by decide +kernel
theorem dX5_partOf_2 : decode cX5_partOf 2 = .ok (.tableswitch 34 0 2 #[26, 29, 32], 26) := by decide +kernel
theorem dX5_partOf_28 : decode cX5_partOf 28 = .ok (.iload_n 0, 1) := by decide +kernel
theorem dX5_partOf_29 : decode cX5_partOf 29 = .ok (.i2l, 1) := by decide +kernel
theorem dX5_partOf_30 : decode cX5_partOf 30 = .ok (.lreturn, 1) := by decide +kernel
theorem dX5_partOf_31 : decode cX5_partOf 31 = .ok (.iload_n 1, 1) := by decide +kernel
theorem dX5_partOf_32 : decode cX5_partOf 32 = .ok (.i2l, 1) := by decide +kernel
theorem dX5_partOf_33 : decode cX5_partOf 33 = .ok (.lreturn, 1) := by decide +kernel
theorem dX5_partOf_34 : decode cX5_partOf 34 = .ok (.lload_n 2, 1) := by decide +kernel
theorem dX5_partOf_35 : decode cX5_partOf 35 = .ok (.lreturn, 1) := by decide +kernel
theorem dX5_partOf_36 : decode cX5_partOf 36 = .ok (.ldc2_w 41, 3) := by decide +kernel
theorem dX5_partOf_39 : decode cX5_partOf 39 = .ok (.lreturn, 1) := by decide +kernel
theorem fkX5_41 : Cond.constantLong RX5 41 (-1 : Int64) ∈ q_tbl := q_tb 1126 (by decide +kernel) rfl
def fX5_partOf (v0 : Int32) (v1 : Int32) (v2 : Int64) (v4 : Int32) (X : Mm) : Option (Int64 × Mm) :=
if v4 = (0 : Int32) then (
some (((v0).toInt64), X)
) else (
if v4 = (1 : Int32) then (
some (((v1).toInt64), X)
) else (
if v4 = (2 : Int32) then (
some (v2, X)
) else (
some ((-1 : Int64), X)
)
)
)
theorem sX5_partOf (v0 : Int32) (v1 : Int32) (v2 : Int64) (v4 : Int32) : q_Ct yX5_partOf cX5_partOf 5 (some .long) 0 0 0 0 q_eL (fun P => [.int v0, .int v1, .long v2, .int v4]) (fX5_partOf v0 v1 v2 v4) := by
  refine q_meth (by decide +kernel) (fun P => Nat.le_of_ble_eq_true rfl) (fun E X C hn => ?_)
  show Sm E (q_fin E q_eL X 0 0) 0 0 0 [(0, .int v0), (1, .int v1), (2, .long v2), (4, .int v4)] [] X _
  unfold fX5_partOf
  refine q_iload C 3 dX5_partOf_0 rfl ?_
  refine q_ite (fun e0 => ?_) (fun e0 => ?_)
  · refine q_tabIn C (v := 0) 28 dX5_partOf_2 (by rw [e0]; rfl) (by decide) (by decide) rfl (by decide) ?_
    refine q_iload_n C 0 dX5_partOf_28 rfl rfl ?_
    refine q_i2l C dX5_partOf_29 ?_
    exact q_lret C dX5_partOf_30
  · refine q_ite (fun e1 => ?_) (fun e1 => ?_)
    · refine q_tabIn C (v := 1) 31 dX5_partOf_2 (by rw [e1]; rfl) (by decide) (by decide) rfl (by decide) ?_
      refine q_iload_n C 1 dX5_partOf_31 rfl rfl ?_
      refine q_i2l C dX5_partOf_32 ?_
      exact q_lret C dX5_partOf_33
    · refine q_ite (fun e2 => ?_) (fun e2 => ?_)
      · refine q_tabIn C (v := 2) 34 dX5_partOf_2 (by rw [e2]; rfl) (by decide) (by decide) rfl (by decide) ?_
        refine q_lload_n C 2 dX5_partOf_34 rfl rfl ?_
        exact q_lret C dX5_partOf_35
      · have n0 := q_ne e0 (i := 0) rfl
        have n1 := q_ne e1 (i := 1) rfl
        have n2 := q_ne e2 (i := 2) rfl
        refine q_tabOut C 36 dX5_partOf_2 (by omega) (by decide) ?_
        refine q_ldc2 C dX5_partOf_36 fkX5_41 ?_
        exact q_lret C dX5_partOf_39
/-! RecordClaims$Netting.answer(LRecordClaims$State;III)J -/
abbrev cX5_answer : ByteArray := prog_7_method_2_code
def yX5_answer : MethodName := ⟨RX5, "answer", "(LRecordClaims$State;III)J"⟩
theorem dX5_answer_0 : decode cX5_answer 0 = .ok (.iconst 0, 1) := by decide +kernel
theorem dX5_answer_1 : decode cX5_answer 1 = .ok (.istore 5, 2) := by decide +kernel
theorem dX5_answer_3 : decode cX5_answer 3 = .ok (.iload 5, 2) := by decide +kernel
theorem dX5_answer_5 : decode cX5_answer 5 = .ok (.bipush 10, 2) := by decide +kernel
theorem dX5_answer_7 : decode cX5_answer 7 = .ok (.if_icmp .ge 31, 3) := by decide +kernel
theorem dX5_answer_10 : decode cX5_answer 10 = .ok (.aload_n 0, 1) := by decide +kernel
theorem dX5_answer_11 : decode cX5_answer 11 = .ok (.getfield 9, 3) := by decide +kernel
theorem dX5_answer_14 : decode cX5_answer 14 = .ok (.iload 5, 2) := by decide +kernel
theorem dX5_answer_16 : decode cX5_answer 16 = .ok (.aload_n 1, 1) := by decide +kernel
theorem dX5_answer_17 : decode cX5_answer 17 = .ok (.iload_n 2, 1) := by decide +kernel
theorem dX5_answer_18 : decode cX5_answer 18 = .ok (.iload 5, 2) := by decide +kernel
theorem dX5_answer_20 : decode cX5_answer 20 = .ok (.invokevirtual 15, 3) := by decide +kernel
theorem dX5_answer_23 : decode cX5_answer 23 = .ok (.aload_n 1, 1) := by decide +kernel
theorem dX5_answer_24 : decode cX5_answer 24 = .ok (.iload_n 2, 1) := by decide +kernel
theorem dX5_answer_25 : decode cX5_answer 25 = .ok (.iload 5, 2) := by decide +kernel
theorem dX5_answer_27 : decode cX5_answer 27 = .ok (.invokevirtual 21, 3) := by decide +kernel
theorem dX5_answer_30 : decode cX5_answer 30 = .ok (.lsub, 1) := by decide +kernel
theorem dX5_answer_31 : decode cX5_answer 31 = .ok (.lastore, 1) := by decide +kernel
theorem dX5_answer_32 : decode cX5_answer 32 = .ok (.iinc 5 1, 3) := by decide +kernel
theorem dX5_answer_35 : decode cX5_answer 35 = .ok (.goto (-32), 3) := by decide +kernel
theorem dX5_answer_38 : decode cX5_answer 38 = .ok (.iconst 0, 1) := by decide +kernel
theorem dX5_answer_39 : decode cX5_answer 39 = .ok (.istore 5, 2) := by decide +kernel
theorem dX5_answer_41 : decode cX5_answer 41 = .ok (.aload_n 0, 1) := by decide +kernel
theorem dX5_answer_42 : decode cX5_answer 42 = .ok (.invokevirtual 24, 3) := by decide +kernel
theorem dX5_answer_45 : decode cX5_answer 45 = .ok (.istore 6, 2) := by decide +kernel
theorem dX5_answer_47 : decode cX5_answer 47 = .ok (.aload_n 0, 1) := by decide +kernel
theorem dX5_answer_48 : decode cX5_answer 48 = .ok (.invokevirtual 28, 3) := by decide +kernel
theorem dX5_answer_51 : decode cX5_answer 51 = .ok (.istore 7, 2) := by decide +kernel
theorem dX5_answer_53 : decode cX5_answer 53 = .ok (.iload 6, 2) := by decide +kernel
theorem dX5_answer_55 : decode cX5_answer 55 = .ok (.iconst (-1), 1) := by decide +kernel
theorem dX5_answer_56 : decode cX5_answer 56 = .ok (.if_icmp .eq 96, 3) := by decide +kernel
theorem dX5_answer_59 : decode cX5_answer 59 = .ok (.iload 7, 2) := by decide +kernel
theorem dX5_answer_61 : decode cX5_answer 61 = .ok (.iconst (-1), 1) := by decide +kernel
theorem dX5_answer_62 : decode cX5_answer 62 = .ok (.if_icmp .eq 90, 3) := by decide +kernel
theorem dX5_answer_65 : decode cX5_answer 65 = .ok (.iload 5, 2) := by decide +kernel
theorem dX5_answer_67 : decode cX5_answer 67 = .ok (.bipush 20, 2) := by decide +kernel
theorem dX5_answer_69 : decode cX5_answer 69 = .ok (.if_icmp .ge 83, 3) := by decide +kernel
theorem dX5_answer_72 : decode cX5_answer 72 = .ok (.aload_n 0, 1) := by decide +kernel
theorem dX5_answer_73 : decode cX5_answer 73 = .ok (.getfield 9, 3) := by decide +kernel
theorem dX5_answer_76 : decode cX5_answer 76 = .ok (.iload 6, 2) := by decide +kernel
theorem dX5_answer_78 : decode cX5_answer 78 = .ok (.laload, 1) := by decide +kernel
theorem dX5_answer_79 : decode cX5_answer 79 = .ok (.aload_n 0, 1) := by decide +kernel
theorem dX5_answer_80 : decode cX5_answer 80 = .ok (.getfield 9, 3) := by decide +kernel
theorem dX5_answer_83 : decode cX5_answer 83 = .ok (.iload 7, 2) := by decide +kernel
theorem dX5_answer_85 : decode cX5_answer 85 = .ok (.laload, 1) := by decide +kernel
theorem dX5_answer_86 : decode cX5_answer 86 = .ok (.lneg, 1) := by decide +kernel
theorem dX5_answer_87 : decode cX5_answer 87 = .ok (.invokestatic 31, 3) := by decide +kernel
theorem dX5_answer_90 : decode cX5_answer 90 = .ok (.lstore 8, 2) := by decide +kernel
theorem dX5_answer_92 : decode cX5_answer 92 = .ok (.iload 5, 2) := by decide +kernel
theorem dX5_answer_94 : decode cX5_answer 94 = .ok (.iload_n 3, 1) := by decide +kernel
theorem dX5_answer_95 : decode cX5_answer 95 = .ok (.if_icmp .ne 15, 3) := by decide +kernel
theorem dX5_answer_98 : decode cX5_answer 98 = .ok (.iload 7, 2) := by decide +kernel
theorem dX5_answer_100 : decode cX5_answer 100 = .ok (.iload 6, 2) := by decide +kernel
theorem dX5_answer_102 : decode cX5_answer 102 = .ok (.lload 8, 2) := by decide +kernel
theorem dX5_answer_104 : decode cX5_answer 104 = .ok (.iload 4, 2) := by decide +kernel
theorem dX5_answer_106 : decode cX5_answer 106 = .ok (.invokestatic 37, 3) := by decide +kernel
theorem dX5_answer_109 : decode cX5_answer 109 = .ok (.lreturn, 1) := by decide +kernel
theorem dX5_answer_110 : decode cX5_answer 110 = .ok (.aload_n 0, 1) := by decide +kernel
theorem dX5_answer_111 : decode cX5_answer 111 = .ok (.getfield 9, 3) := by decide +kernel
theorem dX5_answer_114 : decode cX5_answer 114 = .ok (.iload 6, 2) := by decide +kernel
theorem dX5_answer_116 : decode cX5_answer 116 = .ok (.dup2, 1) := by decide +kernel
theorem dX5_answer_117 : decode cX5_answer 117 = .ok (.laload, 1) := by decide +kernel
theorem dX5_answer_118 : decode cX5_answer 118 = .ok (.lload 8, 2) := by decide +kernel
theorem dX5_answer_120 : decode cX5_answer 120 = .ok (.lsub, 1) := by decide +kernel
theorem dX5_answer_121 : decode cX5_answer 121 = .ok (.lastore, 1) := by decide +kernel
theorem dX5_answer_122 : decode cX5_answer 122 = .ok (.aload_n 0, 1) := by decide +kernel
theorem dX5_answer_123 : decode cX5_answer 123 = .ok (.getfield 9, 3) := by decide +kernel
theorem dX5_answer_126 : decode cX5_answer 126 = .ok (.iload 7, 2) := by decide +kernel
theorem dX5_answer_128 : decode cX5_answer 128 = .ok (.dup2, 1) := by decide +kernel
theorem dX5_answer_129 : decode cX5_answer 129 = .ok (.laload, 1) := by decide +kernel
theorem dX5_answer_130 : decode cX5_answer 130 = .ok (.lload 8, 2) := by decide +kernel
theorem dX5_answer_132 : decode cX5_answer 132 = .ok (.ladd, 1) := by decide +kernel
theorem dX5_answer_133 : decode cX5_answer 133 = .ok (.lastore, 1) := by decide +kernel
theorem dX5_answer_134 : decode cX5_answer 134 = .ok (.iinc 5 1, 3) := by decide +kernel
theorem dX5_answer_137 : decode cX5_answer 137 = .ok (.aload_n 0, 1) := by decide +kernel
theorem dX5_answer_138 : decode cX5_answer 138 = .ok (.invokevirtual 24, 3) := by decide +kernel
theorem dX5_answer_141 : decode cX5_answer 141 = .ok (.istore 6, 2) := by decide +kernel
theorem dX5_answer_143 : decode cX5_answer 143 = .ok (.aload_n 0, 1) := by decide +kernel
theorem dX5_answer_144 : decode cX5_answer 144 = .ok (.invokevirtual 28, 3) := by decide +kernel
theorem dX5_answer_147 : decode cX5_answer 147 = .ok (.istore 7, 2) := by decide +kernel
theorem dX5_answer_149 : decode cX5_answer 149 = .ok (.goto (-96), 3) := by decide +kernel
theorem dX5_answer_152 : decode cX5_answer 152 = .ok (.iload_n 3, 1) := by decide +kernel
theorem dX5_answer_153 : decode cX5_answer 153 = .ok (.iconst (-1), 1) := by decide +kernel
theorem dX5_answer_154 : decode cX5_answer 154 = .ok (.if_icmp .ne 9, 3) := by decide +kernel
theorem dX5_answer_157 : decode cX5_answer 157 = .ok (.iload 5, 2) := by decide +kernel
theorem dX5_answer_159 : decode cX5_answer 159 = .ok (.i2l, 1) := by decide +kernel
theorem dX5_answer_160 : decode cX5_answer 160 = .ok (.goto 6, 3) := by decide +kernel
theorem dX5_answer_163 : decode cX5_answer 163 = .ok (.ldc2_w 41, 3) := by decide +kernel
theorem dX5_answer_166 : decode cX5_answer 166 = .ok (.lreturn, 1) := by decide +kernel
theorem fcX5_24 : q_LV RX5 24 yX5_firstOwed cX5_firstOwed 2 (some .int) 0 5 := ⟨q_tb 1114 (by decide +kernel) rfl, q_tb 1116 (by decide +kernel) rfl, q_tbs (q := (yX5_firstOwed, 1)) 44 (by decide +kernel) rfl, q_tb 12 (by decide +kernel) rfl, q_tb 1117 (by decide +kernel) rfl, ⟨by decide +kernel, by decide +kernel, by decide +kernel⟩, TX5, 1, rfl⟩
theorem fcX5_28 : q_LV RX5 28 yX5_firstOwing cX5_firstOwing 2 (some .int) 0 5 := ⟨q_tb 1118 (by decide +kernel) rfl, q_tb 1120 (by decide +kernel) rfl, q_tbs (q := (yX5_firstOwing, 1)) 45 (by decide +kernel) rfl, q_tb 12 (by decide +kernel) rfl, q_tb 1121 (by decide +kernel) rfl, ⟨by decide +kernel, by decide +kernel, by decide +kernel⟩, TX5, 1, rfl⟩
theorem fmX5_31 : q_LM RX5 31 Lib.MathLoose.min_long.x Lib.MathLoose.min_long.code 4 .long := ⟨q_tb 1122 (by decide +kernel) rfl, q_tb 933 (by decide +kernel) rfl, q_tb 19 (by decide +kernel) rfl, q_tb 934 (by decide +kernel) rfl⟩
theorem fcX5_37 : q_LS RX5 37 yX5_partOf cX5_partOf 5 (some .long) 4 := ⟨q_tb 1123 (by decide +kernel) rfl, q_tb 1124 (by decide +kernel) rfl, q_tb 12 (by decide +kernel) rfl, q_tb 1125 (by decide +kernel) rfl, ⟨by decide +kernel, by decide +kernel, by decide +kernel⟩⟩
theorem fcX5_15 : q_LV RX5 15 yX8_claimedTo cX8_claimedTo 6 (some .long) 2 8 := ⟨q_tb 1112 (by decide +kernel) rfl, q_tb 1079 (by decide +kernel) rfl, q_tb 1080 (by decide +kernel) rfl, q_tb 5 (by decide +kernel) rfl, q_tb 1081 (by decide +kernel) rfl, ⟨by decide +kernel, by decide +kernel, by decide +kernel⟩, TX8, 9, rfl⟩
theorem fcX5_21 : q_LV RX5 21 yX8_claimedFrom cX8_claimedFrom 6 (some .long) 2 8 := ⟨q_tb 1113 (by decide +kernel) rfl, q_tb 1083 (by decide +kernel) rfl, q_tb 1084 (by decide +kernel) rfl, q_tb 5 (by decide +kernel) rfl, q_tb 1085 (by decide +kernel) rfl, ⟨by decide +kernel, by decide +kernel, by decide +kernel⟩, TX8, 9, rfl⟩
def fX5_answer_L152 (n : Nat) (v3 : Int32) (v5 : Int32) (X : Mm) : Option (Int64 × Mm) :=
if v3 = (-1 : Int32) then (
some (((v5).toInt64), X)
) else (
some ((-1 : Int64), X)
)
def fX5_answer_L53 (n : Nat) : Nat → Nat → Int32 → Int32 → Int32 → Int32 → Int32 → Mm → Option (Int64 × Mm)
| 0, _, _, _, _, _, _, _ => none
| j + 1, r0, v3, v4, v5, v6, v7, X =>
if v6 = (-1 : Int32) then (
fX5_answer_L152 n v3 v5 X
) else (
if v7 = (-1 : Int32) then (
fX5_answer_L152 n v3 v5 X
) else (
if (20 : Int32) ≤ v5 then (
fX5_answer_L152 n v3 v5 X
) else (
if mT X r0 = 5 then
if mR X r0 0 ≠ 0 then
if mT X (mR X r0 0) = 15 then
if q_b X (mR X r0 0) v6 then
if q_b X (mR X r0 0) v7 then
nm ((if (-(mJ X (mR X r0 0) (v7).toNatClampNeg)) < (mJ X (mR X r0 0) (v6).toNatClampNeg) then (-(mJ X (mR X r0 0) (v7).toNatClampNeg)) else (mJ X (mR X r0 0) (v6).toNatClampNeg))) fun v8_90 =>
if v5 = v3 then (
bd (fX5_partOf v7 v6 v8_90 v4 X) fun w13 X106_14 =>
some (w13, X106_14)
) else (
nm (sJ X (mR X r0 0) (v6).toNatClampNeg ((mJ X (mR X r0 0) (v6).toNatClampNeg) - v8_90)) fun X121_15 =>
if mT X121_15 r0 = 5 then
if mR X121_15 r0 0 ≠ 0 then
if mT X121_15 (mR X121_15 r0 0) = 15 then
if q_b X121_15 (mR X121_15 r0 0) v7 then
nm (sJ X121_15 (mR X121_15 r0 0) (v7).toNatClampNeg ((mJ X121_15 (mR X121_15 r0 0) (v7).toNatClampNeg) + v8_90)) fun X133_20 =>
nm (v5 + (1 : Int32)) fun v5_134 =>
if mT X133_20 r0 = 5 then
bd (fX5_firstOwed n r0 X133_20) fun w21 X138_22 =>
if mT X138_22 r0 = 5 then
bd (fX5_firstOwing n r0 X138_22) fun w24 X144_25 =>
(fX5_answer_L53 n j) r0 v3 v4 v5_134 w21 w24 X144_25
else none
else none
else none
else none
else none
else none
)
else none
else none
else none
else none
else none
)
)
)
def fX5_answer_L3 (n : Nat) : Nat → Nat → Nat → Int32 → Int32 → Int32 → Int32 → Mm → Option (Int64 × Mm)
| 0, _, _, _, _, _, _, _ => none
| j + 1, r0, r1, v2, v3, v4, v5, X =>
if (10 : Int32) ≤ v5 then (
if mT X r0 = 5 then
bd (fX5_firstOwed n r0 X) fun w1 X42_2 =>
if mT X42_2 r0 = 5 then
bd (fX5_firstOwing n r0 X42_2) fun w4 X48_5 =>
fX5_answer_L53 n n r0 v3 v4 (0 : Int32) w1 w4 X48_5
else none
else none
) else (
if mT X r0 = 5 then
if mR X r0 0 ≠ 0 then
if mT X r1 = 8 then
bd (fX8_claimedTo n r1 v2 v5 X) fun w29 X20_30 =>
if mT X20_30 r1 = 8 then
bd (fX8_claimedFrom n r1 v2 v5 X20_30) fun w32 X27_33 =>
if mT X27_33 (mR X r0 0) = 15 then
if q_b X27_33 (mR X r0 0) v5 then
nm (sJ X27_33 (mR X r0 0) (v5).toNatClampNeg (w29 - w32)) fun X31_35 =>
nm (v5 + (1 : Int32)) fun v5_32 =>
(fX5_answer_L3 n j) r0 r1 v2 v3 v4 v5_32 X31_35
else none
else none
else none
else none
else none
else none
)
def fX5_answer (n : Nat) (r0 : Nat) (r1 : Nat) (v2 : Int32) (v3 : Int32) (v4 : Int32) (X : Mm) : Option (Int64 × Mm) :=
fX5_answer_L3 n n r0 r1 v2 v3 v4 (0 : Int32) X
theorem gX5_answer_L152 {E : q_E} {X0 : Mm} (C : Cx E cX5_answer RX5 10 (some .long) (q_rm 2 46 0 0) X0) (n : Nat) (v3 : Int32) (v5 : Int32) (X : Mm) : Sm E (q_fin E q_eL X0 0 0) 0 0 152 [(3, .int v3), (5, .int v5)] [] X (fX5_answer_L152 n v3 v5 X) := by
  unfold fX5_answer_L152
  refine q_iload_n C 0 dX5_answer_152 rfl rfl ?_
  refine q_iconst C (-1 : Int32) dX5_answer_153 rfl ?_
  refine q_icmp_ne C 163 dX5_answer_154 (by decide) (fun _ => ?_) (fun _ => ?_)
  · refine q_iload C 1 dX5_answer_157 rfl ?_
    refine q_i2l C dX5_answer_159 ?_
    refine q_goto C 166 dX5_answer_160 (by decide) ?_
    exact q_lret C dX5_answer_166
  · refine q_ldc2 C dX5_answer_163 fkX5_41 ?_
    exact q_lret C dX5_answer_166
theorem gX5_answer_L53 {E : q_E} {X0 : Mm} (C : Cx E cX5_answer RX5 10 (some .long) (q_rm 2 46 0 0) X0) (n : Nat) : ∀ (j : Nat) (r0 : Nat) (v3 : Int32) (v4 : Int32) (v5 : Int32) (v6 : Int32) (v7 : Int32) (X : Mm), Sm E (q_fin E q_eL X0 0 0) 0 0 53 [(0, .ref (q_P E + r0)), (3, .int v3), (4, .int v4), (5, .int v5), (6, .int v6), (7, .int v7)] [] X (fX5_answer_L53 n j r0 v3 v4 v5 v6 v7 X) := by
  intro j
  induction j with
  | zero => intros; exact Sm.none
  | succ j ih =>
    intro r0 v3 v4 v5 v6 v7 X
    rw [fX5_answer_L53]
    refine q_iload C 4 dX5_answer_53 rfl ?_
    refine q_iconst C (-1 : Int32) dX5_answer_55 rfl ?_
    refine q_icmp_eq C 152 dX5_answer_56 (by decide) (fun _ => ?_) (fun _ => ?_)
    · refine q_sub C [(3, .int v3), (5, .int v5)] [1, 3] rfl ?_
      exact gX5_answer_L152 C n v3 v5 X
    · refine q_iload C 5 dX5_answer_59 rfl ?_
      refine q_iconst C (-1 : Int32) dX5_answer_61 rfl ?_
      refine q_icmp_eq C 152 dX5_answer_62 (by decide) (fun _ => ?_) (fun _ => ?_)
      · refine q_sub C [(3, .int v3), (5, .int v5)] [1, 3] rfl ?_
        exact gX5_answer_L152 C n v3 v5 X
      · refine q_iload C 3 dX5_answer_65 rfl ?_
        refine q_bipush C (20 : Int32) dX5_answer_67 rfl ?_
        refine q_icmp_ge C 152 dX5_answer_69 (by decide) (fun _ => ?_) (fun _ => ?_)
        · refine q_sub C [(3, .int v3), (5, .int v5)] [1, 3] rfl ?_
          exact gX5_answer_L152 C n v3 v5 X
        · refine q_aload_n C 0 dX5_answer_72 rfl rfl ?_
          refine q_chk (fun h7 => ?_)
          refine q_chk (fun h8 => ?_)
          refine p_getR C fgX5_9 rfl dX5_answer_73 h7 h8 ?_
          refine q_iload C 4 dX5_answer_76 rfl ?_
          refine q_chk (fun h9 => ?_)
          refine q_chk (fun h10 => ?_)
          refine p_lald C dX5_answer_78 h9 h10 ?_
          refine q_aload_n C 0 dX5_answer_79 rfl rfl ?_
          refine p_getR C fgX5_9 rfl dX5_answer_80 h7 h8 ?_
          refine q_iload C 5 dX5_answer_83 rfl ?_
          refine q_chk (fun h11 => ?_)
          refine p_lald C dX5_answer_85 h9 h11 ?_
          refine q_lneg C dX5_answer_86 ?_
          refine q_minL C fmX5_31 ⟨Nat.le_of_ble_eq_true rfl, Nat.le_of_ble_eq_true rfl, Nat.le_of_ble_eq_true rfl, Nat.le_of_ble_eq_true rfl⟩ dX5_answer_87 ?_
          refine q_nml (fun v8_90 => ?_)
          refine q_lstore C [(8, .long v8_90), (0, .ref (q_P E + r0)), (3, .int v3), (4, .int v4), (5, .int v5), (6, .int v6), (7, .int v7)] dX5_answer_90 (Nat.le_of_ble_eq_true rfl) rfl ?_
          refine q_iload C 4 dX5_answer_92 rfl ?_
          refine q_iload_n C 2 dX5_answer_94 rfl rfl ?_
          refine q_icmp_ne C 110 dX5_answer_95 (by decide) (fun _ => ?_) (fun _ => ?_)
          · refine q_iload C 6 dX5_answer_98 rfl ?_
            refine q_iload C 5 dX5_answer_100 rfl ?_
            refine q_lload C 0 dX5_answer_102 rfl ?_
            refine q_iload C 3 dX5_answer_104 rfl ?_
            refine q_cSL (As := (fun P => [.int v7, .int v6, .long v8_90, .int v4])) C [] (sX5_partOf v7 v6 v8_90 v4) fcX5_37 rfl (fun _ => rfl) ⟨Nat.le_of_ble_eq_true rfl, Nat.le_of_ble_eq_true rfl⟩ ⟨Nat.le_of_ble_eq_true rfl, Nat.le_of_ble_eq_true rfl⟩ (Nat.le_of_ble_eq_true rfl) dX5_answer_106 (fun w13 X106_14 => ?_)
            exact q_lret C dX5_answer_109
          · refine q_aload_n C 1 dX5_answer_110 rfl rfl ?_
            refine p_getR C fgX5_9 rfl dX5_answer_111 h7 h8 ?_
            refine q_iload C 5 dX5_answer_114 rfl ?_
            refine q_dup2_11 C dX5_answer_116 rfl rfl ?_
            refine p_lald C dX5_answer_117 h9 h10 ?_
            refine q_lload C 0 dX5_answer_118 rfl ?_
            refine q_lsub C dX5_answer_120 ?_
            refine p_last C dX5_answer_121 h9 h10 ?_
            refine q_nmX (fun X121_15 => ?_)
            refine q_aload_n C 1 dX5_answer_122 rfl rfl ?_
            refine q_chk (fun h16 => ?_)
            refine q_chk (fun h17 => ?_)
            refine p_getR C fgX5_9 rfl dX5_answer_123 h16 h17 ?_
            refine q_iload C 6 dX5_answer_126 rfl ?_
            refine q_dup2_11 C dX5_answer_128 rfl rfl ?_
            refine q_chk (fun h18 => ?_)
            refine q_chk (fun h19 => ?_)
            refine p_lald C dX5_answer_129 h18 h19 ?_
            refine q_lload C 0 dX5_answer_130 rfl ?_
            refine q_ladd C dX5_answer_132 ?_
            refine p_last C dX5_answer_133 h18 h19 ?_
            refine q_nmX (fun X133_20 => ?_)
            refine q_iincN C (1 : Int32) 4 (fun v5_134 => [(5, .int v5_134), (8, .long v8_90), (0, .ref (q_P E + r0)), (3, .int v3), (4, .int v4), (6, .int v6), (7, .int v7)]) dX5_answer_134 rfl rfl (Nat.le_of_ble_eq_true rfl) (fun _ => rfl) (fun v5_134 => ?_)
            refine q_aload_n C 2 dX5_answer_137 rfl rfl ?_
            refine q_chk (fun h23 => ?_)
            refine q_cVI (As := (fun P => [])) C [] (sX5_firstOwed n r0) fcX5_24 rfl (fun _ => rfl) ⟨Nat.le_of_ble_eq_true rfl, Nat.le_of_ble_eq_true rfl⟩ ⟨Nat.le_of_ble_eq_true rfl, Nat.le_of_ble_eq_true rfl⟩ (Nat.le_of_ble_eq_true rfl) dX5_answer_138 h23 (fun w21 X138_22 => ?_)
            refine q_istore C [(6, .int w21), (5, .int v5_134), (8, .long v8_90), (0, .ref (q_P E + r0)), (3, .int v3), (4, .int v4), (7, .int v7)] dX5_answer_141 (Nat.le_of_ble_eq_true rfl) rfl ?_
            refine q_aload_n C 3 dX5_answer_143 rfl rfl ?_
            refine q_chk (fun h26 => ?_)
            refine q_cVI (As := (fun P => [])) C [] (sX5_firstOwing n r0) fcX5_28 rfl (fun _ => rfl) ⟨Nat.le_of_ble_eq_true rfl, Nat.le_of_ble_eq_true rfl⟩ ⟨Nat.le_of_ble_eq_true rfl, Nat.le_of_ble_eq_true rfl⟩ (Nat.le_of_ble_eq_true rfl) dX5_answer_144 h26 (fun w24 X144_25 => ?_)
            refine q_istore C [(7, .int w24), (6, .int w21), (5, .int v5_134), (8, .long v8_90), (0, .ref (q_P E + r0)), (3, .int v3), (4, .int v4)] dX5_answer_147 (Nat.le_of_ble_eq_true rfl) rfl ?_
            refine q_goto C 53 dX5_answer_149 (by decide) ?_
            refine q_sub C [(0, .ref (q_P E + r0)), (3, .int v3), (4, .int v4), (5, .int v5_134), (6, .int w21), (7, .int w24)] [4, 5, 6, 2, 1, 0] rfl ?_
            exact ih r0 v3 v4 v5_134 w21 w24 X144_25
theorem gX5_answer_L3 {E : q_E} {X0 : Mm} (C : Cx E cX5_answer RX5 10 (some .long) (q_rm 2 46 0 0) X0) (n : Nat) : ∀ (j : Nat) (r0 : Nat) (r1 : Nat) (v2 : Int32) (v3 : Int32) (v4 : Int32) (v5 : Int32) (X : Mm), Sm E (q_fin E q_eL X0 0 0) 0 0 3 [(0, .ref (q_P E + r0)), (1, .ref (q_P E + r1)), (2, .int v2), (3, .int v3), (4, .int v4), (5, .int v5)] [] X (fX5_answer_L3 n j r0 r1 v2 v3 v4 v5 X) := by
  intro j
  induction j with
  | zero => intros; exact Sm.none
  | succ j ih =>
    intro r0 r1 v2 v3 v4 v5 X
    rw [fX5_answer_L3]
    refine q_iload C 5 dX5_answer_3 rfl ?_
    refine q_bipush C (10 : Int32) dX5_answer_5 rfl ?_
    refine q_icmp_ge C 38 dX5_answer_7 (by decide) (fun _ => ?_) (fun _ => ?_)
    · refine q_iconst C (0 : Int32) dX5_answer_38 rfl ?_
      refine q_istore C [(5, .int (0 : Int32)), (0, .ref (q_P E + r0)), (1, .ref (q_P E + r1)), (2, .int v2), (3, .int v3), (4, .int v4)] dX5_answer_39 (Nat.le_of_ble_eq_true rfl) rfl ?_
      refine q_aload_n C 1 dX5_answer_41 rfl rfl ?_
      refine q_chk (fun h3 => ?_)
      refine q_cVI (As := (fun P => [])) C [] (sX5_firstOwed n r0) fcX5_24 rfl (fun _ => rfl) ⟨Nat.le_of_ble_eq_true rfl, Nat.le_of_ble_eq_true rfl⟩ ⟨Nat.le_of_ble_eq_true rfl, Nat.le_of_ble_eq_true rfl⟩ (Nat.le_of_ble_eq_true rfl) dX5_answer_42 h3 (fun w1 X42_2 => ?_)
      refine q_istore C [(6, .int w1), (5, .int (0 : Int32)), (0, .ref (q_P E + r0)), (1, .ref (q_P E + r1)), (2, .int v2), (3, .int v3), (4, .int v4)] dX5_answer_45 (Nat.le_of_ble_eq_true rfl) rfl ?_
      refine q_aload_n C 2 dX5_answer_47 rfl rfl ?_
      refine q_chk (fun h6 => ?_)
      refine q_cVI (As := (fun P => [])) C [] (sX5_firstOwing n r0) fcX5_28 rfl (fun _ => rfl) ⟨Nat.le_of_ble_eq_true rfl, Nat.le_of_ble_eq_true rfl⟩ ⟨Nat.le_of_ble_eq_true rfl, Nat.le_of_ble_eq_true rfl⟩ (Nat.le_of_ble_eq_true rfl) dX5_answer_48 h6 (fun w4 X48_5 => ?_)
      refine q_istore C [(7, .int w4), (6, .int w1), (5, .int (0 : Int32)), (0, .ref (q_P E + r0)), (1, .ref (q_P E + r1)), (2, .int v2), (3, .int v3), (4, .int v4)] dX5_answer_51 (Nat.le_of_ble_eq_true rfl) rfl ?_
      refine q_sub C [(0, .ref (q_P E + r0)), (3, .int v3), (4, .int v4), (5, .int (0 : Int32)), (6, .int w1), (7, .int w4)] [3, 6, 7, 2, 1, 0] rfl ?_
      exact gX5_answer_L53 C n n r0 v3 v4 (0 : Int32) w1 w4 X48_5
    · refine q_aload_n C 0 dX5_answer_10 rfl rfl ?_
      refine q_chk (fun h27 => ?_)
      refine q_chk (fun h28 => ?_)
      refine p_getR C fgX5_9 rfl dX5_answer_11 h27 h28 ?_
      refine q_iload C 5 dX5_answer_14 rfl ?_
      refine q_aload_n C 1 dX5_answer_16 rfl rfl ?_
      refine q_iload_n C 2 dX5_answer_17 rfl rfl ?_
      refine q_iload C 5 dX5_answer_18 rfl ?_
      refine q_chk (fun h31 => ?_)
      refine q_cVL (As := (fun P => [.int v2, .int v5])) C [.int v5, .ref (q_P E + (mR X r0 0))] (sX8_claimedTo n r1 v2 v5) fcX5_15 rfl (fun _ => rfl) ⟨Nat.le_of_ble_eq_true rfl, Nat.le_of_ble_eq_true rfl⟩ ⟨Nat.le_of_ble_eq_true rfl, Nat.le_of_ble_eq_true rfl⟩ (Nat.le_of_ble_eq_true rfl) dX5_answer_20 h31 (fun w29 X20_30 => ?_)
      refine q_aload_n C 1 dX5_answer_23 rfl rfl ?_
      refine q_iload_n C 2 dX5_answer_24 rfl rfl ?_
      refine q_iload C 5 dX5_answer_25 rfl ?_
      refine q_chk (fun h34 => ?_)
      refine q_cVL (As := (fun P => [.int v2, .int v5])) C [.long w29, .int v5, .ref (q_P E + (mR X r0 0))] (sX8_claimedFrom n r1 v2 v5) fcX5_21 rfl (fun _ => rfl) ⟨Nat.le_of_ble_eq_true rfl, Nat.le_of_ble_eq_true rfl⟩ ⟨Nat.le_of_ble_eq_true rfl, Nat.le_of_ble_eq_true rfl⟩ (Nat.le_of_ble_eq_true rfl) dX5_answer_27 h34 (fun w32 X27_33 => ?_)
      refine q_lsub C dX5_answer_30 ?_
      refine q_chk (fun h36 => ?_)
      refine q_chk (fun h37 => ?_)
      refine p_last C dX5_answer_31 h36 h37 ?_
      refine q_nmX (fun X31_35 => ?_)
      refine q_iincN C (1 : Int32) 5 (fun v5_32 => [(5, .int v5_32), (0, .ref (q_P E + r0)), (1, .ref (q_P E + r1)), (2, .int v2), (3, .int v3), (4, .int v4)]) dX5_answer_32 rfl rfl (Nat.le_of_ble_eq_true rfl) (fun _ => rfl) (fun v5_32 => ?_)
      refine q_goto C 3 dX5_answer_35 (by decide) ?_
      refine q_sub C [(0, .ref (q_P E + r0)), (1, .ref (q_P E + r1)), (2, .int v2), (3, .int v3), (4, .int v4), (5, .int v5_32)] [1, 2, 3, 4, 5, 0] rfl ?_
      exact ih r0 r1 v2 v3 v4 v5_32 X31_35
theorem sX5_answer (n : Nat) (r0 : Nat) (r1 : Nat) (v2 : Int32) (v3 : Int32) (v4 : Int32) : q_Ct yX5_answer cX5_answer 10 (some .long) 2 46 0 0 q_eL (fun P => [.ref (P + r0), .ref (P + r1), .int v2, .int v3, .int v4]) (fX5_answer n r0 r1 v2 v3 v4) := by
  refine q_meth (by decide +kernel) (fun P => Nat.le_of_ble_eq_true rfl) (fun E X C hn => ?_)
  show Sm E (q_fin E q_eL X 0 0) 0 0 0 [(0, .ref (q_P E + r0)), (1, .ref (q_P E + r1)), (2, .int v2), (3, .int v3), (4, .int v4)] [] X _
  unfold fX5_answer
  refine q_iconst C (0 : Int32) dX5_answer_0 rfl ?_
  refine q_istore C [(5, .int (0 : Int32)), (0, .ref (q_P E + r0)), (1, .ref (q_P E + r1)), (2, .int v2), (3, .int v3), (4, .int v4)] dX5_answer_1 (Nat.le_of_ble_eq_true rfl) rfl ?_
  refine q_sub C [(0, .ref (q_P E + r0)), (1, .ref (q_P E + r1)), (2, .int v2), (3, .int v3), (4, .int v4), (5, .int (0 : Int32))] [1, 2, 3, 4, 5, 0] rfl ?_
  exact gX5_answer_L3 C n n r0 r1 v2 v3 v4 (0 : Int32) X
