/-! RecordClaims$Book.<init>()V -/
abbrev cX0_init : ByteArray := prog_2_method_1_code
def yX0_init : MethodName := ⟨RX0, "<init>", "()V"⟩
theorem dX0_init_0 : decode cX0_init 0 = .ok (.aload_n 0, 1) := by decide +kernel
theorem dX0_init_1 : decode cX0_init 1 = .ok (.invokespecial 3, 3) := by decide +kernel
theorem dX0_init_4 : decode cX0_init 4 = .ok (.aload_n 0, 1) := by decide +kernel
theorem dX0_init_5 : decode cX0_init 5 = .ok (.bipush 10, 2) := by decide +kernel
theorem dX0_init_7 : decode cX0_init 7 = .ok (.newarray .int, 2) := by decide +kernel
theorem dX0_init_9 : decode cX0_init 9 = .ok (.putfield 9, 3) := by decide +kernel
theorem dX0_init_12 : decode cX0_init 12 = .ok (.aload_n 0, 1) := by decide +kernel
theorem dX0_init_13 : decode cX0_init 13 = .ok (.iconst 5, 1) := by decide +kernel
theorem dX0_init_14 : decode cX0_init 14 = .ok (.newarray .int, 2) := by decide +kernel
theorem dX0_init_16 : decode cX0_init 16 = .ok (.putfield 15, 3) := by decide +kernel
theorem dX0_init_19 : decode cX0_init 19 = .ok (.aload_n 0, 1) := by decide +kernel
theorem dX0_init_20 : decode cX0_init 20 = .ok (.bipush 50, 2) := by decide +kernel
theorem dX0_init_22 : decode cX0_init 22 = .ok (.newarray .long, 2) := by decide +kernel
theorem dX0_init_24 : decode cX0_init 24 = .ok (.putfield 18, 3) := by decide +kernel
theorem dX0_init_27 : decode cX0_init 27 = .ok (.return_, 1) := by decide +kernel
theorem fwX0_3_oi : Cond.methodLink RX0 3 Lib.objectInit ∈ q_tbl := q_tb 70 (by decide +kernel) rfl
theorem fpX0_9 : q_Fp RX0 9 0 0 (.array .int) true := ⟨RX0, TX0, 5, tyX0, rfl, by decide, inX0, q_tb 71 (by decide +kernel) rfl, tyX0_ok, nmX0, rfl, rfl, fun h => by first | rfl | cases h⟩
theorem fpX0_15 : q_Fp RX0 15 0 1 (.array .int) true := ⟨RX0, TX0, 5, tyX0, rfl, by decide, inX0, q_tb 73 (by decide +kernel) rfl, tyX0_ok, nmX0, rfl, rfl, fun h => by first | rfl | cases h⟩
theorem fpX0_18 : q_Fp RX0 18 0 2 (.array .long) true := ⟨RX0, TX0, 5, tyX0, rfl, by decide, inX0, q_tb 75 (by decide +kernel) rfl, tyX0_ok, nmX0, rfl, rfl, fun h => by first | rfl | cases h⟩
def fX0_init (r0 : Nat) (X : Mm) : Option (Unit × Mm) :=
nm (mN X + 1) fun rN2 =>
nm (q_nw X 14 10) fun X7_1 =>
if mT X7_1 r0 = 0 then
if rN2 ≠ 0 then
nm (sR X7_1 r0 0 rN2) fun X9_3 =>
nm (mN X9_3 + 1) fun rN7 =>
nm (q_nw X9_3 14 5) fun X14_6 =>
if mT X14_6 r0 = 0 then
if rN7 ≠ 0 then
nm (sR X14_6 r0 1 rN7) fun X16_8 =>
nm (mN X16_8 + 1) fun rN12 =>
nm (q_nw X16_8 15 50) fun X22_11 =>
if mT X22_11 r0 = 0 then
if rN12 ≠ 0 then
nm (sR X22_11 r0 2 rN12) fun X24_13 =>
some ((), X24_13)
else none
else none
else none
else none
else none
else none
theorem sX0_init (r0 : Nat) : q_Ct yX0_init cX0_init 1 none 1 20 3 65 q_eV (fun P => [.ref (P + r0)]) (fX0_init r0) := by
  refine q_meth (by decide +kernel) (fun P => Nat.le_of_ble_eq_true rfl) (fun E X C hn => ?_)
  show Sm E (q_fin E q_eV X 3 65) 0 0 0 [(0, .ref (q_P E + r0))] [] X _
  unfold fX0_init
  refine q_aload_n C 0 dX0_init_0 rfl rfl ?_
  refine q_objInit C fwX0_3_oi fw_oi2 fw_oi3 ⟨Nat.le_of_ble_eq_true rfl, Nat.le_of_ble_eq_true rfl⟩ dX0_init_1 ?_
  refine q_aload_n C 0 dX0_init_4 rfl rfl ?_
  refine q_bipush C (10 : Int32) dX0_init_5 rfl ?_
  refine q_newa (atype := .int) (ty := .int) (tg := 14) (N := 10) C rfl faint (Or.inl ⟨rfl, rfl⟩) (by decide) rfl (Nat.le_of_ble_eq_true rfl) ⟨Nat.le_of_ble_eq_true rfl, Nat.le_of_ble_eq_true rfl⟩ dX0_init_7 ?_
  refine q_nmr (fun rN2 => ?_)
  refine q_nmX (fun X7_1 => ?_)
  refine q_chk (fun h4 => ?_)
  refine q_chk (fun h5 => ?_)
  refine p_putF C fpX0_9 hn (fun _ => rfl) (fun _ => rfl) rfl dX0_init_9 h4 h5 ?_
  refine q_nmX (fun X9_3 => ?_)
  refine q_aload_n C 0 dX0_init_12 rfl rfl ?_
  refine q_iconst C (5 : Int32) dX0_init_13 rfl ?_
  refine q_newa (atype := .int) (ty := .int) (tg := 14) (N := 5) C rfl faint (Or.inl ⟨rfl, rfl⟩) (by decide) rfl (Nat.le_of_ble_eq_true rfl) ⟨Nat.le_of_ble_eq_true rfl, Nat.le_of_ble_eq_true rfl⟩ dX0_init_14 ?_
  refine q_nmr (fun rN7 => ?_)
  refine q_nmX (fun X14_6 => ?_)
  refine q_chk (fun h9 => ?_)
  refine q_chk (fun h10 => ?_)
  refine p_putF C fpX0_15 hn (fun _ => rfl) (fun _ => rfl) rfl dX0_init_16 h9 h10 ?_
  refine q_nmX (fun X16_8 => ?_)
  refine q_aload_n C 0 dX0_init_19 rfl rfl ?_
  refine q_bipush C (50 : Int32) dX0_init_20 rfl ?_
  refine q_newa (atype := .long) (ty := .long) (tg := 15) (N := 50) C rfl falong (Or.inr (Or.inl ⟨rfl, rfl⟩)) (by decide) rfl (Nat.le_of_ble_eq_true rfl) ⟨Nat.le_of_ble_eq_true rfl, Nat.le_of_ble_eq_true rfl⟩ dX0_init_22 ?_
  refine q_nmr (fun rN12 => ?_)
  refine q_nmX (fun X22_11 => ?_)
  refine q_chk (fun h14 => ?_)
  refine q_chk (fun h15 => ?_)
  refine p_putF C fpX0_18 hn (fun _ => rfl) (fun _ => rfl) rfl dX0_init_24 h14 h15 ?_
  refine q_nmX (fun X24_13 => ?_)
  exact q_vret C dX0_init_27
/-! RecordClaims$Tape.indexOf([III)I -/
abbrev cX9_indexOf : ByteArray := prog_11_method_25_code
def yX9_indexOf : MethodName := ⟨RX9, "indexOf", "([III)I"⟩
theorem dX9_indexOf_0 : decode cX9_indexOf 0 = .ok (.iconst 0, 1) := by decide +kernel
theorem dX9_indexOf_1 : decode cX9_indexOf 1 = .ok (.istore_n 3, 1) := by decide +kernel
theorem dX9_indexOf_2 : decode cX9_indexOf 2 = .ok (.iload_n 3, 1) := by decide +kernel
theorem dX9_indexOf_3 : decode cX9_indexOf 3 = .ok (.iload_n 1, 1) := by decide +kernel
theorem dX9_indexOf_4 : decode cX9_indexOf 4 = .ok (.if_icmp .ge 24, 3) := by decide +kernel
theorem dX9_indexOf_7 : decode cX9_indexOf 7 = .ok (.iload_n 3, 1) := by decide +kernel
theorem dX9_indexOf_8 : decode cX9_indexOf 8 = .ok (.aload_n 0, 1) := by decide +kernel
theorem dX9_indexOf_9 : decode cX9_indexOf 9 = .ok (.arraylength, 1) := by decide +kernel
theorem dX9_indexOf_10 : decode cX9_indexOf 10 = .ok (.if_icmp .ge 18, 3) := by decide +kernel
theorem dX9_indexOf_13 : decode cX9_indexOf 13 = .ok (.aload_n 0, 1) := by decide +kernel
theorem dX9_indexOf_14 : decode cX9_indexOf 14 = .ok (.iload_n 3, 1) := by decide +kernel
theorem dX9_indexOf_15 : decode cX9_indexOf 15 = .ok (.iaload, 1) := by decide +kernel
theorem dX9_indexOf_16 : decode cX9_indexOf 16 = .ok (.iload_n 2, 1) := by decide +kernel
theorem dX9_indexOf_17 : decode cX9_indexOf 17 = .ok (.if_icmp .ne 5, 3) := by decide +kernel
theorem dX9_indexOf_20 : decode cX9_indexOf 20 = .ok (.iload_n 3, 1) := by decide +kernel
theorem dX9_indexOf_21 : decode cX9_indexOf 21 = .ok (.ireturn, 1) := by decide +kernel
theorem dX9_indexOf_22 : decode cX9_indexOf 22 = .ok (.iinc 3 1, 3) := by decide +kernel
theorem dX9_indexOf_25 : decode cX9_indexOf 25 = .ok (.goto (-23), 3) := by decide +kernel
theorem dX9_indexOf_28 : decode cX9_indexOf 28 = .ok (.iconst (-1), 1) := by decide +kernel
theorem dX9_indexOf_29 : decode cX9_indexOf 29 = .ok (.ireturn, 1) := by decide +kernel
def fX9_indexOf_L28 (n : Nat) (X : Mm) : Option (Int32 × Mm) :=
some ((-1 : Int32), X)
def fX9_indexOf_L2 (n : Nat) : Nat → Nat → Int32 → Int32 → Int32 → Mm → Option (Int32 × Mm)
| 0, _, _, _, _, _ => none
| j + 1, r0, v1, v2, v3, X =>
if v1 ≤ v3 then (
fX9_indexOf_L28 n X
) else (
if mT X r0 = 14 then
if (Int32.ofNat (mL X r0)) ≤ v3 then (
fX9_indexOf_L28 n X
) else (
if q_b X r0 v3 then
if (mI X r0 (v3).toNatClampNeg) = v2 then (
some (v3, X)
) else (
nm (v3 + (1 : Int32)) fun v3_22 =>
(fX9_indexOf_L2 n j) r0 v1 v2 v3_22 X
)
else none
)
else none
)
def fX9_indexOf (n : Nat) (r0 : Nat) (v1 : Int32) (v2 : Int32) (X : Mm) : Option (Int32 × Mm) :=
fX9_indexOf_L2 n n r0 v1 v2 (0 : Int32) X
theorem gX9_indexOf_L28 {E : q_E} {X0 : Mm} (C : Cx E cX9_indexOf RX9 4 (some .int) (q_rm 0 0 0 0) X0) (n : Nat) (X : Mm) : Sm E (q_fin E q_eI X0 0 0) 0 0 28 [] [] X (fX9_indexOf_L28 n  X) := by
  unfold fX9_indexOf_L28
  refine q_iconst C (-1 : Int32) dX9_indexOf_28 rfl ?_
  exact q_iret C dX9_indexOf_29
theorem gX9_indexOf_L2 {E : q_E} {X0 : Mm} (C : Cx E cX9_indexOf RX9 4 (some .int) (q_rm 0 0 0 0) X0) (n : Nat) : ∀ (j : Nat) (r0 : Nat) (v1 : Int32) (v2 : Int32) (v3 : Int32) (X : Mm), Sm E (q_fin E q_eI X0 0 0) 0 0 2 [(0, .ref (q_P E + r0)), (1, .int v1), (2, .int v2), (3, .int v3)] [] X (fX9_indexOf_L2 n j r0 v1 v2 v3 X) := by
  intro j
  induction j with
  | zero => intros; exact Sm.none
  | succ j ih =>
    intro r0 v1 v2 v3 X
    rw [fX9_indexOf_L2]
    refine q_iload_n C 3 dX9_indexOf_2 rfl rfl ?_
    refine q_iload_n C 1 dX9_indexOf_3 rfl rfl ?_
    refine q_icmp_ge C 28 dX9_indexOf_4 (by decide) (fun _ => ?_) (fun _ => ?_)
    · refine q_sub C [] [] rfl ?_
      exact gX9_indexOf_L28 C n X
    · refine q_iload_n C 3 dX9_indexOf_7 rfl rfl ?_
      refine q_aload_n C 0 dX9_indexOf_8 rfl rfl ?_
      refine q_chk (fun h1 => ?_)
      refine p_alen C dX9_indexOf_9 h1 ?_
      refine q_icmp_ge C 28 dX9_indexOf_10 (by decide) (fun _ => ?_) (fun _ => ?_)
      · refine q_sub C [] [] rfl ?_
        exact gX9_indexOf_L28 C n X
      · refine q_aload_n C 0 dX9_indexOf_13 rfl rfl ?_
        refine q_iload_n C 3 dX9_indexOf_14 rfl rfl ?_
        refine q_chk (fun h2 => ?_)
        refine p_iald C dX9_indexOf_15 h1 h2 ?_
        refine q_iload_n C 2 dX9_indexOf_16 rfl rfl ?_
        refine q_icmp_ne C 22 dX9_indexOf_17 (by decide) (fun _ => ?_) (fun _ => ?_)
        · refine q_iload_n C 3 dX9_indexOf_20 rfl rfl ?_
          exact q_iret C dX9_indexOf_21
        · refine q_iincN C (1 : Int32) 3 (fun v3_22 => [(3, .int v3_22), (0, .ref (q_P E + r0)), (1, .int v1), (2, .int v2)]) dX9_indexOf_22 rfl rfl (Nat.le_of_ble_eq_true rfl) (fun _ => rfl) (fun v3_22 => ?_)
          refine q_goto C 2 dX9_indexOf_25 (by decide) ?_
          refine q_sub C [(0, .ref (q_P E + r0)), (1, .int v1), (2, .int v2), (3, .int v3_22)] [1, 2, 3, 0] rfl ?_
          exact ih r0 v1 v2 v3_22 X
theorem sX9_indexOf (n : Nat) (r0 : Nat) (v1 : Int32) (v2 : Int32) : q_Ct yX9_indexOf cX9_indexOf 4 (some .int) 0 0 0 0 q_eI (fun P => [.ref (P + r0), .int v1, .int v2]) (fX9_indexOf n r0 v1 v2) := by
  refine q_meth (by decide +kernel) (fun P => Nat.le_of_ble_eq_true rfl) (fun E X C hn => ?_)
  show Sm E (q_fin E q_eI X 0 0) 0 0 0 [(0, .ref (q_P E + r0)), (1, .int v1), (2, .int v2)] [] X _
  unfold fX9_indexOf
  refine q_iconst C (0 : Int32) dX9_indexOf_0 rfl ?_
  refine q_istore_n C [(3, .int (0 : Int32)), (0, .ref (q_P E + r0)), (1, .int v1), (2, .int v2)] dX9_indexOf_1 rfl (Nat.le_of_ble_eq_true rfl) rfl ?_
  refine q_sub C [(0, .ref (q_P E + r0)), (1, .int v1), (2, .int v2), (3, .int (0 : Int32))] [1, 2, 3, 0] rfl ?_
  exact gX9_indexOf_L2 C n n r0 v1 v2 (0 : Int32) X
/-! RecordClaims$Book.holderNamed(I)I -/
abbrev cX0_holderNamed : ByteArray := prog_2_method_2_code
def yX0_holderNamed : MethodName := ⟨RX0, "holderNamed", "(I)I"⟩
theorem dX0_holderNamed_0 : decode cX0_holderNamed 0 = .ok (.aload_n 0, 1) := by decide +kernel
theorem dX0_holderNamed_1 : decode cX0_holderNamed 1 = .ok (.getfield 9, 3) := by decide +kernel
theorem dX0_holderNamed_4 : decode cX0_holderNamed 4 = .ok (.aload_n 0, 1) := by decide +kernel
theorem dX0_holderNamed_5 : decode cX0_holderNamed 5 = .ok (.getfield 22, 3) := by decide +kernel
theorem dX0_holderNamed_8 : decode cX0_holderNamed 8 = .ok (.iload_n 1, 1) := by decide +kernel
theorem dX0_holderNamed_9 : decode cX0_holderNamed 9 = .ok (.invokestatic 26, 3) := by decide +kernel
theorem dX0_holderNamed_12 : decode cX0_holderNamed 12 = .ok (.ireturn, 1) := by decide +kernel
theorem fgX0_9 : q_Fg RX0 9 0 0 := q_Fg.of (C := RX0) (T := TX0) (N := 5) rfl (by decide) inX0 71 (by decide +kernel) rfl rfl
theorem fgX0_22 : q_Fg RX0 22 0 3 := q_Fg.of (C := RX0) (T := TX0) (N := 5) rfl (by decide) inX0 77 (by decide +kernel) rfl rfl
theorem fcX0_26 : q_LS RX0 26 yX9_indexOf cX9_indexOf 4 (some .int) 3 := ⟨q_tb 645 (by decide +kernel) rfl, q_tb 646 (by decide +kernel) rfl, q_tb 2 (by decide +kernel) rfl, q_tb 647 (by decide +kernel) rfl, ⟨by decide +kernel, by decide +kernel, by decide +kernel⟩⟩
def fX0_holderNamed (n : Nat) (r0 : Nat) (v1 : Int32) (X : Mm) : Option (Int32 × Mm) :=
if mT X r0 = 0 then
if mR X r0 0 ≠ 0 then
bd (fX9_indexOf n ((mR X r0 0)) ((mI X r0 3)) v1 X) fun w3 X9_4 =>
some (w3, X9_4)
else none
else none
theorem sX0_holderNamed (n : Nat) (r0 : Nat) (v1 : Int32) : q_Ct yX0_holderNamed cX0_holderNamed 2 (some .int) 1 23 0 0 q_eI (fun P => [.ref (P + r0), .int v1]) (fX0_holderNamed n r0 v1) := by
  refine q_meth (by decide +kernel) (fun P => Nat.le_of_ble_eq_true rfl) (fun E X C hn => ?_)
  show Sm E (q_fin E q_eI X 0 0) 0 0 0 [(0, .ref (q_P E + r0)), (1, .int v1)] [] X _
  unfold fX0_holderNamed
  refine q_aload_n C 0 dX0_holderNamed_0 rfl rfl ?_
  refine q_chk (fun h1 => ?_)
  refine q_chk (fun h2 => ?_)
  refine p_getR C fgX0_9 rfl dX0_holderNamed_1 h1 h2 ?_
  refine q_aload_n C 0 dX0_holderNamed_4 rfl rfl ?_
  refine p_getI C fgX0_22 rfl dX0_holderNamed_5 h1 ?_
  refine q_iload_n C 1 dX0_holderNamed_8 rfl rfl ?_
  refine q_cSI (As := (fun P => [.ref (P + (mR X r0 0)), .int (mI X r0 3), .int v1])) C [] (sX9_indexOf n ((mR X r0 0)) ((mI X r0 3)) v1) fcX0_26 rfl (fun _ => rfl) ⟨Nat.le_of_ble_eq_true rfl, Nat.le_of_ble_eq_true rfl⟩ ⟨Nat.le_of_ble_eq_true rfl, Nat.le_of_ble_eq_true rfl⟩ (Nat.le_of_ble_eq_true rfl) dX0_holderNamed_9 (fun w3 X9_4 => ?_)
  exact q_iret C dX0_holderNamed_12
/-! RecordClaims$Book.paperNamed(I)I -/
abbrev cX0_paperNamed : ByteArray := prog_2_method_3_code
def yX0_paperNamed : MethodName := ⟨RX0, "paperNamed", "(I)I"⟩
theorem dX0_paperNamed_0 : decode cX0_paperNamed 0 = .ok (.aload_n 0, 1) := by decide +kernel
theorem dX0_paperNamed_1 : decode cX0_paperNamed 1 = .ok (.getfield 15, 3) := by decide +kernel
theorem dX0_paperNamed_4 : decode cX0_paperNamed 4 = .ok (.aload_n 0, 1) := by decide +kernel
theorem dX0_paperNamed_5 : decode cX0_paperNamed 5 = .ok (.getfield 32, 3) := by decide +kernel
theorem dX0_paperNamed_8 : decode cX0_paperNamed 8 = .ok (.iload_n 1, 1) := by decide +kernel
theorem dX0_paperNamed_9 : decode cX0_paperNamed 9 = .ok (.invokestatic 26, 3) := by decide +kernel
theorem dX0_paperNamed_12 : decode cX0_paperNamed 12 = .ok (.ireturn, 1) := by decide +kernel
theorem fgX0_15 : q_Fg RX0 15 0 1 := q_Fg.of (C := RX0) (T := TX0) (N := 5) rfl (by decide) inX0 73 (by decide +kernel) rfl rfl
theorem fgX0_32 : q_Fg RX0 32 0 4 := q_Fg.of (C := RX0) (T := TX0) (N := 5) rfl (by decide) inX0 80 (by decide +kernel) rfl rfl
def fX0_paperNamed (n : Nat) (r0 : Nat) (v1 : Int32) (X : Mm) : Option (Int32 × Mm) :=
if mT X r0 = 0 then
if mR X r0 1 ≠ 0 then
bd (fX9_indexOf n ((mR X r0 1)) ((mI X r0 4)) v1 X) fun w3 X9_4 =>
some (w3, X9_4)
else none
else none
theorem sX0_paperNamed (n : Nat) (r0 : Nat) (v1 : Int32) : q_Ct yX0_paperNamed cX0_paperNamed 2 (some .int) 1 23 0 0 q_eI (fun P => [.ref (P + r0), .int v1]) (fX0_paperNamed n r0 v1) := by
  refine q_meth (by decide +kernel) (fun P => Nat.le_of_ble_eq_true rfl) (fun E X C hn => ?_)
  show Sm E (q_fin E q_eI X 0 0) 0 0 0 [(0, .ref (q_P E + r0)), (1, .int v1)] [] X _
  unfold fX0_paperNamed
  refine q_aload_n C 0 dX0_paperNamed_0 rfl rfl ?_
  refine q_chk (fun h1 => ?_)
  refine q_chk (fun h2 => ?_)
  refine p_getR C fgX0_15 rfl dX0_paperNamed_1 h1 h2 ?_
  refine q_aload_n C 0 dX0_paperNamed_4 rfl rfl ?_
  refine p_getI C fgX0_32 rfl dX0_paperNamed_5 h1 ?_
  refine q_iload_n C 1 dX0_paperNamed_8 rfl rfl ?_
  refine q_cSI (As := (fun P => [.ref (P + (mR X r0 1)), .int (mI X r0 4), .int v1])) C [] (sX9_indexOf n ((mR X r0 1)) ((mI X r0 4)) v1) fcX0_26 rfl (fun _ => rfl) ⟨Nat.le_of_ble_eq_true rfl, Nat.le_of_ble_eq_true rfl⟩ ⟨Nat.le_of_ble_eq_true rfl, Nat.le_of_ble_eq_true rfl⟩ (Nat.le_of_ble_eq_true rfl) dX0_paperNamed_9 (fun w3 X9_4 => ?_)
  exact q_iret C dX0_paperNamed_12
/-! RecordClaims$Tape.fail(I)V -/
abbrev cX9_fail : ByteArray := prog_11_method_14_code
def yX9_fail : MethodName := ⟨RX9, "fail", "(I)V"⟩
theorem dX9_fail_0 : decode cX9_fail 0 = .ok (.aload_n 0, 1) := by decide +kernel
theorem dX9_fail_1 : decode cX9_fail 1 = .ok (.getfield 38, 3) := by decide +kernel
theorem dX9_fail_4 : decode cX9_fail 4 = .ok (.ifCond .ne 21, 3) := by decide +kernel
theorem dX9_fail_7 : decode cX9_fail 7 = .ok (.aload_n 0, 1) := by decide +kernel
theorem dX9_fail_8 : decode cX9_fail 8 = .ok (.iload_n 1, 1) := by decide +kernel
theorem dX9_fail_9 : decode cX9_fail 9 = .ok (.putfield 38, 3) := by decide +kernel
theorem dX9_fail_12 : decode cX9_fail 12 = .ok (.aload_n 0, 1) := by decide +kernel
theorem dX9_fail_13 : decode cX9_fail 13 = .ok (.aload_n 0, 1) := by decide +kernel
theorem dX9_fail_14 : decode cX9_fail 14 = .ok (.getfield 19, 3) := by decide +kernel
theorem dX9_fail_17 : decode cX9_fail 17 = .ok (.aload_n 0, 1) := by decide +kernel
theorem dX9_fail_18 : decode cX9_fail 18 = .ok (.getfield 41, 3) := by decide +kernel
theorem dX9_fail_21 : decode cX9_fail 21 = .ok (.iaload, 1) := by decide +kernel
theorem dX9_fail_22 : decode cX9_fail 22 = .ok (.putfield 25, 3) := by decide +kernel
theorem dX9_fail_25 : decode cX9_fail 25 = .ok (.return_, 1) := by decide +kernel
theorem fgX9_38 : q_Fg RX9 38 9 6 := q_Fg.of (C := RX9) (T := TX9) (N := 8) rfl (by decide) inX9 41 (by decide +kernel) rfl rfl
theorem fpX9_38 : q_Fp RX9 38 9 6 .int false := ⟨RX9, TX9, 8, tyX9, rfl, by decide, inX9, q_tb 41 (by decide +kernel) rfl, tyX9_ok, nmX9, rfl, rfl, fun h => by first | rfl | cases h⟩
theorem fgX9_19 : q_Fg RX9 19 9 3 := q_Fg.of (C := RX9) (T := TX9) (N := 8) rfl (by decide) inX9 38 (by decide +kernel) rfl rfl
theorem fgX9_41 : q_Fg RX9 41 9 5 := q_Fg.of (C := RX9) (T := TX9) (N := 8) rfl (by decide) inX9 40 (by decide +kernel) rfl rfl
theorem fpX9_25 : q_Fp RX9 25 9 7 .int false := ⟨RX9, TX9, 8, tyX9, rfl, by decide, inX9, q_tb 44 (by decide +kernel) rfl, tyX9_ok, nmX9, rfl, rfl, fun h => by first | rfl | cases h⟩
def fX9_fail (r0 : Nat) (v1 : Int32) (X : Mm) : Option (Unit × Mm) :=
if mT X r0 = 9 then
if (mI X r0 6) = 0 then (
nm (sI X r0 6 v1) fun X9_2 =>
if mT X9_2 r0 = 9 then
if mR X9_2 r0 3 ≠ 0 then
if mT X9_2 (mR X9_2 r0 3) = 14 then
if q_b X9_2 (mR X9_2 r0 3) (mI X9_2 r0 5) then
nm (sI X9_2 r0 7 (mI X9_2 (mR X9_2 r0 3) ((mI X9_2 r0 5)).toNatClampNeg)) fun X22_7 =>
some ((), X22_7)
else none
else none
else none
else none
) else (
some ((), X)
)
else none
theorem sX9_fail (r0 : Nat) (v1 : Int32) : q_Ct yX9_fail cX9_fail 2 none 0 0 0 0 q_eV (fun P => [.ref (P + r0), .int v1]) (fX9_fail r0 v1) := by
  refine q_meth (by decide +kernel) (fun P => Nat.le_of_ble_eq_true rfl) (fun E X C hn => ?_)
  show Sm E (q_fin E q_eV X 0 0) 0 0 0 [(0, .ref (q_P E + r0)), (1, .int v1)] [] X _
  unfold fX9_fail
  refine q_aload_n C 0 dX9_fail_0 rfl rfl ?_
  refine q_chk (fun h1 => ?_)
  refine p_getI C fgX9_38 rfl dX9_fail_1 h1 ?_
  refine q_if_ne C 25 dX9_fail_4 (by decide) (fun _ => ?_) (fun _ => ?_)
  · refine q_aload_n C 0 dX9_fail_7 rfl rfl ?_
    refine q_iload_n C 1 dX9_fail_8 rfl rfl ?_
    refine p_putI C fpX9_38 rfl dX9_fail_9 h1 ?_
    refine q_nmX (fun X9_2 => ?_)
    refine q_aload_n C 0 dX9_fail_12 rfl rfl ?_
    refine q_aload_n C 0 dX9_fail_13 rfl rfl ?_
    refine q_chk (fun h3 => ?_)
    refine q_chk (fun h4 => ?_)
    refine p_getR C fgX9_19 rfl dX9_fail_14 h3 h4 ?_
    refine q_aload_n C 0 dX9_fail_17 rfl rfl ?_
    refine p_getI C fgX9_41 rfl dX9_fail_18 h3 ?_
    refine q_chk (fun h5 => ?_)
    refine q_chk (fun h6 => ?_)
    refine p_iald C dX9_fail_21 h5 h6 ?_
    refine p_putI C fpX9_25 rfl dX9_fail_22 h3 ?_
    refine q_nmX (fun X22_7 => ?_)
    exact q_vret C dX9_fail_25
  · exact q_vret C dX9_fail_25
/-! RecordClaims$Tape.takeValue()I -/
abbrev cX9_takeValue : ByteArray := prog_11_method_23_code
def yX9_takeValue : MethodName := ⟨RX9, "takeValue", "()I"⟩
theorem dX9_takeValue_0 : decode cX9_takeValue 0 = .ok (.aload_n 0, 1) := by decide +kernel
theorem dX9_takeValue_1 : decode cX9_takeValue 1 = .ok (.getfield 38, 3) := by decide +kernel
theorem dX9_takeValue_4 : decode cX9_takeValue 4 = .ok (.ifCond .eq 5, 3) := by decide +kernel
theorem dX9_takeValue_7 : decode cX9_takeValue 7 = .ok (.iconst (-1), 1) := by decide +kernel
theorem dX9_takeValue_8 : decode cX9_takeValue 8 = .ok (.ireturn, 1) := by decide +kernel
theorem dX9_takeValue_9 : decode cX9_takeValue 9 = .ok (.aload_n 0, 1) := by decide +kernel
theorem dX9_takeValue_10 : decode cX9_takeValue 10 = .ok (.getfield 22, 3) := by decide +kernel
theorem dX9_takeValue_13 : decode cX9_takeValue 13 = .ok (.aload_n 0, 1) := by decide +kernel
theorem dX9_takeValue_14 : decode cX9_takeValue 14 = .ok (.getfield 41, 3) := by decide +kernel
theorem dX9_takeValue_17 : decode cX9_takeValue 17 = .ok (.iaload, 1) := by decide +kernel
theorem dX9_takeValue_18 : decode cX9_takeValue 18 = .ok (.istore_n 1, 1) := by decide +kernel
theorem dX9_takeValue_19 : decode cX9_takeValue 19 = .ok (.aload_n 0, 1) := by decide +kernel
theorem dX9_takeValue_20 : decode cX9_takeValue 20 = .ok (.dup, 1) := by decide +kernel
theorem dX9_takeValue_21 : decode cX9_takeValue 21 = .ok (.getfield 41, 3) := by decide +kernel
theorem dX9_takeValue_24 : decode cX9_takeValue 24 = .ok (.iconst 1, 1) := by decide +kernel
theorem dX9_takeValue_25 : decode cX9_takeValue 25 = .ok (.iadd, 1) := by decide +kernel
theorem dX9_takeValue_26 : decode cX9_takeValue 26 = .ok (.putfield 41, 3) := by decide +kernel
theorem dX9_takeValue_29 : decode cX9_takeValue 29 = .ok (.iload_n 1, 1) := by decide +kernel
theorem dX9_takeValue_30 : decode cX9_takeValue 30 = .ok (.ireturn, 1) := by decide +kernel
theorem fgX9_22 : q_Fg RX9 22 9 4 := q_Fg.of (C := RX9) (T := TX9) (N := 8) rfl (by decide) inX9 39 (by decide +kernel) rfl rfl
theorem fpX9_41 : q_Fp RX9 41 9 5 .int false := ⟨RX9, TX9, 8, tyX9, rfl, by decide, inX9, q_tb 40 (by decide +kernel) rfl, tyX9_ok, nmX9, rfl, rfl, fun h => by first | rfl | cases h⟩
def fX9_takeValue (r0 : Nat) (X : Mm) : Option (Int32 × Mm) :=
if mT X r0 = 9 then
if (mI X r0 6) = 0 then (
if mR X r0 4 ≠ 0 then
if mT X (mR X r0 4) = 14 then
if q_b X (mR X r0 4) (mI X r0 5) then
nm ((mI X (mR X r0 4) ((mI X r0 5)).toNatClampNeg)) fun v1_18 =>
nm (sI X r0 5 ((mI X r0 5) + (1 : Int32))) fun X26_6 =>
some (v1_18, X26_6)
else none
else none
else none
) else (
some ((-1 : Int32), X)
)
else none
theorem sX9_takeValue (r0 : Nat) : q_Ct yX9_takeValue cX9_takeValue 2 (some .int) 0 0 0 0 q_eI (fun P => [.ref (P + r0)]) (fX9_takeValue r0) := by
  refine q_meth (by decide +kernel) (fun P => Nat.le_of_ble_eq_true rfl) (fun E X C hn => ?_)
  show Sm E (q_fin E q_eI X 0 0) 0 0 0 [(0, .ref (q_P E + r0))] [] X _
  unfold fX9_takeValue
  refine q_aload_n C 0 dX9_takeValue_0 rfl rfl ?_
  refine q_chk (fun h1 => ?_)
  refine p_getI C fgX9_38 rfl dX9_takeValue_1 h1 ?_
  refine q_if_eq C 9 dX9_takeValue_4 (by decide) (fun _ => ?_) (fun _ => ?_)
  · refine q_aload_n C 0 dX9_takeValue_9 rfl rfl ?_
    refine q_chk (fun h2 => ?_)
    refine p_getR C fgX9_22 rfl dX9_takeValue_10 h1 h2 ?_
    refine q_aload_n C 0 dX9_takeValue_13 rfl rfl ?_
    refine p_getI C fgX9_41 rfl dX9_takeValue_14 h1 ?_
    refine q_chk (fun h3 => ?_)
    refine q_chk (fun h4 => ?_)
    refine p_iald C dX9_takeValue_17 h3 h4 ?_
    refine q_nmi (fun v1_18 => ?_)
    refine q_istore_n C [(1, .int v1_18), (0, .ref (q_P E + r0))] dX9_takeValue_18 rfl (Nat.le_of_ble_eq_true rfl) rfl ?_
    refine q_aload_n C 1 dX9_takeValue_19 rfl rfl ?_
    refine q_dup C dX9_takeValue_20 rfl ?_
    refine p_getI C fgX9_41 rfl dX9_takeValue_21 h1 ?_
    refine q_iconst C (1 : Int32) dX9_takeValue_24 rfl ?_
    refine q_iadd C dX9_takeValue_25 ?_
    refine p_putI C fpX9_41 rfl dX9_takeValue_26 h1 ?_
    refine q_nmX (fun X26_6 => ?_)
    refine q_iload_n C 0 dX9_takeValue_29 rfl rfl ?_
    exact q_iret C dX9_takeValue_30
  · refine q_iconst C (-1 : Int32) dX9_takeValue_7 rfl ?_
    exact q_iret C dX9_takeValue_8
/-! RecordClaims$Tape.takeKnown([II)I -/
abbrev cX9_takeKnown : ByteArray := prog_11_method_21_code
def yX9_takeKnown : MethodName := ⟨RX9, "takeKnown", "([II)I"⟩
theorem dX9_takeKnown_0 : decode cX9_takeKnown 0 = .ok (.aload_n 1, 1) := by decide +kernel
theorem dX9_takeKnown_1 : decode cX9_takeKnown 1 = .ok (.iload_n 2, 1) := by decide +kernel
theorem dX9_takeKnown_2 : decode cX9_takeKnown 2 = .ok (.aload_n 0, 1) := by decide +kernel
theorem dX9_takeKnown_3 : decode cX9_takeKnown 3 = .ok (.getfield 22, 3) := by decide +kernel
theorem dX9_takeKnown_6 : decode cX9_takeKnown 6 = .ok (.aload_n 0, 1) := by decide +kernel
theorem dX9_takeKnown_7 : decode cX9_takeKnown 7 = .ok (.getfield 41, 3) := by decide +kernel
theorem dX9_takeKnown_10 : decode cX9_takeKnown 10 = .ok (.iaload, 1) := by decide +kernel
theorem dX9_takeKnown_11 : decode cX9_takeKnown 11 = .ok (.invokestatic 89, 3) := by decide +kernel
theorem dX9_takeKnown_14 : decode cX9_takeKnown 14 = .ok (.istore_n 3, 1) := by decide +kernel
theorem dX9_takeKnown_15 : decode cX9_takeKnown 15 = .ok (.aload_n 0, 1) := by decide +kernel
theorem dX9_takeKnown_16 : decode cX9_takeKnown 16 = .ok (.getfield 15, 3) := by decide +kernel
theorem dX9_takeKnown_19 : decode cX9_takeKnown 19 = .ok (.aload_n 0, 1) := by decide +kernel
theorem dX9_takeKnown_20 : decode cX9_takeKnown 20 = .ok (.getfield 41, 3) := by decide +kernel
theorem dX9_takeKnown_23 : decode cX9_takeKnown 23 = .ok (.iaload, 1) := by decide +kernel
theorem dX9_takeKnown_24 : decode cX9_takeKnown 24 = .ok (.iconst 2, 1) := by decide +kernel
theorem dX9_takeKnown_25 : decode cX9_takeKnown 25 = .ok (.if_icmp .eq 11, 3) := by decide +kernel
theorem dX9_takeKnown_28 : decode cX9_takeKnown 28 = .ok (.aload_n 0, 1) := by decide +kernel
theorem dX9_takeKnown_29 : decode cX9_takeKnown 29 = .ok (.iconst 1, 1) := by decide +kernel
theorem dX9_takeKnown_30 : decode cX9_takeKnown 30 = .ok (.invokevirtual 82, 3) := by decide +kernel
theorem dX9_takeKnown_33 : decode cX9_takeKnown 33 = .ok (.goto 13, 3) := by decide +kernel
theorem dX9_takeKnown_36 : decode cX9_takeKnown 36 = .ok (.iload_n 3, 1) := by decide +kernel
theorem dX9_takeKnown_37 : decode cX9_takeKnown 37 = .ok (.iconst (-1), 1) := by decide +kernel
theorem dX9_takeKnown_38 : decode cX9_takeKnown 38 = .ok (.if_icmp .ne 8, 3) := by decide +kernel
theorem dX9_takeKnown_41 : decode cX9_takeKnown 41 = .ok (.aload_n 0, 1) := by decide +kernel
theorem dX9_takeKnown_42 : decode cX9_takeKnown 42 = .ok (.iconst 2, 1) := by decide +kernel
theorem dX9_takeKnown_43 : decode cX9_takeKnown 43 = .ok (.invokevirtual 82, 3) := by decide +kernel
theorem dX9_takeKnown_46 : decode cX9_takeKnown 46 = .ok (.aload_n 0, 1) := by decide +kernel
theorem dX9_takeKnown_47 : decode cX9_takeKnown 47 = .ok (.invokevirtual 86, 3) := by decide +kernel
theorem dX9_takeKnown_50 : decode cX9_takeKnown 50 = .ok (.iconst (-1), 1) := by decide +kernel
theorem dX9_takeKnown_51 : decode cX9_takeKnown 51 = .ok (.if_icmp .ne 7, 3) := by decide +kernel
theorem dX9_takeKnown_54 : decode cX9_takeKnown 54 = .ok (.iconst (-1), 1) := by decide +kernel
theorem dX9_takeKnown_55 : decode cX9_takeKnown 55 = .ok (.goto 4, 3) := by decide +kernel
theorem dX9_takeKnown_58 : decode cX9_takeKnown 58 = .ok (.iload_n 3, 1) := by decide +kernel
theorem dX9_takeKnown_59 : decode cX9_takeKnown 59 = .ok (.ireturn, 1) := by decide +kernel
theorem fcX9_89 : q_LS RX9 89 yX9_indexOf cX9_indexOf 4 (some .int) 3 := ⟨q_tb 672 (by decide +kernel) rfl, q_tb 646 (by decide +kernel) rfl, q_tb 2 (by decide +kernel) rfl, q_tb 647 (by decide +kernel) rfl, ⟨by decide +kernel, by decide +kernel, by decide +kernel⟩⟩
theorem fgX9_15 : q_Fg RX9 15 9 2 := q_Fg.of (C := RX9) (T := TX9) (N := 8) rfl (by decide) inX9 37 (by decide +kernel) rfl rfl
theorem fcX9_82 : q_LV RX9 82 yX9_fail cX9_fail 2 none 1 9 := ⟨q_tb 632 (by decide +kernel) rfl, q_tb 624 (by decide +kernel) rfl, q_tb 625 (by decide +kernel) rfl, q_tb 2 (by decide +kernel) rfl, q_tb 626 (by decide +kernel) rfl, ⟨by decide +kernel, by decide +kernel, by decide +kernel⟩, TX9, 8, rfl⟩
theorem fcX9_86 : q_LV RX9 86 yX9_takeValue cX9_takeValue 2 (some .int) 0 9 := ⟨q_tb 652 (by decide +kernel) rfl, q_tb 654 (by decide +kernel) rfl, q_tbs (q := (yX9_takeValue, 8)) 6 (by decide +kernel) rfl, q_tb 2 (by decide +kernel) rfl, q_tb 655 (by decide +kernel) rfl, ⟨by decide +kernel, by decide +kernel, by decide +kernel⟩, TX9, 8, rfl⟩
def fX9_takeKnown_L46 (n : Nat) (r0 : Nat) (v3 : Int32) (X : Mm) : Option (Int32 × Mm) :=
if mT X r0 = 9 then
bd (fX9_takeValue r0 X) fun w13 X47_14 =>
if w13 = (-1 : Int32) then (
some ((-1 : Int32), X47_14)
) else (
some (v3, X47_14)
)
else none
def fX9_takeKnown (n : Nat) (r0 : Nat) (r1 : Nat) (v2 : Int32) (X : Mm) : Option (Int32 × Mm) :=
if mT X r0 = 9 then
if mR X r0 4 ≠ 0 then
if mT X (mR X r0 4) = 14 then
if q_b X (mR X r0 4) (mI X r0 5) then
bd (fX9_indexOf n r1 v2 ((mI X (mR X r0 4) ((mI X r0 5)).toNatClampNeg)) X) fun w5 X11_6 =>
if mT X11_6 r0 = 9 then
if mR X11_6 r0 2 ≠ 0 then
if mT X11_6 (mR X11_6 r0 2) = 14 then
if q_b X11_6 (mR X11_6 r0 2) (mI X11_6 r0 5) then
if (mI X11_6 (mR X11_6 r0 2) ((mI X11_6 r0 5)).toNatClampNeg) = (2 : Int32) then (
if w5 = (-1 : Int32) then (
bd (fX9_fail r0 (2 : Int32) X11_6) fun _ X43_12 =>
fX9_takeKnown_L46 n r0 w5 X43_12
) else (
fX9_takeKnown_L46 n r0 w5 X11_6
)
) else (
bd (fX9_fail r0 (1 : Int32) X11_6) fun _ X30_17 =>
fX9_takeKnown_L46 n r0 w5 X30_17
)
else none
else none
else none
else none
else none
else none
else none
else none
theorem gX9_takeKnown_L46 {E : q_E} {X0 : Mm} (C : Cx E cX9_takeKnown RX9 4 (some .int) (q_rm 1 23 0 0) X0) (n : Nat) (r0 : Nat) (v3 : Int32) (X : Mm) : Sm E (q_fin E q_eI X0 0 0) 0 0 46 [(0, .ref (q_P E + r0)), (3, .int v3)] [] X (fX9_takeKnown_L46 n r0 v3 X) := by
  unfold fX9_takeKnown_L46
  refine q_aload_n C 0 dX9_takeKnown_46 rfl rfl ?_
  refine q_chk (fun h15 => ?_)
  refine q_cVI (As := (fun P => [])) C [] (sX9_takeValue r0) fcX9_86 rfl (fun _ => rfl) ⟨Nat.le_of_ble_eq_true rfl, Nat.le_of_ble_eq_true rfl⟩ ⟨Nat.le_of_ble_eq_true rfl, Nat.le_of_ble_eq_true rfl⟩ (Nat.le_of_ble_eq_true rfl) dX9_takeKnown_47 h15 (fun w13 X47_14 => ?_)
  refine q_iconst C (-1 : Int32) dX9_takeKnown_50 rfl ?_
  refine q_icmp_ne C 58 dX9_takeKnown_51 (by decide) (fun _ => ?_) (fun _ => ?_)
  · refine q_iconst C (-1 : Int32) dX9_takeKnown_54 rfl ?_
    refine q_goto C 59 dX9_takeKnown_55 (by decide) ?_
    exact q_iret C dX9_takeKnown_59
  · refine q_iload_n C 1 dX9_takeKnown_58 rfl rfl ?_
    exact q_iret C dX9_takeKnown_59
theorem sX9_takeKnown (n : Nat) (r0 : Nat) (r1 : Nat) (v2 : Int32) : q_Ct yX9_takeKnown cX9_takeKnown 4 (some .int) 1 23 0 0 q_eI (fun P => [.ref (P + r0), .ref (P + r1), .int v2]) (fX9_takeKnown n r0 r1 v2) := by
  refine q_meth (by decide +kernel) (fun P => Nat.le_of_ble_eq_true rfl) (fun E X C hn => ?_)
  show Sm E (q_fin E q_eI X 0 0) 0 0 0 [(0, .ref (q_P E + r0)), (1, .ref (q_P E + r1)), (2, .int v2)] [] X _
  unfold fX9_takeKnown
  refine q_aload_n C 1 dX9_takeKnown_0 rfl rfl ?_
  refine q_iload_n C 2 dX9_takeKnown_1 rfl rfl ?_
  refine q_aload_n C 0 dX9_takeKnown_2 rfl rfl ?_
  refine q_chk (fun h1 => ?_)
  refine q_chk (fun h2 => ?_)
  refine p_getR C fgX9_22 rfl dX9_takeKnown_3 h1 h2 ?_
  refine q_aload_n C 0 dX9_takeKnown_6 rfl rfl ?_
  refine p_getI C fgX9_41 rfl dX9_takeKnown_7 h1 ?_
  refine q_chk (fun h3 => ?_)
  refine q_chk (fun h4 => ?_)
  refine p_iald C dX9_takeKnown_10 h3 h4 ?_
  refine q_cSI (As := (fun P => [.ref (P + r1), .int v2, .int (mI X (mR X r0 4) ((mI X r0 5)).toNatClampNeg)])) C [] (sX9_indexOf n r1 v2 ((mI X (mR X r0 4) ((mI X r0 5)).toNatClampNeg))) fcX9_89 rfl (fun _ => rfl) ⟨Nat.le_of_ble_eq_true rfl, Nat.le_of_ble_eq_true rfl⟩ ⟨Nat.le_of_ble_eq_true rfl, Nat.le_of_ble_eq_true rfl⟩ (Nat.le_of_ble_eq_true rfl) dX9_takeKnown_11 (fun w5 X11_6 => ?_)
  refine q_istore_n C [(3, .int w5), (0, .ref (q_P E + r0)), (1, .ref (q_P E + r1)), (2, .int v2)] dX9_takeKnown_14 rfl (Nat.le_of_ble_eq_true rfl) rfl ?_
  refine q_aload_n C 1 dX9_takeKnown_15 rfl rfl ?_
  refine q_chk (fun h7 => ?_)
  refine q_chk (fun h8 => ?_)
  refine p_getR C fgX9_15 rfl dX9_takeKnown_16 h7 h8 ?_
  refine q_aload_n C 1 dX9_takeKnown_19 rfl rfl ?_
  refine p_getI C fgX9_41 rfl dX9_takeKnown_20 h7 ?_
  refine q_chk (fun h9 => ?_)
  refine q_chk (fun h10 => ?_)
  refine p_iald C dX9_takeKnown_23 h9 h10 ?_
  refine q_iconst C (2 : Int32) dX9_takeKnown_24 rfl ?_
  refine q_icmp_eq C 36 dX9_takeKnown_25 (by decide) (fun _ => ?_) (fun _ => ?_)
  · refine q_iload_n C 0 dX9_takeKnown_36 rfl rfl ?_
    refine q_iconst C (-1 : Int32) dX9_takeKnown_37 rfl ?_
    refine q_icmp_ne C 46 dX9_takeKnown_38 (by decide) (fun _ => ?_) (fun _ => ?_)
    · refine q_aload_n C 1 dX9_takeKnown_41 rfl rfl ?_
      refine q_iconst C (2 : Int32) dX9_takeKnown_42 rfl ?_
      refine q_cVV (As := (fun P => [.int (2 : Int32)])) C [] (sX9_fail r0 (2 : Int32)) fcX9_82 rfl (fun _ => rfl) ⟨Nat.le_of_ble_eq_true rfl, Nat.le_of_ble_eq_true rfl⟩ ⟨Nat.le_of_ble_eq_true rfl, Nat.le_of_ble_eq_true rfl⟩ (Nat.le_of_ble_eq_true rfl) dX9_takeKnown_43 h7 (fun _ X43_12 => ?_)
      refine q_sub C [(0, .ref (q_P E + r0)), (3, .int w5)] [1, 0] rfl ?_
      exact gX9_takeKnown_L46 C n r0 w5 X43_12
    · refine q_sub C [(0, .ref (q_P E + r0)), (3, .int w5)] [1, 0] rfl ?_
      exact gX9_takeKnown_L46 C n r0 w5 X11_6
  · refine q_aload_n C 1 dX9_takeKnown_28 rfl rfl ?_
    refine q_iconst C (1 : Int32) dX9_takeKnown_29 rfl ?_
    refine q_cVV (As := (fun P => [.int (1 : Int32)])) C [] (sX9_fail r0 (1 : Int32)) fcX9_82 rfl (fun _ => rfl) ⟨Nat.le_of_ble_eq_true rfl, Nat.le_of_ble_eq_true rfl⟩ ⟨Nat.le_of_ble_eq_true rfl, Nat.le_of_ble_eq_true rfl⟩ (Nat.le_of_ble_eq_true rfl) dX9_takeKnown_30 h7 (fun _ X30_17 => ?_)
    refine q_goto C 46 dX9_takeKnown_33 (by decide) ?_
    refine q_sub C [(0, .ref (q_P E + r0)), (3, .int w5)] [1, 0] rfl ?_
    exact gX9_takeKnown_L46 C n r0 w5 X30_17
/-! RecordClaims$Book.takeHolder(LRecordClaims$Tape;)I -/
abbrev cX0_takeHolder : ByteArray := prog_2_method_4_code
def yX0_takeHolder : MethodName := ⟨RX0, "takeHolder", "(LRecordClaims$Tape;)I"⟩
theorem dX0_takeHolder_0 : decode cX0_takeHolder 0 = .ok (.aload_n 1, 1) := by decide +kernel
theorem dX0_takeHolder_1 : decode cX0_takeHolder 1 = .ok (.aload_n 0, 1) := by decide +kernel
theorem dX0_takeHolder_2 : decode cX0_takeHolder 2 = .ok (.getfield 9, 3) := by decide +kernel
theorem dX0_takeHolder_5 : decode cX0_takeHolder 5 = .ok (.aload_n 0, 1) := by decide +kernel
theorem dX0_takeHolder_6 : decode cX0_takeHolder 6 = .ok (.getfield 22, 3) := by decide +kernel
theorem dX0_takeHolder_9 : decode cX0_takeHolder 9 = .ok (.invokevirtual 35, 3) := by decide +kernel
theorem dX0_takeHolder_12 : decode cX0_takeHolder 12 = .ok (.ireturn, 1) := by decide +kernel
theorem fcX0_35 : q_LV RX0 35 yX9_takeKnown cX9_takeKnown 4 (some .int) 2 9 := ⟨q_tb 668 (by decide +kernel) rfl, q_tb 669 (by decide +kernel) rfl, q_tb 670 (by decide +kernel) rfl, q_tb 2 (by decide +kernel) rfl, q_tb 671 (by decide +kernel) rfl, ⟨by decide +kernel, by decide +kernel, by decide +kernel⟩, TX9, 8, rfl⟩
def fX0_takeHolder (n : Nat) (r0 : Nat) (r1 : Nat) (X : Mm) : Option (Int32 × Mm) :=
if mT X r0 = 0 then
if mR X r0 0 ≠ 0 then
if mT X r1 = 9 then
bd (fX9_takeKnown n r1 ((mR X r0 0)) ((mI X r0 3)) X) fun w3 X9_4 =>
some (w3, X9_4)
else none
else none
else none
theorem sX0_takeHolder (n : Nat) (r0 : Nat) (r1 : Nat) : q_Ct yX0_takeHolder cX0_takeHolder 2 (some .int) 2 46 0 0 q_eI (fun P => [.ref (P + r0), .ref (P + r1)]) (fX0_takeHolder n r0 r1) := by
  refine q_meth (by decide +kernel) (fun P => Nat.le_of_ble_eq_true rfl) (fun E X C hn => ?_)
  show Sm E (q_fin E q_eI X 0 0) 0 0 0 [(0, .ref (q_P E + r0)), (1, .ref (q_P E + r1))] [] X _
  unfold fX0_takeHolder
  refine q_aload_n C 1 dX0_takeHolder_0 rfl rfl ?_
  refine q_aload_n C 0 dX0_takeHolder_1 rfl rfl ?_
  refine q_chk (fun h1 => ?_)
  refine q_chk (fun h2 => ?_)
  refine p_getR C fgX0_9 rfl dX0_takeHolder_2 h1 h2 ?_
  refine q_aload_n C 0 dX0_takeHolder_5 rfl rfl ?_
  refine p_getI C fgX0_22 rfl dX0_takeHolder_6 h1 ?_
  refine q_chk (fun h5 => ?_)
  refine q_cVI (As := (fun P => [.ref (P + (mR X r0 0)), .int (mI X r0 3)])) C [] (sX9_takeKnown n r1 ((mR X r0 0)) ((mI X r0 3))) fcX0_35 rfl (fun _ => rfl) ⟨Nat.le_of_ble_eq_true rfl, Nat.le_of_ble_eq_true rfl⟩ ⟨Nat.le_of_ble_eq_true rfl, Nat.le_of_ble_eq_true rfl⟩ (Nat.le_of_ble_eq_true rfl) dX0_takeHolder_9 h5 (fun w3 X9_4 => ?_)
  exact q_iret C dX0_takeHolder_12
/-! RecordClaims$Book.takePaper(LRecordClaims$Tape;)I -/
abbrev cX0_takePaper : ByteArray := prog_2_method_5_code
def yX0_takePaper : MethodName := ⟨RX0, "takePaper", "(LRecordClaims$Tape;)I"⟩
theorem dX0_takePaper_0 : decode cX0_takePaper 0 = .ok (.aload_n 1, 1) := by decide +kernel
theorem dX0_takePaper_1 : decode cX0_takePaper 1 = .ok (.aload_n 0, 1) := by decide +kernel
theorem dX0_takePaper_2 : decode cX0_takePaper 2 = .ok (.getfield 15, 3) := by decide +kernel
theorem dX0_takePaper_5 : decode cX0_takePaper 5 = .ok (.aload_n 0, 1) := by decide +kernel
theorem dX0_takePaper_6 : decode cX0_takePaper 6 = .ok (.getfield 32, 3) := by decide +kernel
theorem dX0_takePaper_9 : decode cX0_takePaper 9 = .ok (.invokevirtual 35, 3) := by decide +kernel
theorem dX0_takePaper_12 : decode cX0_takePaper 12 = .ok (.ireturn, 1) := by decide +kernel
def fX0_takePaper (n : Nat) (r0 : Nat) (r1 : Nat) (X : Mm) : Option (Int32 × Mm) :=
if mT X r0 = 0 then
if mR X r0 1 ≠ 0 then
if mT X r1 = 9 then
bd (fX9_takeKnown n r1 ((mR X r0 1)) ((mI X r0 4)) X) fun w3 X9_4 =>
some (w3, X9_4)
else none
else none
else none
theorem sX0_takePaper (n : Nat) (r0 : Nat) (r1 : Nat) : q_Ct yX0_takePaper cX0_takePaper 2 (some .int) 2 46 0 0 q_eI (fun P => [.ref (P + r0), .ref (P + r1)]) (fX0_takePaper n r0 r1) := by
  refine q_meth (by decide +kernel) (fun P => Nat.le_of_ble_eq_true rfl) (fun E X C hn => ?_)
  show Sm E (q_fin E q_eI X 0 0) 0 0 0 [(0, .ref (q_P E + r0)), (1, .ref (q_P E + r1))] [] X _
  unfold fX0_takePaper
  refine q_aload_n C 1 dX0_takePaper_0 rfl rfl ?_
  refine q_aload_n C 0 dX0_takePaper_1 rfl rfl ?_
  refine q_chk (fun h1 => ?_)
  refine q_chk (fun h2 => ?_)
  refine p_getR C fgX0_15 rfl dX0_takePaper_2 h1 h2 ?_
  refine q_aload_n C 0 dX0_takePaper_5 rfl rfl ?_
  refine p_getI C fgX0_32 rfl dX0_takePaper_6 h1 ?_
  refine q_chk (fun h5 => ?_)
  refine q_cVI (As := (fun P => [.ref (P + (mR X r0 1)), .int (mI X r0 4)])) C [] (sX9_takeKnown n r1 ((mR X r0 1)) ((mI X r0 4))) fcX0_35 rfl (fun _ => rfl) ⟨Nat.le_of_ble_eq_true rfl, Nat.le_of_ble_eq_true rfl⟩ ⟨Nat.le_of_ble_eq_true rfl, Nat.le_of_ble_eq_true rfl⟩ (Nat.le_of_ble_eq_true rfl) dX0_takePaper_9 h5 (fun w3 X9_4 => ?_)
  exact q_iret C dX0_takePaper_12
/-! RecordClaims$Tape.isLetter(I)Z -/
abbrev cX9_isLetter : ByteArray := prog_11_method_9_code
def yX9_isLetter : MethodName := ⟨RX9, "isLetter", "(I)Z"⟩
theorem dX9_isLetter_0 : decode cX9_isLetter 0 = .ok (.iload_n 0, 1) := by decide +kernel
theorem dX9_isLetter_1 : decode cX9_isLetter 1 = .ok (.bipush 97, 2) := by decide +kernel
theorem dX9_isLetter_3 : decode cX9_isLetter 3 = .ok (.if_icmp .lt 13, 3) := by decide +kernel
theorem dX9_isLetter_6 : decode cX9_isLetter 6 = .ok (.iload_n 0, 1) := by decide +kernel
theorem dX9_isLetter_7 : decode cX9_isLetter 7 = .ok (.bipush 122, 2) := by decide +kernel
theorem dX9_isLetter_9 : decode cX9_isLetter 9 = .ok (.if_icmp .gt 7, 3) := by decide +kernel
theorem dX9_isLetter_12 : decode cX9_isLetter 12 = .ok (.iconst 1, 1) := by decide +kernel
theorem dX9_isLetter_13 : decode cX9_isLetter 13 = .ok (.goto 4, 3) := by decide +kernel
theorem dX9_isLetter_16 : decode cX9_isLetter 16 = .ok (.iconst 0, 1) := by decide +kernel
theorem dX9_isLetter_17 : decode cX9_isLetter 17 = .ok (.ireturn, 1) := by decide +kernel
def fX9_isLetter_L16 (X : Mm) : Option (Int32 × Mm) :=
some (0, X)
def fX9_isLetter (v0 : Int32) (X : Mm) : Option (Int32 × Mm) :=
if v0 < (97 : Int32) then (
fX9_isLetter_L16 X
) else (
if (122 : Int32) < v0 then (
fX9_isLetter_L16 X
) else (
some (1, X)
)
)
theorem gX9_isLetter_L16 {E : q_E} {X0 : Mm} (C : Cx E cX9_isLetter RX9 1 (some .boolean) (q_rm 0 0 0 0) X0) (X : Mm) : Sm E (q_fin E q_eI X0 0 0) 0 0 16 [] [] X (fX9_isLetter_L16  X) := by
  unfold fX9_isLetter_L16
  refine q_iconst C (0 : Int32) dX9_isLetter_16 rfl ?_
  exact q_zret0 C dX9_isLetter_17
theorem sX9_isLetter (v0 : Int32) : q_Ct yX9_isLetter cX9_isLetter 1 (some .boolean) 0 0 0 0 q_eI (fun P => [.int v0]) (fX9_isLetter v0) := by
  refine q_meth (by decide +kernel) (fun P => Nat.le_of_ble_eq_true rfl) (fun E X C hn => ?_)
  show Sm E (q_fin E q_eI X 0 0) 0 0 0 [(0, .int v0)] [] X _
  unfold fX9_isLetter
  refine q_iload_n C 0 dX9_isLetter_0 rfl rfl ?_
  refine q_bipush C (97 : Int32) dX9_isLetter_1 rfl ?_
  refine q_icmp_lt C 16 dX9_isLetter_3 (by decide) (fun _ => ?_) (fun _ => ?_)
  · refine q_sub C [] [] rfl ?_
    exact gX9_isLetter_L16 C X
  · refine q_iload_n C 0 dX9_isLetter_6 rfl rfl ?_
    refine q_bipush C (122 : Int32) dX9_isLetter_7 rfl ?_
    refine q_icmp_gt C 16 dX9_isLetter_9 (by decide) (fun _ => ?_) (fun _ => ?_)
    · refine q_sub C [] [] rfl ?_
      exact gX9_isLetter_L16 C X
    · refine q_iconst C (1 : Int32) dX9_isLetter_12 rfl ?_
      refine q_goto C 17 dX9_isLetter_13 (by decide) ?_
      exact q_zret1 C dX9_isLetter_17
/-! RecordClaims$Tape.withLetter(II)I -/
abbrev cX9_withLetter : ByteArray := prog_11_method_11_code
def yX9_withLetter : MethodName := ⟨RX9, "withLetter", "(II)I"⟩
theorem dX9_withLetter_0 : decode cX9_withLetter 0 = .ok (.iload_n 0, 1) := by decide +kernel
theorem dX9_withLetter_1 : decode cX9_withLetter 1 = .ok (.iconst 5, 1) := by decide +kernel
theorem dX9_withLetter_2 : decode cX9_withLetter 2 = .ok (.ishl, 1) := by decide +kernel
theorem dX9_withLetter_3 : decode cX9_withLetter 3 = .ok (.iload_n 1, 1) := by decide +kernel
theorem dX9_withLetter_4 : decode cX9_withLetter 4 = .ok (.bipush 97, 2) := by decide +kernel
theorem dX9_withLetter_6 : decode cX9_withLetter 6 = .ok (.isub, 1) := by decide +kernel
theorem dX9_withLetter_7 : decode cX9_withLetter 7 = .ok (.iconst 1, 1) := by decide +kernel
theorem dX9_withLetter_8 : decode cX9_withLetter 8 = .ok (.iadd, 1) := by decide +kernel
theorem dX9_withLetter_9 : decode cX9_withLetter 9 = .ok (.ior, 1) := by decide +kernel
theorem dX9_withLetter_10 : decode cX9_withLetter 10 = .ok (.ireturn, 1) := by decide +kernel
def fX9_withLetter (v0 : Int32) (v1 : Int32) (X : Mm) : Option (Int32 × Mm) :=
some (((v0 <<< ((5 : Int32) &&& 31)) ||| ((v1 - (97 : Int32)) + (1 : Int32))), X)
theorem sX9_withLetter (v0 : Int32) (v1 : Int32) : q_Ct yX9_withLetter cX9_withLetter 2 (some .int) 0 0 0 0 q_eI (fun P => [.int v0, .int v1]) (fX9_withLetter v0 v1) := by
  refine q_meth (by decide +kernel) (fun P => Nat.le_of_ble_eq_true rfl) (fun E X C hn => ?_)
  show Sm E (q_fin E q_eI X 0 0) 0 0 0 [(0, .int v0), (1, .int v1)] [] X _
  unfold fX9_withLetter
  refine q_iload_n C 0 dX9_withLetter_0 rfl rfl ?_
  refine q_iconst C (5 : Int32) dX9_withLetter_1 rfl ?_
  refine q_ishl C dX9_withLetter_2 ?_
  refine q_iload_n C 1 dX9_withLetter_3 rfl rfl ?_
  refine q_bipush C (97 : Int32) dX9_withLetter_4 rfl ?_
  refine q_isub C dX9_withLetter_6 ?_
  refine q_iconst C (1 : Int32) dX9_withLetter_7 rfl ?_
  refine q_iadd C dX9_withLetter_8 ?_
  refine q_ior C dX9_withLetter_9 ?_
  exact q_iret C dX9_withLetter_10
/-! RecordClaims$Tape.keywordOf(I)I -/
abbrev cX9_keywordOf : ByteArray := prog_11_method_12_code
def yX9_keywordOf : MethodName := ⟨RX9, "keywordOf", "(I)I"⟩
theorem dX9_keywordOf_0 : decode cX9_keywordOf 0 = .ok (.iconst 0, 1) := by decide +kernel
theorem dX9_keywordOf_1 : decode cX9_keywordOf 1 = .ok (.istore_n 1, 1) := by decide +kernel
theorem dX9_keywordOf_2 : decode cX9_keywordOf 2 = .ok (.iconst 0, 1) := by decide +kernel
theorem dX9_keywordOf_3 : decode cX9_keywordOf 3 = .ok (.istore_n 2, 1) := by decide +kernel
theorem dX9_keywordOf_4 : decode cX9_keywordOf 4 = .ok (.iconst 0, 1) := by decide +kernel
theorem dX9_keywordOf_5 : decode cX9_keywordOf 5 = .ok (.istore_n 3, 1) := by decide +kernel
theorem dX9_keywordOf_6 : decode cX9_keywordOf 6 = .ok (.iload_n 3, 1) := by decide +kernel
theorem dX9_keywordOf_7 : decode cX9_keywordOf 7 = .ok (.ldc 68, 2) := by decide +kernel
theorem dX9_keywordOf_9 : decode cX9_keywordOf 9 = .ok (.invokevirtual 70, 3) := by decide +kernel
theorem dX9_keywordOf_12 : decode cX9_keywordOf 12 = .ok (.if_icmp .ge 46, 3) := by decide +kernel
theorem dX9_keywordOf_15 : decode cX9_keywordOf 15 = .ok (.ldc 68, 2) := by decide +kernel
theorem dX9_keywordOf_17 : decode cX9_keywordOf 17 = .ok (.iload_n 3, 1) := by decide +kernel
theorem dX9_keywordOf_18 : decode cX9_keywordOf 18 = .ok (.invokevirtual 75, 3) := by decide +kernel
theorem dX9_keywordOf_21 : decode cX9_keywordOf 21 = .ok (.istore 4, 2) := by decide +kernel
theorem dX9_keywordOf_23 : decode cX9_keywordOf 23 = .ok (.iload 4, 2) := by decide +kernel
theorem dX9_keywordOf_25 : decode cX9_keywordOf 25 = .ok (.bipush 32, 2) := by decide +kernel
theorem dX9_keywordOf_27 : decode cX9_keywordOf 27 = .ok (.if_icmp .eq 13, 3) := by decide +kernel
theorem dX9_keywordOf_30 : decode cX9_keywordOf 30 = .ok (.iload_n 2, 1) := by decide +kernel
theorem dX9_keywordOf_31 : decode cX9_keywordOf 31 = .ok (.iload 4, 2) := by decide +kernel
theorem dX9_keywordOf_33 : decode cX9_keywordOf 33 = .ok (.invokestatic 61, 3) := by decide +kernel
theorem dX9_keywordOf_36 : decode cX9_keywordOf 36 = .ok (.istore_n 2, 1) := by decide +kernel
theorem dX9_keywordOf_37 : decode cX9_keywordOf 37 = .ok (.goto 15, 3) := by decide +kernel
theorem dX9_keywordOf_40 : decode cX9_keywordOf 40 = .ok (.iload_n 2, 1) := by decide +kernel
theorem dX9_keywordOf_41 : decode cX9_keywordOf 41 = .ok (.iload_n 0, 1) := by decide +kernel
theorem dX9_keywordOf_42 : decode cX9_keywordOf 42 = .ok (.if_icmp .ne 5, 3) := by decide +kernel
theorem dX9_keywordOf_45 : decode cX9_keywordOf 45 = .ok (.iload_n 1, 1) := by decide +kernel
theorem dX9_keywordOf_46 : decode cX9_keywordOf 46 = .ok (.ireturn, 1) := by decide +kernel
theorem dX9_keywordOf_47 : decode cX9_keywordOf 47 = .ok (.iinc 1 1, 3) := by decide +kernel
theorem dX9_keywordOf_50 : decode cX9_keywordOf 50 = .ok (.iconst 0, 1) := by decide +kernel
theorem dX9_keywordOf_51 : decode cX9_keywordOf 51 = .ok (.istore_n 2, 1) := by decide +kernel
theorem dX9_keywordOf_52 : decode cX9_keywordOf 52 = .ok (.iinc 3 1, 3) := by decide +kernel
theorem dX9_keywordOf_55 : decode cX9_keywordOf 55 = .ok (.goto (-49), 3) := by decide +kernel
theorem dX9_keywordOf_58 : decode cX9_keywordOf 58 = .ok (.iconst (-1), 1) := by decide +kernel
theorem dX9_keywordOf_59 : decode cX9_keywordOf 59 = .ok (.ireturn, 1) := by decide +kernel
theorem fcX9_61 : q_LS RX9 61 yX9_withLetter cX9_withLetter 2 (some .int) 2 := ⟨q_tb 541 (by decide +kernel) rfl, q_tb 542 (by decide +kernel) rfl, q_tb 2 (by decide +kernel) rfl, q_tb 543 (by decide +kernel) rfl, ⟨by decide +kernel, by decide +kernel, by decide +kernel⟩⟩
def fX9_keywordOf_L52 (n : Nat) (k6 : Int32 → Int32 → Int32 → Int32 → Mm → Option (Int32 × Mm)) (v0 : Int32) (v1 : Int32) (v2 : Int32) (v3 : Int32) (X : Mm) : Option (Int32 × Mm) :=
nm (v3 + (1 : Int32)) fun v3_52 =>
k6 v0 v1 v2 v3_52 X
def fX9_keywordOf_L6 (n : Nat) : Nat → Int32 → Int32 → Int32 → Int32 → Mm → Option (Int32 × Mm)
| 0, _, _, _, _, _ => none
| j + 1, v0, v1, v2, v3, X =>
if (113 : Int32) ≤ v3 then (
some ((-1 : Int32), X)
) else (
if 0 ≤ (v3).toInt ∧ (v3).toInt < 113 then
nm ((q_kw_at v3)) fun v4_21 =>
if v4_21 = (32 : Int32) then (
if v2 = v0 then (
some (v1, X)
) else (
nm (v1 + (1 : Int32)) fun v1_47 =>
fX9_keywordOf_L52 n (fX9_keywordOf_L6 n j) v0 v1_47 (0 : Int32) v3 X
)
) else (
bd (fX9_withLetter v2 v4_21 X) fun w5 X33_6 =>
fX9_keywordOf_L52 n (fX9_keywordOf_L6 n j) v0 v1 w5 v3 X33_6
)
else none
)
def fX9_keywordOf (n : Nat) (v0 : Int32) (X : Mm) : Option (Int32 × Mm) :=
fX9_keywordOf_L6 n n v0 (0 : Int32) (0 : Int32) (0 : Int32) X
theorem gX9_keywordOf_L52 {E : q_E} {X0 : Mm} (C : Cx E cX9_keywordOf RX9 5 (some .int) (q_rm 6 120 0 0) X0) (n : Nat) (k6 : Int32 → Int32 → Int32 → Int32 → Mm → Option (Int32 × Mm)) (hk6 : ∀ (v0 : Int32) (v1 : Int32) (v2 : Int32) (v3 : Int32) (X : Mm), Sm E (q_fin E q_eI X0 0 0) 0 0 6 [(0, .int v0), (1, .int v1), (2, .int v2), (3, .int v3)] [] X (k6 v0 v1 v2 v3 X)) (v0 : Int32) (v1 : Int32) (v2 : Int32) (v3 : Int32) (X : Mm) : Sm E (q_fin E q_eI X0 0 0) 0 0 52 [(0, .int v0), (1, .int v1), (2, .int v2), (3, .int v3)] [] X (fX9_keywordOf_L52 n k6 v0 v1 v2 v3 X) := by
  unfold fX9_keywordOf_L52
  refine q_iincN C (1 : Int32) 3 (fun v3_52 => [(3, .int v3_52), (0, .int v0), (1, .int v1), (2, .int v2)]) dX9_keywordOf_52 rfl rfl (Nat.le_of_ble_eq_true rfl) (fun _ => rfl) (fun v3_52 => ?_)
  refine q_goto C 6 dX9_keywordOf_55 (by decide) ?_
  refine q_sub C [(0, .int v0), (1, .int v1), (2, .int v2), (3, .int v3_52)] [1, 2, 3, 0] rfl ?_
  exact hk6 v0 v1 v2 v3_52 X
theorem gX9_keywordOf_L6 {E : q_E} {X0 : Mm} (C : Cx E cX9_keywordOf RX9 5 (some .int) (q_rm 6 120 0 0) X0) (n : Nat) : ∀ (j : Nat) (v0 : Int32) (v1 : Int32) (v2 : Int32) (v3 : Int32) (X : Mm), Sm E (q_fin E q_eI X0 0 0) 0 0 6 [(0, .int v0), (1, .int v1), (2, .int v2), (3, .int v3)] [] X (fX9_keywordOf_L6 n j v0 v1 v2 v3 X) := by
  intro j
  induction j with
  | zero => intros; exact Sm.none
  | succ j ih =>
    intro v0 v1 v2 v3 X
    rw [fX9_keywordOf_L6]
    refine q_iload_n C 3 dX9_keywordOf_6 rfl rfl ?_
    refine q_ldcS C dX9_keywordOf_7 (fun aS7 haS7 => ?_)
    refine q_strlen C haS7 [.int v3] ⟨Nat.le_of_ble_eq_true rfl, Nat.le_of_ble_eq_true rfl⟩ ⟨Nat.le_of_ble_eq_true rfl, Nat.le_of_ble_eq_true rfl⟩ (Nat.le_of_ble_eq_true rfl) dX9_keywordOf_9 ?_
    refine q_icmp_ge C 58 dX9_keywordOf_12 (by decide) (fun _ => ?_) (fun _ => ?_)
    · refine q_iconst C (-1 : Int32) dX9_keywordOf_58 rfl ?_
      exact q_iret C dX9_keywordOf_59
    · refine q_ldcS C dX9_keywordOf_15 (fun aS15 haS15 => ?_)
      refine q_iload_n C 3 dX9_keywordOf_17 rfl rfl ?_
      refine q_chk (fun h3 => ?_)
      refine q_strchar C haS15 [] ⟨Nat.le_of_ble_eq_true rfl, Nat.le_of_ble_eq_true rfl⟩ ⟨Nat.le_of_ble_eq_true rfl, Nat.le_of_ble_eq_true rfl⟩ (Nat.le_of_ble_eq_true rfl) dX9_keywordOf_18 h3 ?_
      refine q_nmi (fun v4_21 => ?_)
      refine q_istore C [(4, .int v4_21), (0, .int v0), (1, .int v1), (2, .int v2), (3, .int v3)] dX9_keywordOf_21 (Nat.le_of_ble_eq_true rfl) rfl ?_
      refine q_iload C 0 dX9_keywordOf_23 rfl ?_
      refine q_bipush C (32 : Int32) dX9_keywordOf_25 rfl ?_
      refine q_icmp_eq C 40 dX9_keywordOf_27 (by decide) (fun _ => ?_) (fun _ => ?_)
      · refine q_iload_n C 3 dX9_keywordOf_40 rfl rfl ?_
        refine q_iload_n C 1 dX9_keywordOf_41 rfl rfl ?_
        refine q_icmp_ne C 47 dX9_keywordOf_42 (by decide) (fun _ => ?_) (fun _ => ?_)
        · refine q_iload_n C 2 dX9_keywordOf_45 rfl rfl ?_
          exact q_iret C dX9_keywordOf_46
        · refine q_iincN C (1 : Int32) 2 (fun v1_47 => [(1, .int v1_47), (4, .int v4_21), (0, .int v0), (2, .int v2), (3, .int v3)]) dX9_keywordOf_47 rfl rfl (Nat.le_of_ble_eq_true rfl) (fun _ => rfl) (fun v1_47 => ?_)
          refine q_iconst C (0 : Int32) dX9_keywordOf_50 rfl ?_
          refine q_istore_n C [(2, .int (0 : Int32)), (1, .int v1_47), (4, .int v4_21), (0, .int v0), (3, .int v3)] dX9_keywordOf_51 rfl (Nat.le_of_ble_eq_true rfl) rfl ?_
          refine q_sub C [(0, .int v0), (1, .int v1_47), (2, .int (0 : Int32)), (3, .int v3)] [3, 1, 0, 4] rfl ?_
          exact gX9_keywordOf_L52 C n (fX9_keywordOf_L6 n j) ih v0 v1_47 (0 : Int32) v3 X
      · refine q_iload_n C 3 dX9_keywordOf_30 rfl rfl ?_
        refine q_iload C 0 dX9_keywordOf_31 rfl ?_
        refine q_cSI (As := (fun P => [.int v2, .int v4_21])) C [] (sX9_withLetter v2 v4_21) fcX9_61 rfl (fun _ => rfl) ⟨Nat.le_of_ble_eq_true rfl, Nat.le_of_ble_eq_true rfl⟩ ⟨Nat.le_of_ble_eq_true rfl, Nat.le_of_ble_eq_true rfl⟩ (Nat.le_of_ble_eq_true rfl) dX9_keywordOf_33 (fun w5 X33_6 => ?_)
        refine q_istore_n C [(2, .int w5), (4, .int v4_21), (0, .int v0), (1, .int v1), (3, .int v3)] dX9_keywordOf_36 rfl (Nat.le_of_ble_eq_true rfl) rfl ?_
        refine q_goto C 52 dX9_keywordOf_37 (by decide) ?_
        refine q_sub C [(0, .int v0), (1, .int v1), (2, .int w5), (3, .int v3)] [2, 3, 0, 4] rfl ?_
        exact gX9_keywordOf_L52 C n (fX9_keywordOf_L6 n j) ih v0 v1 w5 v3 X33_6
theorem sX9_keywordOf (n : Nat) (v0 : Int32) : q_Ct yX9_keywordOf cX9_keywordOf 5 (some .int) 6 120 0 0 q_eI (fun P => [.int v0]) (fX9_keywordOf n v0) := by
  refine q_meth (by decide +kernel) (fun P => Nat.le_of_ble_eq_true rfl) (fun E X C hn => ?_)
  show Sm E (q_fin E q_eI X 0 0) 0 0 0 [(0, .int v0)] [] X _
  unfold fX9_keywordOf
  refine q_iconst C (0 : Int32) dX9_keywordOf_0 rfl ?_
  refine q_istore_n C [(1, .int (0 : Int32)), (0, .int v0)] dX9_keywordOf_1 rfl (Nat.le_of_ble_eq_true rfl) rfl ?_
  refine q_iconst C (0 : Int32) dX9_keywordOf_2 rfl ?_
  refine q_istore_n C [(2, .int (0 : Int32)), (1, .int (0 : Int32)), (0, .int v0)] dX9_keywordOf_3 rfl (Nat.le_of_ble_eq_true rfl) rfl ?_
  refine q_iconst C (0 : Int32) dX9_keywordOf_4 rfl ?_
  refine q_istore_n C [(3, .int (0 : Int32)), (2, .int (0 : Int32)), (1, .int (0 : Int32)), (0, .int v0)] dX9_keywordOf_5 rfl (Nat.le_of_ble_eq_true rfl) rfl ?_
  refine q_sub C [(0, .int v0), (1, .int (0 : Int32)), (2, .int (0 : Int32)), (3, .int (0 : Int32))] [3, 2, 1, 0] rfl ?_
  exact gX9_keywordOf_L6 C n n v0 (0 : Int32) (0 : Int32) (0 : Int32) X
/-! RecordClaims$Tape.scanWord(II)I -/
abbrev cX9_scanWord : ByteArray := prog_11_method_7_code
def yX9_scanWord : MethodName := ⟨RX9, "scanWord", "(II)I"⟩
theorem dX9_scanWord_0 : decode cX9_scanWord 0 = .ok (.iconst 0, 1) := by decide +kernel
theorem dX9_scanWord_1 : decode cX9_scanWord 1 = .ok (.istore_n 3, 1) := by decide +kernel
theorem dX9_scanWord_2 : decode cX9_scanWord 2 = .ok (.iload_n 2, 1) := by decide +kernel
theorem dX9_scanWord_3 : decode cX9_scanWord 3 = .ok (.istore 4, 2) := by decide +kernel
theorem dX9_scanWord_5 : decode cX9_scanWord 5 = .ok (.iload 4, 2) := by decide +kernel
theorem dX9_scanWord_7 : decode cX9_scanWord 7 = .ok (.aload_n 0, 1) := by decide +kernel
theorem dX9_scanWord_8 : decode cX9_scanWord 8 = .ok (.getfield 29, 3) := by decide +kernel
theorem dX9_scanWord_11 : decode cX9_scanWord 11 = .ok (.if_icmp .ge 34, 3) := by decide +kernel
theorem dX9_scanWord_14 : decode cX9_scanWord 14 = .ok (.aload_n 0, 1) := by decide +kernel
theorem dX9_scanWord_15 : decode cX9_scanWord 15 = .ok (.getfield 9, 3) := by decide +kernel
theorem dX9_scanWord_18 : decode cX9_scanWord 18 = .ok (.iload 4, 2) := by decide +kernel
theorem dX9_scanWord_20 : decode cX9_scanWord 20 = .ok (.baload, 1) := by decide +kernel
theorem dX9_scanWord_21 : decode cX9_scanWord 21 = .ok (.invokestatic 48, 3) := by decide +kernel
theorem dX9_scanWord_24 : decode cX9_scanWord 24 = .ok (.ifCond .eq 21, 3) := by decide +kernel
theorem dX9_scanWord_27 : decode cX9_scanWord 27 = .ok (.iload_n 3, 1) := by decide +kernel
theorem dX9_scanWord_28 : decode cX9_scanWord 28 = .ok (.aload_n 0, 1) := by decide +kernel
theorem dX9_scanWord_29 : decode cX9_scanWord 29 = .ok (.getfield 9, 3) := by decide +kernel
theorem dX9_scanWord_32 : decode cX9_scanWord 32 = .ok (.iload 4, 2) := by decide +kernel
theorem dX9_scanWord_34 : decode cX9_scanWord 34 = .ok (.baload, 1) := by decide +kernel
theorem dX9_scanWord_35 : decode cX9_scanWord 35 = .ok (.invokestatic 61, 3) := by decide +kernel
theorem dX9_scanWord_38 : decode cX9_scanWord 38 = .ok (.istore_n 3, 1) := by decide +kernel
theorem dX9_scanWord_39 : decode cX9_scanWord 39 = .ok (.iinc 4 1, 3) := by decide +kernel
theorem dX9_scanWord_42 : decode cX9_scanWord 42 = .ok (.goto (-37), 3) := by decide +kernel
theorem dX9_scanWord_45 : decode cX9_scanWord 45 = .ok (.iload_n 3, 1) := by decide +kernel
theorem dX9_scanWord_46 : decode cX9_scanWord 46 = .ok (.invokestatic 64, 3) := by decide +kernel
theorem dX9_scanWord_49 : decode cX9_scanWord 49 = .ok (.istore 5, 2) := by decide +kernel
theorem dX9_scanWord_51 : decode cX9_scanWord 51 = .ok (.iload 4, 2) := by decide +kernel
theorem dX9_scanWord_53 : decode cX9_scanWord 53 = .ok (.iload_n 2, 1) := by decide +kernel
theorem dX9_scanWord_54 : decode cX9_scanWord 54 = .ok (.isub, 1) := by decide +kernel
theorem dX9_scanWord_55 : decode cX9_scanWord 55 = .ok (.bipush 6, 2) := by decide +kernel
theorem dX9_scanWord_57 : decode cX9_scanWord 57 = .ok (.if_icmp .le 13, 3) := by decide +kernel
theorem dX9_scanWord_60 : decode cX9_scanWord 60 = .ok (.aload_n 0, 1) := by decide +kernel
theorem dX9_scanWord_61 : decode cX9_scanWord 61 = .ok (.getfield 15, 3) := by decide +kernel
theorem dX9_scanWord_64 : decode cX9_scanWord 64 = .ok (.iload_n 1, 1) := by decide +kernel
theorem dX9_scanWord_65 : decode cX9_scanWord 65 = .ok (.iconst 5, 1) := by decide +kernel
theorem dX9_scanWord_66 : decode cX9_scanWord 66 = .ok (.iastore, 1) := by decide +kernel
theorem dX9_scanWord_67 : decode cX9_scanWord 67 = .ok (.goto 41, 3) := by decide +kernel
theorem dX9_scanWord_70 : decode cX9_scanWord 70 = .ok (.iload 5, 2) := by decide +kernel
theorem dX9_scanWord_72 : decode cX9_scanWord 72 = .ok (.iconst (-1), 1) := by decide +kernel
theorem dX9_scanWord_73 : decode cX9_scanWord 73 = .ok (.if_icmp .eq 21, 3) := by decide +kernel
theorem dX9_scanWord_76 : decode cX9_scanWord 76 = .ok (.aload_n 0, 1) := by decide +kernel
theorem dX9_scanWord_77 : decode cX9_scanWord 77 = .ok (.getfield 15, 3) := by decide +kernel
theorem dX9_scanWord_80 : decode cX9_scanWord 80 = .ok (.iload_n 1, 1) := by decide +kernel
theorem dX9_scanWord_81 : decode cX9_scanWord 81 = .ok (.iconst 1, 1) := by decide +kernel
theorem dX9_scanWord_82 : decode cX9_scanWord 82 = .ok (.iastore, 1) := by decide +kernel
theorem dX9_scanWord_83 : decode cX9_scanWord 83 = .ok (.aload_n 0, 1) := by decide +kernel
theorem dX9_scanWord_84 : decode cX9_scanWord 84 = .ok (.getfield 22, 3) := by decide +kernel
theorem dX9_scanWord_87 : decode cX9_scanWord 87 = .ok (.iload_n 1, 1) := by decide +kernel
theorem dX9_scanWord_88 : decode cX9_scanWord 88 = .ok (.iload 5, 2) := by decide +kernel
theorem dX9_scanWord_90 : decode cX9_scanWord 90 = .ok (.iastore, 1) := by decide +kernel
theorem dX9_scanWord_91 : decode cX9_scanWord 91 = .ok (.goto 17, 3) := by decide +kernel
theorem dX9_scanWord_94 : decode cX9_scanWord 94 = .ok (.aload_n 0, 1) := by decide +kernel
theorem dX9_scanWord_95 : decode cX9_scanWord 95 = .ok (.getfield 15, 3) := by decide +kernel
theorem dX9_scanWord_98 : decode cX9_scanWord 98 = .ok (.iload_n 1, 1) := by decide +kernel
theorem dX9_scanWord_99 : decode cX9_scanWord 99 = .ok (.iconst 2, 1) := by decide +kernel
theorem dX9_scanWord_100 : decode cX9_scanWord 100 = .ok (.iastore, 1) := by decide +kernel
theorem dX9_scanWord_101 : decode cX9_scanWord 101 = .ok (.aload_n 0, 1) := by decide +kernel
theorem dX9_scanWord_102 : decode cX9_scanWord 102 = .ok (.getfield 22, 3) := by decide +kernel
theorem dX9_scanWord_105 : decode cX9_scanWord 105 = .ok (.iload_n 1, 1) := by decide +kernel
theorem dX9_scanWord_106 : decode cX9_scanWord 106 = .ok (.iload_n 3, 1) := by decide +kernel
theorem dX9_scanWord_107 : decode cX9_scanWord 107 = .ok (.iastore, 1) := by decide +kernel
theorem dX9_scanWord_108 : decode cX9_scanWord 108 = .ok (.iload 4, 2) := by decide +kernel
theorem dX9_scanWord_110 : decode cX9_scanWord 110 = .ok (.ireturn, 1) := by decide +kernel
theorem fgX9_29 : q_Fg RX9 29 9 1 := q_Fg.of (C := RX9) (T := TX9) (N := 8) rfl (by decide) inX9 36 (by decide +kernel) rfl rfl
theorem fcX9_64 : q_LS RX9 64 yX9_keywordOf cX9_keywordOf 5 (some .int) 1 := ⟨q_tb 544 (by decide +kernel) rfl, q_tb 545 (by decide +kernel) rfl, q_tb 2 (by decide +kernel) rfl, q_tb 546 (by decide +kernel) rfl, ⟨by decide +kernel, by decide +kernel, by decide +kernel⟩⟩
theorem fgX9_9 : q_Fg RX9 9 9 0 := q_Fg.of (C := RX9) (T := TX9) (N := 8) rfl (by decide) inX9 34 (by decide +kernel) rfl rfl
theorem fcX9_48 : q_LS RX9 48 yX9_isLetter cX9_isLetter 1 (some .boolean) 1 := ⟨q_tb 534 (by decide +kernel) rfl, q_tb 535 (by decide +kernel) rfl, q_tb 2 (by decide +kernel) rfl, q_tb 536 (by decide +kernel) rfl, ⟨by decide +kernel, by decide +kernel, by decide +kernel⟩⟩
def fX9_scanWord_L108 (n : Nat) (v4 : Int32) (X : Mm) : Option (Int32 × Mm) :=
some (v4, X)
def fX9_scanWord_L45 (n : Nat) (r0 : Nat) (v1 : Int32) (v2 : Int32) (v3 : Int32) (v4 : Int32) (X : Mm) : Option (Int32 × Mm) :=
bd (fX9_keywordOf n v3 X) fun w2 X46_3 =>
if (v4 - v2) ≤ (6 : Int32) then (
if w2 = (-1 : Int32) then (
if mT X46_3 r0 = 9 then
if mR X46_3 r0 2 ≠ 0 then
if mT X46_3 (mR X46_3 r0 2) = 14 then
if q_b X46_3 (mR X46_3 r0 2) v1 then
nm (sI X46_3 (mR X46_3 r0 2) (v1).toNatClampNeg (2 : Int32)) fun X100_6 =>
if mT X100_6 r0 = 9 then
if mR X100_6 r0 4 ≠ 0 then
if mT X100_6 (mR X100_6 r0 4) = 14 then
if q_b X100_6 (mR X100_6 r0 4) v1 then
nm (sI X100_6 (mR X100_6 r0 4) (v1).toNatClampNeg v3) fun X107_11 =>
fX9_scanWord_L108 n v4 X107_11
else none
else none
else none
else none
else none
else none
else none
else none
) else (
if mT X46_3 r0 = 9 then
if mR X46_3 r0 2 ≠ 0 then
if mT X46_3 (mR X46_3 r0 2) = 14 then
if q_b X46_3 (mR X46_3 r0 2) v1 then
nm (sI X46_3 (mR X46_3 r0 2) (v1).toNatClampNeg (1 : Int32)) fun X82_16 =>
if mT X82_16 r0 = 9 then
if mR X82_16 r0 4 ≠ 0 then
if mT X82_16 (mR X82_16 r0 4) = 14 then
if q_b X82_16 (mR X82_16 r0 4) v1 then
nm (sI X82_16 (mR X82_16 r0 4) (v1).toNatClampNeg w2) fun X90_21 =>
fX9_scanWord_L108 n v4 X90_21
else none
else none
else none
else none
else none
else none
else none
else none
)
) else (
if mT X46_3 r0 = 9 then
if mR X46_3 r0 2 ≠ 0 then
if mT X46_3 (mR X46_3 r0 2) = 14 then
if q_b X46_3 (mR X46_3 r0 2) v1 then
nm (sI X46_3 (mR X46_3 r0 2) (v1).toNatClampNeg (5 : Int32)) fun X66_26 =>
fX9_scanWord_L108 n v4 X66_26
else none
else none
else none
else none
)
def fX9_scanWord_L5 (n : Nat) : Nat → Nat → Int32 → Int32 → Int32 → Int32 → Mm → Option (Int32 × Mm)
| 0, _, _, _, _, _, _ => none
| j + 1, r0, v1, v2, v3, v4, X =>
if mT X r0 = 9 then
if (mI X r0 1) ≤ v4 then (
fX9_scanWord_L45 n r0 v1 v2 v3 v4 X
) else (
if mR X r0 0 ≠ 0 then
if mT X (mR X r0 0) = 16 then
if q_b X (mR X r0 0) v4 then
bd (fX9_isLetter ((mI X (mR X r0 0) (v4).toNatClampNeg)) X) fun w32 X21_33 =>
if w32 = 0 then (
fX9_scanWord_L45 n r0 v1 v2 v3 v4 X21_33
) else (
if mT X21_33 r0 = 9 then
if mR X21_33 r0 0 ≠ 0 then
if mT X21_33 (mR X21_33 r0 0) = 16 then
if q_b X21_33 (mR X21_33 r0 0) v4 then
bd (fX9_withLetter v3 ((mI X21_33 (mR X21_33 r0 0) (v4).toNatClampNeg)) X21_33) fun w38 X35_39 =>
nm (v4 + (1 : Int32)) fun v4_39 =>
(fX9_scanWord_L5 n j) r0 v1 v2 w38 v4_39 X35_39
else none
else none
else none
else none
)
else none
else none
else none
)
else none
def fX9_scanWord (n : Nat) (r0 : Nat) (v1 : Int32) (v2 : Int32) (X : Mm) : Option (Int32 × Mm) :=
fX9_scanWord_L5 n n r0 v1 v2 (0 : Int32) v2 X
theorem gX9_scanWord_L108 {E : q_E} {X0 : Mm} (C : Cx E cX9_scanWord RX9 6 (some .int) (q_rm 7 144 0 0) X0) (n : Nat) (v4 : Int32) (X : Mm) : Sm E (q_fin E q_eI X0 0 0) 0 0 108 [(4, .int v4)] [] X (fX9_scanWord_L108 n v4 X) := by
  unfold fX9_scanWord_L108
  refine q_iload C 0 dX9_scanWord_108 rfl ?_
  exact q_iret C dX9_scanWord_110
theorem gX9_scanWord_L45 {E : q_E} {X0 : Mm} (C : Cx E cX9_scanWord RX9 6 (some .int) (q_rm 7 144 0 0) X0) (n : Nat) (r0 : Nat) (v1 : Int32) (v2 : Int32) (v3 : Int32) (v4 : Int32) (X : Mm) : Sm E (q_fin E q_eI X0 0 0) 0 0 45 [(0, .ref (q_P E + r0)), (1, .int v1), (2, .int v2), (3, .int v3), (4, .int v4)] [] X (fX9_scanWord_L45 n r0 v1 v2 v3 v4 X) := by
  unfold fX9_scanWord_L45
  refine q_iload_n C 3 dX9_scanWord_45 rfl rfl ?_
  refine q_cSI (As := (fun P => [.int v3])) C [] (sX9_keywordOf n v3) fcX9_64 rfl (fun _ => rfl) ⟨Nat.le_of_ble_eq_true rfl, Nat.le_of_ble_eq_true rfl⟩ ⟨Nat.le_of_ble_eq_true rfl, Nat.le_of_ble_eq_true rfl⟩ (Nat.le_of_ble_eq_true rfl) dX9_scanWord_46 (fun w2 X46_3 => ?_)
  refine q_istore C [(5, .int w2), (0, .ref (q_P E + r0)), (1, .int v1), (2, .int v2), (3, .int v3), (4, .int v4)] dX9_scanWord_49 (Nat.le_of_ble_eq_true rfl) rfl ?_
  refine q_iload C 5 dX9_scanWord_51 rfl ?_
  refine q_iload_n C 3 dX9_scanWord_53 rfl rfl ?_
  refine q_isub C dX9_scanWord_54 ?_
  refine q_bipush C (6 : Int32) dX9_scanWord_55 rfl ?_
  refine q_icmp_le C 70 dX9_scanWord_57 (by decide) (fun _ => ?_) (fun _ => ?_)
  · refine q_iload C 0 dX9_scanWord_70 rfl ?_
    refine q_iconst C (-1 : Int32) dX9_scanWord_72 rfl ?_
    refine q_icmp_eq C 94 dX9_scanWord_73 (by decide) (fun _ => ?_) (fun _ => ?_)
    · refine q_aload_n C 1 dX9_scanWord_94 rfl rfl ?_
      refine q_chk (fun h4 => ?_)
      refine q_chk (fun h5 => ?_)
      refine p_getR C fgX9_15 rfl dX9_scanWord_95 h4 h5 ?_
      refine q_iload_n C 2 dX9_scanWord_98 rfl rfl ?_
      refine q_iconst C (2 : Int32) dX9_scanWord_99 rfl ?_
      refine q_chk (fun h7 => ?_)
      refine q_chk (fun h8 => ?_)
      refine p_iast C dX9_scanWord_100 h7 h8 ?_
      refine q_nmX (fun X100_6 => ?_)
      refine q_aload_n C 1 dX9_scanWord_101 rfl rfl ?_
      refine q_chk (fun h9 => ?_)
      refine q_chk (fun h10 => ?_)
      refine p_getR C fgX9_22 rfl dX9_scanWord_102 h9 h10 ?_
      refine q_iload_n C 2 dX9_scanWord_105 rfl rfl ?_
      refine q_iload_n C 4 dX9_scanWord_106 rfl rfl ?_
      refine q_chk (fun h12 => ?_)
      refine q_chk (fun h13 => ?_)
      refine p_iast C dX9_scanWord_107 h12 h13 ?_
      refine q_nmX (fun X107_11 => ?_)
      refine q_sub C [(4, .int v4)] [5] rfl ?_
      exact gX9_scanWord_L108 C n v4 X107_11
    · refine q_aload_n C 1 dX9_scanWord_76 rfl rfl ?_
      refine q_chk (fun h14 => ?_)
      refine q_chk (fun h15 => ?_)
      refine p_getR C fgX9_15 rfl dX9_scanWord_77 h14 h15 ?_
      refine q_iload_n C 2 dX9_scanWord_80 rfl rfl ?_
      refine q_iconst C (1 : Int32) dX9_scanWord_81 rfl ?_
      refine q_chk (fun h17 => ?_)
      refine q_chk (fun h18 => ?_)
      refine p_iast C dX9_scanWord_82 h17 h18 ?_
      refine q_nmX (fun X82_16 => ?_)
      refine q_aload_n C 1 dX9_scanWord_83 rfl rfl ?_
      refine q_chk (fun h19 => ?_)
      refine q_chk (fun h20 => ?_)
      refine p_getR C fgX9_22 rfl dX9_scanWord_84 h19 h20 ?_
      refine q_iload_n C 2 dX9_scanWord_87 rfl rfl ?_
      refine q_iload C 0 dX9_scanWord_88 rfl ?_
      refine q_chk (fun h22 => ?_)
      refine q_chk (fun h23 => ?_)
      refine p_iast C dX9_scanWord_90 h22 h23 ?_
      refine q_nmX (fun X90_21 => ?_)
      refine q_goto C 108 dX9_scanWord_91 (by decide) ?_
      refine q_sub C [(4, .int v4)] [5] rfl ?_
      exact gX9_scanWord_L108 C n v4 X90_21
  · refine q_aload_n C 1 dX9_scanWord_60 rfl rfl ?_
    refine q_chk (fun h24 => ?_)
    refine q_chk (fun h25 => ?_)
    refine p_getR C fgX9_15 rfl dX9_scanWord_61 h24 h25 ?_
    refine q_iload_n C 2 dX9_scanWord_64 rfl rfl ?_
    refine q_iconst C (5 : Int32) dX9_scanWord_65 rfl ?_
    refine q_chk (fun h27 => ?_)
    refine q_chk (fun h28 => ?_)
    refine p_iast C dX9_scanWord_66 h27 h28 ?_
    refine q_nmX (fun X66_26 => ?_)
    refine q_goto C 108 dX9_scanWord_67 (by decide) ?_
    refine q_sub C [(4, .int v4)] [5] rfl ?_
    exact gX9_scanWord_L108 C n v4 X66_26
theorem gX9_scanWord_L5 {E : q_E} {X0 : Mm} (C : Cx E cX9_scanWord RX9 6 (some .int) (q_rm 7 144 0 0) X0) (n : Nat) : ∀ (j : Nat) (r0 : Nat) (v1 : Int32) (v2 : Int32) (v3 : Int32) (v4 : Int32) (X : Mm), Sm E (q_fin E q_eI X0 0 0) 0 0 5 [(0, .ref (q_P E + r0)), (1, .int v1), (2, .int v2), (3, .int v3), (4, .int v4)] [] X (fX9_scanWord_L5 n j r0 v1 v2 v3 v4 X) := by
  intro j
  induction j with
  | zero => intros; exact Sm.none
  | succ j ih =>
    intro r0 v1 v2 v3 v4 X
    rw [fX9_scanWord_L5]
    refine q_iload C 4 dX9_scanWord_5 rfl ?_
    refine q_aload_n C 0 dX9_scanWord_7 rfl rfl ?_
    refine q_chk (fun h1 => ?_)
    refine p_getI C fgX9_29 rfl dX9_scanWord_8 h1 ?_
    refine q_icmp_ge C 45 dX9_scanWord_11 (by decide) (fun _ => ?_) (fun _ => ?_)
    · exact gX9_scanWord_L45 C n r0 v1 v2 v3 v4 X
    · refine q_aload_n C 0 dX9_scanWord_14 rfl rfl ?_
      refine q_chk (fun h29 => ?_)
      refine p_getR C fgX9_9 rfl dX9_scanWord_15 h1 h29 ?_
      refine q_iload C 4 dX9_scanWord_18 rfl ?_
      refine q_chk (fun h30 => ?_)
      refine q_chk (fun h31 => ?_)
      refine p_bald C dX9_scanWord_20 h30 h31 ?_
      refine q_cSI (As := (fun P => [.int (mI X (mR X r0 0) (v4).toNatClampNeg)])) C [] (sX9_isLetter ((mI X (mR X r0 0) (v4).toNatClampNeg))) fcX9_48 rfl (fun _ => rfl) ⟨Nat.le_of_ble_eq_true rfl, Nat.le_of_ble_eq_true rfl⟩ ⟨Nat.le_of_ble_eq_true rfl, Nat.le_of_ble_eq_true rfl⟩ (Nat.le_of_ble_eq_true rfl) dX9_scanWord_21 (fun w32 X21_33 => ?_)
      refine q_if_eq C 45 dX9_scanWord_24 (by decide) (fun _ => ?_) (fun _ => ?_)
      · exact gX9_scanWord_L45 C n r0 v1 v2 v3 v4 X21_33
      · refine q_iload_n C 3 dX9_scanWord_27 rfl rfl ?_
        refine q_aload_n C 0 dX9_scanWord_28 rfl rfl ?_
        refine q_chk (fun h34 => ?_)
        refine q_chk (fun h35 => ?_)
        refine p_getR C fgX9_9 rfl dX9_scanWord_29 h34 h35 ?_
        refine q_iload C 4 dX9_scanWord_32 rfl ?_
        refine q_chk (fun h36 => ?_)
        refine q_chk (fun h37 => ?_)
        refine p_bald C dX9_scanWord_34 h36 h37 ?_
        refine q_cSI (As := (fun P => [.int v3, .int (mI X21_33 (mR X21_33 r0 0) (v4).toNatClampNeg)])) C [] (sX9_withLetter v3 ((mI X21_33 (mR X21_33 r0 0) (v4).toNatClampNeg))) fcX9_61 rfl (fun _ => rfl) ⟨Nat.le_of_ble_eq_true rfl, Nat.le_of_ble_eq_true rfl⟩ ⟨Nat.le_of_ble_eq_true rfl, Nat.le_of_ble_eq_true rfl⟩ (Nat.le_of_ble_eq_true rfl) dX9_scanWord_35 (fun w38 X35_39 => ?_)
        refine q_istore_n C [(3, .int w38), (0, .ref (q_P E + r0)), (1, .int v1), (2, .int v2), (4, .int v4)] dX9_scanWord_38 rfl (Nat.le_of_ble_eq_true rfl) rfl ?_
        refine q_iincN C (1 : Int32) 4 (fun v4_39 => [(4, .int v4_39), (3, .int w38), (0, .ref (q_P E + r0)), (1, .int v1), (2, .int v2)]) dX9_scanWord_39 rfl rfl (Nat.le_of_ble_eq_true rfl) (fun _ => rfl) (fun v4_39 => ?_)
        refine q_goto C 5 dX9_scanWord_42 (by decide) ?_
        refine q_sub C [(0, .ref (q_P E + r0)), (1, .int v1), (2, .int v2), (3, .int w38), (4, .int v4_39)] [2, 3, 4, 1, 0] rfl ?_
        exact ih r0 v1 v2 w38 v4_39 X35_39
theorem sX9_scanWord (n : Nat) (r0 : Nat) (v1 : Int32) (v2 : Int32) : q_Ct yX9_scanWord cX9_scanWord 6 (some .int) 7 144 0 0 q_eI (fun P => [.ref (P + r0), .int v1, .int v2]) (fX9_scanWord n r0 v1 v2) := by
  refine q_meth (by decide +kernel) (fun P => Nat.le_of_ble_eq_true rfl) (fun E X C hn => ?_)
  show Sm E (q_fin E q_eI X 0 0) 0 0 0 [(0, .ref (q_P E + r0)), (1, .int v1), (2, .int v2)] [] X _
  unfold fX9_scanWord
  refine q_iconst C (0 : Int32) dX9_scanWord_0 rfl ?_
  refine q_istore_n C [(3, .int (0 : Int32)), (0, .ref (q_P E + r0)), (1, .int v1), (2, .int v2)] dX9_scanWord_1 rfl (Nat.le_of_ble_eq_true rfl) rfl ?_
  refine q_iload_n C 3 dX9_scanWord_2 rfl rfl ?_
  refine q_istore C [(4, .int v2), (3, .int (0 : Int32)), (0, .ref (q_P E + r0)), (1, .int v1), (2, .int v2)] dX9_scanWord_3 (Nat.le_of_ble_eq_true rfl) rfl ?_
  refine q_sub C [(0, .ref (q_P E + r0)), (1, .int v1), (2, .int v2), (3, .int (0 : Int32)), (4, .int v2)] [2, 3, 4, 1, 0] rfl ?_
  exact gX9_scanWord_L5 C n n r0 v1 v2 (0 : Int32) v2 X
/-! RecordClaims$Tape.isDigit(I)Z -/
abbrev cX9_isDigit : ByteArray := prog_11_method_10_code
def yX9_isDigit : MethodName := ⟨RX9, "isDigit", "(I)Z"⟩
theorem dX9_isDigit_0 : decode cX9_isDigit 0 = .ok (.iload_n 0, 1) := by decide +kernel
theorem dX9_isDigit_1 : decode cX9_isDigit 1 = .ok (.bipush 48, 2) := by decide +kernel
theorem dX9_isDigit_3 : decode cX9_isDigit 3 = .ok (.if_icmp .lt 13, 3) := by decide +kernel
theorem dX9_isDigit_6 : decode cX9_isDigit 6 = .ok (.iload_n 0, 1) := by decide +kernel
theorem dX9_isDigit_7 : decode cX9_isDigit 7 = .ok (.bipush 57, 2) := by decide +kernel
theorem dX9_isDigit_9 : decode cX9_isDigit 9 = .ok (.if_icmp .gt 7, 3) := by decide +kernel
theorem dX9_isDigit_12 : decode cX9_isDigit 12 = .ok (.iconst 1, 1) := by decide +kernel
theorem dX9_isDigit_13 : decode cX9_isDigit 13 = .ok (.goto 4, 3) := by decide +kernel
theorem dX9_isDigit_16 : decode cX9_isDigit 16 = .ok (.iconst 0, 1) := by decide +kernel
theorem dX9_isDigit_17 : decode cX9_isDigit 17 = .ok (.ireturn, 1) := by decide +kernel
def fX9_isDigit_L16 (X : Mm) : Option (Int32 × Mm) :=
some (0, X)
def fX9_isDigit (v0 : Int32) (X : Mm) : Option (Int32 × Mm) :=
if v0 < (48 : Int32) then (
fX9_isDigit_L16 X
) else (
if (57 : Int32) < v0 then (
fX9_isDigit_L16 X
) else (
some (1, X)
)
)
theorem gX9_isDigit_L16 {E : q_E} {X0 : Mm} (C : Cx E cX9_isDigit RX9 1 (some .boolean) (q_rm 0 0 0 0) X0) (X : Mm) : Sm E (q_fin E q_eI X0 0 0) 0 0 16 [] [] X (fX9_isDigit_L16  X) := by
  unfold fX9_isDigit_L16
  refine q_iconst C (0 : Int32) dX9_isDigit_16 rfl ?_
  exact q_zret0 C dX9_isDigit_17
theorem sX9_isDigit (v0 : Int32) : q_Ct yX9_isDigit cX9_isDigit 1 (some .boolean) 0 0 0 0 q_eI (fun P => [.int v0]) (fX9_isDigit v0) := by
  refine q_meth (by decide +kernel) (fun P => Nat.le_of_ble_eq_true rfl) (fun E X C hn => ?_)
  show Sm E (q_fin E q_eI X 0 0) 0 0 0 [(0, .int v0)] [] X _
  unfold fX9_isDigit
  refine q_iload_n C 0 dX9_isDigit_0 rfl rfl ?_
  refine q_bipush C (48 : Int32) dX9_isDigit_1 rfl ?_
  refine q_icmp_lt C 16 dX9_isDigit_3 (by decide) (fun _ => ?_) (fun _ => ?_)
  · refine q_sub C [] [] rfl ?_
    exact gX9_isDigit_L16 C X
  · refine q_iload_n C 0 dX9_isDigit_6 rfl rfl ?_
    refine q_bipush C (57 : Int32) dX9_isDigit_7 rfl ?_
    refine q_icmp_gt C 16 dX9_isDigit_9 (by decide) (fun _ => ?_) (fun _ => ?_)
    · refine q_sub C [] [] rfl ?_
      exact gX9_isDigit_L16 C X
    · refine q_iconst C (1 : Int32) dX9_isDigit_12 rfl ?_
      refine q_goto C 17 dX9_isDigit_13 (by decide) ?_
      exact q_zret1 C dX9_isDigit_17
/-! RecordClaims$Tape.scanNumber(II)I -/
abbrev cX9_scanNumber : ByteArray := prog_11_method_8_code
def yX9_scanNumber : MethodName := ⟨RX9, "scanNumber", "(II)I"⟩
theorem dX9_scanNumber_0 : decode cX9_scanNumber 0 = .ok (.iconst 0, 1) := by decide +kernel
theorem dX9_scanNumber_1 : decode cX9_scanNumber 1 = .ok (.istore_n 3, 1) := by decide +kernel
theorem dX9_scanNumber_2 : decode cX9_scanNumber 2 = .ok (.iload_n 2, 1) := by decide +kernel
theorem dX9_scanNumber_3 : decode cX9_scanNumber 3 = .ok (.istore 4, 2) := by decide +kernel
theorem dX9_scanNumber_5 : decode cX9_scanNumber 5 = .ok (.iload 4, 2) := by decide +kernel
theorem dX9_scanNumber_7 : decode cX9_scanNumber 7 = .ok (.aload_n 0, 1) := by decide +kernel
theorem dX9_scanNumber_8 : decode cX9_scanNumber 8 = .ok (.getfield 29, 3) := by decide +kernel
theorem dX9_scanNumber_11 : decode cX9_scanNumber 11 = .ok (.if_icmp .ge 38, 3) := by decide +kernel
theorem dX9_scanNumber_14 : decode cX9_scanNumber 14 = .ok (.aload_n 0, 1) := by decide +kernel
theorem dX9_scanNumber_15 : decode cX9_scanNumber 15 = .ok (.getfield 9, 3) := by decide +kernel
theorem dX9_scanNumber_18 : decode cX9_scanNumber 18 = .ok (.iload 4, 2) := by decide +kernel
theorem dX9_scanNumber_20 : decode cX9_scanNumber 20 = .ok (.baload, 1) := by decide +kernel
theorem dX9_scanNumber_21 : decode cX9_scanNumber 21 = .ok (.invokestatic 55, 3) := by decide +kernel
theorem dX9_scanNumber_24 : decode cX9_scanNumber 24 = .ok (.ifCond .eq 25, 3) := by decide +kernel
theorem dX9_scanNumber_27 : decode cX9_scanNumber 27 = .ok (.iload_n 3, 1) := by decide +kernel
theorem dX9_scanNumber_28 : decode cX9_scanNumber 28 = .ok (.bipush 10, 2) := by decide +kernel
theorem dX9_scanNumber_30 : decode cX9_scanNumber 30 = .ok (.imul, 1) := by decide +kernel
theorem dX9_scanNumber_31 : decode cX9_scanNumber 31 = .ok (.aload_n 0, 1) := by decide +kernel
theorem dX9_scanNumber_32 : decode cX9_scanNumber 32 = .ok (.getfield 9, 3) := by decide +kernel
theorem dX9_scanNumber_35 : decode cX9_scanNumber 35 = .ok (.iload 4, 2) := by decide +kernel
theorem dX9_scanNumber_37 : decode cX9_scanNumber 37 = .ok (.baload, 1) := by decide +kernel
theorem dX9_scanNumber_38 : decode cX9_scanNumber 38 = .ok (.iadd, 1) := by decide +kernel
theorem dX9_scanNumber_39 : decode cX9_scanNumber 39 = .ok (.bipush 48, 2) := by decide +kernel
theorem dX9_scanNumber_41 : decode cX9_scanNumber 41 = .ok (.isub, 1) := by decide +kernel
theorem dX9_scanNumber_42 : decode cX9_scanNumber 42 = .ok (.istore_n 3, 1) := by decide +kernel
theorem dX9_scanNumber_43 : decode cX9_scanNumber 43 = .ok (.iinc 4 1, 3) := by decide +kernel
theorem dX9_scanNumber_46 : decode cX9_scanNumber 46 = .ok (.goto (-41), 3) := by decide +kernel
theorem dX9_scanNumber_49 : decode cX9_scanNumber 49 = .ok (.aload_n 0, 1) := by decide +kernel
theorem dX9_scanNumber_50 : decode cX9_scanNumber 50 = .ok (.getfield 15, 3) := by decide +kernel
theorem dX9_scanNumber_53 : decode cX9_scanNumber 53 = .ok (.iload_n 1, 1) := by decide +kernel
theorem dX9_scanNumber_54 : decode cX9_scanNumber 54 = .ok (.iload 4, 2) := by decide +kernel
theorem dX9_scanNumber_56 : decode cX9_scanNumber 56 = .ok (.iload_n 2, 1) := by decide +kernel
theorem dX9_scanNumber_57 : decode cX9_scanNumber 57 = .ok (.isub, 1) := by decide +kernel
theorem dX9_scanNumber_58 : decode cX9_scanNumber 58 = .ok (.bipush 9, 2) := by decide +kernel
theorem dX9_scanNumber_60 : decode cX9_scanNumber 60 = .ok (.if_icmp .le 7, 3) := by decide +kernel
theorem dX9_scanNumber_63 : decode cX9_scanNumber 63 = .ok (.iconst 5, 1) := by decide +kernel
theorem dX9_scanNumber_64 : decode cX9_scanNumber 64 = .ok (.goto 4, 3) := by decide +kernel
theorem dX9_scanNumber_67 : decode cX9_scanNumber 67 = .ok (.iconst 3, 1) := by decide +kernel
theorem dX9_scanNumber_68 : decode cX9_scanNumber 68 = .ok (.iastore, 1) := by decide +kernel
theorem dX9_scanNumber_69 : decode cX9_scanNumber 69 = .ok (.aload_n 0, 1) := by decide +kernel
theorem dX9_scanNumber_70 : decode cX9_scanNumber 70 = .ok (.getfield 22, 3) := by decide +kernel
theorem dX9_scanNumber_73 : decode cX9_scanNumber 73 = .ok (.iload_n 1, 1) := by decide +kernel
theorem dX9_scanNumber_74 : decode cX9_scanNumber 74 = .ok (.iload_n 3, 1) := by decide +kernel
theorem dX9_scanNumber_75 : decode cX9_scanNumber 75 = .ok (.iastore, 1) := by decide +kernel
theorem dX9_scanNumber_76 : decode cX9_scanNumber 76 = .ok (.iload 4, 2) := by decide +kernel
theorem dX9_scanNumber_78 : decode cX9_scanNumber 78 = .ok (.ireturn, 1) := by decide +kernel
theorem fcX9_55 : q_LS RX9 55 yX9_isDigit cX9_isDigit 1 (some .boolean) 1 := ⟨q_tb 596 (by decide +kernel) rfl, q_tb 597 (by decide +kernel) rfl, q_tb 2 (by decide +kernel) rfl, q_tb 598 (by decide +kernel) rfl, ⟨by decide +kernel, by decide +kernel, by decide +kernel⟩⟩
def fX9_scanNumber_L68 (n : Nat) (r0 : Nat) (v1 : Int32) (v3 : Int32) (v4 : Int32) (s0 : Int32) (s1 : Int32) (rs2 : Nat) (X : Mm) : Option (Int32 × Mm) :=
if mT X rs2 = 14 then
if q_b X rs2 s1 then
nm (sI X rs2 (s1).toNatClampNeg s0) fun X68_4 =>
if mT X68_4 r0 = 9 then
if mR X68_4 r0 4 ≠ 0 then
if mT X68_4 (mR X68_4 r0 4) = 14 then
if q_b X68_4 (mR X68_4 r0 4) v1 then
nm (sI X68_4 (mR X68_4 r0 4) (v1).toNatClampNeg v3) fun X75_9 =>
some (v4, X75_9)
else none
else none
else none
else none
else none
else none
def fX9_scanNumber_L49 (n : Nat) (r0 : Nat) (v1 : Int32) (v2 : Int32) (v3 : Int32) (v4 : Int32) (X : Mm) : Option (Int32 × Mm) :=
if mT X r0 = 9 then
if mR X r0 2 ≠ 0 then
if (v4 - v2) ≤ (9 : Int32) then (
fX9_scanNumber_L68 n r0 v1 v3 v4 (3 : Int32) v1 ((mR X r0 2)) X
) else (
fX9_scanNumber_L68 n r0 v1 v3 v4 (5 : Int32) v1 ((mR X r0 2)) X
)
else none
else none
def fX9_scanNumber_L5 (n : Nat) : Nat → Nat → Int32 → Int32 → Int32 → Int32 → Mm → Option (Int32 × Mm)
| 0, _, _, _, _, _, _ => none
| j + 1, r0, v1, v2, v3, v4, X =>
if mT X r0 = 9 then
if (mI X r0 1) ≤ v4 then (
fX9_scanNumber_L49 n r0 v1 v2 v3 v4 X
) else (
if mR X r0 0 ≠ 0 then
if mT X (mR X r0 0) = 16 then
if q_b X (mR X r0 0) v4 then
bd (fX9_isDigit ((mI X (mR X r0 0) (v4).toNatClampNeg)) X) fun w15 X21_16 =>
if w15 = 0 then (
fX9_scanNumber_L49 n r0 v1 v2 v3 v4 X21_16
) else (
if mT X21_16 r0 = 9 then
if mR X21_16 r0 0 ≠ 0 then
if mT X21_16 (mR X21_16 r0 0) = 16 then
if q_b X21_16 (mR X21_16 r0 0) v4 then
nm ((((v3 * (10 : Int32)) + (mI X21_16 (mR X21_16 r0 0) (v4).toNatClampNeg)) - (48 : Int32))) fun v3_42 =>
nm (v4 + (1 : Int32)) fun v4_43 =>
(fX9_scanNumber_L5 n j) r0 v1 v2 v3_42 v4_43 X21_16
else none
else none
else none
else none
)
else none
else none
else none
)
else none
def fX9_scanNumber (n : Nat) (r0 : Nat) (v1 : Int32) (v2 : Int32) (X : Mm) : Option (Int32 × Mm) :=
fX9_scanNumber_L5 n n r0 v1 v2 (0 : Int32) v2 X
theorem gX9_scanNumber_L68 {E : q_E} {X0 : Mm} (C : Cx E cX9_scanNumber RX9 5 (some .int) (q_rm 1 20 0 0) X0) (n : Nat) (r0 : Nat) (v1 : Int32) (v3 : Int32) (v4 : Int32) (s0 : Int32) (s1 : Int32) (rs2 : Nat) (X : Mm) : Sm E (q_fin E q_eI X0 0 0) 0 0 68 [(0, .ref (q_P E + r0)), (1, .int v1), (3, .int v3), (4, .int v4)] [.int s0, .int s1, .ref (q_P E + rs2)] X (fX9_scanNumber_L68 n r0 v1 v3 v4 s0 s1 rs2 X) := by
  unfold fX9_scanNumber_L68
  refine q_chk (fun h5 => ?_)
  refine q_chk (fun h6 => ?_)
  refine p_iast C dX9_scanNumber_68 h5 h6 ?_
  refine q_nmX (fun X68_4 => ?_)
  refine q_aload_n C 0 dX9_scanNumber_69 rfl rfl ?_
  refine q_chk (fun h7 => ?_)
  refine q_chk (fun h8 => ?_)
  refine p_getR C fgX9_22 rfl dX9_scanNumber_70 h7 h8 ?_
  refine q_iload_n C 1 dX9_scanNumber_73 rfl rfl ?_
  refine q_iload_n C 2 dX9_scanNumber_74 rfl rfl ?_
  refine q_chk (fun h10 => ?_)
  refine q_chk (fun h11 => ?_)
  refine p_iast C dX9_scanNumber_75 h10 h11 ?_
  refine q_nmX (fun X75_9 => ?_)
  refine q_iload C 3 dX9_scanNumber_76 rfl ?_
  exact q_iret C dX9_scanNumber_78
theorem gX9_scanNumber_L49 {E : q_E} {X0 : Mm} (C : Cx E cX9_scanNumber RX9 5 (some .int) (q_rm 1 20 0 0) X0) (n : Nat) (r0 : Nat) (v1 : Int32) (v2 : Int32) (v3 : Int32) (v4 : Int32) (X : Mm) : Sm E (q_fin E q_eI X0 0 0) 0 0 49 [(0, .ref (q_P E + r0)), (1, .int v1), (2, .int v2), (3, .int v3), (4, .int v4)] [] X (fX9_scanNumber_L49 n r0 v1 v2 v3 v4 X) := by
  unfold fX9_scanNumber_L49
  refine q_aload_n C 0 dX9_scanNumber_49 rfl rfl ?_
  refine q_chk (fun h2 => ?_)
  refine q_chk (fun h3 => ?_)
  refine p_getR C fgX9_15 rfl dX9_scanNumber_50 h2 h3 ?_
  refine q_iload_n C 1 dX9_scanNumber_53 rfl rfl ?_
  refine q_iload C 4 dX9_scanNumber_54 rfl ?_
  refine q_iload_n C 2 dX9_scanNumber_56 rfl rfl ?_
  refine q_isub C dX9_scanNumber_57 ?_
  refine q_bipush C (9 : Int32) dX9_scanNumber_58 rfl ?_
  refine q_icmp_le C 67 dX9_scanNumber_60 (by decide) (fun _ => ?_) (fun _ => ?_)
  · refine q_iconst C (3 : Int32) dX9_scanNumber_67 rfl ?_
    refine q_sub C [(0, .ref (q_P E + r0)), (1, .int v1), (3, .int v3), (4, .int v4)] [0, 1, 3, 4] rfl ?_
    exact gX9_scanNumber_L68 C n r0 v1 v3 v4 (3 : Int32) v1 ((mR X r0 2)) X
  · refine q_iconst C (5 : Int32) dX9_scanNumber_63 rfl ?_
    refine q_goto C 68 dX9_scanNumber_64 (by decide) ?_
    refine q_sub C [(0, .ref (q_P E + r0)), (1, .int v1), (3, .int v3), (4, .int v4)] [0, 1, 3, 4] rfl ?_
    exact gX9_scanNumber_L68 C n r0 v1 v3 v4 (5 : Int32) v1 ((mR X r0 2)) X
theorem gX9_scanNumber_L5 {E : q_E} {X0 : Mm} (C : Cx E cX9_scanNumber RX9 5 (some .int) (q_rm 1 20 0 0) X0) (n : Nat) : ∀ (j : Nat) (r0 : Nat) (v1 : Int32) (v2 : Int32) (v3 : Int32) (v4 : Int32) (X : Mm), Sm E (q_fin E q_eI X0 0 0) 0 0 5 [(0, .ref (q_P E + r0)), (1, .int v1), (2, .int v2), (3, .int v3), (4, .int v4)] [] X (fX9_scanNumber_L5 n j r0 v1 v2 v3 v4 X) := by
  intro j
  induction j with
  | zero => intros; exact Sm.none
  | succ j ih =>
    intro r0 v1 v2 v3 v4 X
    rw [fX9_scanNumber_L5]
    refine q_iload C 4 dX9_scanNumber_5 rfl ?_
    refine q_aload_n C 0 dX9_scanNumber_7 rfl rfl ?_
    refine q_chk (fun h1 => ?_)
    refine p_getI C fgX9_29 rfl dX9_scanNumber_8 h1 ?_
    refine q_icmp_ge C 49 dX9_scanNumber_11 (by decide) (fun _ => ?_) (fun _ => ?_)
    · exact gX9_scanNumber_L49 C n r0 v1 v2 v3 v4 X
    · refine q_aload_n C 0 dX9_scanNumber_14 rfl rfl ?_
      refine q_chk (fun h12 => ?_)
      refine p_getR C fgX9_9 rfl dX9_scanNumber_15 h1 h12 ?_
      refine q_iload C 4 dX9_scanNumber_18 rfl ?_
      refine q_chk (fun h13 => ?_)
      refine q_chk (fun h14 => ?_)
      refine p_bald C dX9_scanNumber_20 h13 h14 ?_
      refine q_cSI (As := (fun P => [.int (mI X (mR X r0 0) (v4).toNatClampNeg)])) C [] (sX9_isDigit ((mI X (mR X r0 0) (v4).toNatClampNeg))) fcX9_55 rfl (fun _ => rfl) ⟨Nat.le_of_ble_eq_true rfl, Nat.le_of_ble_eq_true rfl⟩ ⟨Nat.le_of_ble_eq_true rfl, Nat.le_of_ble_eq_true rfl⟩ (Nat.le_of_ble_eq_true rfl) dX9_scanNumber_21 (fun w15 X21_16 => ?_)
      refine q_if_eq C 49 dX9_scanNumber_24 (by decide) (fun _ => ?_) (fun _ => ?_)
      · exact gX9_scanNumber_L49 C n r0 v1 v2 v3 v4 X21_16
      · refine q_iload_n C 3 dX9_scanNumber_27 rfl rfl ?_
        refine q_bipush C (10 : Int32) dX9_scanNumber_28 rfl ?_
        refine q_imul C dX9_scanNumber_30 ?_
        refine q_aload_n C 0 dX9_scanNumber_31 rfl rfl ?_
        refine q_chk (fun h17 => ?_)
        refine q_chk (fun h18 => ?_)
        refine p_getR C fgX9_9 rfl dX9_scanNumber_32 h17 h18 ?_
        refine q_iload C 4 dX9_scanNumber_35 rfl ?_
        refine q_chk (fun h19 => ?_)
        refine q_chk (fun h20 => ?_)
        refine p_bald C dX9_scanNumber_37 h19 h20 ?_
        refine q_iadd C dX9_scanNumber_38 ?_
        refine q_bipush C (48 : Int32) dX9_scanNumber_39 rfl ?_
        refine q_isub C dX9_scanNumber_41 ?_
        refine q_nmi (fun v3_42 => ?_)
        refine q_istore_n C [(3, .int v3_42), (0, .ref (q_P E + r0)), (1, .int v1), (2, .int v2), (4, .int v4)] dX9_scanNumber_42 rfl (Nat.le_of_ble_eq_true rfl) rfl ?_
        refine q_iincN C (1 : Int32) 4 (fun v4_43 => [(4, .int v4_43), (3, .int v3_42), (0, .ref (q_P E + r0)), (1, .int v1), (2, .int v2)]) dX9_scanNumber_43 rfl rfl (Nat.le_of_ble_eq_true rfl) (fun _ => rfl) (fun v4_43 => ?_)
        refine q_goto C 5 dX9_scanNumber_46 (by decide) ?_
        refine q_sub C [(0, .ref (q_P E + r0)), (1, .int v1), (2, .int v2), (3, .int v3_42), (4, .int v4_43)] [2, 3, 4, 1, 0] rfl ?_
        exact ih r0 v1 v2 v3_42 v4_43 X21_16
theorem sX9_scanNumber (n : Nat) (r0 : Nat) (v1 : Int32) (v2 : Int32) : q_Ct yX9_scanNumber cX9_scanNumber 5 (some .int) 1 20 0 0 q_eI (fun P => [.ref (P + r0), .int v1, .int v2]) (fX9_scanNumber n r0 v1 v2) := by
  refine q_meth (by decide +kernel) (fun P => Nat.le_of_ble_eq_true rfl) (fun E X C hn => ?_)
  show Sm E (q_fin E q_eI X 0 0) 0 0 0 [(0, .ref (q_P E + r0)), (1, .int v1), (2, .int v2)] [] X _
  unfold fX9_scanNumber
  refine q_iconst C (0 : Int32) dX9_scanNumber_0 rfl ?_
  refine q_istore_n C [(3, .int (0 : Int32)), (0, .ref (q_P E + r0)), (1, .int v1), (2, .int v2)] dX9_scanNumber_1 rfl (Nat.le_of_ble_eq_true rfl) rfl ?_
  refine q_iload_n C 3 dX9_scanNumber_2 rfl rfl ?_
  refine q_istore C [(4, .int v2), (3, .int (0 : Int32)), (0, .ref (q_P E + r0)), (1, .int v1), (2, .int v2)] dX9_scanNumber_3 (Nat.le_of_ble_eq_true rfl) rfl ?_
  refine q_sub C [(0, .ref (q_P E + r0)), (1, .int v1), (2, .int v2), (3, .int (0 : Int32)), (4, .int v2)] [2, 3, 4, 1, 0] rfl ?_
  exact gX9_scanNumber_L5 C n n r0 v1 v2 (0 : Int32) v2 X
/-! RecordClaims$Tape.scanToken(II)I -/
abbrev cX9_scanToken : ByteArray := prog_11_method_6_code
def yX9_scanToken : MethodName := ⟨RX9, "scanToken", "(II)I"⟩
theorem dX9_scanToken_0 : decode cX9_scanToken 0 = .ok (.aload_n 0, 1) := by decide +kernel
theorem dX9_scanToken_1 : decode cX9_scanToken 1 = .ok (.getfield 19, 3) := by decide +kernel
theorem dX9_scanToken_4 : decode cX9_scanToken 4 = .ok (.iload_n 1, 1) := by decide +kernel
theorem dX9_scanToken_5 : decode cX9_scanToken 5 = .ok (.iload_n 2, 1) := by decide +kernel
theorem dX9_scanToken_6 : decode cX9_scanToken 6 = .ok (.iastore, 1) := by decide +kernel
theorem dX9_scanToken_7 : decode cX9_scanToken 7 = .ok (.aload_n 0, 1) := by decide +kernel
theorem dX9_scanToken_8 : decode cX9_scanToken 8 = .ok (.getfield 9, 3) := by decide +kernel
theorem dX9_scanToken_11 : decode cX9_scanToken 11 = .ok (.iload_n 2, 1) := by decide +kernel
theorem dX9_scanToken_12 : decode cX9_scanToken 12 = .ok (.baload, 1) := by decide +kernel
theorem dX9_scanToken_13 : decode cX9_scanToken 13 = .ok (.invokestatic 48, 3) := by decide +kernel
theorem dX9_scanToken_16 : decode cX9_scanToken 16 = .ok (.ifCond .eq 10, 3) := by decide +kernel
theorem dX9_scanToken_19 : decode cX9_scanToken 19 = .ok (.aload_n 0, 1) := by decide +kernel
theorem dX9_scanToken_20 : decode cX9_scanToken 20 = .ok (.iload_n 1, 1) := by decide +kernel
theorem dX9_scanToken_21 : decode cX9_scanToken 21 = .ok (.iload_n 2, 1) := by decide +kernel
theorem dX9_scanToken_22 : decode cX9_scanToken 22 = .ok (.invokevirtual 52, 3) := by decide +kernel
theorem dX9_scanToken_25 : decode cX9_scanToken 25 = .ok (.ireturn, 1) := by decide +kernel
theorem dX9_scanToken_26 : decode cX9_scanToken 26 = .ok (.aload_n 0, 1) := by decide +kernel
theorem dX9_scanToken_27 : decode cX9_scanToken 27 = .ok (.getfield 9, 3) := by decide +kernel
theorem dX9_scanToken_30 : decode cX9_scanToken 30 = .ok (.iload_n 2, 1) := by decide +kernel
theorem dX9_scanToken_31 : decode cX9_scanToken 31 = .ok (.baload, 1) := by decide +kernel
theorem dX9_scanToken_32 : decode cX9_scanToken 32 = .ok (.invokestatic 55, 3) := by decide +kernel
theorem dX9_scanToken_35 : decode cX9_scanToken 35 = .ok (.ifCond .eq 10, 3) := by decide +kernel
theorem dX9_scanToken_38 : decode cX9_scanToken 38 = .ok (.aload_n 0, 1) := by decide +kernel
theorem dX9_scanToken_39 : decode cX9_scanToken 39 = .ok (.iload_n 1, 1) := by decide +kernel
theorem dX9_scanToken_40 : decode cX9_scanToken 40 = .ok (.iload_n 2, 1) := by decide +kernel
theorem dX9_scanToken_41 : decode cX9_scanToken 41 = .ok (.invokevirtual 58, 3) := by decide +kernel
theorem dX9_scanToken_44 : decode cX9_scanToken 44 = .ok (.ireturn, 1) := by decide +kernel
theorem dX9_scanToken_45 : decode cX9_scanToken 45 = .ok (.aload_n 0, 1) := by decide +kernel
theorem dX9_scanToken_46 : decode cX9_scanToken 46 = .ok (.getfield 15, 3) := by decide +kernel
theorem dX9_scanToken_49 : decode cX9_scanToken 49 = .ok (.iload_n 1, 1) := by decide +kernel
theorem dX9_scanToken_50 : decode cX9_scanToken 50 = .ok (.aload_n 0, 1) := by decide +kernel
theorem dX9_scanToken_51 : decode cX9_scanToken 51 = .ok (.getfield 9, 3) := by decide +kernel
theorem dX9_scanToken_54 : decode cX9_scanToken 54 = .ok (.iload_n 2, 1) := by decide +kernel
theorem dX9_scanToken_55 : decode cX9_scanToken 55 = .ok (.baload, 1) := by decide +kernel
theorem dX9_scanToken_56 : decode cX9_scanToken 56 = .ok (.bipush 59, 2) := by decide +kernel
theorem dX9_scanToken_58 : decode cX9_scanToken 58 = .ok (.if_icmp .ne 7, 3) := by decide +kernel
theorem dX9_scanToken_61 : decode cX9_scanToken 61 = .ok (.iconst 4, 1) := by decide +kernel
theorem dX9_scanToken_62 : decode cX9_scanToken 62 = .ok (.goto 4, 3) := by decide +kernel
theorem dX9_scanToken_65 : decode cX9_scanToken 65 = .ok (.iconst 5, 1) := by decide +kernel
theorem dX9_scanToken_66 : decode cX9_scanToken 66 = .ok (.iastore, 1) := by decide +kernel
theorem dX9_scanToken_67 : decode cX9_scanToken 67 = .ok (.iload_n 2, 1) := by decide +kernel
theorem dX9_scanToken_68 : decode cX9_scanToken 68 = .ok (.iconst 1, 1) := by decide +kernel
theorem dX9_scanToken_69 : decode cX9_scanToken 69 = .ok (.iadd, 1) := by decide +kernel
theorem dX9_scanToken_70 : decode cX9_scanToken 70 = .ok (.ireturn, 1) := by decide +kernel
theorem fcX9_58 : q_LV RX9 58 yX9_scanNumber cX9_scanNumber 5 (some .int) 2 9 := ⟨q_tb 599 (by decide +kernel) rfl, q_tb 601 (by decide +kernel) rfl, q_tbs (q := (yX9_scanNumber, 8)) 3 (by decide +kernel) rfl, q_tb 2 (by decide +kernel) rfl, q_tb 602 (by decide +kernel) rfl, ⟨by decide +kernel, by decide +kernel, by decide +kernel⟩, TX9, 8, rfl⟩
theorem fcX9_52 : q_LV RX9 52 yX9_scanWord cX9_scanWord 6 (some .int) 2 9 := ⟨q_tb 537 (by decide +kernel) rfl, q_tb 539 (by decide +kernel) rfl, q_tbs (q := (yX9_scanWord, 8)) 2 (by decide +kernel) rfl, q_tb 2 (by decide +kernel) rfl, q_tb 540 (by decide +kernel) rfl, ⟨by decide +kernel, by decide +kernel, by decide +kernel⟩, TX9, 8, rfl⟩
def fX9_scanToken_L66 (n : Nat) (v2 : Int32) (s0 : Int32) (s1 : Int32) (rs2 : Nat) (X : Mm) : Option (Int32 × Mm) :=
if mT X rs2 = 14 then
if q_b X rs2 s1 then
nm (sI X rs2 (s1).toNatClampNeg s0) fun X66_23 =>
some ((v2 + (1 : Int32)), X66_23)
else none
else none
def fX9_scanToken (n : Nat) (r0 : Nat) (v1 : Int32) (v2 : Int32) (X : Mm) : Option (Int32 × Mm) :=
if mT X r0 = 9 then
if mR X r0 3 ≠ 0 then
if mT X (mR X r0 3) = 14 then
if q_b X (mR X r0 3) v1 then
nm (sI X (mR X r0 3) (v1).toNatClampNeg v2) fun X6_3 =>
if mT X6_3 r0 = 9 then
if mR X6_3 r0 0 ≠ 0 then
if mT X6_3 (mR X6_3 r0 0) = 16 then
if q_b X6_3 (mR X6_3 r0 0) v2 then
bd (fX9_isLetter ((mI X6_3 (mR X6_3 r0 0) (v2).toNatClampNeg)) X6_3) fun w10 X13_11 =>
if w10 = 0 then (
if mT X13_11 r0 = 9 then
if mR X13_11 r0 0 ≠ 0 then
if mT X13_11 (mR X13_11 r0 0) = 16 then
if q_b X13_11 (mR X13_11 r0 0) v2 then
bd (fX9_isDigit ((mI X13_11 (mR X13_11 r0 0) (v2).toNatClampNeg)) X13_11) fun w16 X32_17 =>
if w16 = 0 then (
if mT X32_17 r0 = 9 then
if mR X32_17 r0 2 ≠ 0 then
if mR X32_17 r0 0 ≠ 0 then
if mT X32_17 (mR X32_17 r0 0) = 16 then
if q_b X32_17 (mR X32_17 r0 0) v2 then
if (mI X32_17 (mR X32_17 r0 0) (v2).toNatClampNeg) = (59 : Int32) then (
fX9_scanToken_L66 n v2 (4 : Int32) v1 ((mR X32_17 r0 2)) X32_17
) else (
fX9_scanToken_L66 n v2 (5 : Int32) v1 ((mR X32_17 r0 2)) X32_17
)
else none
else none
else none
else none
else none
) else (
if mT X32_17 r0 = 9 then
bd (fX9_scanNumber n r0 v1 v2 X32_17) fun w26 X41_27 =>
some (w26, X41_27)
else none
)
else none
else none
else none
else none
) else (
if mT X13_11 r0 = 9 then
bd (fX9_scanWord n r0 v1 v2 X13_11) fun w29 X22_30 =>
some (w29, X22_30)
else none
)
else none
else none
else none
else none
else none
else none
else none
else none
theorem gX9_scanToken_L66 {E : q_E} {X0 : Mm} (C : Cx E cX9_scanToken RX9 3 (some .int) (q_rm 8 169 0 0) X0) (n : Nat) (v2 : Int32) (s0 : Int32) (s1 : Int32) (rs2 : Nat) (X : Mm) : Sm E (q_fin E q_eI X0 0 0) 0 0 66 [(2, .int v2)] [.int s0, .int s1, .ref (q_P E + rs2)] X (fX9_scanToken_L66 n v2 s0 s1 rs2 X) := by
  unfold fX9_scanToken_L66
  refine q_chk (fun h24 => ?_)
  refine q_chk (fun h25 => ?_)
  refine p_iast C dX9_scanToken_66 h24 h25 ?_
  refine q_nmX (fun X66_23 => ?_)
  refine q_iload_n C 0 dX9_scanToken_67 rfl rfl ?_
  refine q_iconst C (1 : Int32) dX9_scanToken_68 rfl ?_
  refine q_iadd C dX9_scanToken_69 ?_
  exact q_iret C dX9_scanToken_70
theorem sX9_scanToken (n : Nat) (r0 : Nat) (v1 : Int32) (v2 : Int32) : q_Ct yX9_scanToken cX9_scanToken 3 (some .int) 8 169 0 0 q_eI (fun P => [.ref (P + r0), .int v1, .int v2]) (fX9_scanToken n r0 v1 v2) := by
  refine q_meth (by decide +kernel) (fun P => Nat.le_of_ble_eq_true rfl) (fun E X C hn => ?_)
  show Sm E (q_fin E q_eI X 0 0) 0 0 0 [(0, .ref (q_P E + r0)), (1, .int v1), (2, .int v2)] [] X _
  unfold fX9_scanToken
  refine q_aload_n C 0 dX9_scanToken_0 rfl rfl ?_
  refine q_chk (fun h1 => ?_)
  refine q_chk (fun h2 => ?_)
  refine p_getR C fgX9_19 rfl dX9_scanToken_1 h1 h2 ?_
  refine q_iload_n C 1 dX9_scanToken_4 rfl rfl ?_
  refine q_iload_n C 2 dX9_scanToken_5 rfl rfl ?_
  refine q_chk (fun h4 => ?_)
  refine q_chk (fun h5 => ?_)
  refine p_iast C dX9_scanToken_6 h4 h5 ?_
  refine q_nmX (fun X6_3 => ?_)
  refine q_aload_n C 0 dX9_scanToken_7 rfl rfl ?_
  refine q_chk (fun h6 => ?_)
  refine q_chk (fun h7 => ?_)
  refine p_getR C fgX9_9 rfl dX9_scanToken_8 h6 h7 ?_
  refine q_iload_n C 2 dX9_scanToken_11 rfl rfl ?_
  refine q_chk (fun h8 => ?_)
  refine q_chk (fun h9 => ?_)
  refine p_bald C dX9_scanToken_12 h8 h9 ?_
  refine q_cSI (As := (fun P => [.int (mI X6_3 (mR X6_3 r0 0) (v2).toNatClampNeg)])) C [] (sX9_isLetter ((mI X6_3 (mR X6_3 r0 0) (v2).toNatClampNeg))) fcX9_48 rfl (fun _ => rfl) ⟨Nat.le_of_ble_eq_true rfl, Nat.le_of_ble_eq_true rfl⟩ ⟨Nat.le_of_ble_eq_true rfl, Nat.le_of_ble_eq_true rfl⟩ (Nat.le_of_ble_eq_true rfl) dX9_scanToken_13 (fun w10 X13_11 => ?_)
  refine q_if_eq C 26 dX9_scanToken_16 (by decide) (fun _ => ?_) (fun _ => ?_)
  · refine q_aload_n C 0 dX9_scanToken_26 rfl rfl ?_
    refine q_chk (fun h12 => ?_)
    refine q_chk (fun h13 => ?_)
    refine p_getR C fgX9_9 rfl dX9_scanToken_27 h12 h13 ?_
    refine q_iload_n C 2 dX9_scanToken_30 rfl rfl ?_
    refine q_chk (fun h14 => ?_)
    refine q_chk (fun h15 => ?_)
    refine p_bald C dX9_scanToken_31 h14 h15 ?_
    refine q_cSI (As := (fun P => [.int (mI X13_11 (mR X13_11 r0 0) (v2).toNatClampNeg)])) C [] (sX9_isDigit ((mI X13_11 (mR X13_11 r0 0) (v2).toNatClampNeg))) fcX9_55 rfl (fun _ => rfl) ⟨Nat.le_of_ble_eq_true rfl, Nat.le_of_ble_eq_true rfl⟩ ⟨Nat.le_of_ble_eq_true rfl, Nat.le_of_ble_eq_true rfl⟩ (Nat.le_of_ble_eq_true rfl) dX9_scanToken_32 (fun w16 X32_17 => ?_)
    refine q_if_eq C 45 dX9_scanToken_35 (by decide) (fun _ => ?_) (fun _ => ?_)
    · refine q_aload_n C 0 dX9_scanToken_45 rfl rfl ?_
      refine q_chk (fun h18 => ?_)
      refine q_chk (fun h19 => ?_)
      refine p_getR C fgX9_15 rfl dX9_scanToken_46 h18 h19 ?_
      refine q_iload_n C 1 dX9_scanToken_49 rfl rfl ?_
      refine q_aload_n C 0 dX9_scanToken_50 rfl rfl ?_
      refine q_chk (fun h20 => ?_)
      refine p_getR C fgX9_9 rfl dX9_scanToken_51 h18 h20 ?_
      refine q_iload_n C 2 dX9_scanToken_54 rfl rfl ?_
      refine q_chk (fun h21 => ?_)
      refine q_chk (fun h22 => ?_)
      refine p_bald C dX9_scanToken_55 h21 h22 ?_
      refine q_bipush C (59 : Int32) dX9_scanToken_56 rfl ?_
      refine q_icmp_ne C 65 dX9_scanToken_58 (by decide) (fun _ => ?_) (fun _ => ?_)
      · refine q_iconst C (4 : Int32) dX9_scanToken_61 rfl ?_
        refine q_goto C 66 dX9_scanToken_62 (by decide) ?_
        refine q_sub C [(2, .int v2)] [2] rfl ?_
        exact gX9_scanToken_L66 C n v2 (4 : Int32) v1 ((mR X32_17 r0 2)) X32_17
      · refine q_iconst C (5 : Int32) dX9_scanToken_65 rfl ?_
        refine q_sub C [(2, .int v2)] [2] rfl ?_
        exact gX9_scanToken_L66 C n v2 (5 : Int32) v1 ((mR X32_17 r0 2)) X32_17
    · refine q_aload_n C 0 dX9_scanToken_38 rfl rfl ?_
      refine q_iload_n C 1 dX9_scanToken_39 rfl rfl ?_
      refine q_iload_n C 2 dX9_scanToken_40 rfl rfl ?_
      refine q_chk (fun h28 => ?_)
      refine q_cVI (As := (fun P => [.int v1, .int v2])) C [] (sX9_scanNumber n r0 v1 v2) fcX9_58 rfl (fun _ => rfl) ⟨Nat.le_of_ble_eq_true rfl, Nat.le_of_ble_eq_true rfl⟩ ⟨Nat.le_of_ble_eq_true rfl, Nat.le_of_ble_eq_true rfl⟩ (Nat.le_of_ble_eq_true rfl) dX9_scanToken_41 h28 (fun w26 X41_27 => ?_)
      exact q_iret C dX9_scanToken_44
  · refine q_aload_n C 0 dX9_scanToken_19 rfl rfl ?_
    refine q_iload_n C 1 dX9_scanToken_20 rfl rfl ?_
    refine q_iload_n C 2 dX9_scanToken_21 rfl rfl ?_
    refine q_chk (fun h31 => ?_)
    refine q_cVI (As := (fun P => [.int v1, .int v2])) C [] (sX9_scanWord n r0 v1 v2) fcX9_52 rfl (fun _ => rfl) ⟨Nat.le_of_ble_eq_true rfl, Nat.le_of_ble_eq_true rfl⟩ ⟨Nat.le_of_ble_eq_true rfl, Nat.le_of_ble_eq_true rfl⟩ (Nat.le_of_ble_eq_true rfl) dX9_scanToken_22 h31 (fun w29 X22_30 => ?_)
    exact q_iret C dX9_scanToken_25
/-! RecordClaims$Tape.scanAll()V -/
abbrev cX9_scanAll : ByteArray := prog_11_method_5_code
def yX9_scanAll : MethodName := ⟨RX9, "scanAll", "()V"⟩
theorem dX9_scanAll_0 : decode cX9_scanAll 0 = .ok (.iconst 0, 1) := by decide +kernel
theorem dX9_scanAll_1 : decode cX9_scanAll 1 = .ok (.istore_n 1, 1) := by decide +kernel
theorem dX9_scanAll_2 : decode cX9_scanAll 2 = .ok (.iconst 0, 1) := by decide +kernel
theorem dX9_scanAll_3 : decode cX9_scanAll 3 = .ok (.istore_n 2, 1) := by decide +kernel
theorem dX9_scanAll_4 : decode cX9_scanAll 4 = .ok (.iload_n 2, 1) := by decide +kernel
theorem dX9_scanAll_5 : decode cX9_scanAll 5 = .ok (.aload_n 0, 1) := by decide +kernel
theorem dX9_scanAll_6 : decode cX9_scanAll 6 = .ok (.getfield 29, 3) := by decide +kernel
theorem dX9_scanAll_9 : decode cX9_scanAll 9 = .ok (.if_icmp .ge 51, 3) := by decide +kernel
theorem dX9_scanAll_12 : decode cX9_scanAll 12 = .ok (.iload_n 1, 1) := by decide +kernel
theorem dX9_scanAll_13 : decode cX9_scanAll 13 = .ok (.sipush 700, 3) := by decide +kernel
theorem dX9_scanAll_16 : decode cX9_scanAll 16 = .ok (.if_icmp .ge 44, 3) := by decide +kernel
theorem dX9_scanAll_19 : decode cX9_scanAll 19 = .ok (.aload_n 0, 1) := by decide +kernel
theorem dX9_scanAll_20 : decode cX9_scanAll 20 = .ok (.getfield 9, 3) := by decide +kernel
theorem dX9_scanAll_23 : decode cX9_scanAll 23 = .ok (.iload_n 2, 1) := by decide +kernel
theorem dX9_scanAll_24 : decode cX9_scanAll 24 = .ok (.baload, 1) := by decide +kernel
theorem dX9_scanAll_25 : decode cX9_scanAll 25 = .ok (.bipush 32, 2) := by decide +kernel
theorem dX9_scanAll_27 : decode cX9_scanAll 27 = .ok (.if_icmp .eq 14, 3) := by decide +kernel
theorem dX9_scanAll_30 : decode cX9_scanAll 30 = .ok (.aload_n 0, 1) := by decide +kernel
theorem dX9_scanAll_31 : decode cX9_scanAll 31 = .ok (.getfield 9, 3) := by decide +kernel
theorem dX9_scanAll_34 : decode cX9_scanAll 34 = .ok (.iload_n 2, 1) := by decide +kernel
theorem dX9_scanAll_35 : decode cX9_scanAll 35 = .ok (.baload, 1) := by decide +kernel
theorem dX9_scanAll_36 : decode cX9_scanAll 36 = .ok (.bipush 10, 2) := by decide +kernel
theorem dX9_scanAll_38 : decode cX9_scanAll 38 = .ok (.if_icmp .ne 9, 3) := by decide +kernel
theorem dX9_scanAll_41 : decode cX9_scanAll 41 = .ok (.iinc 2 1, 3) := by decide +kernel
theorem dX9_scanAll_44 : decode cX9_scanAll 44 = .ok (.goto (-40), 3) := by decide +kernel
theorem dX9_scanAll_47 : decode cX9_scanAll 47 = .ok (.aload_n 0, 1) := by decide +kernel
theorem dX9_scanAll_48 : decode cX9_scanAll 48 = .ok (.iload_n 1, 1) := by decide +kernel
theorem dX9_scanAll_49 : decode cX9_scanAll 49 = .ok (.iload_n 2, 1) := by decide +kernel
theorem dX9_scanAll_50 : decode cX9_scanAll 50 = .ok (.invokevirtual 44, 3) := by decide +kernel
theorem dX9_scanAll_53 : decode cX9_scanAll 53 = .ok (.istore_n 2, 1) := by decide +kernel
theorem dX9_scanAll_54 : decode cX9_scanAll 54 = .ok (.iinc 1 1, 3) := by decide +kernel
theorem dX9_scanAll_57 : decode cX9_scanAll 57 = .ok (.goto (-53), 3) := by decide +kernel
theorem dX9_scanAll_60 : decode cX9_scanAll 60 = .ok (.aload_n 0, 1) := by decide +kernel
theorem dX9_scanAll_61 : decode cX9_scanAll 61 = .ok (.getfield 15, 3) := by decide +kernel
theorem dX9_scanAll_64 : decode cX9_scanAll 64 = .ok (.iload_n 1, 1) := by decide +kernel
theorem dX9_scanAll_65 : decode cX9_scanAll 65 = .ok (.iconst 0, 1) := by decide +kernel
theorem dX9_scanAll_66 : decode cX9_scanAll 66 = .ok (.iastore, 1) := by decide +kernel
theorem dX9_scanAll_67 : decode cX9_scanAll 67 = .ok (.aload_n 0, 1) := by decide +kernel
theorem dX9_scanAll_68 : decode cX9_scanAll 68 = .ok (.getfield 19, 3) := by decide +kernel
theorem dX9_scanAll_71 : decode cX9_scanAll 71 = .ok (.iload_n 1, 1) := by decide +kernel
theorem dX9_scanAll_72 : decode cX9_scanAll 72 = .ok (.aload_n 0, 1) := by decide +kernel
theorem dX9_scanAll_73 : decode cX9_scanAll 73 = .ok (.getfield 29, 3) := by decide +kernel
theorem dX9_scanAll_76 : decode cX9_scanAll 76 = .ok (.iastore, 1) := by decide +kernel
theorem dX9_scanAll_77 : decode cX9_scanAll 77 = .ok (.return_, 1) := by decide +kernel
theorem fcX9_44 : q_LV RX9 44 yX9_scanToken cX9_scanToken 3 (some .int) 2 9 := ⟨q_tb 530 (by decide +kernel) rfl, q_tb 532 (by decide +kernel) rfl, q_tbs (q := (yX9_scanToken, 8)) 1 (by decide +kernel) rfl, q_tb 2 (by decide +kernel) rfl, q_tb 533 (by decide +kernel) rfl, ⟨by decide +kernel, by decide +kernel, by decide +kernel⟩, TX9, 8, rfl⟩
def fX9_scanAll_L60 (n : Nat) (r0 : Nat) (v1 : Int32) (X : Mm) : Option (Unit × Mm) :=
if mT X r0 = 9 then
if mR X r0 2 ≠ 0 then
if mT X (mR X r0 2) = 14 then
if q_b X (mR X r0 2) v1 then
nm (sI X (mR X r0 2) (v1).toNatClampNeg (0 : Int32)) fun X66_4 =>
if mT X66_4 r0 = 9 then
if mR X66_4 r0 3 ≠ 0 then
if mT X66_4 (mR X66_4 r0 3) = 14 then
if q_b X66_4 (mR X66_4 r0 3) v1 then
nm (sI X66_4 (mR X66_4 r0 3) (v1).toNatClampNeg (mI X66_4 r0 1)) fun X76_9 =>
some ((), X76_9)
else none
else none
else none
else none
else none
else none
else none
else none
def fX9_scanAll_L41 (n : Nat) (k4 : Nat → Int32 → Int32 → Mm → Option (Unit × Mm)) (r0 : Nat) (v1 : Int32) (v2 : Int32) (X : Mm) : Option (Unit × Mm) :=
nm (v2 + (1 : Int32)) fun v2_41 =>
k4 r0 v1 v2_41 X
def fX9_scanAll_L4 (n : Nat) : Nat → Nat → Int32 → Int32 → Mm → Option (Unit × Mm)
| 0, _, _, _, _ => none
| j + 1, r0, v1, v2, X =>
if mT X r0 = 9 then
if (mI X r0 1) ≤ v2 then (
fX9_scanAll_L60 n r0 v1 X
) else (
if (700 : Int32) ≤ v1 then (
fX9_scanAll_L60 n r0 v1 X
) else (
if mR X r0 0 ≠ 0 then
if mT X (mR X r0 0) = 16 then
if q_b X (mR X r0 0) v2 then
if (mI X (mR X r0 0) (v2).toNatClampNeg) = (32 : Int32) then (
fX9_scanAll_L41 n (fX9_scanAll_L4 n j) r0 v1 v2 X
) else (
if (mI X (mR X r0 0) (v2).toNatClampNeg) = (10 : Int32) then (
fX9_scanAll_L41 n (fX9_scanAll_L4 n j) r0 v1 v2 X
) else (
bd (fX9_scanToken n r0 v1 v2 X) fun w15 X50_16 =>
nm (v1 + (1 : Int32)) fun v1_54 =>
(fX9_scanAll_L4 n j) r0 v1_54 w15 X50_16
)
)
else none
else none
else none
)
)
else none
def fX9_scanAll (n : Nat) (r0 : Nat) (X : Mm) : Option (Unit × Mm) :=
fX9_scanAll_L4 n n r0 (0 : Int32) (0 : Int32) X
theorem gX9_scanAll_L60 {E : q_E} {X0 : Mm} (C : Cx E cX9_scanAll RX9 3 none (q_rm 9 191 0 0) X0) (n : Nat) (r0 : Nat) (v1 : Int32) (X : Mm) : Sm E (q_fin E q_eV X0 0 0) 0 0 60 [(0, .ref (q_P E + r0)), (1, .int v1)] [] X (fX9_scanAll_L60 n r0 v1 X) := by
  unfold fX9_scanAll_L60
  refine q_aload_n C 0 dX9_scanAll_60 rfl rfl ?_
  refine q_chk (fun h2 => ?_)
  refine q_chk (fun h3 => ?_)
  refine p_getR C fgX9_15 rfl dX9_scanAll_61 h2 h3 ?_
  refine q_iload_n C 1 dX9_scanAll_64 rfl rfl ?_
  refine q_iconst C (0 : Int32) dX9_scanAll_65 rfl ?_
  refine q_chk (fun h5 => ?_)
  refine q_chk (fun h6 => ?_)
  refine p_iast C dX9_scanAll_66 h5 h6 ?_
  refine q_nmX (fun X66_4 => ?_)
  refine q_aload_n C 0 dX9_scanAll_67 rfl rfl ?_
  refine q_chk (fun h7 => ?_)
  refine q_chk (fun h8 => ?_)
  refine p_getR C fgX9_19 rfl dX9_scanAll_68 h7 h8 ?_
  refine q_iload_n C 1 dX9_scanAll_71 rfl rfl ?_
  refine q_aload_n C 0 dX9_scanAll_72 rfl rfl ?_
  refine p_getI C fgX9_29 rfl dX9_scanAll_73 h7 ?_
  refine q_chk (fun h10 => ?_)
  refine q_chk (fun h11 => ?_)
  refine p_iast C dX9_scanAll_76 h10 h11 ?_
  refine q_nmX (fun X76_9 => ?_)
  exact q_vret C dX9_scanAll_77
theorem gX9_scanAll_L41 {E : q_E} {X0 : Mm} (C : Cx E cX9_scanAll RX9 3 none (q_rm 9 191 0 0) X0) (n : Nat) (k4 : Nat → Int32 → Int32 → Mm → Option (Unit × Mm)) (hk4 : ∀ (r0 : Nat) (v1 : Int32) (v2 : Int32) (X : Mm), Sm E (q_fin E q_eV X0 0 0) 0 0 4 [(0, .ref (q_P E + r0)), (1, .int v1), (2, .int v2)] [] X (k4 r0 v1 v2 X)) (r0 : Nat) (v1 : Int32) (v2 : Int32) (X : Mm) : Sm E (q_fin E q_eV X0 0 0) 0 0 41 [(0, .ref (q_P E + r0)), (1, .int v1), (2, .int v2)] [] X (fX9_scanAll_L41 n k4 r0 v1 v2 X) := by
  unfold fX9_scanAll_L41
  refine q_iincN C (1 : Int32) 2 (fun v2_41 => [(2, .int v2_41), (0, .ref (q_P E + r0)), (1, .int v1)]) dX9_scanAll_41 rfl rfl (Nat.le_of_ble_eq_true rfl) (fun _ => rfl) (fun v2_41 => ?_)
  refine q_goto C 4 dX9_scanAll_44 (by decide) ?_
  refine q_sub C [(0, .ref (q_P E + r0)), (1, .int v1), (2, .int v2_41)] [1, 2, 0] rfl ?_
  exact hk4 r0 v1 v2_41 X
theorem gX9_scanAll_L4 {E : q_E} {X0 : Mm} (C : Cx E cX9_scanAll RX9 3 none (q_rm 9 191 0 0) X0) (n : Nat) : ∀ (j : Nat) (r0 : Nat) (v1 : Int32) (v2 : Int32) (X : Mm), Sm E (q_fin E q_eV X0 0 0) 0 0 4 [(0, .ref (q_P E + r0)), (1, .int v1), (2, .int v2)] [] X (fX9_scanAll_L4 n j r0 v1 v2 X) := by
  intro j
  induction j with
  | zero => intros; exact Sm.none
  | succ j ih =>
    intro r0 v1 v2 X
    rw [fX9_scanAll_L4]
    refine q_iload_n C 2 dX9_scanAll_4 rfl rfl ?_
    refine q_aload_n C 0 dX9_scanAll_5 rfl rfl ?_
    refine q_chk (fun h1 => ?_)
    refine p_getI C fgX9_29 rfl dX9_scanAll_6 h1 ?_
    refine q_icmp_ge C 60 dX9_scanAll_9 (by decide) (fun _ => ?_) (fun _ => ?_)
    · refine q_sub C [(0, .ref (q_P E + r0)), (1, .int v1)] [0, 1] rfl ?_
      exact gX9_scanAll_L60 C n r0 v1 X
    · refine q_iload_n C 1 dX9_scanAll_12 rfl rfl ?_
      refine q_sipush C (700 : Int32) dX9_scanAll_13 rfl ?_
      refine q_icmp_ge C 60 dX9_scanAll_16 (by decide) (fun _ => ?_) (fun _ => ?_)
      · refine q_sub C [(0, .ref (q_P E + r0)), (1, .int v1)] [0, 1] rfl ?_
        exact gX9_scanAll_L60 C n r0 v1 X
      · refine q_aload_n C 0 dX9_scanAll_19 rfl rfl ?_
        refine q_chk (fun h12 => ?_)
        refine p_getR C fgX9_9 rfl dX9_scanAll_20 h1 h12 ?_
        refine q_iload_n C 2 dX9_scanAll_23 rfl rfl ?_
        refine q_chk (fun h13 => ?_)
        refine q_chk (fun h14 => ?_)
        refine p_bald C dX9_scanAll_24 h13 h14 ?_
        refine q_bipush C (32 : Int32) dX9_scanAll_25 rfl ?_
        refine q_icmp_eq C 41 dX9_scanAll_27 (by decide) (fun _ => ?_) (fun _ => ?_)
        · exact gX9_scanAll_L41 C n (fX9_scanAll_L4 n j) ih r0 v1 v2 X
        · refine q_aload_n C 0 dX9_scanAll_30 rfl rfl ?_
          refine p_getR C fgX9_9 rfl dX9_scanAll_31 h1 h12 ?_
          refine q_iload_n C 2 dX9_scanAll_34 rfl rfl ?_
          refine p_bald C dX9_scanAll_35 h13 h14 ?_
          refine q_bipush C (10 : Int32) dX9_scanAll_36 rfl ?_
          refine q_icmp_ne C 47 dX9_scanAll_38 (by decide) (fun _ => ?_) (fun _ => ?_)
          · exact gX9_scanAll_L41 C n (fX9_scanAll_L4 n j) ih r0 v1 v2 X
          · refine q_aload_n C 0 dX9_scanAll_47 rfl rfl ?_
            refine q_iload_n C 1 dX9_scanAll_48 rfl rfl ?_
            refine q_iload_n C 2 dX9_scanAll_49 rfl rfl ?_
            refine q_cVI (As := (fun P => [.int v1, .int v2])) C [] (sX9_scanToken n r0 v1 v2) fcX9_44 rfl (fun _ => rfl) ⟨Nat.le_of_ble_eq_true rfl, Nat.le_of_ble_eq_true rfl⟩ ⟨Nat.le_of_ble_eq_true rfl, Nat.le_of_ble_eq_true rfl⟩ (Nat.le_of_ble_eq_true rfl) dX9_scanAll_50 h1 (fun w15 X50_16 => ?_)
            refine q_istore_n C [(2, .int w15), (0, .ref (q_P E + r0)), (1, .int v1)] dX9_scanAll_53 rfl (Nat.le_of_ble_eq_true rfl) rfl ?_
            refine q_iincN C (1 : Int32) 2 (fun v1_54 => [(1, .int v1_54), (2, .int w15), (0, .ref (q_P E + r0))]) dX9_scanAll_54 rfl rfl (Nat.le_of_ble_eq_true rfl) (fun _ => rfl) (fun v1_54 => ?_)
            refine q_goto C 4 dX9_scanAll_57 (by decide) ?_
            refine q_sub C [(0, .ref (q_P E + r0)), (1, .int v1_54), (2, .int w15)] [2, 0, 1] rfl ?_
            exact ih r0 v1_54 w15 X50_16
theorem sX9_scanAll (n : Nat) (r0 : Nat) : q_Ct yX9_scanAll cX9_scanAll 3 none 9 191 0 0 q_eV (fun P => [.ref (P + r0)]) (fX9_scanAll n r0) := by
  refine q_meth (by decide +kernel) (fun P => Nat.le_of_ble_eq_true rfl) (fun E X C hn => ?_)
  show Sm E (q_fin E q_eV X 0 0) 0 0 0 [(0, .ref (q_P E + r0))] [] X _
  unfold fX9_scanAll
  refine q_iconst C (0 : Int32) dX9_scanAll_0 rfl ?_
  refine q_istore_n C [(1, .int (0 : Int32)), (0, .ref (q_P E + r0))] dX9_scanAll_1 rfl (Nat.le_of_ble_eq_true rfl) rfl ?_
  refine q_iconst C (0 : Int32) dX9_scanAll_2 rfl ?_
  refine q_istore_n C [(2, .int (0 : Int32)), (1, .int (0 : Int32)), (0, .ref (q_P E + r0))] dX9_scanAll_3 rfl (Nat.le_of_ble_eq_true rfl) rfl ?_
  refine q_sub C [(0, .ref (q_P E + r0)), (1, .int (0 : Int32)), (2, .int (0 : Int32))] [2, 1, 0] rfl ?_
  exact gX9_scanAll_L4 C n n r0 (0 : Int32) (0 : Int32) X
/-! RecordClaims$Tape.startAgain()V -/
abbrev cX9_startAgain : ByteArray := prog_11_method_4_code
def yX9_startAgain : MethodName := ⟨RX9, "startAgain", "()V"⟩
theorem dX9_startAgain_0 : decode cX9_startAgain 0 = .ok (.aload_n 0, 1) := by decide +kernel
theorem dX9_startAgain_1 : decode cX9_startAgain 1 = .ok (.iconst 0, 1) := by decide +kernel
theorem dX9_startAgain_2 : decode cX9_startAgain 2 = .ok (.putfield 38, 3) := by decide +kernel
theorem dX9_startAgain_5 : decode cX9_startAgain 5 = .ok (.aload_n 0, 1) := by decide +kernel
theorem dX9_startAgain_6 : decode cX9_startAgain 6 = .ok (.iconst (-1), 1) := by decide +kernel
theorem dX9_startAgain_7 : decode cX9_startAgain 7 = .ok (.putfield 25, 3) := by decide +kernel
theorem dX9_startAgain_10 : decode cX9_startAgain 10 = .ok (.aload_n 0, 1) := by decide +kernel
theorem dX9_startAgain_11 : decode cX9_startAgain 11 = .ok (.iconst 0, 1) := by decide +kernel
theorem dX9_startAgain_12 : decode cX9_startAgain 12 = .ok (.putfield 41, 3) := by decide +kernel
theorem dX9_startAgain_15 : decode cX9_startAgain 15 = .ok (.return_, 1) := by decide +kernel
def fX9_startAgain (r0 : Nat) (X : Mm) : Option (Unit × Mm) :=
if mT X r0 = 9 then
nm (sI X r0 6 (0 : Int32)) fun X2_1 =>
if mT X2_1 r0 = 9 then
nm (sI X2_1 r0 7 (-1 : Int32)) fun X7_3 =>
if mT X7_3 r0 = 9 then
nm (sI X7_3 r0 5 (0 : Int32)) fun X12_5 =>
some ((), X12_5)
else none
else none
else none
theorem sX9_startAgain (r0 : Nat) : q_Ct yX9_startAgain cX9_startAgain 1 none 0 0 0 0 q_eV (fun P => [.ref (P + r0)]) (fX9_startAgain r0) := by
  refine q_meth (by decide +kernel) (fun P => Nat.le_of_ble_eq_true rfl) (fun E X C hn => ?_)
  show Sm E (q_fin E q_eV X 0 0) 0 0 0 [(0, .ref (q_P E + r0))] [] X _
  unfold fX9_startAgain
  refine q_aload_n C 0 dX9_startAgain_0 rfl rfl ?_
  refine q_iconst C (0 : Int32) dX9_startAgain_1 rfl ?_
  refine q_chk (fun h2 => ?_)
  refine p_putI C fpX9_38 rfl dX9_startAgain_2 h2 ?_
  refine q_nmX (fun X2_1 => ?_)
  refine q_aload_n C 0 dX9_startAgain_5 rfl rfl ?_
  refine q_iconst C (-1 : Int32) dX9_startAgain_6 rfl ?_
  refine q_chk (fun h4 => ?_)
  refine p_putI C fpX9_25 rfl dX9_startAgain_7 h4 ?_
  refine q_nmX (fun X7_3 => ?_)
  refine q_aload_n C 0 dX9_startAgain_10 rfl rfl ?_
  refine q_iconst C (0 : Int32) dX9_startAgain_11 rfl ?_
  refine q_chk (fun h6 => ?_)
  refine p_putI C fpX9_41 rfl dX9_startAgain_12 h6 ?_
  refine q_nmX (fun X12_5 => ?_)
  exact q_vret C dX9_startAgain_15
/-! RecordClaims$Tape.startReading()V -/
abbrev cX9_startReading : ByteArray := prog_11_method_3_code
def yX9_startReading : MethodName := ⟨RX9, "startReading", "()V"⟩
theorem dX9_startReading_0 : decode cX9_startReading 0 = .ok (.aload_n 0, 1) := by decide +kernel
theorem dX9_startReading_1 : decode cX9_startReading 1 = .ok (.invokevirtual 32, 3) := by decide +kernel
theorem dX9_startReading_4 : decode cX9_startReading 4 = .ok (.aload_n 0, 1) := by decide +kernel
theorem dX9_startReading_5 : decode cX9_startReading 5 = .ok (.invokevirtual 35, 3) := by decide +kernel
theorem dX9_startReading_8 : decode cX9_startReading 8 = .ok (.return_, 1) := by decide +kernel
theorem fcX9_32 : q_LV RX9 32 yX9_scanAll cX9_scanAll 3 none 0 9 := ⟨q_tb 526 (by decide +kernel) rfl, q_tb 528 (by decide +kernel) rfl, q_tbs (q := (yX9_scanAll, 8)) 0 (by decide +kernel) rfl, q_tb 2 (by decide +kernel) rfl, q_tb 529 (by decide +kernel) rfl, ⟨by decide +kernel, by decide +kernel, by decide +kernel⟩, TX9, 8, rfl⟩
theorem fcX9_35 : q_LV RX9 35 yX9_startAgain cX9_startAgain 1 none 0 9 := ⟨q_tb 603 (by decide +kernel) rfl, q_tb 604 (by decide +kernel) rfl, q_tb 605 (by decide +kernel) rfl, q_tb 2 (by decide +kernel) rfl, q_tb 606 (by decide +kernel) rfl, ⟨by decide +kernel, by decide +kernel, by decide +kernel⟩, TX9, 8, rfl⟩
def fX9_startReading (n : Nat) (r0 : Nat) (X : Mm) : Option (Unit × Mm) :=
if mT X r0 = 9 then
bd (fX9_scanAll n r0 X) fun _ X1_2 =>
if mT X1_2 r0 = 9 then
bd (fX9_startAgain r0 X1_2) fun _ X5_5 =>
some ((), X5_5)
else none
else none
theorem sX9_startReading (n : Nat) (r0 : Nat) : q_Ct yX9_startReading cX9_startReading 1 none 10 213 0 0 q_eV (fun P => [.ref (P + r0)]) (fX9_startReading n r0) := by
  refine q_meth (by decide +kernel) (fun P => Nat.le_of_ble_eq_true rfl) (fun E X C hn => ?_)
  show Sm E (q_fin E q_eV X 0 0) 0 0 0 [(0, .ref (q_P E + r0))] [] X _
  unfold fX9_startReading
  refine q_aload_n C 0 dX9_startReading_0 rfl rfl ?_
  refine q_chk (fun h3 => ?_)
  refine q_cVV (As := (fun P => [])) C [] (sX9_scanAll n r0) fcX9_32 rfl (fun _ => rfl) ⟨Nat.le_of_ble_eq_true rfl, Nat.le_of_ble_eq_true rfl⟩ ⟨Nat.le_of_ble_eq_true rfl, Nat.le_of_ble_eq_true rfl⟩ (Nat.le_of_ble_eq_true rfl) dX9_startReading_1 h3 (fun _ X1_2 => ?_)
  refine q_aload_n C 0 dX9_startReading_4 rfl rfl ?_
  refine q_chk (fun h6 => ?_)
  refine q_cVV (As := (fun P => [])) C [] (sX9_startAgain r0) fcX9_35 rfl (fun _ => rfl) ⟨Nat.le_of_ble_eq_true rfl, Nat.le_of_ble_eq_true rfl⟩ ⟨Nat.le_of_ble_eq_true rfl, Nat.le_of_ble_eq_true rfl⟩ (Nat.le_of_ble_eq_true rfl) dX9_startReading_5 h6 (fun _ X5_5 => ?_)
  exact q_vret C dX9_startReading_8
/-! RecordClaims$Tape.goesOn()Z -/
abbrev cX9_goesOn : ByteArray := prog_11_method_13_code
def yX9_goesOn : MethodName := ⟨RX9, "goesOn", "()Z"⟩
theorem dX9_goesOn_0 : decode cX9_goesOn 0 = .ok (.aload_n 0, 1) := by decide +kernel
theorem dX9_goesOn_1 : decode cX9_goesOn 1 = .ok (.getfield 38, 3) := by decide +kernel
theorem dX9_goesOn_4 : decode cX9_goesOn 4 = .ok (.ifCond .ne 19, 3) := by decide +kernel
theorem dX9_goesOn_7 : decode cX9_goesOn 7 = .ok (.aload_n 0, 1) := by decide +kernel
theorem dX9_goesOn_8 : decode cX9_goesOn 8 = .ok (.getfield 15, 3) := by decide +kernel
theorem dX9_goesOn_11 : decode cX9_goesOn 11 = .ok (.aload_n 0, 1) := by decide +kernel
theorem dX9_goesOn_12 : decode cX9_goesOn 12 = .ok (.getfield 41, 3) := by decide +kernel
theorem dX9_goesOn_15 : decode cX9_goesOn 15 = .ok (.iaload, 1) := by decide +kernel
theorem dX9_goesOn_16 : decode cX9_goesOn 16 = .ok (.ifCond .eq 7, 3) := by decide +kernel
theorem dX9_goesOn_19 : decode cX9_goesOn 19 = .ok (.iconst 1, 1) := by decide +kernel
theorem dX9_goesOn_20 : decode cX9_goesOn 20 = .ok (.goto 4, 3) := by decide +kernel
theorem dX9_goesOn_23 : decode cX9_goesOn 23 = .ok (.iconst 0, 1) := by decide +kernel
theorem dX9_goesOn_24 : decode cX9_goesOn 24 = .ok (.ireturn, 1) := by decide +kernel
def fX9_goesOn_L23 (X : Mm) : Option (Int32 × Mm) :=
some (0, X)
def fX9_goesOn (r0 : Nat) (X : Mm) : Option (Int32 × Mm) :=
if mT X r0 = 9 then
if (mI X r0 6) = 0 then (
if mR X r0 2 ≠ 0 then
if mT X (mR X r0 2) = 14 then
if q_b X (mR X r0 2) (mI X r0 5) then
if (mI X (mR X r0 2) ((mI X r0 5)).toNatClampNeg) = 0 then (
fX9_goesOn_L23 X
) else (
some (1, X)
)
else none
else none
else none
) else (
fX9_goesOn_L23 X
)
else none
theorem gX9_goesOn_L23 {E : q_E} {X0 : Mm} (C : Cx E cX9_goesOn RX9 1 (some .boolean) (q_rm 0 0 0 0) X0) (X : Mm) : Sm E (q_fin E q_eI X0 0 0) 0 0 23 [] [] X (fX9_goesOn_L23  X) := by
  unfold fX9_goesOn_L23
  refine q_iconst C (0 : Int32) dX9_goesOn_23 rfl ?_
  exact q_zret0 C dX9_goesOn_24
theorem sX9_goesOn (r0 : Nat) : q_Ct yX9_goesOn cX9_goesOn 1 (some .boolean) 0 0 0 0 q_eI (fun P => [.ref (P + r0)]) (fX9_goesOn r0) := by
  refine q_meth (by decide +kernel) (fun P => Nat.le_of_ble_eq_true rfl) (fun E X C hn => ?_)
  show Sm E (q_fin E q_eI X 0 0) 0 0 0 [(0, .ref (q_P E + r0))] [] X _
  unfold fX9_goesOn
  refine q_aload_n C 0 dX9_goesOn_0 rfl rfl ?_
  refine q_chk (fun h1 => ?_)
  refine p_getI C fgX9_38 rfl dX9_goesOn_1 h1 ?_
  refine q_if_ne C 23 dX9_goesOn_4 (by decide) (fun _ => ?_) (fun _ => ?_)
  · refine q_aload_n C 0 dX9_goesOn_7 rfl rfl ?_
    refine q_chk (fun h2 => ?_)
    refine p_getR C fgX9_15 rfl dX9_goesOn_8 h1 h2 ?_
    refine q_aload_n C 0 dX9_goesOn_11 rfl rfl ?_
    refine p_getI C fgX9_41 rfl dX9_goesOn_12 h1 ?_
    refine q_chk (fun h3 => ?_)
    refine q_chk (fun h4 => ?_)
    refine p_iald C dX9_goesOn_15 h3 h4 ?_
    refine q_if_eq C 23 dX9_goesOn_16 (by decide) (fun _ => ?_) (fun _ => ?_)
    · refine q_sub C [] [] rfl ?_
      exact gX9_goesOn_L23 C X
    · refine q_iconst C (1 : Int32) dX9_goesOn_19 rfl ?_
      refine q_goto C 24 dX9_goesOn_20 (by decide) ?_
      exact q_zret1 C dX9_goesOn_24
  · refine q_sub C [] [] rfl ?_
    exact gX9_goesOn_L23 C X
/-! RecordClaims$Tape.isAtWord(I)Z -/
abbrev cX9_isAtWord : ByteArray := prog_11_method_15_code
def yX9_isAtWord : MethodName := ⟨RX9, "isAtWord", "(I)Z"⟩
theorem dX9_isAtWord_0 : decode cX9_isAtWord 0 = .ok (.aload_n 0, 1) := by decide +kernel
theorem dX9_isAtWord_1 : decode cX9_isAtWord 1 = .ok (.getfield 15, 3) := by decide +kernel
theorem dX9_isAtWord_4 : decode cX9_isAtWord 4 = .ok (.aload_n 0, 1) := by decide +kernel
theorem dX9_isAtWord_5 : decode cX9_isAtWord 5 = .ok (.getfield 41, 3) := by decide +kernel
theorem dX9_isAtWord_8 : decode cX9_isAtWord 8 = .ok (.iaload, 1) := by decide +kernel
theorem dX9_isAtWord_9 : decode cX9_isAtWord 9 = .ok (.iconst 1, 1) := by decide +kernel
theorem dX9_isAtWord_10 : decode cX9_isAtWord 10 = .ok (.if_icmp .ne 20, 3) := by decide +kernel
theorem dX9_isAtWord_13 : decode cX9_isAtWord 13 = .ok (.aload_n 0, 1) := by decide +kernel
theorem dX9_isAtWord_14 : decode cX9_isAtWord 14 = .ok (.getfield 22, 3) := by decide +kernel
theorem dX9_isAtWord_17 : decode cX9_isAtWord 17 = .ok (.aload_n 0, 1) := by decide +kernel
theorem dX9_isAtWord_18 : decode cX9_isAtWord 18 = .ok (.getfield 41, 3) := by decide +kernel
theorem dX9_isAtWord_21 : decode cX9_isAtWord 21 = .ok (.iaload, 1) := by decide +kernel
theorem dX9_isAtWord_22 : decode cX9_isAtWord 22 = .ok (.iload_n 1, 1) := by decide +kernel
theorem dX9_isAtWord_23 : decode cX9_isAtWord 23 = .ok (.if_icmp .ne 7, 3) := by decide +kernel
theorem dX9_isAtWord_26 : decode cX9_isAtWord 26 = .ok (.iconst 1, 1) := by decide +kernel
theorem dX9_isAtWord_27 : decode cX9_isAtWord 27 = .ok (.goto 4, 3) := by decide +kernel
theorem dX9_isAtWord_30 : decode cX9_isAtWord 30 = .ok (.iconst 0, 1) := by decide +kernel
theorem dX9_isAtWord_31 : decode cX9_isAtWord 31 = .ok (.ireturn, 1) := by decide +kernel
def fX9_isAtWord_L30 (X : Mm) : Option (Int32 × Mm) :=
some (0, X)
def fX9_isAtWord (r0 : Nat) (v1 : Int32) (X : Mm) : Option (Int32 × Mm) :=
if mT X r0 = 9 then
if mR X r0 2 ≠ 0 then
if mT X (mR X r0 2) = 14 then
if q_b X (mR X r0 2) (mI X r0 5) then
if (mI X (mR X r0 2) ((mI X r0 5)).toNatClampNeg) = (1 : Int32) then (
if mR X r0 4 ≠ 0 then
if mT X (mR X r0 4) = 14 then
if q_b X (mR X r0 4) (mI X r0 5) then
if (mI X (mR X r0 4) ((mI X r0 5)).toNatClampNeg) = v1 then (
some (1, X)
) else (
fX9_isAtWord_L30 X
)
else none
else none
else none
) else (
fX9_isAtWord_L30 X
)
else none
else none
else none
else none
theorem gX9_isAtWord_L30 {E : q_E} {X0 : Mm} (C : Cx E cX9_isAtWord RX9 2 (some .boolean) (q_rm 0 0 0 0) X0) (X : Mm) : Sm E (q_fin E q_eI X0 0 0) 0 0 30 [] [] X (fX9_isAtWord_L30  X) := by
  unfold fX9_isAtWord_L30
  refine q_iconst C (0 : Int32) dX9_isAtWord_30 rfl ?_
  exact q_zret0 C dX9_isAtWord_31
theorem sX9_isAtWord (r0 : Nat) (v1 : Int32) : q_Ct yX9_isAtWord cX9_isAtWord 2 (some .boolean) 0 0 0 0 q_eI (fun P => [.ref (P + r0), .int v1]) (fX9_isAtWord r0 v1) := by
  refine q_meth (by decide +kernel) (fun P => Nat.le_of_ble_eq_true rfl) (fun E X C hn => ?_)
  show Sm E (q_fin E q_eI X 0 0) 0 0 0 [(0, .ref (q_P E + r0)), (1, .int v1)] [] X _
  unfold fX9_isAtWord
  refine q_aload_n C 0 dX9_isAtWord_0 rfl rfl ?_
  refine q_chk (fun h1 => ?_)
  refine q_chk (fun h2 => ?_)
  refine p_getR C fgX9_15 rfl dX9_isAtWord_1 h1 h2 ?_
  refine q_aload_n C 0 dX9_isAtWord_4 rfl rfl ?_
  refine p_getI C fgX9_41 rfl dX9_isAtWord_5 h1 ?_
  refine q_chk (fun h3 => ?_)
  refine q_chk (fun h4 => ?_)
  refine p_iald C dX9_isAtWord_8 h3 h4 ?_
  refine q_iconst C (1 : Int32) dX9_isAtWord_9 rfl ?_
  refine q_icmp_ne C 30 dX9_isAtWord_10 (by decide) (fun _ => ?_) (fun _ => ?_)
  · refine q_aload_n C 0 dX9_isAtWord_13 rfl rfl ?_
    refine q_chk (fun h5 => ?_)
    refine p_getR C fgX9_22 rfl dX9_isAtWord_14 h1 h5 ?_
    refine q_aload_n C 0 dX9_isAtWord_17 rfl rfl ?_
    refine p_getI C fgX9_41 rfl dX9_isAtWord_18 h1 ?_
    refine q_chk (fun h6 => ?_)
    refine q_chk (fun h7 => ?_)
    refine p_iald C dX9_isAtWord_21 h6 h7 ?_
    refine q_iload_n C 1 dX9_isAtWord_22 rfl rfl ?_
    refine q_icmp_ne C 30 dX9_isAtWord_23 (by decide) (fun _ => ?_) (fun _ => ?_)
    · refine q_iconst C (1 : Int32) dX9_isAtWord_26 rfl ?_
      refine q_goto C 31 dX9_isAtWord_27 (by decide) ?_
      exact q_zret1 C dX9_isAtWord_31
    · refine q_sub C [] [] rfl ?_
      exact gX9_isAtWord_L30 C X
  · refine q_sub C [] [] rfl ?_
    exact gX9_isAtWord_L30 C X
/-! RecordClaims$Tape.takeWord(I)V -/
abbrev cX9_takeWord : ByteArray := prog_11_method_17_code
def yX9_takeWord : MethodName := ⟨RX9, "takeWord", "(I)V"⟩
theorem dX9_takeWord_0 : decode cX9_takeWord 0 = .ok (.aload_n 0, 1) := by decide +kernel
theorem dX9_takeWord_1 : decode cX9_takeWord 1 = .ok (.iload_n 1, 1) := by decide +kernel
theorem dX9_takeWord_2 : decode cX9_takeWord 2 = .ok (.invokevirtual 79, 3) := by decide +kernel
theorem dX9_takeWord_5 : decode cX9_takeWord 5 = .ok (.ifCond .ne 8, 3) := by decide +kernel
theorem dX9_takeWord_8 : decode cX9_takeWord 8 = .ok (.aload_n 0, 1) := by decide +kernel
theorem dX9_takeWord_9 : decode cX9_takeWord 9 = .ok (.iconst 1, 1) := by decide +kernel
theorem dX9_takeWord_10 : decode cX9_takeWord 10 = .ok (.invokevirtual 82, 3) := by decide +kernel
theorem dX9_takeWord_13 : decode cX9_takeWord 13 = .ok (.aload_n 0, 1) := by decide +kernel
theorem dX9_takeWord_14 : decode cX9_takeWord 14 = .ok (.getfield 38, 3) := by decide +kernel
theorem dX9_takeWord_17 : decode cX9_takeWord 17 = .ok (.ifCond .ne 13, 3) := by decide +kernel
theorem dX9_takeWord_20 : decode cX9_takeWord 20 = .ok (.aload_n 0, 1) := by decide +kernel
theorem dX9_takeWord_21 : decode cX9_takeWord 21 = .ok (.dup, 1) := by decide +kernel
theorem dX9_takeWord_22 : decode cX9_takeWord 22 = .ok (.getfield 41, 3) := by decide +kernel
theorem dX9_takeWord_25 : decode cX9_takeWord 25 = .ok (.iconst 1, 1) := by decide +kernel
theorem dX9_takeWord_26 : decode cX9_takeWord 26 = .ok (.iadd, 1) := by decide +kernel
theorem dX9_takeWord_27 : decode cX9_takeWord 27 = .ok (.putfield 41, 3) := by decide +kernel
theorem dX9_takeWord_30 : decode cX9_takeWord 30 = .ok (.return_, 1) := by decide +kernel
theorem fcX9_79 : q_LV RX9 79 yX9_isAtWord cX9_isAtWord 2 (some .boolean) 1 9 := ⟨q_tb 631 (by decide +kernel) rfl, q_tb 616 (by decide +kernel) rfl, q_tb 617 (by decide +kernel) rfl, q_tb 2 (by decide +kernel) rfl, q_tb 618 (by decide +kernel) rfl, ⟨by decide +kernel, by decide +kernel, by decide +kernel⟩, TX9, 8, rfl⟩
def fX9_takeWord_L13 (r0 : Nat) (X : Mm) : Option (Unit × Mm) :=
if mT X r0 = 9 then
if (mI X r0 6) = 0 then (
nm (sI X r0 5 ((mI X r0 5) + (1 : Int32))) fun X27_8 =>
some ((), X27_8)
) else (
some ((), X)
)
else none
def fX9_takeWord (r0 : Nat) (v1 : Int32) (X : Mm) : Option (Unit × Mm) :=
if mT X r0 = 9 then
bd (fX9_isAtWord r0 v1 X) fun w1 X2_2 =>
if w1 = 0 then (
if mT X2_2 r0 = 9 then
bd (fX9_fail r0 (1 : Int32) X2_2) fun _ X10_5 =>
fX9_takeWord_L13 r0 X10_5
else none
) else (
fX9_takeWord_L13 r0 X2_2
)
else none
theorem gX9_takeWord_L13 {E : q_E} {X0 : Mm} (C : Cx E cX9_takeWord RX9 2 none (q_rm 1 21 0 0) X0) (r0 : Nat) (X : Mm) : Sm E (q_fin E q_eV X0 0 0) 0 0 13 [(0, .ref (q_P E + r0))] [] X (fX9_takeWord_L13 r0 X) := by
  unfold fX9_takeWord_L13
  refine q_aload_n C 0 dX9_takeWord_13 rfl rfl ?_
  refine q_chk (fun h7 => ?_)
  refine p_getI C fgX9_38 rfl dX9_takeWord_14 h7 ?_
  refine q_if_ne C 30 dX9_takeWord_17 (by decide) (fun _ => ?_) (fun _ => ?_)
  · refine q_aload_n C 0 dX9_takeWord_20 rfl rfl ?_
    refine q_dup C dX9_takeWord_21 rfl ?_
    refine p_getI C fgX9_41 rfl dX9_takeWord_22 h7 ?_
    refine q_iconst C (1 : Int32) dX9_takeWord_25 rfl ?_
    refine q_iadd C dX9_takeWord_26 ?_
    refine p_putI C fpX9_41 rfl dX9_takeWord_27 h7 ?_
    refine q_nmX (fun X27_8 => ?_)
    exact q_vret C dX9_takeWord_30
  · exact q_vret C dX9_takeWord_30
theorem sX9_takeWord (r0 : Nat) (v1 : Int32) : q_Ct yX9_takeWord cX9_takeWord 2 none 1 21 0 0 q_eV (fun P => [.ref (P + r0), .int v1]) (fX9_takeWord r0 v1) := by
  refine q_meth (by decide +kernel) (fun P => Nat.le_of_ble_eq_true rfl) (fun E X C hn => ?_)
  show Sm E (q_fin E q_eV X 0 0) 0 0 0 [(0, .ref (q_P E + r0)), (1, .int v1)] [] X _
  unfold fX9_takeWord
  refine q_aload_n C 0 dX9_takeWord_0 rfl rfl ?_
  refine q_iload_n C 1 dX9_takeWord_1 rfl rfl ?_
  refine q_chk (fun h3 => ?_)
  refine q_cVI (As := (fun P => [.int v1])) C [] (sX9_isAtWord r0 v1) fcX9_79 rfl (fun _ => rfl) ⟨Nat.le_of_ble_eq_true rfl, Nat.le_of_ble_eq_true rfl⟩ ⟨Nat.le_of_ble_eq_true rfl, Nat.le_of_ble_eq_true rfl⟩ (Nat.le_of_ble_eq_true rfl) dX9_takeWord_2 h3 (fun w1 X2_2 => ?_)
  refine q_if_ne C 13 dX9_takeWord_5 (by decide) (fun _ => ?_) (fun _ => ?_)
  · refine q_aload_n C 0 dX9_takeWord_8 rfl rfl ?_
    refine q_iconst C (1 : Int32) dX9_takeWord_9 rfl ?_
    refine q_chk (fun h6 => ?_)
    refine q_cVV (As := (fun P => [.int (1 : Int32)])) C [] (sX9_fail r0 (1 : Int32)) fcX9_82 rfl (fun _ => rfl) ⟨Nat.le_of_ble_eq_true rfl, Nat.le_of_ble_eq_true rfl⟩ ⟨Nat.le_of_ble_eq_true rfl, Nat.le_of_ble_eq_true rfl⟩ (Nat.le_of_ble_eq_true rfl) dX9_takeWord_10 h6 (fun _ X10_5 => ?_)
    refine q_sub C [(0, .ref (q_P E + r0))] [0] rfl ?_
    exact gX9_takeWord_L13 C r0 X10_5
  · refine q_sub C [(0, .ref (q_P E + r0))] [0] rfl ?_
    exact gX9_takeWord_L13 C r0 X2_2
/-! RecordClaims$Book.hasName(I)Z -/
abbrev cX0_hasName : ByteArray := prog_2_method_10_code
def yX0_hasName : MethodName := ⟨RX0, "hasName", "(I)Z"⟩
theorem dX0_hasName_0 : decode cX0_hasName 0 = .ok (.aload_n 0, 1) := by decide +kernel
theorem dX0_hasName_1 : decode cX0_hasName 1 = .ok (.iload_n 1, 1) := by decide +kernel
theorem dX0_hasName_2 : decode cX0_hasName 2 = .ok (.invokevirtual 80, 3) := by decide +kernel
theorem dX0_hasName_5 : decode cX0_hasName 5 = .ok (.iconst (-1), 1) := by decide +kernel
theorem dX0_hasName_6 : decode cX0_hasName 6 = .ok (.if_icmp .ne 12, 3) := by decide +kernel
theorem dX0_hasName_9 : decode cX0_hasName 9 = .ok (.aload_n 0, 1) := by decide +kernel
theorem dX0_hasName_10 : decode cX0_hasName 10 = .ok (.iload_n 1, 1) := by decide +kernel
theorem dX0_hasName_11 : decode cX0_hasName 11 = .ok (.invokevirtual 84, 3) := by decide +kernel
theorem dX0_hasName_14 : decode cX0_hasName 14 = .ok (.iconst (-1), 1) := by decide +kernel
theorem dX0_hasName_15 : decode cX0_hasName 15 = .ok (.if_icmp .eq 7, 3) := by decide +kernel
theorem dX0_hasName_18 : decode cX0_hasName 18 = .ok (.iconst 1, 1) := by decide +kernel
theorem dX0_hasName_19 : decode cX0_hasName 19 = .ok (.goto 4, 3) := by decide +kernel
theorem dX0_hasName_22 : decode cX0_hasName 22 = .ok (.iconst 0, 1) := by decide +kernel
theorem dX0_hasName_23 : decode cX0_hasName 23 = .ok (.ireturn, 1) := by decide +kernel
theorem fcX0_80 : q_LV RX0 80 yX0_holderNamed cX0_holderNamed 2 (some .int) 1 0 := ⟨q_tb 641 (by decide +kernel) rfl, q_tb 642 (by decide +kernel) rfl, q_tb 643 (by decide +kernel) rfl, q_tb 3 (by decide +kernel) rfl, q_tb 644 (by decide +kernel) rfl, ⟨by decide +kernel, by decide +kernel, by decide +kernel⟩, TX0, 5, rfl⟩
theorem fcX0_84 : q_LV RX0 84 yX0_paperNamed cX0_paperNamed 2 (some .int) 1 0 := ⟨q_tb 648 (by decide +kernel) rfl, q_tb 649 (by decide +kernel) rfl, q_tb 650 (by decide +kernel) rfl, q_tb 3 (by decide +kernel) rfl, q_tb 651 (by decide +kernel) rfl, ⟨by decide +kernel, by decide +kernel, by decide +kernel⟩, TX0, 5, rfl⟩
def fX0_hasName_L18 (n : Nat) (X : Mm) : Option (Int32 × Mm) :=
some (1, X)
def fX0_hasName (n : Nat) (r0 : Nat) (v1 : Int32) (X : Mm) : Option (Int32 × Mm) :=
if mT X r0 = 0 then
bd (fX0_holderNamed n r0 v1 X) fun w1 X2_2 =>
if w1 = (-1 : Int32) then (
if mT X2_2 r0 = 0 then
bd (fX0_paperNamed n r0 v1 X2_2) fun w4 X11_5 =>
if w4 = (-1 : Int32) then (
some (0, X11_5)
) else (
fX0_hasName_L18 n X11_5
)
else none
) else (
fX0_hasName_L18 n X2_2
)
else none
theorem gX0_hasName_L18 {E : q_E} {X0 : Mm} (C : Cx E cX0_hasName RX0 2 (some .boolean) (q_rm 2 44 0 0) X0) (n : Nat) (X : Mm) : Sm E (q_fin E q_eI X0 0 0) 0 0 18 [] [] X (fX0_hasName_L18 n  X) := by
  unfold fX0_hasName_L18
  refine q_iconst C (1 : Int32) dX0_hasName_18 rfl ?_
  refine q_goto C 23 dX0_hasName_19 (by decide) ?_
  exact q_zret1 C dX0_hasName_23
theorem sX0_hasName (n : Nat) (r0 : Nat) (v1 : Int32) : q_Ct yX0_hasName cX0_hasName 2 (some .boolean) 2 44 0 0 q_eI (fun P => [.ref (P + r0), .int v1]) (fX0_hasName n r0 v1) := by
  refine q_meth (by decide +kernel) (fun P => Nat.le_of_ble_eq_true rfl) (fun E X C hn => ?_)
  show Sm E (q_fin E q_eI X 0 0) 0 0 0 [(0, .ref (q_P E + r0)), (1, .int v1)] [] X _
  unfold fX0_hasName
  refine q_aload_n C 0 dX0_hasName_0 rfl rfl ?_
  refine q_iload_n C 1 dX0_hasName_1 rfl rfl ?_
  refine q_chk (fun h3 => ?_)
  refine q_cVI (As := (fun P => [.int v1])) C [] (sX0_holderNamed n r0 v1) fcX0_80 rfl (fun _ => rfl) ⟨Nat.le_of_ble_eq_true rfl, Nat.le_of_ble_eq_true rfl⟩ ⟨Nat.le_of_ble_eq_true rfl, Nat.le_of_ble_eq_true rfl⟩ (Nat.le_of_ble_eq_true rfl) dX0_hasName_2 h3 (fun w1 X2_2 => ?_)
  refine q_iconst C (-1 : Int32) dX0_hasName_5 rfl ?_
  refine q_icmp_ne C 18 dX0_hasName_6 (by decide) (fun _ => ?_) (fun _ => ?_)
  · refine q_aload_n C 0 dX0_hasName_9 rfl rfl ?_
    refine q_iload_n C 1 dX0_hasName_10 rfl rfl ?_
    refine q_chk (fun h6 => ?_)
    refine q_cVI (As := (fun P => [.int v1])) C [] (sX0_paperNamed n r0 v1) fcX0_84 rfl (fun _ => rfl) ⟨Nat.le_of_ble_eq_true rfl, Nat.le_of_ble_eq_true rfl⟩ ⟨Nat.le_of_ble_eq_true rfl, Nat.le_of_ble_eq_true rfl⟩ (Nat.le_of_ble_eq_true rfl) dX0_hasName_11 h6 (fun w4 X11_5 => ?_)
    refine q_iconst C (-1 : Int32) dX0_hasName_14 rfl ?_
    refine q_icmp_eq C 22 dX0_hasName_15 (by decide) (fun _ => ?_) (fun _ => ?_)
    · refine q_iconst C (0 : Int32) dX0_hasName_22 rfl ?_
      exact q_zret0 C dX0_hasName_23
    · refine q_sub C [] [] rfl ?_
      exact gX0_hasName_L18 C n X11_5
  · refine q_sub C [] [] rfl ?_
    exact gX0_hasName_L18 C n X2_2
/-! RecordClaims$Tape.takeNew(LRecordClaims$Book;)I -/
abbrev cX9_takeNew : ByteArray := prog_11_method_22_code
def yX9_takeNew : MethodName := ⟨RX9, "takeNew", "(LRecordClaims$Book;)I"⟩
theorem dX9_takeNew_0 : decode cX9_takeNew 0 = .ok (.aload_n 0, 1) := by decide +kernel
theorem dX9_takeNew_1 : decode cX9_takeNew 1 = .ok (.getfield 15, 3) := by decide +kernel
theorem dX9_takeNew_4 : decode cX9_takeNew 4 = .ok (.aload_n 0, 1) := by decide +kernel
theorem dX9_takeNew_5 : decode cX9_takeNew 5 = .ok (.getfield 41, 3) := by decide +kernel
theorem dX9_takeNew_8 : decode cX9_takeNew 8 = .ok (.iaload, 1) := by decide +kernel
theorem dX9_takeNew_9 : decode cX9_takeNew 9 = .ok (.iconst 2, 1) := by decide +kernel
theorem dX9_takeNew_10 : decode cX9_takeNew 10 = .ok (.if_icmp .eq 11, 3) := by decide +kernel
theorem dX9_takeNew_13 : decode cX9_takeNew 13 = .ok (.aload_n 0, 1) := by decide +kernel
theorem dX9_takeNew_14 : decode cX9_takeNew 14 = .ok (.iconst 1, 1) := by decide +kernel
theorem dX9_takeNew_15 : decode cX9_takeNew 15 = .ok (.invokevirtual 82, 3) := by decide +kernel
theorem dX9_takeNew_18 : decode cX9_takeNew 18 = .ok (.goto 24, 3) := by decide +kernel
theorem dX9_takeNew_21 : decode cX9_takeNew 21 = .ok (.aload_n 1, 1) := by decide +kernel
theorem dX9_takeNew_22 : decode cX9_takeNew 22 = .ok (.aload_n 0, 1) := by decide +kernel
theorem dX9_takeNew_23 : decode cX9_takeNew 23 = .ok (.getfield 22, 3) := by decide +kernel
theorem dX9_takeNew_26 : decode cX9_takeNew 26 = .ok (.aload_n 0, 1) := by decide +kernel
theorem dX9_takeNew_27 : decode cX9_takeNew 27 = .ok (.getfield 41, 3) := by decide +kernel
theorem dX9_takeNew_30 : decode cX9_takeNew 30 = .ok (.iaload, 1) := by decide +kernel
theorem dX9_takeNew_31 : decode cX9_takeNew 31 = .ok (.invokevirtual 93, 3) := by decide +kernel
theorem dX9_takeNew_34 : decode cX9_takeNew 34 = .ok (.ifCond .eq 8, 3) := by decide +kernel
theorem dX9_takeNew_37 : decode cX9_takeNew 37 = .ok (.aload_n 0, 1) := by decide +kernel
theorem dX9_takeNew_38 : decode cX9_takeNew 38 = .ok (.iconst 2, 1) := by decide +kernel
theorem dX9_takeNew_39 : decode cX9_takeNew 39 = .ok (.invokevirtual 82, 3) := by decide +kernel
theorem dX9_takeNew_42 : decode cX9_takeNew 42 = .ok (.aload_n 0, 1) := by decide +kernel
theorem dX9_takeNew_43 : decode cX9_takeNew 43 = .ok (.invokevirtual 86, 3) := by decide +kernel
theorem dX9_takeNew_46 : decode cX9_takeNew 46 = .ok (.ireturn, 1) := by decide +kernel
theorem fcX9_93 : q_LV RX9 93 yX0_hasName cX0_hasName 2 (some .boolean) 1 0 := ⟨q_tb 637 (by decide +kernel) rfl, q_tb 638 (by decide +kernel) rfl, q_tb 639 (by decide +kernel) rfl, q_tb 3 (by decide +kernel) rfl, q_tb 640 (by decide +kernel) rfl, ⟨by decide +kernel, by decide +kernel, by decide +kernel⟩, TX0, 5, rfl⟩
def fX9_takeNew_L42 (n : Nat) (r0 : Nat) (X : Mm) : Option (Int32 × Mm) :=
if mT X r0 = 9 then
bd (fX9_takeValue r0 X) fun w11 X43_12 =>
some (w11, X43_12)
else none
def fX9_takeNew (n : Nat) (r0 : Nat) (r1 : Nat) (X : Mm) : Option (Int32 × Mm) :=
if mT X r0 = 9 then
if mR X r0 2 ≠ 0 then
if mT X (mR X r0 2) = 14 then
if q_b X (mR X r0 2) (mI X r0 5) then
if (mI X (mR X r0 2) ((mI X r0 5)).toNatClampNeg) = (2 : Int32) then (
if mR X r0 4 ≠ 0 then
if mT X (mR X r0 4) = 14 then
if q_b X (mR X r0 4) (mI X r0 5) then
if mT X r1 = 0 then
bd (fX0_hasName n r1 ((mI X (mR X r0 4) ((mI X r0 5)).toNatClampNeg)) X) fun w8 X31_9 =>
if w8 = 0 then (
fX9_takeNew_L42 n r0 X31_9
) else (
if mT X31_9 r0 = 9 then
bd (fX9_fail r0 (2 : Int32) X31_9) fun _ X39_15 =>
fX9_takeNew_L42 n r0 X39_15
else none
)
else none
else none
else none
else none
) else (
bd (fX9_fail r0 (1 : Int32) X) fun _ X15_18 =>
fX9_takeNew_L42 n r0 X15_18
)
else none
else none
else none
else none
theorem gX9_takeNew_L42 {E : q_E} {X0 : Mm} (C : Cx E cX9_takeNew RX9 2 (some .int) (q_rm 3 65 0 0) X0) (n : Nat) (r0 : Nat) (X : Mm) : Sm E (q_fin E q_eI X0 0 0) 0 0 42 [(0, .ref (q_P E + r0))] [] X (fX9_takeNew_L42 n r0 X) := by
  unfold fX9_takeNew_L42
  refine q_aload_n C 0 dX9_takeNew_42 rfl rfl ?_
  refine q_chk (fun h13 => ?_)
  refine q_cVI (As := (fun P => [])) C [] (sX9_takeValue r0) fcX9_86 rfl (fun _ => rfl) ⟨Nat.le_of_ble_eq_true rfl, Nat.le_of_ble_eq_true rfl⟩ ⟨Nat.le_of_ble_eq_true rfl, Nat.le_of_ble_eq_true rfl⟩ (Nat.le_of_ble_eq_true rfl) dX9_takeNew_43 h13 (fun w11 X43_12 => ?_)
  exact q_iret C dX9_takeNew_46
theorem sX9_takeNew (n : Nat) (r0 : Nat) (r1 : Nat) : q_Ct yX9_takeNew cX9_takeNew 2 (some .int) 3 65 0 0 q_eI (fun P => [.ref (P + r0), .ref (P + r1)]) (fX9_takeNew n r0 r1) := by
  refine q_meth (by decide +kernel) (fun P => Nat.le_of_ble_eq_true rfl) (fun E X C hn => ?_)
  show Sm E (q_fin E q_eI X 0 0) 0 0 0 [(0, .ref (q_P E + r0)), (1, .ref (q_P E + r1))] [] X _
  unfold fX9_takeNew
  refine q_aload_n C 0 dX9_takeNew_0 rfl rfl ?_
  refine q_chk (fun h1 => ?_)
  refine q_chk (fun h2 => ?_)
  refine p_getR C fgX9_15 rfl dX9_takeNew_1 h1 h2 ?_
  refine q_aload_n C 0 dX9_takeNew_4 rfl rfl ?_
  refine p_getI C fgX9_41 rfl dX9_takeNew_5 h1 ?_
  refine q_chk (fun h3 => ?_)
  refine q_chk (fun h4 => ?_)
  refine p_iald C dX9_takeNew_8 h3 h4 ?_
  refine q_iconst C (2 : Int32) dX9_takeNew_9 rfl ?_
  refine q_icmp_eq C 21 dX9_takeNew_10 (by decide) (fun _ => ?_) (fun _ => ?_)
  · refine q_aload_n C 1 dX9_takeNew_21 rfl rfl ?_
    refine q_aload_n C 0 dX9_takeNew_22 rfl rfl ?_
    refine q_chk (fun h5 => ?_)
    refine p_getR C fgX9_22 rfl dX9_takeNew_23 h1 h5 ?_
    refine q_aload_n C 0 dX9_takeNew_26 rfl rfl ?_
    refine p_getI C fgX9_41 rfl dX9_takeNew_27 h1 ?_
    refine q_chk (fun h6 => ?_)
    refine q_chk (fun h7 => ?_)
    refine p_iald C dX9_takeNew_30 h6 h7 ?_
    refine q_chk (fun h10 => ?_)
    refine q_cVI (As := (fun P => [.int (mI X (mR X r0 4) ((mI X r0 5)).toNatClampNeg)])) C [] (sX0_hasName n r1 ((mI X (mR X r0 4) ((mI X r0 5)).toNatClampNeg))) fcX9_93 rfl (fun _ => rfl) ⟨Nat.le_of_ble_eq_true rfl, Nat.le_of_ble_eq_true rfl⟩ ⟨Nat.le_of_ble_eq_true rfl, Nat.le_of_ble_eq_true rfl⟩ (Nat.le_of_ble_eq_true rfl) dX9_takeNew_31 h10 (fun w8 X31_9 => ?_)
    refine q_if_eq C 42 dX9_takeNew_34 (by decide) (fun _ => ?_) (fun _ => ?_)
    · refine q_sub C [(0, .ref (q_P E + r0))] [0] rfl ?_
      exact gX9_takeNew_L42 C n r0 X31_9
    · refine q_aload_n C 0 dX9_takeNew_37 rfl rfl ?_
      refine q_iconst C (2 : Int32) dX9_takeNew_38 rfl ?_
      refine q_chk (fun h16 => ?_)
      refine q_cVV (As := (fun P => [.int (2 : Int32)])) C [] (sX9_fail r0 (2 : Int32)) fcX9_82 rfl (fun _ => rfl) ⟨Nat.le_of_ble_eq_true rfl, Nat.le_of_ble_eq_true rfl⟩ ⟨Nat.le_of_ble_eq_true rfl, Nat.le_of_ble_eq_true rfl⟩ (Nat.le_of_ble_eq_true rfl) dX9_takeNew_39 h16 (fun _ X39_15 => ?_)
      refine q_sub C [(0, .ref (q_P E + r0))] [0] rfl ?_
      exact gX9_takeNew_L42 C n r0 X39_15
  · refine q_aload_n C 0 dX9_takeNew_13 rfl rfl ?_
    refine q_iconst C (1 : Int32) dX9_takeNew_14 rfl ?_
    refine q_cVV (As := (fun P => [.int (1 : Int32)])) C [] (sX9_fail r0 (1 : Int32)) fcX9_82 rfl (fun _ => rfl) ⟨Nat.le_of_ble_eq_true rfl, Nat.le_of_ble_eq_true rfl⟩ ⟨Nat.le_of_ble_eq_true rfl, Nat.le_of_ble_eq_true rfl⟩ (Nat.le_of_ble_eq_true rfl) dX9_takeNew_15 h1 (fun _ X15_18 => ?_)
    refine q_goto C 42 dX9_takeNew_18 (by decide) ?_
    refine q_sub C [(0, .ref (q_P E + r0))] [0] rfl ?_
    exact gX9_takeNew_L42 C n r0 X15_18
/-! RecordClaims$Book.readHolder(LRecordClaims$Tape;)V -/
abbrev cX0_readHolder : ByteArray := prog_2_method_8_code
def yX0_readHolder : MethodName := ⟨RX0, "readHolder", "(LRecordClaims$Tape;)V"⟩
theorem dX0_readHolder_0 : decode cX0_readHolder 0 = .ok (.aload_n 0, 1) := by decide +kernel
theorem dX0_readHolder_1 : decode cX0_readHolder 1 = .ok (.getfield 22, 3) := by decide +kernel
theorem dX0_readHolder_4 : decode cX0_readHolder 4 = .ok (.bipush 10, 2) := by decide +kernel
theorem dX0_readHolder_6 : decode cX0_readHolder 6 = .ok (.if_icmp .lt 8, 3) := by decide +kernel
theorem dX0_readHolder_9 : decode cX0_readHolder 9 = .ok (.aload_n 1, 1) := by decide +kernel
theorem dX0_readHolder_10 : decode cX0_readHolder 10 = .ok (.iconst 4, 1) := by decide +kernel
theorem dX0_readHolder_11 : decode cX0_readHolder 11 = .ok (.invokevirtual 73, 3) := by decide +kernel
theorem dX0_readHolder_14 : decode cX0_readHolder 14 = .ok (.aload_n 1, 1) := by decide +kernel
theorem dX0_readHolder_15 : decode cX0_readHolder 15 = .ok (.iconst 0, 1) := by decide +kernel
theorem dX0_readHolder_16 : decode cX0_readHolder 16 = .ok (.invokevirtual 63, 3) := by decide +kernel
theorem dX0_readHolder_19 : decode cX0_readHolder 19 = .ok (.aload_n 1, 1) := by decide +kernel
theorem dX0_readHolder_20 : decode cX0_readHolder 20 = .ok (.aload_n 0, 1) := by decide +kernel
theorem dX0_readHolder_21 : decode cX0_readHolder 21 = .ok (.invokevirtual 76, 3) := by decide +kernel
theorem dX0_readHolder_24 : decode cX0_readHolder 24 = .ok (.istore_n 2, 1) := by decide +kernel
theorem dX0_readHolder_25 : decode cX0_readHolder 25 = .ok (.iload_n 2, 1) := by decide +kernel
theorem dX0_readHolder_26 : decode cX0_readHolder 26 = .ok (.iconst (-1), 1) := by decide +kernel
theorem dX0_readHolder_27 : decode cX0_readHolder 27 = .ok (.if_icmp .eq 32, 3) := by decide +kernel
theorem dX0_readHolder_30 : decode cX0_readHolder 30 = .ok (.aload_n 0, 1) := by decide +kernel
theorem dX0_readHolder_31 : decode cX0_readHolder 31 = .ok (.getfield 22, 3) := by decide +kernel
theorem dX0_readHolder_34 : decode cX0_readHolder 34 = .ok (.bipush 10, 2) := by decide +kernel
theorem dX0_readHolder_36 : decode cX0_readHolder 36 = .ok (.if_icmp .ge 23, 3) := by decide +kernel
theorem dX0_readHolder_39 : decode cX0_readHolder 39 = .ok (.aload_n 0, 1) := by decide +kernel
theorem dX0_readHolder_40 : decode cX0_readHolder 40 = .ok (.getfield 9, 3) := by decide +kernel
theorem dX0_readHolder_43 : decode cX0_readHolder 43 = .ok (.aload_n 0, 1) := by decide +kernel
theorem dX0_readHolder_44 : decode cX0_readHolder 44 = .ok (.getfield 22, 3) := by decide +kernel
theorem dX0_readHolder_47 : decode cX0_readHolder 47 = .ok (.iload_n 2, 1) := by decide +kernel
theorem dX0_readHolder_48 : decode cX0_readHolder 48 = .ok (.iastore, 1) := by decide +kernel
theorem dX0_readHolder_49 : decode cX0_readHolder 49 = .ok (.aload_n 0, 1) := by decide +kernel
theorem dX0_readHolder_50 : decode cX0_readHolder 50 = .ok (.dup, 1) := by decide +kernel
theorem dX0_readHolder_51 : decode cX0_readHolder 51 = .ok (.getfield 22, 3) := by decide +kernel
theorem dX0_readHolder_54 : decode cX0_readHolder 54 = .ok (.iconst 1, 1) := by decide +kernel
theorem dX0_readHolder_55 : decode cX0_readHolder 55 = .ok (.iadd, 1) := by decide +kernel
theorem dX0_readHolder_56 : decode cX0_readHolder 56 = .ok (.putfield 22, 3) := by decide +kernel
theorem dX0_readHolder_59 : decode cX0_readHolder 59 = .ok (.return_, 1) := by decide +kernel
theorem fcX0_63 : q_LV RX0 63 yX9_takeWord cX9_takeWord 2 none 1 9 := ⟨q_tb 627 (by decide +kernel) rfl, q_tb 628 (by decide +kernel) rfl, q_tb 629 (by decide +kernel) rfl, q_tb 2 (by decide +kernel) rfl, q_tb 630 (by decide +kernel) rfl, ⟨by decide +kernel, by decide +kernel, by decide +kernel⟩, TX9, 8, rfl⟩
theorem fcX0_76 : q_LV RX0 76 yX9_takeNew cX9_takeNew 2 (some .int) 1 9 := ⟨q_tb 633 (by decide +kernel) rfl, q_tb 634 (by decide +kernel) rfl, q_tb 635 (by decide +kernel) rfl, q_tb 2 (by decide +kernel) rfl, q_tb 636 (by decide +kernel) rfl, ⟨by decide +kernel, by decide +kernel, by decide +kernel⟩, TX9, 8, rfl⟩
theorem fpX0_22 : q_Fp RX0 22 0 3 .int false := ⟨RX0, TX0, 5, tyX0, rfl, by decide, inX0, q_tb 77 (by decide +kernel) rfl, tyX0_ok, nmX0, rfl, rfl, fun h => by first | rfl | cases h⟩
theorem fcX0_73 : q_LV RX0 73 yX9_fail cX9_fail 2 none 1 9 := ⟨q_tb 623 (by decide +kernel) rfl, q_tb 624 (by decide +kernel) rfl, q_tb 625 (by decide +kernel) rfl, q_tb 2 (by decide +kernel) rfl, q_tb 626 (by decide +kernel) rfl, ⟨by decide +kernel, by decide +kernel, by decide +kernel⟩, TX9, 8, rfl⟩
def fX0_readHolder_L14 (n : Nat) (r0 : Nat) (r1 : Nat) (X : Mm) : Option (Unit × Mm) :=
if mT X r1 = 9 then
bd (fX9_takeWord r1 (0 : Int32) X) fun _ X16_3 =>
if mT X16_3 r1 = 9 then
bd (fX9_takeNew n r1 r0 X16_3) fun w5 X21_6 =>
if w5 = (-1 : Int32) then (
some ((), X21_6)
) else (
if mT X21_6 r0 = 0 then
if (10 : Int32) ≤ (mI X21_6 r0 3) then (
some ((), X21_6)
) else (
if mR X21_6 r0 0 ≠ 0 then
if mT X21_6 (mR X21_6 r0 0) = 14 then
if q_b X21_6 (mR X21_6 r0 0) (mI X21_6 r0 3) then
nm (sI X21_6 (mR X21_6 r0 0) ((mI X21_6 r0 3)).toNatClampNeg w5) fun X48_10 =>
if mT X48_10 r0 = 0 then
nm (sI X48_10 r0 3 ((mI X48_10 r0 3) + (1 : Int32))) fun X56_14 =>
some ((), X56_14)
else none
else none
else none
else none
)
else none
)
else none
else none
def fX0_readHolder (n : Nat) (r0 : Nat) (r1 : Nat) (X : Mm) : Option (Unit × Mm) :=
if mT X r0 = 0 then
if (mI X r0 3) < (10 : Int32) then (
fX0_readHolder_L14 n r0 r1 X
) else (
if mT X r1 = 9 then
bd (fX9_fail r1 (4 : Int32) X) fun _ X11_16 =>
fX0_readHolder_L14 n r0 r1 X11_16
else none
)
else none
theorem gX0_readHolder_L14 {E : q_E} {X0 : Mm} (C : Cx E cX0_readHolder RX0 3 none (q_rm 4 86 0 0) X0) (n : Nat) (r0 : Nat) (r1 : Nat) (X : Mm) : Sm E (q_fin E q_eV X0 0 0) 0 0 14 [(0, .ref (q_P E + r0)), (1, .ref (q_P E + r1))] [] X (fX0_readHolder_L14 n r0 r1 X) := by
  unfold fX0_readHolder_L14
  refine q_aload_n C 1 dX0_readHolder_14 rfl rfl ?_
  refine q_iconst C (0 : Int32) dX0_readHolder_15 rfl ?_
  refine q_chk (fun h4 => ?_)
  refine q_cVV (As := (fun P => [.int (0 : Int32)])) C [] (sX9_takeWord r1 (0 : Int32)) fcX0_63 rfl (fun _ => rfl) ⟨Nat.le_of_ble_eq_true rfl, Nat.le_of_ble_eq_true rfl⟩ ⟨Nat.le_of_ble_eq_true rfl, Nat.le_of_ble_eq_true rfl⟩ (Nat.le_of_ble_eq_true rfl) dX0_readHolder_16 h4 (fun _ X16_3 => ?_)
  refine q_aload_n C 1 dX0_readHolder_19 rfl rfl ?_
  refine q_aload_n C 0 dX0_readHolder_20 rfl rfl ?_
  refine q_chk (fun h7 => ?_)
  refine q_cVI (As := (fun P => [.ref (P + r0)])) C [] (sX9_takeNew n r1 r0) fcX0_76 rfl (fun _ => rfl) ⟨Nat.le_of_ble_eq_true rfl, Nat.le_of_ble_eq_true rfl⟩ ⟨Nat.le_of_ble_eq_true rfl, Nat.le_of_ble_eq_true rfl⟩ (Nat.le_of_ble_eq_true rfl) dX0_readHolder_21 h7 (fun w5 X21_6 => ?_)
  refine q_istore_n C [(2, .int w5), (0, .ref (q_P E + r0)), (1, .ref (q_P E + r1))] dX0_readHolder_24 rfl (Nat.le_of_ble_eq_true rfl) rfl ?_
  refine q_iload_n C 0 dX0_readHolder_25 rfl rfl ?_
  refine q_iconst C (-1 : Int32) dX0_readHolder_26 rfl ?_
  refine q_icmp_eq C 59 dX0_readHolder_27 (by decide) (fun _ => ?_) (fun _ => ?_)
  · exact q_vret C dX0_readHolder_59
  · refine q_aload_n C 1 dX0_readHolder_30 rfl rfl ?_
    refine q_chk (fun h8 => ?_)
    refine p_getI C fgX0_22 rfl dX0_readHolder_31 h8 ?_
    refine q_bipush C (10 : Int32) dX0_readHolder_34 rfl ?_
    refine q_icmp_ge C 59 dX0_readHolder_36 (by decide) (fun _ => ?_) (fun _ => ?_)
    · exact q_vret C dX0_readHolder_59
    · refine q_aload_n C 1 dX0_readHolder_39 rfl rfl ?_
      refine q_chk (fun h9 => ?_)
      refine p_getR C fgX0_9 rfl dX0_readHolder_40 h8 h9 ?_
      refine q_aload_n C 1 dX0_readHolder_43 rfl rfl ?_
      refine p_getI C fgX0_22 rfl dX0_readHolder_44 h8 ?_
      refine q_iload_n C 0 dX0_readHolder_47 rfl rfl ?_
      refine q_chk (fun h11 => ?_)
      refine q_chk (fun h12 => ?_)
      refine p_iast C dX0_readHolder_48 h11 h12 ?_
      refine q_nmX (fun X48_10 => ?_)
      refine q_aload_n C 1 dX0_readHolder_49 rfl rfl ?_
      refine q_dup C dX0_readHolder_50 rfl ?_
      refine q_chk (fun h13 => ?_)
      refine p_getI C fgX0_22 rfl dX0_readHolder_51 h13 ?_
      refine q_iconst C (1 : Int32) dX0_readHolder_54 rfl ?_
      refine q_iadd C dX0_readHolder_55 ?_
      refine p_putI C fpX0_22 rfl dX0_readHolder_56 h13 ?_
      refine q_nmX (fun X56_14 => ?_)
      exact q_vret C dX0_readHolder_59
theorem sX0_readHolder (n : Nat) (r0 : Nat) (r1 : Nat) : q_Ct yX0_readHolder cX0_readHolder 3 none 4 86 0 0 q_eV (fun P => [.ref (P + r0), .ref (P + r1)]) (fX0_readHolder n r0 r1) := by
  refine q_meth (by decide +kernel) (fun P => Nat.le_of_ble_eq_true rfl) (fun E X C hn => ?_)
  show Sm E (q_fin E q_eV X 0 0) 0 0 0 [(0, .ref (q_P E + r0)), (1, .ref (q_P E + r1))] [] X _
  unfold fX0_readHolder
  refine q_aload_n C 0 dX0_readHolder_0 rfl rfl ?_
  refine q_chk (fun h1 => ?_)
  refine p_getI C fgX0_22 rfl dX0_readHolder_1 h1 ?_
  refine q_bipush C (10 : Int32) dX0_readHolder_4 rfl ?_
  refine q_icmp_lt C 14 dX0_readHolder_6 (by decide) (fun _ => ?_) (fun _ => ?_)
  · exact gX0_readHolder_L14 C n r0 r1 X
  · refine q_aload_n C 1 dX0_readHolder_9 rfl rfl ?_
    refine q_iconst C (4 : Int32) dX0_readHolder_10 rfl ?_
    refine q_chk (fun h17 => ?_)
    refine q_cVV (As := (fun P => [.int (4 : Int32)])) C [] (sX9_fail r1 (4 : Int32)) fcX0_73 rfl (fun _ => rfl) ⟨Nat.le_of_ble_eq_true rfl, Nat.le_of_ble_eq_true rfl⟩ ⟨Nat.le_of_ble_eq_true rfl, Nat.le_of_ble_eq_true rfl⟩ (Nat.le_of_ble_eq_true rfl) dX0_readHolder_11 h17 (fun _ X11_16 => ?_)
    exact gX0_readHolder_L14 C n r0 r1 X11_16
/-! RecordClaims$Book.readPaper(LRecordClaims$Tape;)V -/
abbrev cX0_readPaper : ByteArray := prog_2_method_9_code
def yX0_readPaper : MethodName := ⟨RX0, "readPaper", "(LRecordClaims$Tape;)V"⟩
theorem dX0_readPaper_0 : decode cX0_readPaper 0 = .ok (.aload_n 0, 1) := by decide +kernel
theorem dX0_readPaper_1 : decode cX0_readPaper 1 = .ok (.getfield 32, 3) := by decide +kernel
theorem dX0_readPaper_4 : decode cX0_readPaper 4 = .ok (.iconst 5, 1) := by decide +kernel
theorem dX0_readPaper_5 : decode cX0_readPaper 5 = .ok (.if_icmp .lt 8, 3) := by decide +kernel
theorem dX0_readPaper_8 : decode cX0_readPaper 8 = .ok (.aload_n 1, 1) := by decide +kernel
theorem dX0_readPaper_9 : decode cX0_readPaper 9 = .ok (.iconst 4, 1) := by decide +kernel
theorem dX0_readPaper_10 : decode cX0_readPaper 10 = .ok (.invokevirtual 73, 3) := by decide +kernel
theorem dX0_readPaper_13 : decode cX0_readPaper 13 = .ok (.aload_n 1, 1) := by decide +kernel
theorem dX0_readPaper_14 : decode cX0_readPaper 14 = .ok (.iconst 1, 1) := by decide +kernel
theorem dX0_readPaper_15 : decode cX0_readPaper 15 = .ok (.invokevirtual 63, 3) := by decide +kernel
theorem dX0_readPaper_18 : decode cX0_readPaper 18 = .ok (.aload_n 1, 1) := by decide +kernel
theorem dX0_readPaper_19 : decode cX0_readPaper 19 = .ok (.aload_n 0, 1) := by decide +kernel
theorem dX0_readPaper_20 : decode cX0_readPaper 20 = .ok (.invokevirtual 76, 3) := by decide +kernel
theorem dX0_readPaper_23 : decode cX0_readPaper 23 = .ok (.istore_n 2, 1) := by decide +kernel
theorem dX0_readPaper_24 : decode cX0_readPaper 24 = .ok (.iload_n 2, 1) := by decide +kernel
theorem dX0_readPaper_25 : decode cX0_readPaper 25 = .ok (.iconst (-1), 1) := by decide +kernel
theorem dX0_readPaper_26 : decode cX0_readPaper 26 = .ok (.if_icmp .eq 31, 3) := by decide +kernel
theorem dX0_readPaper_29 : decode cX0_readPaper 29 = .ok (.aload_n 0, 1) := by decide +kernel
theorem dX0_readPaper_30 : decode cX0_readPaper 30 = .ok (.getfield 32, 3) := by decide +kernel
theorem dX0_readPaper_33 : decode cX0_readPaper 33 = .ok (.iconst 5, 1) := by decide +kernel
theorem dX0_readPaper_34 : decode cX0_readPaper 34 = .ok (.if_icmp .ge 23, 3) := by decide +kernel
theorem dX0_readPaper_37 : decode cX0_readPaper 37 = .ok (.aload_n 0, 1) := by decide +kernel
theorem dX0_readPaper_38 : decode cX0_readPaper 38 = .ok (.getfield 15, 3) := by decide +kernel
theorem dX0_readPaper_41 : decode cX0_readPaper 41 = .ok (.aload_n 0, 1) := by decide +kernel
theorem dX0_readPaper_42 : decode cX0_readPaper 42 = .ok (.getfield 32, 3) := by decide +kernel
theorem dX0_readPaper_45 : decode cX0_readPaper 45 = .ok (.iload_n 2, 1) := by decide +kernel
theorem dX0_readPaper_46 : decode cX0_readPaper 46 = .ok (.iastore, 1) := by decide +kernel
theorem dX0_readPaper_47 : decode cX0_readPaper 47 = .ok (.aload_n 0, 1) := by decide +kernel
theorem dX0_readPaper_48 : decode cX0_readPaper 48 = .ok (.dup, 1) := by decide +kernel
theorem dX0_readPaper_49 : decode cX0_readPaper 49 = .ok (.getfield 32, 3) := by decide +kernel
theorem dX0_readPaper_52 : decode cX0_readPaper 52 = .ok (.iconst 1, 1) := by decide +kernel
theorem dX0_readPaper_53 : decode cX0_readPaper 53 = .ok (.iadd, 1) := by decide +kernel
theorem dX0_readPaper_54 : decode cX0_readPaper 54 = .ok (.putfield 32, 3) := by decide +kernel
theorem dX0_readPaper_57 : decode cX0_readPaper 57 = .ok (.return_, 1) := by decide +kernel
theorem fpX0_32 : q_Fp RX0 32 0 4 .int false := ⟨RX0, TX0, 5, tyX0, rfl, by decide, inX0, q_tb 80 (by decide +kernel) rfl, tyX0_ok, nmX0, rfl, rfl, fun h => by first | rfl | cases h⟩
def fX0_readPaper_L13 (n : Nat) (r0 : Nat) (r1 : Nat) (X : Mm) : Option (Unit × Mm) :=
if mT X r1 = 9 then
bd (fX9_takeWord r1 (1 : Int32) X) fun _ X15_3 =>
if mT X15_3 r1 = 9 then
bd (fX9_takeNew n r1 r0 X15_3) fun w5 X20_6 =>
if w5 = (-1 : Int32) then (
some ((), X20_6)
) else (
if mT X20_6 r0 = 0 then
if (5 : Int32) ≤ (mI X20_6 r0 4) then (
some ((), X20_6)
) else (
if mR X20_6 r0 1 ≠ 0 then
if mT X20_6 (mR X20_6 r0 1) = 14 then
if q_b X20_6 (mR X20_6 r0 1) (mI X20_6 r0 4) then
nm (sI X20_6 (mR X20_6 r0 1) ((mI X20_6 r0 4)).toNatClampNeg w5) fun X46_10 =>
if mT X46_10 r0 = 0 then
nm (sI X46_10 r0 4 ((mI X46_10 r0 4) + (1 : Int32))) fun X54_14 =>
some ((), X54_14)
else none
else none
else none
else none
)
else none
)
else none
else none
def fX0_readPaper (n : Nat) (r0 : Nat) (r1 : Nat) (X : Mm) : Option (Unit × Mm) :=
if mT X r0 = 0 then
if (mI X r0 4) < (5 : Int32) then (
fX0_readPaper_L13 n r0 r1 X
) else (
if mT X r1 = 9 then
bd (fX9_fail r1 (4 : Int32) X) fun _ X10_16 =>
fX0_readPaper_L13 n r0 r1 X10_16
else none
)
else none
theorem gX0_readPaper_L13 {E : q_E} {X0 : Mm} (C : Cx E cX0_readPaper RX0 3 none (q_rm 4 86 0 0) X0) (n : Nat) (r0 : Nat) (r1 : Nat) (X : Mm) : Sm E (q_fin E q_eV X0 0 0) 0 0 13 [(0, .ref (q_P E + r0)), (1, .ref (q_P E + r1))] [] X (fX0_readPaper_L13 n r0 r1 X) := by
  unfold fX0_readPaper_L13
  refine q_aload_n C 1 dX0_readPaper_13 rfl rfl ?_
  refine q_iconst C (1 : Int32) dX0_readPaper_14 rfl ?_
  refine q_chk (fun h4 => ?_)
  refine q_cVV (As := (fun P => [.int (1 : Int32)])) C [] (sX9_takeWord r1 (1 : Int32)) fcX0_63 rfl (fun _ => rfl) ⟨Nat.le_of_ble_eq_true rfl, Nat.le_of_ble_eq_true rfl⟩ ⟨Nat.le_of_ble_eq_true rfl, Nat.le_of_ble_eq_true rfl⟩ (Nat.le_of_ble_eq_true rfl) dX0_readPaper_15 h4 (fun _ X15_3 => ?_)
  refine q_aload_n C 1 dX0_readPaper_18 rfl rfl ?_
  refine q_aload_n C 0 dX0_readPaper_19 rfl rfl ?_
  refine q_chk (fun h7 => ?_)
  refine q_cVI (As := (fun P => [.ref (P + r0)])) C [] (sX9_takeNew n r1 r0) fcX0_76 rfl (fun _ => rfl) ⟨Nat.le_of_ble_eq_true rfl, Nat.le_of_ble_eq_true rfl⟩ ⟨Nat.le_of_ble_eq_true rfl, Nat.le_of_ble_eq_true rfl⟩ (Nat.le_of_ble_eq_true rfl) dX0_readPaper_20 h7 (fun w5 X20_6 => ?_)
  refine q_istore_n C [(2, .int w5), (0, .ref (q_P E + r0)), (1, .ref (q_P E + r1))] dX0_readPaper_23 rfl (Nat.le_of_ble_eq_true rfl) rfl ?_
  refine q_iload_n C 0 dX0_readPaper_24 rfl rfl ?_
  refine q_iconst C (-1 : Int32) dX0_readPaper_25 rfl ?_
  refine q_icmp_eq C 57 dX0_readPaper_26 (by decide) (fun _ => ?_) (fun _ => ?_)
  · exact q_vret C dX0_readPaper_57
  · refine q_aload_n C 1 dX0_readPaper_29 rfl rfl ?_
    refine q_chk (fun h8 => ?_)
    refine p_getI C fgX0_32 rfl dX0_readPaper_30 h8 ?_
    refine q_iconst C (5 : Int32) dX0_readPaper_33 rfl ?_
    refine q_icmp_ge C 57 dX0_readPaper_34 (by decide) (fun _ => ?_) (fun _ => ?_)
    · exact q_vret C dX0_readPaper_57
    · refine q_aload_n C 1 dX0_readPaper_37 rfl rfl ?_
      refine q_chk (fun h9 => ?_)
      refine p_getR C fgX0_15 rfl dX0_readPaper_38 h8 h9 ?_
      refine q_aload_n C 1 dX0_readPaper_41 rfl rfl ?_
      refine p_getI C fgX0_32 rfl dX0_readPaper_42 h8 ?_
      refine q_iload_n C 0 dX0_readPaper_45 rfl rfl ?_
      refine q_chk (fun h11 => ?_)
      refine q_chk (fun h12 => ?_)
      refine p_iast C dX0_readPaper_46 h11 h12 ?_
      refine q_nmX (fun X46_10 => ?_)
      refine q_aload_n C 1 dX0_readPaper_47 rfl rfl ?_
      refine q_dup C dX0_readPaper_48 rfl ?_
      refine q_chk (fun h13 => ?_)
      refine p_getI C fgX0_32 rfl dX0_readPaper_49 h13 ?_
      refine q_iconst C (1 : Int32) dX0_readPaper_52 rfl ?_
      refine q_iadd C dX0_readPaper_53 ?_
      refine p_putI C fpX0_32 rfl dX0_readPaper_54 h13 ?_
      refine q_nmX (fun X54_14 => ?_)
      exact q_vret C dX0_readPaper_57
theorem sX0_readPaper (n : Nat) (r0 : Nat) (r1 : Nat) : q_Ct yX0_readPaper cX0_readPaper 3 none 4 86 0 0 q_eV (fun P => [.ref (P + r0), .ref (P + r1)]) (fX0_readPaper n r0 r1) := by
  refine q_meth (by decide +kernel) (fun P => Nat.le_of_ble_eq_true rfl) (fun E X C hn => ?_)
  show Sm E (q_fin E q_eV X 0 0) 0 0 0 [(0, .ref (q_P E + r0)), (1, .ref (q_P E + r1))] [] X _
  unfold fX0_readPaper
  refine q_aload_n C 0 dX0_readPaper_0 rfl rfl ?_
  refine q_chk (fun h1 => ?_)
  refine p_getI C fgX0_32 rfl dX0_readPaper_1 h1 ?_
  refine q_iconst C (5 : Int32) dX0_readPaper_4 rfl ?_
  refine q_icmp_lt C 13 dX0_readPaper_5 (by decide) (fun _ => ?_) (fun _ => ?_)
  · exact gX0_readPaper_L13 C n r0 r1 X
  · refine q_aload_n C 1 dX0_readPaper_8 rfl rfl ?_
    refine q_iconst C (4 : Int32) dX0_readPaper_9 rfl ?_
    refine q_chk (fun h17 => ?_)
    refine q_cVV (As := (fun P => [.int (4 : Int32)])) C [] (sX9_fail r1 (4 : Int32)) fcX0_73 rfl (fun _ => rfl) ⟨Nat.le_of_ble_eq_true rfl, Nat.le_of_ble_eq_true rfl⟩ ⟨Nat.le_of_ble_eq_true rfl, Nat.le_of_ble_eq_true rfl⟩ (Nat.le_of_ble_eq_true rfl) dX0_readPaper_10 h17 (fun _ X10_16 => ?_)
    exact gX0_readPaper_L13 C n r0 r1 X10_16
/-! RecordClaims$Tape.failBeyond(I)V -/
abbrev cX9_failBeyond : ByteArray := prog_11_method_20_code
def yX9_failBeyond : MethodName := ⟨RX9, "failBeyond", "(I)V"⟩
theorem dX9_failBeyond_0 : decode cX9_failBeyond 0 = .ok (.aload_n 0, 1) := by decide +kernel
theorem dX9_failBeyond_1 : decode cX9_failBeyond 1 = .ok (.getfield 15, 3) := by decide +kernel
theorem dX9_failBeyond_4 : decode cX9_failBeyond 4 = .ok (.aload_n 0, 1) := by decide +kernel
theorem dX9_failBeyond_5 : decode cX9_failBeyond 5 = .ok (.getfield 41, 3) := by decide +kernel
theorem dX9_failBeyond_8 : decode cX9_failBeyond 8 = .ok (.iaload, 1) := by decide +kernel
theorem dX9_failBeyond_9 : decode cX9_failBeyond 9 = .ok (.iconst 3, 1) := by decide +kernel
theorem dX9_failBeyond_10 : decode cX9_failBeyond 10 = .ok (.if_icmp .ne 21, 3) := by decide +kernel
theorem dX9_failBeyond_13 : decode cX9_failBeyond 13 = .ok (.aload_n 0, 1) := by decide +kernel
theorem dX9_failBeyond_14 : decode cX9_failBeyond 14 = .ok (.getfield 22, 3) := by decide +kernel
theorem dX9_failBeyond_17 : decode cX9_failBeyond 17 = .ok (.aload_n 0, 1) := by decide +kernel
theorem dX9_failBeyond_18 : decode cX9_failBeyond 18 = .ok (.getfield 41, 3) := by decide +kernel
theorem dX9_failBeyond_21 : decode cX9_failBeyond 21 = .ok (.iaload, 1) := by decide +kernel
theorem dX9_failBeyond_22 : decode cX9_failBeyond 22 = .ok (.iload_n 1, 1) := by decide +kernel
theorem dX9_failBeyond_23 : decode cX9_failBeyond 23 = .ok (.if_icmp .le 8, 3) := by decide +kernel
theorem dX9_failBeyond_26 : decode cX9_failBeyond 26 = .ok (.aload_n 0, 1) := by decide +kernel
theorem dX9_failBeyond_27 : decode cX9_failBeyond 27 = .ok (.iconst 3, 1) := by decide +kernel
theorem dX9_failBeyond_28 : decode cX9_failBeyond 28 = .ok (.invokevirtual 82, 3) := by decide +kernel
theorem dX9_failBeyond_31 : decode cX9_failBeyond 31 = .ok (.return_, 1) := by decide +kernel
def fX9_failBeyond (r0 : Nat) (v1 : Int32) (X : Mm) : Option (Unit × Mm) :=
if mT X r0 = 9 then
if mR X r0 2 ≠ 0 then
if mT X (mR X r0 2) = 14 then
if q_b X (mR X r0 2) (mI X r0 5) then
if (mI X (mR X r0 2) ((mI X r0 5)).toNatClampNeg) = (3 : Int32) then (
if mR X r0 4 ≠ 0 then
if mT X (mR X r0 4) = 14 then
if q_b X (mR X r0 4) (mI X r0 5) then
if (mI X (mR X r0 4) ((mI X r0 5)).toNatClampNeg) ≤ v1 then (
some ((), X)
) else (
bd (fX9_fail r0 (3 : Int32) X) fun _ X28_9 =>
some ((), X28_9)
)
else none
else none
else none
) else (
some ((), X)
)
else none
else none
else none
else none
theorem sX9_failBeyond (r0 : Nat) (v1 : Int32) : q_Ct yX9_failBeyond cX9_failBeyond 2 none 1 21 0 0 q_eV (fun P => [.ref (P + r0), .int v1]) (fX9_failBeyond r0 v1) := by
  refine q_meth (by decide +kernel) (fun P => Nat.le_of_ble_eq_true rfl) (fun E X C hn => ?_)
  show Sm E (q_fin E q_eV X 0 0) 0 0 0 [(0, .ref (q_P E + r0)), (1, .int v1)] [] X _
  unfold fX9_failBeyond
  refine q_aload_n C 0 dX9_failBeyond_0 rfl rfl ?_
  refine q_chk (fun h1 => ?_)
  refine q_chk (fun h2 => ?_)
  refine p_getR C fgX9_15 rfl dX9_failBeyond_1 h1 h2 ?_
  refine q_aload_n C 0 dX9_failBeyond_4 rfl rfl ?_
  refine p_getI C fgX9_41 rfl dX9_failBeyond_5 h1 ?_
  refine q_chk (fun h3 => ?_)
  refine q_chk (fun h4 => ?_)
  refine p_iald C dX9_failBeyond_8 h3 h4 ?_
  refine q_iconst C (3 : Int32) dX9_failBeyond_9 rfl ?_
  refine q_icmp_ne C 31 dX9_failBeyond_10 (by decide) (fun _ => ?_) (fun _ => ?_)
  · refine q_aload_n C 0 dX9_failBeyond_13 rfl rfl ?_
    refine q_chk (fun h5 => ?_)
    refine p_getR C fgX9_22 rfl dX9_failBeyond_14 h1 h5 ?_
    refine q_aload_n C 0 dX9_failBeyond_17 rfl rfl ?_
    refine p_getI C fgX9_41 rfl dX9_failBeyond_18 h1 ?_
    refine q_chk (fun h6 => ?_)
    refine q_chk (fun h7 => ?_)
    refine p_iald C dX9_failBeyond_21 h6 h7 ?_
    refine q_iload_n C 1 dX9_failBeyond_22 rfl rfl ?_
    refine q_icmp_le C 31 dX9_failBeyond_23 (by decide) (fun _ => ?_) (fun _ => ?_)
    · exact q_vret C dX9_failBeyond_31
    · refine q_aload_n C 0 dX9_failBeyond_26 rfl rfl ?_
      refine q_iconst C (3 : Int32) dX9_failBeyond_27 rfl ?_
      refine q_cVV (As := (fun P => [.int (3 : Int32)])) C [] (sX9_fail r0 (3 : Int32)) fcX9_82 rfl (fun _ => rfl) ⟨Nat.le_of_ble_eq_true rfl, Nat.le_of_ble_eq_true rfl⟩ ⟨Nat.le_of_ble_eq_true rfl, Nat.le_of_ble_eq_true rfl⟩ (Nat.le_of_ble_eq_true rfl) dX9_failBeyond_28 h1 (fun _ X28_9 => ?_)
      exact q_vret C dX9_failBeyond_31
  · exact q_vret C dX9_failBeyond_31
/-! RecordClaims$Tape.takeNumber()I -/
abbrev cX9_takeNumber : ByteArray := prog_11_method_19_code
def yX9_takeNumber : MethodName := ⟨RX9, "takeNumber", "()I"⟩
theorem dX9_takeNumber_0 : decode cX9_takeNumber 0 = .ok (.aload_n 0, 1) := by decide +kernel
theorem dX9_takeNumber_1 : decode cX9_takeNumber 1 = .ok (.getfield 15, 3) := by decide +kernel
theorem dX9_takeNumber_4 : decode cX9_takeNumber 4 = .ok (.aload_n 0, 1) := by decide +kernel
theorem dX9_takeNumber_5 : decode cX9_takeNumber 5 = .ok (.getfield 41, 3) := by decide +kernel
theorem dX9_takeNumber_8 : decode cX9_takeNumber 8 = .ok (.iaload, 1) := by decide +kernel
theorem dX9_takeNumber_9 : decode cX9_takeNumber 9 = .ok (.iconst 3, 1) := by decide +kernel
theorem dX9_takeNumber_10 : decode cX9_takeNumber 10 = .ok (.if_icmp .eq 8, 3) := by decide +kernel
theorem dX9_takeNumber_13 : decode cX9_takeNumber 13 = .ok (.aload_n 0, 1) := by decide +kernel
theorem dX9_takeNumber_14 : decode cX9_takeNumber 14 = .ok (.iconst 1, 1) := by decide +kernel
theorem dX9_takeNumber_15 : decode cX9_takeNumber 15 = .ok (.invokevirtual 82, 3) := by decide +kernel
theorem dX9_takeNumber_18 : decode cX9_takeNumber 18 = .ok (.aload_n 0, 1) := by decide +kernel
theorem dX9_takeNumber_19 : decode cX9_takeNumber 19 = .ok (.invokevirtual 86, 3) := by decide +kernel
theorem dX9_takeNumber_22 : decode cX9_takeNumber 22 = .ok (.ireturn, 1) := by decide +kernel
def fX9_takeNumber_L18 (r0 : Nat) (X : Mm) : Option (Int32 × Mm) :=
if mT X r0 = 9 then
bd (fX9_takeValue r0 X) fun w5 X19_6 =>
some (w5, X19_6)
else none
def fX9_takeNumber (r0 : Nat) (X : Mm) : Option (Int32 × Mm) :=
if mT X r0 = 9 then
if mR X r0 2 ≠ 0 then
if mT X (mR X r0 2) = 14 then
if q_b X (mR X r0 2) (mI X r0 5) then
if (mI X (mR X r0 2) ((mI X r0 5)).toNatClampNeg) = (3 : Int32) then (
fX9_takeNumber_L18 r0 X
) else (
bd (fX9_fail r0 (1 : Int32) X) fun _ X15_9 =>
fX9_takeNumber_L18 r0 X15_9
)
else none
else none
else none
else none
theorem gX9_takeNumber_L18 {E : q_E} {X0 : Mm} (C : Cx E cX9_takeNumber RX9 1 (some .int) (q_rm 1 21 0 0) X0) (r0 : Nat) (X : Mm) : Sm E (q_fin E q_eI X0 0 0) 0 0 18 [(0, .ref (q_P E + r0))] [] X (fX9_takeNumber_L18 r0 X) := by
  unfold fX9_takeNumber_L18
  refine q_aload_n C 0 dX9_takeNumber_18 rfl rfl ?_
  refine q_chk (fun h7 => ?_)
  refine q_cVI (As := (fun P => [])) C [] (sX9_takeValue r0) fcX9_86 rfl (fun _ => rfl) ⟨Nat.le_of_ble_eq_true rfl, Nat.le_of_ble_eq_true rfl⟩ ⟨Nat.le_of_ble_eq_true rfl, Nat.le_of_ble_eq_true rfl⟩ (Nat.le_of_ble_eq_true rfl) dX9_takeNumber_19 h7 (fun w5 X19_6 => ?_)
  exact q_iret C dX9_takeNumber_22
theorem sX9_takeNumber (r0 : Nat) : q_Ct yX9_takeNumber cX9_takeNumber 1 (some .int) 1 21 0 0 q_eI (fun P => [.ref (P + r0)]) (fX9_takeNumber r0) := by
  refine q_meth (by decide +kernel) (fun P => Nat.le_of_ble_eq_true rfl) (fun E X C hn => ?_)
  show Sm E (q_fin E q_eI X 0 0) 0 0 0 [(0, .ref (q_P E + r0))] [] X _
  unfold fX9_takeNumber
  refine q_aload_n C 0 dX9_takeNumber_0 rfl rfl ?_
  refine q_chk (fun h1 => ?_)
  refine q_chk (fun h2 => ?_)
  refine p_getR C fgX9_15 rfl dX9_takeNumber_1 h1 h2 ?_
  refine q_aload_n C 0 dX9_takeNumber_4 rfl rfl ?_
  refine p_getI C fgX9_41 rfl dX9_takeNumber_5 h1 ?_
  refine q_chk (fun h3 => ?_)
  refine q_chk (fun h4 => ?_)
  refine p_iald C dX9_takeNumber_8 h3 h4 ?_
  refine q_iconst C (3 : Int32) dX9_takeNumber_9 rfl ?_
  refine q_icmp_eq C 18 dX9_takeNumber_10 (by decide) (fun _ => ?_) (fun _ => ?_)
  · exact gX9_takeNumber_L18 C r0 X
  · refine q_aload_n C 0 dX9_takeNumber_13 rfl rfl ?_
    refine q_iconst C (1 : Int32) dX9_takeNumber_14 rfl ?_
    refine q_cVV (As := (fun P => [.int (1 : Int32)])) C [] (sX9_fail r0 (1 : Int32)) fcX9_82 rfl (fun _ => rfl) ⟨Nat.le_of_ble_eq_true rfl, Nat.le_of_ble_eq_true rfl⟩ ⟨Nat.le_of_ble_eq_true rfl, Nat.le_of_ble_eq_true rfl⟩ (Nat.le_of_ble_eq_true rfl) dX9_takeNumber_15 h1 (fun _ X15_9 => ?_)
    exact gX9_takeNumber_L18 C r0 X15_9
/-! RecordClaims$Book.readShares(LRecordClaims$Tape;)V -/
abbrev cX0_readShares : ByteArray := prog_2_method_11_code
def yX0_readShares : MethodName := ⟨RX0, "readShares", "(LRecordClaims$Tape;)V"⟩
theorem dX0_readShares_0 : decode cX0_readShares 0 = .ok (.aload_n 0, 1) := by decide +kernel
theorem dX0_readShares_1 : decode cX0_readShares 1 = .ok (.aload_n 1, 1) := by decide +kernel
theorem dX0_readShares_2 : decode cX0_readShares 2 = .ok (.invokevirtual 87, 3) := by decide +kernel
theorem dX0_readShares_5 : decode cX0_readShares 5 = .ok (.istore_n 2, 1) := by decide +kernel
theorem dX0_readShares_6 : decode cX0_readShares 6 = .ok (.aload_n 0, 1) := by decide +kernel
theorem dX0_readShares_7 : decode cX0_readShares 7 = .ok (.aload_n 1, 1) := by decide +kernel
theorem dX0_readShares_8 : decode cX0_readShares 8 = .ok (.invokevirtual 91, 3) := by decide +kernel
theorem dX0_readShares_11 : decode cX0_readShares 11 = .ok (.istore_n 3, 1) := by decide +kernel
theorem dX0_readShares_12 : decode cX0_readShares 12 = .ok (.aload_n 1, 1) := by decide +kernel
theorem dX0_readShares_13 : decode cX0_readShares 13 = .ok (.ldc 94, 2) := by decide +kernel
theorem dX0_readShares_15 : decode cX0_readShares 15 = .ok (.invokevirtual 95, 3) := by decide +kernel
theorem dX0_readShares_18 : decode cX0_readShares 18 = .ok (.aload_n 1, 1) := by decide +kernel
theorem dX0_readShares_19 : decode cX0_readShares 19 = .ok (.invokevirtual 98, 3) := by decide +kernel
theorem dX0_readShares_22 : decode cX0_readShares 22 = .ok (.istore 4, 2) := by decide +kernel
theorem dX0_readShares_24 : decode cX0_readShares 24 = .ok (.iload_n 2, 1) := by decide +kernel
theorem dX0_readShares_25 : decode cX0_readShares 25 = .ok (.iconst (-1), 1) := by decide +kernel
theorem dX0_readShares_26 : decode cX0_readShares 26 = .ok (.if_icmp .eq 27, 3) := by decide +kernel
theorem dX0_readShares_29 : decode cX0_readShares 29 = .ok (.iload_n 3, 1) := by decide +kernel
theorem dX0_readShares_30 : decode cX0_readShares 30 = .ok (.iconst (-1), 1) := by decide +kernel
theorem dX0_readShares_31 : decode cX0_readShares 31 = .ok (.if_icmp .eq 22, 3) := by decide +kernel
theorem dX0_readShares_34 : decode cX0_readShares 34 = .ok (.iload 4, 2) := by decide +kernel
theorem dX0_readShares_36 : decode cX0_readShares 36 = .ok (.iconst (-1), 1) := by decide +kernel
theorem dX0_readShares_37 : decode cX0_readShares 37 = .ok (.if_icmp .eq 16, 3) := by decide +kernel
theorem dX0_readShares_40 : decode cX0_readShares 40 = .ok (.aload_n 0, 1) := by decide +kernel
theorem dX0_readShares_41 : decode cX0_readShares 41 = .ok (.getfield 18, 3) := by decide +kernel
theorem dX0_readShares_44 : decode cX0_readShares 44 = .ok (.iload_n 2, 1) := by decide +kernel
theorem dX0_readShares_45 : decode cX0_readShares 45 = .ok (.iconst 5, 1) := by decide +kernel
theorem dX0_readShares_46 : decode cX0_readShares 46 = .ok (.imul, 1) := by decide +kernel
theorem dX0_readShares_47 : decode cX0_readShares 47 = .ok (.iload_n 3, 1) := by decide +kernel
theorem dX0_readShares_48 : decode cX0_readShares 48 = .ok (.iadd, 1) := by decide +kernel
theorem dX0_readShares_49 : decode cX0_readShares 49 = .ok (.iload 4, 2) := by decide +kernel
theorem dX0_readShares_51 : decode cX0_readShares 51 = .ok (.i2l, 1) := by decide +kernel
theorem dX0_readShares_52 : decode cX0_readShares 52 = .ok (.lastore, 1) := by decide +kernel
theorem dX0_readShares_53 : decode cX0_readShares 53 = .ok (.return_, 1) := by decide +kernel
theorem fcX0_87 : q_LV RX0 87 yX0_takeHolder cX0_takeHolder 2 (some .int) 1 0 := ⟨q_tb 664 (by decide +kernel) rfl, q_tb 665 (by decide +kernel) rfl, q_tb 666 (by decide +kernel) rfl, q_tb 3 (by decide +kernel) rfl, q_tb 667 (by decide +kernel) rfl, ⟨by decide +kernel, by decide +kernel, by decide +kernel⟩, TX0, 5, rfl⟩
theorem fcX0_91 : q_LV RX0 91 yX0_takePaper cX0_takePaper 2 (some .int) 1 0 := ⟨q_tb 673 (by decide +kernel) rfl, q_tb 674 (by decide +kernel) rfl, q_tb 675 (by decide +kernel) rfl, q_tb 3 (by decide +kernel) rfl, q_tb 676 (by decide +kernel) rfl, ⟨by decide +kernel, by decide +kernel, by decide +kernel⟩, TX0, 5, rfl⟩
theorem fkX0_94 : Cond.constant RX0 94 (100000 : Int32) ∈ q_tbl := q_tb 677 (by decide +kernel) rfl
theorem fcX0_95 : q_LV RX0 95 yX9_failBeyond cX9_failBeyond 2 none 1 9 := ⟨q_tb 678 (by decide +kernel) rfl, q_tb 679 (by decide +kernel) rfl, q_tb 680 (by decide +kernel) rfl, q_tb 2 (by decide +kernel) rfl, q_tb 681 (by decide +kernel) rfl, ⟨by decide +kernel, by decide +kernel, by decide +kernel⟩, TX9, 8, rfl⟩
theorem fcX0_98 : q_LV RX0 98 yX9_takeNumber cX9_takeNumber 1 (some .int) 0 9 := ⟨q_tb 682 (by decide +kernel) rfl, q_tb 683 (by decide +kernel) rfl, q_tb 684 (by decide +kernel) rfl, q_tb 2 (by decide +kernel) rfl, q_tb 685 (by decide +kernel) rfl, ⟨by decide +kernel, by decide +kernel, by decide +kernel⟩, TX9, 8, rfl⟩
theorem fgX0_18 : q_Fg RX0 18 0 2 := q_Fg.of (C := RX0) (T := TX0) (N := 5) rfl (by decide) inX0 75 (by decide +kernel) rfl rfl
def fX0_readShares (n : Nat) (r0 : Nat) (r1 : Nat) (X : Mm) : Option (Unit × Mm) :=
if mT X r0 = 0 then
bd (fX0_takeHolder n r0 r1 X) fun w1 X2_2 =>
if mT X2_2 r0 = 0 then
bd (fX0_takePaper n r0 r1 X2_2) fun w4 X8_5 =>
if mT X8_5 r1 = 9 then
bd (fX9_failBeyond r1 (100000 : Int32) X8_5) fun _ X15_8 =>
if mT X15_8 r1 = 9 then
bd (fX9_takeNumber r1 X15_8) fun w10 X19_11 =>
if w1 = (-1 : Int32) then (
some ((), X19_11)
) else (
if w4 = (-1 : Int32) then (
some ((), X19_11)
) else (
if w10 = (-1 : Int32) then (
some ((), X19_11)
) else (
if mT X19_11 r0 = 0 then
if mR X19_11 r0 2 ≠ 0 then
if mT X19_11 (mR X19_11 r0 2) = 15 then
if q_b X19_11 (mR X19_11 r0 2) ((w1 * (5 : Int32)) + w4) then
nm (sJ X19_11 (mR X19_11 r0 2) (((w1 * (5 : Int32)) + w4)).toNatClampNeg ((w10).toInt64)) fun X52_15 =>
some ((), X52_15)
else none
else none
else none
else none
)
)
)
else none
else none
else none
else none
theorem sX0_readShares (n : Nat) (r0 : Nat) (r1 : Nat) : q_Ct yX0_readShares cX0_readShares 5 none 3 67 0 0 q_eV (fun P => [.ref (P + r0), .ref (P + r1)]) (fX0_readShares n r0 r1) := by
  refine q_meth (by decide +kernel) (fun P => Nat.le_of_ble_eq_true rfl) (fun E X C hn => ?_)
  show Sm E (q_fin E q_eV X 0 0) 0 0 0 [(0, .ref (q_P E + r0)), (1, .ref (q_P E + r1))] [] X _
  unfold fX0_readShares
  refine q_aload_n C 0 dX0_readShares_0 rfl rfl ?_
  refine q_aload_n C 1 dX0_readShares_1 rfl rfl ?_
  refine q_chk (fun h3 => ?_)
  refine q_cVI (As := (fun P => [.ref (P + r1)])) C [] (sX0_takeHolder n r0 r1) fcX0_87 rfl (fun _ => rfl) ⟨Nat.le_of_ble_eq_true rfl, Nat.le_of_ble_eq_true rfl⟩ ⟨Nat.le_of_ble_eq_true rfl, Nat.le_of_ble_eq_true rfl⟩ (Nat.le_of_ble_eq_true rfl) dX0_readShares_2 h3 (fun w1 X2_2 => ?_)
  refine q_istore_n C [(2, .int w1), (0, .ref (q_P E + r0)), (1, .ref (q_P E + r1))] dX0_readShares_5 rfl (Nat.le_of_ble_eq_true rfl) rfl ?_
  refine q_aload_n C 1 dX0_readShares_6 rfl rfl ?_
  refine q_aload_n C 2 dX0_readShares_7 rfl rfl ?_
  refine q_chk (fun h6 => ?_)
  refine q_cVI (As := (fun P => [.ref (P + r1)])) C [] (sX0_takePaper n r0 r1) fcX0_91 rfl (fun _ => rfl) ⟨Nat.le_of_ble_eq_true rfl, Nat.le_of_ble_eq_true rfl⟩ ⟨Nat.le_of_ble_eq_true rfl, Nat.le_of_ble_eq_true rfl⟩ (Nat.le_of_ble_eq_true rfl) dX0_readShares_8 h6 (fun w4 X8_5 => ?_)
  refine q_istore_n C [(3, .int w4), (2, .int w1), (0, .ref (q_P E + r0)), (1, .ref (q_P E + r1))] dX0_readShares_11 rfl (Nat.le_of_ble_eq_true rfl) rfl ?_
  refine q_aload_n C 3 dX0_readShares_12 rfl rfl ?_
  refine q_ldc C dX0_readShares_13 fkX0_94 ?_
  refine q_chk (fun h9 => ?_)
  refine q_cVV (As := (fun P => [.int (100000 : Int32)])) C [] (sX9_failBeyond r1 (100000 : Int32)) fcX0_95 rfl (fun _ => rfl) ⟨Nat.le_of_ble_eq_true rfl, Nat.le_of_ble_eq_true rfl⟩ ⟨Nat.le_of_ble_eq_true rfl, Nat.le_of_ble_eq_true rfl⟩ (Nat.le_of_ble_eq_true rfl) dX0_readShares_15 h9 (fun _ X15_8 => ?_)
  refine q_aload_n C 3 dX0_readShares_18 rfl rfl ?_
  refine q_chk (fun h12 => ?_)
  refine q_cVI (As := (fun P => [])) C [] (sX9_takeNumber r1) fcX0_98 rfl (fun _ => rfl) ⟨Nat.le_of_ble_eq_true rfl, Nat.le_of_ble_eq_true rfl⟩ ⟨Nat.le_of_ble_eq_true rfl, Nat.le_of_ble_eq_true rfl⟩ (Nat.le_of_ble_eq_true rfl) dX0_readShares_19 h12 (fun w10 X19_11 => ?_)
  refine q_istore C [(4, .int w10), (3, .int w4), (2, .int w1), (0, .ref (q_P E + r0)), (1, .ref (q_P E + r1))] dX0_readShares_22 (Nat.le_of_ble_eq_true rfl) rfl ?_
  refine q_iload_n C 2 dX0_readShares_24 rfl rfl ?_
  refine q_iconst C (-1 : Int32) dX0_readShares_25 rfl ?_
  refine q_icmp_eq C 53 dX0_readShares_26 (by decide) (fun _ => ?_) (fun _ => ?_)
  · exact q_vret C dX0_readShares_53
  · refine q_iload_n C 1 dX0_readShares_29 rfl rfl ?_
    refine q_iconst C (-1 : Int32) dX0_readShares_30 rfl ?_
    refine q_icmp_eq C 53 dX0_readShares_31 (by decide) (fun _ => ?_) (fun _ => ?_)
    · exact q_vret C dX0_readShares_53
    · refine q_iload C 0 dX0_readShares_34 rfl ?_
      refine q_iconst C (-1 : Int32) dX0_readShares_36 rfl ?_
      refine q_icmp_eq C 53 dX0_readShares_37 (by decide) (fun _ => ?_) (fun _ => ?_)
      · exact q_vret C dX0_readShares_53
      · refine q_aload_n C 3 dX0_readShares_40 rfl rfl ?_
        refine q_chk (fun h13 => ?_)
        refine q_chk (fun h14 => ?_)
        refine p_getR C fgX0_18 rfl dX0_readShares_41 h13 h14 ?_
        refine q_iload_n C 2 dX0_readShares_44 rfl rfl ?_
        refine q_iconst C (5 : Int32) dX0_readShares_45 rfl ?_
        refine q_imul C dX0_readShares_46 ?_
        refine q_iload_n C 1 dX0_readShares_47 rfl rfl ?_
        refine q_iadd C dX0_readShares_48 ?_
        refine q_iload C 0 dX0_readShares_49 rfl ?_
        refine q_i2l C dX0_readShares_51 ?_
        refine q_chk (fun h16 => ?_)
        refine q_chk (fun h17 => ?_)
        refine p_last C dX0_readShares_52 h16 h17 ?_
        refine q_nmX (fun X52_15 => ?_)
        exact q_vret C dX0_readShares_53
/-! RecordClaims$Tape.takeStop()V -/
abbrev cX9_takeStop : ByteArray := prog_11_method_18_code
def yX9_takeStop : MethodName := ⟨RX9, "takeStop", "()V"⟩
theorem dX9_takeStop_0 : decode cX9_takeStop 0 = .ok (.aload_n 0, 1) := by decide +kernel
theorem dX9_takeStop_1 : decode cX9_takeStop 1 = .ok (.getfield 15, 3) := by decide +kernel
theorem dX9_takeStop_4 : decode cX9_takeStop 4 = .ok (.aload_n 0, 1) := by decide +kernel
theorem dX9_takeStop_5 : decode cX9_takeStop 5 = .ok (.getfield 41, 3) := by decide +kernel
theorem dX9_takeStop_8 : decode cX9_takeStop 8 = .ok (.iaload, 1) := by decide +kernel
theorem dX9_takeStop_9 : decode cX9_takeStop 9 = .ok (.iconst 4, 1) := by decide +kernel
theorem dX9_takeStop_10 : decode cX9_takeStop 10 = .ok (.if_icmp .eq 8, 3) := by decide +kernel
theorem dX9_takeStop_13 : decode cX9_takeStop 13 = .ok (.aload_n 0, 1) := by decide +kernel
theorem dX9_takeStop_14 : decode cX9_takeStop 14 = .ok (.iconst 1, 1) := by decide +kernel
theorem dX9_takeStop_15 : decode cX9_takeStop 15 = .ok (.invokevirtual 82, 3) := by decide +kernel
theorem dX9_takeStop_18 : decode cX9_takeStop 18 = .ok (.aload_n 0, 1) := by decide +kernel
theorem dX9_takeStop_19 : decode cX9_takeStop 19 = .ok (.getfield 38, 3) := by decide +kernel
theorem dX9_takeStop_22 : decode cX9_takeStop 22 = .ok (.ifCond .ne 13, 3) := by decide +kernel
theorem dX9_takeStop_25 : decode cX9_takeStop 25 = .ok (.aload_n 0, 1) := by decide +kernel
theorem dX9_takeStop_26 : decode cX9_takeStop 26 = .ok (.dup, 1) := by decide +kernel
theorem dX9_takeStop_27 : decode cX9_takeStop 27 = .ok (.getfield 41, 3) := by decide +kernel
theorem dX9_takeStop_30 : decode cX9_takeStop 30 = .ok (.iconst 1, 1) := by decide +kernel
theorem dX9_takeStop_31 : decode cX9_takeStop 31 = .ok (.iadd, 1) := by decide +kernel
theorem dX9_takeStop_32 : decode cX9_takeStop 32 = .ok (.putfield 41, 3) := by decide +kernel
theorem dX9_takeStop_35 : decode cX9_takeStop 35 = .ok (.return_, 1) := by decide +kernel
def fX9_takeStop_L18 (r0 : Nat) (X : Mm) : Option (Unit × Mm) :=
if mT X r0 = 9 then
if (mI X r0 6) = 0 then (
nm (sI X r0 5 ((mI X r0 5) + (1 : Int32))) fun X32_6 =>
some ((), X32_6)
) else (
some ((), X)
)
else none
def fX9_takeStop (r0 : Nat) (X : Mm) : Option (Unit × Mm) :=
if mT X r0 = 9 then
if mR X r0 2 ≠ 0 then
if mT X (mR X r0 2) = 14 then
if q_b X (mR X r0 2) (mI X r0 5) then
if (mI X (mR X r0 2) ((mI X r0 5)).toNatClampNeg) = (4 : Int32) then (
fX9_takeStop_L18 r0 X
) else (
bd (fX9_fail r0 (1 : Int32) X) fun _ X15_8 =>
fX9_takeStop_L18 r0 X15_8
)
else none
else none
else none
else none
theorem gX9_takeStop_L18 {E : q_E} {X0 : Mm} (C : Cx E cX9_takeStop RX9 1 none (q_rm 1 21 0 0) X0) (r0 : Nat) (X : Mm) : Sm E (q_fin E q_eV X0 0 0) 0 0 18 [(0, .ref (q_P E + r0))] [] X (fX9_takeStop_L18 r0 X) := by
  unfold fX9_takeStop_L18
  refine q_aload_n C 0 dX9_takeStop_18 rfl rfl ?_
  refine q_chk (fun h5 => ?_)
  refine p_getI C fgX9_38 rfl dX9_takeStop_19 h5 ?_
  refine q_if_ne C 35 dX9_takeStop_22 (by decide) (fun _ => ?_) (fun _ => ?_)
  · refine q_aload_n C 0 dX9_takeStop_25 rfl rfl ?_
    refine q_dup C dX9_takeStop_26 rfl ?_
    refine p_getI C fgX9_41 rfl dX9_takeStop_27 h5 ?_
    refine q_iconst C (1 : Int32) dX9_takeStop_30 rfl ?_
    refine q_iadd C dX9_takeStop_31 ?_
    refine p_putI C fpX9_41 rfl dX9_takeStop_32 h5 ?_
    refine q_nmX (fun X32_6 => ?_)
    exact q_vret C dX9_takeStop_35
  · exact q_vret C dX9_takeStop_35
theorem sX9_takeStop (r0 : Nat) : q_Ct yX9_takeStop cX9_takeStop 1 none 1 21 0 0 q_eV (fun P => [.ref (P + r0)]) (fX9_takeStop r0) := by
  refine q_meth (by decide +kernel) (fun P => Nat.le_of_ble_eq_true rfl) (fun E X C hn => ?_)
  show Sm E (q_fin E q_eV X 0 0) 0 0 0 [(0, .ref (q_P E + r0))] [] X _
  unfold fX9_takeStop
  refine q_aload_n C 0 dX9_takeStop_0 rfl rfl ?_
  refine q_chk (fun h1 => ?_)
  refine q_chk (fun h2 => ?_)
  refine p_getR C fgX9_15 rfl dX9_takeStop_1 h1 h2 ?_
  refine q_aload_n C 0 dX9_takeStop_4 rfl rfl ?_
  refine p_getI C fgX9_41 rfl dX9_takeStop_5 h1 ?_
  refine q_chk (fun h3 => ?_)
  refine q_chk (fun h4 => ?_)
  refine p_iald C dX9_takeStop_8 h3 h4 ?_
  refine q_iconst C (4 : Int32) dX9_takeStop_9 rfl ?_
  refine q_icmp_eq C 18 dX9_takeStop_10 (by decide) (fun _ => ?_) (fun _ => ?_)
  · exact gX9_takeStop_L18 C r0 X
  · refine q_aload_n C 0 dX9_takeStop_13 rfl rfl ?_
    refine q_iconst C (1 : Int32) dX9_takeStop_14 rfl ?_
    refine q_cVV (As := (fun P => [.int (1 : Int32)])) C [] (sX9_fail r0 (1 : Int32)) fcX9_82 rfl (fun _ => rfl) ⟨Nat.le_of_ble_eq_true rfl, Nat.le_of_ble_eq_true rfl⟩ ⟨Nat.le_of_ble_eq_true rfl, Nat.le_of_ble_eq_true rfl⟩ (Nat.le_of_ble_eq_true rfl) dX9_takeStop_15 h1 (fun _ X15_8 => ?_)
    exact gX9_takeStop_L18 C r0 X15_8
/-! RecordClaims$Book.readLine(LRecordClaims$Tape;)V -/
abbrev cX0_readLine : ByteArray := prog_2_method_7_code
def yX0_readLine : MethodName := ⟨RX0, "readLine", "(LRecordClaims$Tape;)V"⟩
theorem dX0_readLine_0 : decode cX0_readLine 0 = .ok (.aload_n 1, 1) := by decide +kernel
theorem dX0_readLine_1 : decode cX0_readLine 1 = .ok (.iconst 0, 1) := by decide +kernel
theorem dX0_readLine_2 : decode cX0_readLine 2 = .ok (.invokevirtual 53, 3) := by decide +kernel
theorem dX0_readLine_5 : decode cX0_readLine 5 = .ok (.ifCond .eq 11, 3) := by decide +kernel
theorem dX0_readLine_8 : decode cX0_readLine 8 = .ok (.aload_n 0, 1) := by decide +kernel
theorem dX0_readLine_9 : decode cX0_readLine 9 = .ok (.aload_n 1, 1) := by decide +kernel
theorem dX0_readLine_10 : decode cX0_readLine 10 = .ok (.invokevirtual 57, 3) := by decide +kernel
theorem dX0_readLine_13 : decode cX0_readLine 13 = .ok (.goto 29, 3) := by decide +kernel
theorem dX0_readLine_16 : decode cX0_readLine 16 = .ok (.aload_n 1, 1) := by decide +kernel
theorem dX0_readLine_17 : decode cX0_readLine 17 = .ok (.iconst 1, 1) := by decide +kernel
theorem dX0_readLine_18 : decode cX0_readLine 18 = .ok (.invokevirtual 53, 3) := by decide +kernel
theorem dX0_readLine_21 : decode cX0_readLine 21 = .ok (.ifCond .eq 11, 3) := by decide +kernel
theorem dX0_readLine_24 : decode cX0_readLine 24 = .ok (.aload_n 0, 1) := by decide +kernel
theorem dX0_readLine_25 : decode cX0_readLine 25 = .ok (.aload_n 1, 1) := by decide +kernel
theorem dX0_readLine_26 : decode cX0_readLine 26 = .ok (.invokevirtual 60, 3) := by decide +kernel
theorem dX0_readLine_29 : decode cX0_readLine 29 = .ok (.goto 13, 3) := by decide +kernel
theorem dX0_readLine_32 : decode cX0_readLine 32 = .ok (.aload_n 1, 1) := by decide +kernel
theorem dX0_readLine_33 : decode cX0_readLine 33 = .ok (.iconst 2, 1) := by decide +kernel
theorem dX0_readLine_34 : decode cX0_readLine 34 = .ok (.invokevirtual 63, 3) := by decide +kernel
theorem dX0_readLine_37 : decode cX0_readLine 37 = .ok (.aload_n 0, 1) := by decide +kernel
theorem dX0_readLine_38 : decode cX0_readLine 38 = .ok (.aload_n 1, 1) := by decide +kernel
theorem dX0_readLine_39 : decode cX0_readLine 39 = .ok (.invokevirtual 67, 3) := by decide +kernel
theorem dX0_readLine_42 : decode cX0_readLine 42 = .ok (.aload_n 1, 1) := by decide +kernel
theorem dX0_readLine_43 : decode cX0_readLine 43 = .ok (.invokevirtual 70, 3) := by decide +kernel
theorem dX0_readLine_46 : decode cX0_readLine 46 = .ok (.return_, 1) := by decide +kernel
theorem fcX0_53 : q_LV RX0 53 yX9_isAtWord cX9_isAtWord 2 (some .boolean) 1 9 := ⟨q_tb 615 (by decide +kernel) rfl, q_tb 616 (by decide +kernel) rfl, q_tb 617 (by decide +kernel) rfl, q_tb 2 (by decide +kernel) rfl, q_tb 618 (by decide +kernel) rfl, ⟨by decide +kernel, by decide +kernel, by decide +kernel⟩, TX9, 8, rfl⟩
theorem fcX0_67 : q_LV RX0 67 yX0_readShares cX0_readShares 5 none 1 0 := ⟨q_tb 660 (by decide +kernel) rfl, q_tb 662 (by decide +kernel) rfl, q_tbs (q := (yX0_readShares, 5)) 8 (by decide +kernel) rfl, q_tb 3 (by decide +kernel) rfl, q_tb 663 (by decide +kernel) rfl, ⟨by decide +kernel, by decide +kernel, by decide +kernel⟩, TX0, 5, rfl⟩
theorem fcX0_70 : q_LV RX0 70 yX9_takeStop cX9_takeStop 1 none 0 9 := ⟨q_tb 686 (by decide +kernel) rfl, q_tb 687 (by decide +kernel) rfl, q_tb 688 (by decide +kernel) rfl, q_tb 2 (by decide +kernel) rfl, q_tb 689 (by decide +kernel) rfl, ⟨by decide +kernel, by decide +kernel, by decide +kernel⟩, TX9, 8, rfl⟩
theorem fcX0_60 : q_LV RX0 60 yX0_readPaper cX0_readPaper 3 none 1 0 := ⟨q_tb 656 (by decide +kernel) rfl, q_tb 658 (by decide +kernel) rfl, q_tbs (q := (yX0_readPaper, 5)) 7 (by decide +kernel) rfl, q_tb 3 (by decide +kernel) rfl, q_tb 659 (by decide +kernel) rfl, ⟨by decide +kernel, by decide +kernel, by decide +kernel⟩, TX0, 5, rfl⟩
theorem fcX0_57 : q_LV RX0 57 yX0_readHolder cX0_readHolder 3 none 1 0 := ⟨q_tb 619 (by decide +kernel) rfl, q_tb 621 (by decide +kernel) rfl, q_tbs (q := (yX0_readHolder, 5)) 5 (by decide +kernel) rfl, q_tb 3 (by decide +kernel) rfl, q_tb 622 (by decide +kernel) rfl, ⟨by decide +kernel, by decide +kernel, by decide +kernel⟩, TX0, 5, rfl⟩
def fX0_readLine_L42 (n : Nat) (r1 : Nat) (X : Mm) : Option (Unit × Mm) :=
if mT X r1 = 9 then
bd (fX9_takeStop r1 X) fun _ X43_14 =>
some ((), X43_14)
else none
def fX0_readLine (n : Nat) (r0 : Nat) (r1 : Nat) (X : Mm) : Option (Unit × Mm) :=
if mT X r1 = 9 then
bd (fX9_isAtWord r1 (0 : Int32) X) fun w1 X2_2 =>
if w1 = 0 then (
if mT X2_2 r1 = 9 then
bd (fX9_isAtWord r1 (1 : Int32) X2_2) fun w4 X18_5 =>
if w4 = 0 then (
if mT X18_5 r1 = 9 then
bd (fX9_takeWord r1 (2 : Int32) X18_5) fun _ X34_8 =>
if mT X34_8 r0 = 0 then
bd (fX0_readShares n r0 r1 X34_8) fun _ X39_11 =>
fX0_readLine_L42 n r1 X39_11
else none
else none
) else (
if mT X18_5 r0 = 0 then
bd (fX0_readPaper n r0 r1 X18_5) fun _ X26_17 =>
fX0_readLine_L42 n r1 X26_17
else none
)
else none
) else (
if mT X2_2 r0 = 0 then
bd (fX0_readHolder n r0 r1 X2_2) fun _ X10_20 =>
fX0_readLine_L42 n r1 X10_20
else none
)
else none
theorem gX0_readLine_L42 {E : q_E} {X0 : Mm} (C : Cx E cX0_readLine RX0 2 none (q_rm 5 108 0 0) X0) (n : Nat) (r1 : Nat) (X : Mm) : Sm E (q_fin E q_eV X0 0 0) 0 0 42 [(1, .ref (q_P E + r1))] [] X (fX0_readLine_L42 n r1 X) := by
  unfold fX0_readLine_L42
  refine q_aload_n C 0 dX0_readLine_42 rfl rfl ?_
  refine q_chk (fun h15 => ?_)
  refine q_cVV (As := (fun P => [])) C [] (sX9_takeStop r1) fcX0_70 rfl (fun _ => rfl) ⟨Nat.le_of_ble_eq_true rfl, Nat.le_of_ble_eq_true rfl⟩ ⟨Nat.le_of_ble_eq_true rfl, Nat.le_of_ble_eq_true rfl⟩ (Nat.le_of_ble_eq_true rfl) dX0_readLine_43 h15 (fun _ X43_14 => ?_)
  exact q_vret C dX0_readLine_46
theorem sX0_readLine (n : Nat) (r0 : Nat) (r1 : Nat) : q_Ct yX0_readLine cX0_readLine 2 none 5 108 0 0 q_eV (fun P => [.ref (P + r0), .ref (P + r1)]) (fX0_readLine n r0 r1) := by
  refine q_meth (by decide +kernel) (fun P => Nat.le_of_ble_eq_true rfl) (fun E X C hn => ?_)
  show Sm E (q_fin E q_eV X 0 0) 0 0 0 [(0, .ref (q_P E + r0)), (1, .ref (q_P E + r1))] [] X _
  unfold fX0_readLine
  refine q_aload_n C 1 dX0_readLine_0 rfl rfl ?_
  refine q_iconst C (0 : Int32) dX0_readLine_1 rfl ?_
  refine q_chk (fun h3 => ?_)
  refine q_cVI (As := (fun P => [.int (0 : Int32)])) C [] (sX9_isAtWord r1 (0 : Int32)) fcX0_53 rfl (fun _ => rfl) ⟨Nat.le_of_ble_eq_true rfl, Nat.le_of_ble_eq_true rfl⟩ ⟨Nat.le_of_ble_eq_true rfl, Nat.le_of_ble_eq_true rfl⟩ (Nat.le_of_ble_eq_true rfl) dX0_readLine_2 h3 (fun w1 X2_2 => ?_)
  refine q_if_eq C 16 dX0_readLine_5 (by decide) (fun _ => ?_) (fun _ => ?_)
  · refine q_aload_n C 1 dX0_readLine_16 rfl rfl ?_
    refine q_iconst C (1 : Int32) dX0_readLine_17 rfl ?_
    refine q_chk (fun h6 => ?_)
    refine q_cVI (As := (fun P => [.int (1 : Int32)])) C [] (sX9_isAtWord r1 (1 : Int32)) fcX0_53 rfl (fun _ => rfl) ⟨Nat.le_of_ble_eq_true rfl, Nat.le_of_ble_eq_true rfl⟩ ⟨Nat.le_of_ble_eq_true rfl, Nat.le_of_ble_eq_true rfl⟩ (Nat.le_of_ble_eq_true rfl) dX0_readLine_18 h6 (fun w4 X18_5 => ?_)
    refine q_if_eq C 32 dX0_readLine_21 (by decide) (fun _ => ?_) (fun _ => ?_)
    · refine q_aload_n C 1 dX0_readLine_32 rfl rfl ?_
      refine q_iconst C (2 : Int32) dX0_readLine_33 rfl ?_
      refine q_chk (fun h9 => ?_)
      refine q_cVV (As := (fun P => [.int (2 : Int32)])) C [] (sX9_takeWord r1 (2 : Int32)) fcX0_63 rfl (fun _ => rfl) ⟨Nat.le_of_ble_eq_true rfl, Nat.le_of_ble_eq_true rfl⟩ ⟨Nat.le_of_ble_eq_true rfl, Nat.le_of_ble_eq_true rfl⟩ (Nat.le_of_ble_eq_true rfl) dX0_readLine_34 h9 (fun _ X34_8 => ?_)
      refine q_aload_n C 0 dX0_readLine_37 rfl rfl ?_
      refine q_aload_n C 1 dX0_readLine_38 rfl rfl ?_
      refine q_chk (fun h12 => ?_)
      refine q_cVV (As := (fun P => [.ref (P + r1)])) C [] (sX0_readShares n r0 r1) fcX0_67 rfl (fun _ => rfl) ⟨Nat.le_of_ble_eq_true rfl, Nat.le_of_ble_eq_true rfl⟩ ⟨Nat.le_of_ble_eq_true rfl, Nat.le_of_ble_eq_true rfl⟩ (Nat.le_of_ble_eq_true rfl) dX0_readLine_39 h12 (fun _ X39_11 => ?_)
      refine q_sub C [(1, .ref (q_P E + r1))] [1] rfl ?_
      exact gX0_readLine_L42 C n r1 X39_11
    · refine q_aload_n C 0 dX0_readLine_24 rfl rfl ?_
      refine q_aload_n C 1 dX0_readLine_25 rfl rfl ?_
      refine q_chk (fun h18 => ?_)
      refine q_cVV (As := (fun P => [.ref (P + r1)])) C [] (sX0_readPaper n r0 r1) fcX0_60 rfl (fun _ => rfl) ⟨Nat.le_of_ble_eq_true rfl, Nat.le_of_ble_eq_true rfl⟩ ⟨Nat.le_of_ble_eq_true rfl, Nat.le_of_ble_eq_true rfl⟩ (Nat.le_of_ble_eq_true rfl) dX0_readLine_26 h18 (fun _ X26_17 => ?_)
      refine q_goto C 42 dX0_readLine_29 (by decide) ?_
      refine q_sub C [(1, .ref (q_P E + r1))] [1] rfl ?_
      exact gX0_readLine_L42 C n r1 X26_17
  · refine q_aload_n C 0 dX0_readLine_8 rfl rfl ?_
    refine q_aload_n C 1 dX0_readLine_9 rfl rfl ?_
    refine q_chk (fun h21 => ?_)
    refine q_cVV (As := (fun P => [.ref (P + r1)])) C [] (sX0_readHolder n r0 r1) fcX0_57 rfl (fun _ => rfl) ⟨Nat.le_of_ble_eq_true rfl, Nat.le_of_ble_eq_true rfl⟩ ⟨Nat.le_of_ble_eq_true rfl, Nat.le_of_ble_eq_true rfl⟩ (Nat.le_of_ble_eq_true rfl) dX0_readLine_10 h21 (fun _ X10_20 => ?_)
    refine q_goto C 42 dX0_readLine_13 (by decide) ?_
    refine q_sub C [(1, .ref (q_P E + r1))] [1] rfl ?_
    exact gX0_readLine_L42 C n r1 X10_20
/-! RecordClaims$Book.readBook(LRecordClaims$Tape;)I -/
abbrev cX0_readBook : ByteArray := prog_2_method_6_code
def yX0_readBook : MethodName := ⟨RX0, "readBook", "(LRecordClaims$Tape;)I"⟩
theorem dX0_readBook_0 : decode cX0_readBook 0 = .ok (.iconst 0, 1) := by decide +kernel
theorem dX0_readBook_1 : decode cX0_readBook 1 = .ok (.istore_n 2, 1) := by decide +kernel
theorem dX0_readBook_2 : decode cX0_readBook 2 = .ok (.aload_n 0, 1) := by decide +kernel
theorem dX0_readBook_3 : decode cX0_readBook 3 = .ok (.iconst 0, 1) := by decide +kernel
theorem dX0_readBook_4 : decode cX0_readBook 4 = .ok (.putfield 22, 3) := by decide +kernel
theorem dX0_readBook_7 : decode cX0_readBook 7 = .ok (.aload_n 0, 1) := by decide +kernel
theorem dX0_readBook_8 : decode cX0_readBook 8 = .ok (.iconst 0, 1) := by decide +kernel
theorem dX0_readBook_9 : decode cX0_readBook 9 = .ok (.putfield 32, 3) := by decide +kernel
theorem dX0_readBook_12 : decode cX0_readBook 12 = .ok (.iconst 0, 1) := by decide +kernel
theorem dX0_readBook_13 : decode cX0_readBook 13 = .ok (.istore_n 3, 1) := by decide +kernel
theorem dX0_readBook_14 : decode cX0_readBook 14 = .ok (.iload_n 3, 1) := by decide +kernel
theorem dX0_readBook_15 : decode cX0_readBook 15 = .ok (.bipush 50, 2) := by decide +kernel
theorem dX0_readBook_17 : decode cX0_readBook 17 = .ok (.if_icmp .ge 16, 3) := by decide +kernel
theorem dX0_readBook_20 : decode cX0_readBook 20 = .ok (.aload_n 0, 1) := by decide +kernel
theorem dX0_readBook_21 : decode cX0_readBook 21 = .ok (.getfield 18, 3) := by decide +kernel
theorem dX0_readBook_24 : decode cX0_readBook 24 = .ok (.iload_n 3, 1) := by decide +kernel
theorem dX0_readBook_25 : decode cX0_readBook 25 = .ok (.lconst 0, 1) := by decide +kernel
theorem dX0_readBook_26 : decode cX0_readBook 26 = .ok (.lastore, 1) := by decide +kernel
theorem dX0_readBook_27 : decode cX0_readBook 27 = .ok (.iinc 3 1, 3) := by decide +kernel
theorem dX0_readBook_30 : decode cX0_readBook 30 = .ok (.goto (-16), 3) := by decide +kernel
theorem dX0_readBook_33 : decode cX0_readBook 33 = .ok (.aload_n 1, 1) := by decide +kernel
theorem dX0_readBook_34 : decode cX0_readBook 34 = .ok (.invokevirtual 39, 3) := by decide +kernel
theorem dX0_readBook_37 : decode cX0_readBook 37 = .ok (.iload_n 2, 1) := by decide +kernel
theorem dX0_readBook_38 : decode cX0_readBook 38 = .ok (.sipush 700, 3) := by decide +kernel
theorem dX0_readBook_41 : decode cX0_readBook 41 = .ok (.if_icmp .ge 21, 3) := by decide +kernel
theorem dX0_readBook_44 : decode cX0_readBook 44 = .ok (.aload_n 1, 1) := by decide +kernel
theorem dX0_readBook_45 : decode cX0_readBook 45 = .ok (.invokevirtual 42, 3) := by decide +kernel
theorem dX0_readBook_48 : decode cX0_readBook 48 = .ok (.ifCond .eq 14, 3) := by decide +kernel
theorem dX0_readBook_51 : decode cX0_readBook 51 = .ok (.aload_n 0, 1) := by decide +kernel
theorem dX0_readBook_52 : decode cX0_readBook 52 = .ok (.aload_n 1, 1) := by decide +kernel
theorem dX0_readBook_53 : decode cX0_readBook 53 = .ok (.invokevirtual 46, 3) := by decide +kernel
theorem dX0_readBook_56 : decode cX0_readBook 56 = .ok (.iinc 2 1, 3) := by decide +kernel
theorem dX0_readBook_59 : decode cX0_readBook 59 = .ok (.goto (-22), 3) := by decide +kernel
theorem dX0_readBook_62 : decode cX0_readBook 62 = .ok (.aload_n 1, 1) := by decide +kernel
theorem dX0_readBook_63 : decode cX0_readBook 63 = .ok (.getfield 50, 3) := by decide +kernel
theorem dX0_readBook_66 : decode cX0_readBook 66 = .ok (.ifCond .ne 7, 3) := by decide +kernel
theorem dX0_readBook_69 : decode cX0_readBook 69 = .ok (.iload_n 2, 1) := by decide +kernel
theorem dX0_readBook_70 : decode cX0_readBook 70 = .ok (.goto 4, 3) := by decide +kernel
theorem dX0_readBook_73 : decode cX0_readBook 73 = .ok (.iconst (-1), 1) := by decide +kernel
theorem dX0_readBook_74 : decode cX0_readBook 74 = .ok (.ireturn, 1) := by decide +kernel
theorem fcX0_39 : q_LV RX0 39 yX9_startReading cX9_startReading 1 none 0 9 := ⟨q_tb 522 (by decide +kernel) rfl, q_tb 523 (by decide +kernel) rfl, q_tb 524 (by decide +kernel) rfl, q_tb 2 (by decide +kernel) rfl, q_tb 525 (by decide +kernel) rfl, ⟨by decide +kernel, by decide +kernel, by decide +kernel⟩, TX9, 8, rfl⟩
theorem fgX0_50 : q_Fg RX0 50 9 6 := q_Fg.of (C := RX9) (T := TX9) (N := 8) rfl (by decide) inX9 43 (by decide +kernel) rfl rfl
theorem fcX0_42 : q_LV RX0 42 yX9_goesOn cX9_goesOn 1 (some .boolean) 0 9 := ⟨q_tb 607 (by decide +kernel) rfl, q_tb 608 (by decide +kernel) rfl, q_tb 609 (by decide +kernel) rfl, q_tb 2 (by decide +kernel) rfl, q_tb 610 (by decide +kernel) rfl, ⟨by decide +kernel, by decide +kernel, by decide +kernel⟩, TX9, 8, rfl⟩
theorem fcX0_46 : q_LV RX0 46 yX0_readLine cX0_readLine 2 none 1 0 := ⟨q_tb 611 (by decide +kernel) rfl, q_tb 613 (by decide +kernel) rfl, q_tbs (q := (yX0_readLine, 5)) 4 (by decide +kernel) rfl, q_tb 3 (by decide +kernel) rfl, q_tb 614 (by decide +kernel) rfl, ⟨by decide +kernel, by decide +kernel, by decide +kernel⟩, TX0, 5, rfl⟩
def fX0_readBook_L62 (n : Nat) (r1 : Nat) (v2 : Int32) (X : Mm) : Option (Int32 × Mm) :=
if mT X r1 = 9 then
if (mI X r1 6) = 0 then (
some (v2, X)
) else (
some ((-1 : Int32), X)
)
else none
def fX0_readBook_L37 (n : Nat) : Nat → Nat → Nat → Int32 → Mm → Option (Int32 × Mm)
| 0, _, _, _, _ => none
| j + 1, r0, r1, v2, X =>
if (700 : Int32) ≤ v2 then (
fX0_readBook_L62 n r1 v2 X
) else (
if mT X r1 = 9 then
bd (fX9_goesOn r1 X) fun w9 X45_10 =>
if w9 = 0 then (
fX0_readBook_L62 n r1 v2 X45_10
) else (
if mT X45_10 r0 = 0 then
bd (fX0_readLine n r0 r1 X45_10) fun _ X53_13 =>
nm (v2 + (1 : Int32)) fun v2_56 =>
(fX0_readBook_L37 n j) r0 r1 v2_56 X53_13
else none
)
else none
)
def fX0_readBook_L14 (n : Nat) : Nat → Nat → Nat → Int32 → Int32 → Mm → Option (Int32 × Mm)
| 0, _, _, _, _, _ => none
| j + 1, r0, r1, v2, v3, X =>
if (50 : Int32) ≤ v3 then (
if mT X r1 = 9 then
bd (fX9_startReading n r1 X) fun _ X34_6 =>
fX0_readBook_L37 n n r0 r1 v2 X34_6
else none
) else (
if mT X r0 = 0 then
if mR X r0 2 ≠ 0 then
if mT X (mR X r0 2) = 15 then
if q_b X (mR X r0 2) v3 then
nm (sJ X (mR X r0 2) (v3).toNatClampNeg (0 : Int64)) fun X26_17 =>
nm (v3 + (1 : Int32)) fun v3_27 =>
(fX0_readBook_L14 n j) r0 r1 v2 v3_27 X26_17
else none
else none
else none
else none
)
def fX0_readBook (n : Nat) (r0 : Nat) (r1 : Nat) (X : Mm) : Option (Int32 × Mm) :=
if mT X r0 = 0 then
nm (sI X r0 3 (0 : Int32)) fun X4_1 =>
if mT X4_1 r0 = 0 then
nm (sI X4_1 r0 4 (0 : Int32)) fun X9_3 =>
fX0_readBook_L14 n n r0 r1 (0 : Int32) (0 : Int32) X9_3
else none
else none
theorem gX0_readBook_L62 {E : q_E} {X0 : Mm} (C : Cx E cX0_readBook RX0 4 (some .int) (q_rm 11 233 0 0) X0) (n : Nat) (r1 : Nat) (v2 : Int32) (X : Mm) : Sm E (q_fin E q_eI X0 0 0) 0 0 62 [(1, .ref (q_P E + r1)), (2, .int v2)] [] X (fX0_readBook_L62 n r1 v2 X) := by
  unfold fX0_readBook_L62
  refine q_aload_n C 0 dX0_readBook_62 rfl rfl ?_
  refine q_chk (fun h8 => ?_)
  refine p_getI C fgX0_50 rfl dX0_readBook_63 h8 ?_
  refine q_if_ne C 73 dX0_readBook_66 (by decide) (fun _ => ?_) (fun _ => ?_)
  · refine q_iload_n C 1 dX0_readBook_69 rfl rfl ?_
    refine q_goto C 74 dX0_readBook_70 (by decide) ?_
    exact q_iret C dX0_readBook_74
  · refine q_iconst C (-1 : Int32) dX0_readBook_73 rfl ?_
    exact q_iret C dX0_readBook_74
theorem gX0_readBook_L37 {E : q_E} {X0 : Mm} (C : Cx E cX0_readBook RX0 4 (some .int) (q_rm 11 233 0 0) X0) (n : Nat) : ∀ (j : Nat) (r0 : Nat) (r1 : Nat) (v2 : Int32) (X : Mm), Sm E (q_fin E q_eI X0 0 0) 0 0 37 [(0, .ref (q_P E + r0)), (1, .ref (q_P E + r1)), (2, .int v2)] [] X (fX0_readBook_L37 n j r0 r1 v2 X) := by
  intro j
  induction j with
  | zero => intros; exact Sm.none
  | succ j ih =>
    intro r0 r1 v2 X
    rw [fX0_readBook_L37]
    refine q_iload_n C 2 dX0_readBook_37 rfl rfl ?_
    refine q_sipush C (700 : Int32) dX0_readBook_38 rfl ?_
    refine q_icmp_ge C 62 dX0_readBook_41 (by decide) (fun _ => ?_) (fun _ => ?_)
    · refine q_sub C [(1, .ref (q_P E + r1)), (2, .int v2)] [1, 2] rfl ?_
      exact gX0_readBook_L62 C n r1 v2 X
    · refine q_aload_n C 1 dX0_readBook_44 rfl rfl ?_
      refine q_chk (fun h11 => ?_)
      refine q_cVI (As := (fun P => [])) C [] (sX9_goesOn r1) fcX0_42 rfl (fun _ => rfl) ⟨Nat.le_of_ble_eq_true rfl, Nat.le_of_ble_eq_true rfl⟩ ⟨Nat.le_of_ble_eq_true rfl, Nat.le_of_ble_eq_true rfl⟩ (Nat.le_of_ble_eq_true rfl) dX0_readBook_45 h11 (fun w9 X45_10 => ?_)
      refine q_if_eq C 62 dX0_readBook_48 (by decide) (fun _ => ?_) (fun _ => ?_)
      · refine q_sub C [(1, .ref (q_P E + r1)), (2, .int v2)] [1, 2] rfl ?_
        exact gX0_readBook_L62 C n r1 v2 X45_10
      · refine q_aload_n C 0 dX0_readBook_51 rfl rfl ?_
        refine q_aload_n C 1 dX0_readBook_52 rfl rfl ?_
        refine q_chk (fun h14 => ?_)
        refine q_cVV (As := (fun P => [.ref (P + r1)])) C [] (sX0_readLine n r0 r1) fcX0_46 rfl (fun _ => rfl) ⟨Nat.le_of_ble_eq_true rfl, Nat.le_of_ble_eq_true rfl⟩ ⟨Nat.le_of_ble_eq_true rfl, Nat.le_of_ble_eq_true rfl⟩ (Nat.le_of_ble_eq_true rfl) dX0_readBook_53 h14 (fun _ X53_13 => ?_)
        refine q_iincN C (1 : Int32) 2 (fun v2_56 => [(2, .int v2_56), (0, .ref (q_P E + r0)), (1, .ref (q_P E + r1))]) dX0_readBook_56 rfl rfl (Nat.le_of_ble_eq_true rfl) (fun _ => rfl) (fun v2_56 => ?_)
        refine q_goto C 37 dX0_readBook_59 (by decide) ?_
        refine q_sub C [(0, .ref (q_P E + r0)), (1, .ref (q_P E + r1)), (2, .int v2_56)] [1, 2, 0] rfl ?_
        exact ih r0 r1 v2_56 X53_13
theorem gX0_readBook_L14 {E : q_E} {X0 : Mm} (C : Cx E cX0_readBook RX0 4 (some .int) (q_rm 11 233 0 0) X0) (n : Nat) : ∀ (j : Nat) (r0 : Nat) (r1 : Nat) (v2 : Int32) (v3 : Int32) (X : Mm), Sm E (q_fin E q_eI X0 0 0) 0 0 14 [(0, .ref (q_P E + r0)), (1, .ref (q_P E + r1)), (2, .int v2), (3, .int v3)] [] X (fX0_readBook_L14 n j r0 r1 v2 v3 X) := by
  intro j
  induction j with
  | zero => intros; exact Sm.none
  | succ j ih =>
    intro r0 r1 v2 v3 X
    rw [fX0_readBook_L14]
    refine q_iload_n C 3 dX0_readBook_14 rfl rfl ?_
    refine q_bipush C (50 : Int32) dX0_readBook_15 rfl ?_
    refine q_icmp_ge C 33 dX0_readBook_17 (by decide) (fun _ => ?_) (fun _ => ?_)
    · refine q_aload_n C 1 dX0_readBook_33 rfl rfl ?_
      refine q_chk (fun h7 => ?_)
      refine q_cVV (As := (fun P => [])) C [] (sX9_startReading n r1) fcX0_39 rfl (fun _ => rfl) ⟨Nat.le_of_ble_eq_true rfl, Nat.le_of_ble_eq_true rfl⟩ ⟨Nat.le_of_ble_eq_true rfl, Nat.le_of_ble_eq_true rfl⟩ (Nat.le_of_ble_eq_true rfl) dX0_readBook_34 h7 (fun _ X34_6 => ?_)
      refine q_sub C [(0, .ref (q_P E + r0)), (1, .ref (q_P E + r1)), (2, .int v2)] [0, 1, 2] rfl ?_
      exact gX0_readBook_L37 C n n r0 r1 v2 X34_6
    · refine q_aload_n C 0 dX0_readBook_20 rfl rfl ?_
      refine q_chk (fun h15 => ?_)
      refine q_chk (fun h16 => ?_)
      refine p_getR C fgX0_18 rfl dX0_readBook_21 h15 h16 ?_
      refine q_iload_n C 3 dX0_readBook_24 rfl rfl ?_
      refine q_lconst C (0 : Int64) dX0_readBook_25 rfl ?_
      refine q_chk (fun h18 => ?_)
      refine q_chk (fun h19 => ?_)
      refine p_last C dX0_readBook_26 h18 h19 ?_
      refine q_nmX (fun X26_17 => ?_)
      refine q_iincN C (1 : Int32) 3 (fun v3_27 => [(3, .int v3_27), (0, .ref (q_P E + r0)), (1, .ref (q_P E + r1)), (2, .int v2)]) dX0_readBook_27 rfl rfl (Nat.le_of_ble_eq_true rfl) (fun _ => rfl) (fun v3_27 => ?_)
      refine q_goto C 14 dX0_readBook_30 (by decide) ?_
      refine q_sub C [(0, .ref (q_P E + r0)), (1, .ref (q_P E + r1)), (2, .int v2), (3, .int v3_27)] [1, 2, 3, 0] rfl ?_
      exact ih r0 r1 v2 v3_27 X26_17
theorem sX0_readBook (n : Nat) (r0 : Nat) (r1 : Nat) : q_Ct yX0_readBook cX0_readBook 4 (some .int) 11 233 0 0 q_eI (fun P => [.ref (P + r0), .ref (P + r1)]) (fX0_readBook n r0 r1) := by
  refine q_meth (by decide +kernel) (fun P => Nat.le_of_ble_eq_true rfl) (fun E X C hn => ?_)
  show Sm E (q_fin E q_eI X 0 0) 0 0 0 [(0, .ref (q_P E + r0)), (1, .ref (q_P E + r1))] [] X _
  unfold fX0_readBook
  refine q_iconst C (0 : Int32) dX0_readBook_0 rfl ?_
  refine q_istore_n C [(2, .int (0 : Int32)), (0, .ref (q_P E + r0)), (1, .ref (q_P E + r1))] dX0_readBook_1 rfl (Nat.le_of_ble_eq_true rfl) rfl ?_
  refine q_aload_n C 1 dX0_readBook_2 rfl rfl ?_
  refine q_iconst C (0 : Int32) dX0_readBook_3 rfl ?_
  refine q_chk (fun h2 => ?_)
  refine p_putI C fpX0_22 rfl dX0_readBook_4 h2 ?_
  refine q_nmX (fun X4_1 => ?_)
  refine q_aload_n C 1 dX0_readBook_7 rfl rfl ?_
  refine q_iconst C (0 : Int32) dX0_readBook_8 rfl ?_
  refine q_chk (fun h4 => ?_)
  refine p_putI C fpX0_32 rfl dX0_readBook_9 h4 ?_
  refine q_nmX (fun X9_3 => ?_)
  refine q_iconst C (0 : Int32) dX0_readBook_12 rfl ?_
  refine q_istore_n C [(3, .int (0 : Int32)), (2, .int (0 : Int32)), (0, .ref (q_P E + r0)), (1, .ref (q_P E + r1))] dX0_readBook_13 rfl (Nat.le_of_ble_eq_true rfl) rfl ?_
  refine q_sub C [(0, .ref (q_P E + r0)), (1, .ref (q_P E + r1)), (2, .int (0 : Int32)), (3, .int (0 : Int32))] [2, 3, 1, 0] rfl ?_
  exact gX0_readBook_L14 C n n r0 r1 (0 : Int32) (0 : Int32) X9_3
/-! RecordClaims$Tape.passesWord(I)Z -/
abbrev cX9_passesWord : ByteArray := prog_11_method_16_code
def yX9_passesWord : MethodName := ⟨RX9, "passesWord", "(I)Z"⟩
theorem dX9_passesWord_0 : decode cX9_passesWord 0 = .ok (.aload_n 0, 1) := by decide +kernel
theorem dX9_passesWord_1 : decode cX9_passesWord 1 = .ok (.getfield 38, 3) := by decide +kernel
theorem dX9_passesWord_4 : decode cX9_passesWord 4 = .ok (.ifCond .ne 11, 3) := by decide +kernel
theorem dX9_passesWord_7 : decode cX9_passesWord 7 = .ok (.aload_n 0, 1) := by decide +kernel
theorem dX9_passesWord_8 : decode cX9_passesWord 8 = .ok (.iload_n 1, 1) := by decide +kernel
theorem dX9_passesWord_9 : decode cX9_passesWord 9 = .ok (.invokevirtual 79, 3) := by decide +kernel
theorem dX9_passesWord_12 : decode cX9_passesWord 12 = .ok (.ifCond .ne 5, 3) := by decide +kernel
theorem dX9_passesWord_15 : decode cX9_passesWord 15 = .ok (.iconst 0, 1) := by decide +kernel
theorem dX9_passesWord_16 : decode cX9_passesWord 16 = .ok (.ireturn, 1) := by decide +kernel
theorem dX9_passesWord_17 : decode cX9_passesWord 17 = .ok (.aload_n 0, 1) := by decide +kernel
theorem dX9_passesWord_18 : decode cX9_passesWord 18 = .ok (.dup, 1) := by decide +kernel
theorem dX9_passesWord_19 : decode cX9_passesWord 19 = .ok (.getfield 41, 3) := by decide +kernel
theorem dX9_passesWord_22 : decode cX9_passesWord 22 = .ok (.iconst 1, 1) := by decide +kernel
theorem dX9_passesWord_23 : decode cX9_passesWord 23 = .ok (.iadd, 1) := by decide +kernel
theorem dX9_passesWord_24 : decode cX9_passesWord 24 = .ok (.putfield 41, 3) := by decide +kernel
theorem dX9_passesWord_27 : decode cX9_passesWord 27 = .ok (.iconst 1, 1) := by decide +kernel
theorem dX9_passesWord_28 : decode cX9_passesWord 28 = .ok (.ireturn, 1) := by decide +kernel
def fX9_passesWord_L15 (X : Mm) : Option (Int32 × Mm) :=
some (0, X)
def fX9_passesWord (r0 : Nat) (v1 : Int32) (X : Mm) : Option (Int32 × Mm) :=
if mT X r0 = 9 then
if (mI X r0 6) = 0 then (
bd (fX9_isAtWord r0 v1 X) fun w2 X9_3 =>
if w2 = 0 then (
fX9_passesWord_L15 X9_3
) else (
if mT X9_3 r0 = 9 then
nm (sI X9_3 r0 5 ((mI X9_3 r0 5) + (1 : Int32))) fun X24_5 =>
some (1, X24_5)
else none
)
) else (
fX9_passesWord_L15 X
)
else none
theorem gX9_passesWord_L15 {E : q_E} {X0 : Mm} (C : Cx E cX9_passesWord RX9 2 (some .boolean) (q_rm 1 21 0 0) X0) (X : Mm) : Sm E (q_fin E q_eI X0 0 0) 0 0 15 [] [] X (fX9_passesWord_L15  X) := by
  unfold fX9_passesWord_L15
  refine q_iconst C (0 : Int32) dX9_passesWord_15 rfl ?_
  exact q_zret0 C dX9_passesWord_16
theorem sX9_passesWord (r0 : Nat) (v1 : Int32) : q_Ct yX9_passesWord cX9_passesWord 2 (some .boolean) 1 21 0 0 q_eI (fun P => [.ref (P + r0), .int v1]) (fX9_passesWord r0 v1) := by
  refine q_meth (by decide +kernel) (fun P => Nat.le_of_ble_eq_true rfl) (fun E X C hn => ?_)
  show Sm E (q_fin E q_eI X 0 0) 0 0 0 [(0, .ref (q_P E + r0)), (1, .int v1)] [] X _
  unfold fX9_passesWord
  refine q_aload_n C 0 dX9_passesWord_0 rfl rfl ?_
  refine q_chk (fun h1 => ?_)
  refine p_getI C fgX9_38 rfl dX9_passesWord_1 h1 ?_
  refine q_if_ne C 15 dX9_passesWord_4 (by decide) (fun _ => ?_) (fun _ => ?_)
  · refine q_aload_n C 0 dX9_passesWord_7 rfl rfl ?_
    refine q_iload_n C 1 dX9_passesWord_8 rfl rfl ?_
    refine q_cVI (As := (fun P => [.int v1])) C [] (sX9_isAtWord r0 v1) fcX9_79 rfl (fun _ => rfl) ⟨Nat.le_of_ble_eq_true rfl, Nat.le_of_ble_eq_true rfl⟩ ⟨Nat.le_of_ble_eq_true rfl, Nat.le_of_ble_eq_true rfl⟩ (Nat.le_of_ble_eq_true rfl) dX9_passesWord_9 h1 (fun w2 X9_3 => ?_)
    refine q_if_ne C 17 dX9_passesWord_12 (by decide) (fun _ => ?_) (fun _ => ?_)
    · refine q_sub C [] [] rfl ?_
      exact gX9_passesWord_L15 C X9_3
    · refine q_aload_n C 0 dX9_passesWord_17 rfl rfl ?_
      refine q_dup C dX9_passesWord_18 rfl ?_
      refine q_chk (fun h4 => ?_)
      refine p_getI C fgX9_41 rfl dX9_passesWord_19 h4 ?_
      refine q_iconst C (1 : Int32) dX9_passesWord_22 rfl ?_
      refine q_iadd C dX9_passesWord_23 ?_
      refine p_putI C fpX9_41 rfl dX9_passesWord_24 h4 ?_
      refine q_nmX (fun X24_5 => ?_)
      refine q_iconst C (1 : Int32) dX9_passesWord_27 rfl ?_
      exact q_zret1 C dX9_passesWord_28
  · refine q_sub C [] [] rfl ?_
    exact gX9_passesWord_L15 C X
