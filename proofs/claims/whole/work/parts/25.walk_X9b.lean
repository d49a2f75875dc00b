/-! RecordClaims$Tape.<init>()V -/
abbrev cX9_init : ByteArray := prog_11_method_1_code
def yX9_init : MethodName := ⟨RX9, "<init>", "()V"⟩
theorem dX9_init_0 : decode cX9_init 0 = .ok (.aload_n 0, 1) := by decide +kernel
theorem dX9_init_1 : decode cX9_init 1 = .ok (.invokespecial 3, 3) := by decide +kernel
theorem dX9_init_4 : decode cX9_init 4 = .ok (.aload_n 0, 1) := by decide +kernel
theorem dX9_init_5 : decode cX9_init 5 = .ok (.sipush 700, 3) := by decide +kernel
theorem dX9_init_8 : decode cX9_init 8 = .ok (.newarray .byte, 2) := by decide +kernel
theorem dX9_init_10 : decode cX9_init 10 = .ok (.putfield 9, 3) := by decide +kernel
theorem dX9_init_13 : decode cX9_init 13 = .ok (.aload_n 0, 1) := by decide +kernel
theorem dX9_init_14 : decode cX9_init 14 = .ok (.sipush 701, 3) := by decide +kernel
theorem dX9_init_17 : decode cX9_init 17 = .ok (.newarray .int, 2) := by decide +kernel
theorem dX9_init_19 : decode cX9_init 19 = .ok (.putfield 15, 3) := by decide +kernel
theorem dX9_init_22 : decode cX9_init 22 = .ok (.aload_n 0, 1) := by decide +kernel
theorem dX9_init_23 : decode cX9_init 23 = .ok (.sipush 701, 3) := by decide +kernel
theorem dX9_init_26 : decode cX9_init 26 = .ok (.newarray .int, 2) := by decide +kernel
theorem dX9_init_28 : decode cX9_init 28 = .ok (.putfield 19, 3) := by decide +kernel
theorem dX9_init_31 : decode cX9_init 31 = .ok (.aload_n 0, 1) := by decide +kernel
theorem dX9_init_32 : decode cX9_init 32 = .ok (.sipush 701, 3) := by decide +kernel
theorem dX9_init_35 : decode cX9_init 35 = .ok (.newarray .int, 2) := by decide +kernel
theorem dX9_init_37 : decode cX9_init 37 = .ok (.putfield 22, 3) := by decide +kernel
theorem dX9_init_40 : decode cX9_init 40 = .ok (.aload_n 0, 1) := by decide +kernel
theorem dX9_init_41 : decode cX9_init 41 = .ok (.iconst (-1), 1) := by decide +kernel
theorem dX9_init_42 : decode cX9_init 42 = .ok (.putfield 25, 3) := by decide +kernel
theorem dX9_init_45 : decode cX9_init 45 = .ok (.return_, 1) := by decide +kernel
theorem fwX9_3_oi : Cond.methodLink RX9 3 Lib.objectInit ∈ q_tbl := q_tb 33 (by decide +kernel) rfl
theorem fpX9_9 : q_Fp RX9 9 9 0 (.array .byte) true := ⟨RX9, TX9, 8, tyX9, rfl, by decide, inX9, q_tb 34 (by decide +kernel) rfl, tyX9_ok, nmX9, rfl, rfl, fun h => by first | rfl | cases h⟩
theorem fpX9_15 : q_Fp RX9 15 9 2 (.array .int) true := ⟨RX9, TX9, 8, tyX9, rfl, by decide, inX9, q_tb 37 (by decide +kernel) rfl, tyX9_ok, nmX9, rfl, rfl, fun h => by first | rfl | cases h⟩
theorem fpX9_19 : q_Fp RX9 19 9 3 (.array .int) true := ⟨RX9, TX9, 8, tyX9, rfl, by decide, inX9, q_tb 38 (by decide +kernel) rfl, tyX9_ok, nmX9, rfl, rfl, fun h => by first | rfl | cases h⟩
theorem fpX9_22 : q_Fp RX9 22 9 4 (.array .int) true := ⟨RX9, TX9, 8, tyX9, rfl, by decide, inX9, q_tb 39 (by decide +kernel) rfl, tyX9_ok, nmX9, rfl, rfl, fun h => by first | rfl | cases h⟩
def fX9_init (r0 : Nat) (X : Mm) : Option (Unit × Mm) :=
nm (mN X + 1) fun rN2 =>
nm (q_nw X 16 700) fun X8_1 =>
if mT X8_1 r0 = 9 then
if rN2 ≠ 0 then
nm (sR X8_1 r0 0 rN2) fun X10_3 =>
nm (mN X10_3 + 1) fun rN7 =>
nm (q_nw X10_3 14 701) fun X17_6 =>
if mT X17_6 r0 = 9 then
if rN7 ≠ 0 then
nm (sR X17_6 r0 2 rN7) fun X19_8 =>
nm (mN X19_8 + 1) fun rN12 =>
nm (q_nw X19_8 14 701) fun X26_11 =>
if mT X26_11 r0 = 9 then
if rN12 ≠ 0 then
nm (sR X26_11 r0 3 rN12) fun X28_13 =>
nm (mN X28_13 + 1) fun rN17 =>
nm (q_nw X28_13 14 701) fun X35_16 =>
if mT X35_16 r0 = 9 then
if rN17 ≠ 0 then
nm (sR X35_16 r0 4 rN17) fun X37_18 =>
if mT X37_18 r0 = 9 then
nm (sI X37_18 r0 7 (-1 : Int32)) fun X42_21 =>
some ((), X42_21)
else none
else none
else none
else none
else none
else none
else none
else none
else none
theorem sX9_init (r0 : Nat) : q_Ct yX9_init cX9_init 1 none 1 20 4 2803 q_eV (fun P => [.ref (P + r0)]) (fX9_init r0) := by
  refine q_meth (by decide +kernel) (fun P => Nat.le_of_ble_eq_true rfl) (fun E X C hn => ?_)
  show Sm E (q_fin E q_eV X 4 2803) 0 0 0 [(0, .ref (q_P E + r0))] [] X _
  unfold fX9_init
  refine q_aload_n C 0 dX9_init_0 rfl rfl ?_
  refine q_objInit C fwX9_3_oi fw_oi2 fw_oi3 ⟨Nat.le_of_ble_eq_true rfl, Nat.le_of_ble_eq_true rfl⟩ dX9_init_1 ?_
  refine q_aload_n C 0 dX9_init_4 rfl rfl ?_
  refine q_sipush C (700 : Int32) dX9_init_5 rfl ?_
  refine q_newa (atype := .byte) (ty := .byte) (tg := 16) (N := 700) C rfl fabyte (Or.inr (Or.inr ⟨rfl, rfl⟩)) (by decide) rfl (Nat.le_of_ble_eq_true rfl) ⟨Nat.le_of_ble_eq_true rfl, Nat.le_of_ble_eq_true rfl⟩ dX9_init_8 ?_
  refine q_nmr (fun rN2 => ?_)
  refine q_nmX (fun X8_1 => ?_)
  refine q_chk (fun h4 => ?_)
  refine q_chk (fun h5 => ?_)
  refine p_putF C fpX9_9 hn (fun _ => rfl) (fun _ => rfl) rfl dX9_init_10 h4 h5 ?_
  refine q_nmX (fun X10_3 => ?_)
  refine q_aload_n C 0 dX9_init_13 rfl rfl ?_
  refine q_sipush C (701 : Int32) dX9_init_14 rfl ?_
  refine q_newa (atype := .int) (ty := .int) (tg := 14) (N := 701) C rfl faint (Or.inl ⟨rfl, rfl⟩) (by decide) rfl (Nat.le_of_ble_eq_true rfl) ⟨Nat.le_of_ble_eq_true rfl, Nat.le_of_ble_eq_true rfl⟩ dX9_init_17 ?_
  refine q_nmr (fun rN7 => ?_)
  refine q_nmX (fun X17_6 => ?_)
  refine q_chk (fun h9 => ?_)
  refine q_chk (fun h10 => ?_)
  refine p_putF C fpX9_15 hn (fun _ => rfl) (fun _ => rfl) rfl dX9_init_19 h9 h10 ?_
  refine q_nmX (fun X19_8 => ?_)
  refine q_aload_n C 0 dX9_init_22 rfl rfl ?_
  refine q_sipush C (701 : Int32) dX9_init_23 rfl ?_
  refine q_newa (atype := .int) (ty := .int) (tg := 14) (N := 701) C rfl faint (Or.inl ⟨rfl, rfl⟩) (by decide) rfl (Nat.le_of_ble_eq_true rfl) ⟨Nat.le_of_ble_eq_true rfl, Nat.le_of_ble_eq_true rfl⟩ dX9_init_26 ?_
  refine q_nmr (fun rN12 => ?_)
  refine q_nmX (fun X26_11 => ?_)
  refine q_chk (fun h14 => ?_)
  refine q_chk (fun h15 => ?_)
  refine p_putF C fpX9_19 hn (fun _ => rfl) (fun _ => rfl) rfl dX9_init_28 h14 h15 ?_
  refine q_nmX (fun X28_13 => ?_)
  refine q_aload_n C 0 dX9_init_31 rfl rfl ?_
  refine q_sipush C (701 : Int32) dX9_init_32 rfl ?_
  refine q_newa (atype := .int) (ty := .int) (tg := 14) (N := 701) C rfl faint (Or.inl ⟨rfl, rfl⟩) (by decide) rfl (Nat.le_of_ble_eq_true rfl) ⟨Nat.le_of_ble_eq_true rfl, Nat.le_of_ble_eq_true rfl⟩ dX9_init_35 ?_
  refine q_nmr (fun rN17 => ?_)
  refine q_nmX (fun X35_16 => ?_)
  refine q_chk (fun h19 => ?_)
  refine q_chk (fun h20 => ?_)
  refine p_putF C fpX9_22 hn (fun _ => rfl) (fun _ => rfl) rfl dX9_init_37 h19 h20 ?_
  refine q_nmX (fun X37_18 => ?_)
  refine q_aload_n C 0 dX9_init_40 rfl rfl ?_
  refine q_iconst C (-1 : Int32) dX9_init_41 rfl ?_
  refine q_chk (fun h22 => ?_)
  refine p_putI C fpX9_25 rfl dX9_init_42 h22 ?_
  refine q_nmX (fun X42_21 => ?_)
  exact q_vret C dX9_init_45
/-! RecordClaims$Tape.addBytes(I)V -/
abbrev cX9_addBytes : ByteArray := prog_11_method_2_code
def yX9_addBytes : MethodName := ⟨RX9, "addBytes", "(I)V"⟩
theorem dX9_addBytes_0 : decode cX9_addBytes 0 = .ok (.bipush 24, 2) := by decide +kernel
theorem dX9_addBytes_2 : decode cX9_addBytes 2 = .ok (.istore_n 2, 1) := by decide +kernel
theorem dX9_addBytes_3 : decode cX9_addBytes 3 = .ok (.iload_n 2, 1) := by decide +kernel
theorem dX9_addBytes_4 : decode cX9_addBytes 4 = .ok (.ifCond .lt 42, 3) := by decide +kernel
theorem dX9_addBytes_7 : decode cX9_addBytes 7 = .ok (.aload_n 0, 1) := by decide +kernel
theorem dX9_addBytes_8 : decode cX9_addBytes 8 = .ok (.getfield 29, 3) := by decide +kernel
theorem dX9_addBytes_11 : decode cX9_addBytes 11 = .ok (.sipush 700, 3) := by decide +kernel
theorem dX9_addBytes_14 : decode cX9_addBytes 14 = .ok (.if_icmp .ge 26, 3) := by decide +kernel
theorem dX9_addBytes_17 : decode cX9_addBytes 17 = .ok (.aload_n 0, 1) := by decide +kernel
theorem dX9_addBytes_18 : decode cX9_addBytes 18 = .ok (.getfield 9, 3) := by decide +kernel
theorem dX9_addBytes_21 : decode cX9_addBytes 21 = .ok (.aload_n 0, 1) := by decide +kernel
theorem dX9_addBytes_22 : decode cX9_addBytes 22 = .ok (.getfield 29, 3) := by decide +kernel
theorem dX9_addBytes_25 : decode cX9_addBytes 25 = .ok (.iload_n 1, 1) := by decide +kernel
theorem dX9_addBytes_26 : decode cX9_addBytes 26 = .ok (.iload_n 2, 1) := by decide +kernel
theorem dX9_addBytes_27 : decode cX9_addBytes 27 = .ok (.iushr, 1) := by decide +kernel
theorem dX9_addBytes_28 : decode cX9_addBytes 28 = .ok (.i2b, 1) := by decide +kernel
theorem dX9_addBytes_29 : decode cX9_addBytes 29 = .ok (.bastore, 1) := by decide +kernel
theorem dX9_addBytes_30 : decode cX9_addBytes 30 = .ok (.aload_n 0, 1) := by decide +kernel
theorem dX9_addBytes_31 : decode cX9_addBytes 31 = .ok (.dup, 1) := by decide +kernel
theorem dX9_addBytes_32 : decode cX9_addBytes 32 = .ok (.getfield 29, 3) := by decide +kernel
theorem dX9_addBytes_35 : decode cX9_addBytes 35 = .ok (.iconst 1, 1) := by decide +kernel
theorem dX9_addBytes_36 : decode cX9_addBytes 36 = .ok (.iadd, 1) := by decide +kernel
theorem dX9_addBytes_37 : decode cX9_addBytes 37 = .ok (.putfield 29, 3) := by decide +kernel
theorem dX9_addBytes_40 : decode cX9_addBytes 40 = .ok (.iinc 2 (-8), 3) := by decide +kernel
theorem dX9_addBytes_43 : decode cX9_addBytes 43 = .ok (.goto (-40), 3) := by decide +kernel
theorem dX9_addBytes_46 : decode cX9_addBytes 46 = .ok (.return_, 1) := by decide +kernel
theorem fpX9_29 : q_Fp RX9 29 9 1 .int false := ⟨RX9, TX9, 8, tyX9, rfl, by decide, inX9, q_tb 36 (by decide +kernel) rfl, tyX9_ok, nmX9, rfl, rfl, fun h => by first | rfl | cases h⟩
def fX9_addBytes_L40 (n : Nat) (k3 : Nat → Int32 → Int32 → Mm → Option (Unit × Mm)) (r0 : Nat) (v1 : Int32) (v2 : Int32) (X : Mm) : Option (Unit × Mm) :=
nm (v2 + (-8 : Int32)) fun v2_40 =>
k3 r0 v1 v2_40 X
def fX9_addBytes_L3 (n : Nat) : Nat → Nat → Int32 → Int32 → Mm → Option (Unit × Mm)
| 0, _, _, _, _ => none
| j + 1, r0, v1, v2, X =>
if v2 < 0 then (
some ((), X)
) else (
if mT X r0 = 9 then
if (700 : Int32) ≤ (mI X r0 1) then (
fX9_addBytes_L40 n (fX9_addBytes_L3 n j) r0 v1 v2 X
) else (
if mR X r0 0 ≠ 0 then
if mT X (mR X r0 0) = 16 then
if q_b X (mR X r0 0) (mI X r0 1) then
nm (sI X (mR X r0 0) ((mI X r0 1)).toNatClampNeg ((((q_ushr v1 v2)).toInt8.toInt32)).toInt8.toInt32) fun X29_3 =>
if mT X29_3 r0 = 9 then
nm (sI X29_3 r0 1 ((mI X29_3 r0 1) + (1 : Int32))) fun X37_7 =>
fX9_addBytes_L40 n (fX9_addBytes_L3 n j) r0 v1 v2 X37_7
else none
else none
else none
else none
)
else none
)
def fX9_addBytes (n : Nat) (r0 : Nat) (v1 : Int32) (X : Mm) : Option (Unit × Mm) :=
fX9_addBytes_L3 n n r0 v1 (24 : Int32) X
theorem gX9_addBytes_L40 {E : q_E} {X0 : Mm} (C : Cx E cX9_addBytes RX9 3 none (q_rm 0 0 0 0) X0) (n : Nat) (k3 : Nat → Int32 → Int32 → Mm → Option (Unit × Mm)) (hk3 : ∀ (r0 : Nat) (v1 : Int32) (v2 : Int32) (X : Mm), Sm E (q_fin E q_eV X0 0 0) 0 0 3 [(0, .ref (q_P E + r0)), (1, .int v1), (2, .int v2)] [] X (k3 r0 v1 v2 X)) (r0 : Nat) (v1 : Int32) (v2 : Int32) (X : Mm) : Sm E (q_fin E q_eV X0 0 0) 0 0 40 [(0, .ref (q_P E + r0)), (1, .int v1), (2, .int v2)] [] X (fX9_addBytes_L40 n k3 r0 v1 v2 X) := by
  unfold fX9_addBytes_L40
  refine q_iincN C (-8 : Int32) 2 (fun v2_40 => [(2, .int v2_40), (0, .ref (q_P E + r0)), (1, .int v1)]) dX9_addBytes_40 rfl rfl (Nat.le_of_ble_eq_true rfl) (fun _ => rfl) (fun v2_40 => ?_)
  refine q_goto C 3 dX9_addBytes_43 (by decide) ?_
  refine q_sub C [(0, .ref (q_P E + r0)), (1, .int v1), (2, .int v2_40)] [1, 2, 0] rfl ?_
  exact hk3 r0 v1 v2_40 X
theorem gX9_addBytes_L3 {E : q_E} {X0 : Mm} (C : Cx E cX9_addBytes RX9 3 none (q_rm 0 0 0 0) X0) (n : Nat) : ∀ (j : Nat) (r0 : Nat) (v1 : Int32) (v2 : Int32) (X : Mm), Sm E (q_fin E q_eV X0 0 0) 0 0 3 [(0, .ref (q_P E + r0)), (1, .int v1), (2, .int v2)] [] X (fX9_addBytes_L3 n j r0 v1 v2 X) := by
  intro j
  induction j with
  | zero => intros; exact Sm.none
  | succ j ih =>
    intro r0 v1 v2 X
    rw [fX9_addBytes_L3]
    refine q_iload_n C 2 dX9_addBytes_3 rfl rfl ?_
    refine q_if_lt C 46 dX9_addBytes_4 (by decide) (fun _ => ?_) (fun _ => ?_)
    · exact q_vret C dX9_addBytes_46
    · refine q_aload_n C 0 dX9_addBytes_7 rfl rfl ?_
      refine q_chk (fun h1 => ?_)
      refine p_getI C fgX9_29 rfl dX9_addBytes_8 h1 ?_
      refine q_sipush C (700 : Int32) dX9_addBytes_11 rfl ?_
      refine q_icmp_ge C 40 dX9_addBytes_14 (by decide) (fun _ => ?_) (fun _ => ?_)
      · exact gX9_addBytes_L40 C n (fX9_addBytes_L3 n j) ih r0 v1 v2 X
      · refine q_aload_n C 0 dX9_addBytes_17 rfl rfl ?_
        refine q_chk (fun h2 => ?_)
        refine p_getR C fgX9_9 rfl dX9_addBytes_18 h1 h2 ?_
        refine q_aload_n C 0 dX9_addBytes_21 rfl rfl ?_
        refine p_getI C fgX9_29 rfl dX9_addBytes_22 h1 ?_
        refine q_iload_n C 1 dX9_addBytes_25 rfl rfl ?_
        refine q_iload_n C 2 dX9_addBytes_26 rfl rfl ?_
        refine q_iushr C dX9_addBytes_27 ?_
        refine q_i2b C dX9_addBytes_28 ?_
        refine q_chk (fun h4 => ?_)
        refine q_chk (fun h5 => ?_)
        refine p_bast C dX9_addBytes_29 h4 h5 ?_
        refine q_nmX (fun X29_3 => ?_)
        refine q_aload_n C 0 dX9_addBytes_30 rfl rfl ?_
        refine q_dup C dX9_addBytes_31 rfl ?_
        refine q_chk (fun h6 => ?_)
        refine p_getI C fgX9_29 rfl dX9_addBytes_32 h6 ?_
        refine q_iconst C (1 : Int32) dX9_addBytes_35 rfl ?_
        refine q_iadd C dX9_addBytes_36 ?_
        refine p_putI C fpX9_29 rfl dX9_addBytes_37 h6 ?_
        refine q_nmX (fun X37_7 => ?_)
        exact gX9_addBytes_L40 C n (fX9_addBytes_L3 n j) ih r0 v1 v2 X37_7
theorem sX9_addBytes (n : Nat) (r0 : Nat) (v1 : Int32) : q_Ct yX9_addBytes cX9_addBytes 3 none 0 0 0 0 q_eV (fun P => [.ref (P + r0), .int v1]) (fX9_addBytes n r0 v1) := by
  refine q_meth (by decide +kernel) (fun P => Nat.le_of_ble_eq_true rfl) (fun E X C hn => ?_)
  show Sm E (q_fin E q_eV X 0 0) 0 0 0 [(0, .ref (q_P E + r0)), (1, .int v1)] [] X _
  unfold fX9_addBytes
  refine q_bipush C (24 : Int32) dX9_addBytes_0 rfl ?_
  refine q_istore_n C [(2, .int (24 : Int32)), (0, .ref (q_P E + r0)), (1, .int v1)] dX9_addBytes_2 rfl (Nat.le_of_ble_eq_true rfl) rfl ?_
  refine q_sub C [(0, .ref (q_P E + r0)), (1, .int v1), (2, .int (24 : Int32))] [1, 2, 0] rfl ?_
  exact gX9_addBytes_L3 C n n r0 v1 (24 : Int32) X
/-! RecordClaims$Tape.nameAlone()I -/
abbrev cX9_nameAlone : ByteArray := prog_11_method_24_code
def yX9_nameAlone : MethodName := ⟨RX9, "nameAlone", "()I"⟩
theorem dX9_nameAlone_0 : decode cX9_nameAlone 0 = .ok (.aload_n 0, 1) := by decide +kernel
theorem dX9_nameAlone_1 : decode cX9_nameAlone 1 = .ok (.invokevirtual 32, 3) := by decide +kernel
theorem dX9_nameAlone_4 : decode cX9_nameAlone 4 = .ok (.aload_n 0, 1) := by decide +kernel
theorem dX9_nameAlone_5 : decode cX9_nameAlone 5 = .ok (.getfield 15, 3) := by decide +kernel
theorem dX9_nameAlone_8 : decode cX9_nameAlone 8 = .ok (.iconst 0, 1) := by decide +kernel
theorem dX9_nameAlone_9 : decode cX9_nameAlone 9 = .ok (.iaload, 1) := by decide +kernel
theorem dX9_nameAlone_10 : decode cX9_nameAlone 10 = .ok (.iconst 2, 1) := by decide +kernel
theorem dX9_nameAlone_11 : decode cX9_nameAlone 11 = .ok (.if_icmp .ne 21, 3) := by decide +kernel
theorem dX9_nameAlone_14 : decode cX9_nameAlone 14 = .ok (.aload_n 0, 1) := by decide +kernel
theorem dX9_nameAlone_15 : decode cX9_nameAlone 15 = .ok (.getfield 15, 3) := by decide +kernel
theorem dX9_nameAlone_18 : decode cX9_nameAlone 18 = .ok (.iconst 1, 1) := by decide +kernel
theorem dX9_nameAlone_19 : decode cX9_nameAlone 19 = .ok (.iaload, 1) := by decide +kernel
theorem dX9_nameAlone_20 : decode cX9_nameAlone 20 = .ok (.ifCond .ne 12, 3) := by decide +kernel
theorem dX9_nameAlone_23 : decode cX9_nameAlone 23 = .ok (.aload_n 0, 1) := by decide +kernel
theorem dX9_nameAlone_24 : decode cX9_nameAlone 24 = .ok (.getfield 22, 3) := by decide +kernel
theorem dX9_nameAlone_27 : decode cX9_nameAlone 27 = .ok (.iconst 0, 1) := by decide +kernel
theorem dX9_nameAlone_28 : decode cX9_nameAlone 28 = .ok (.iaload, 1) := by decide +kernel
theorem dX9_nameAlone_29 : decode cX9_nameAlone 29 = .ok (.goto 4, 3) := by decide +kernel
theorem dX9_nameAlone_32 : decode cX9_nameAlone 32 = .ok (.iconst (-1), 1) := by decide +kernel
theorem dX9_nameAlone_33 : decode cX9_nameAlone 33 = .ok (.ireturn, 1) := by decide +kernel
def fX9_nameAlone_L32 (n : Nat) (X : Mm) : Option (Int32 × Mm) :=
some ((-1 : Int32), X)
def fX9_nameAlone (n : Nat) (r0 : Nat) (X : Mm) : Option (Int32 × Mm) :=
if mT X r0 = 9 then
bd (fX9_scanAll n r0 X) fun _ X1_2 =>
if mT X1_2 r0 = 9 then
if mR X1_2 r0 2 ≠ 0 then
if mT X1_2 (mR X1_2 r0 2) = 14 then
if q_b X1_2 (mR X1_2 r0 2) (0 : Int32) then
if (mI X1_2 (mR X1_2 r0 2) ((0 : Int32)).toNatClampNeg) = (2 : Int32) then (
if q_b X1_2 (mR X1_2 r0 2) (1 : Int32) then
if (mI X1_2 (mR X1_2 r0 2) ((1 : Int32)).toNatClampNeg) = 0 then (
if mR X1_2 r0 4 ≠ 0 then
if mT X1_2 (mR X1_2 r0 4) = 14 then
if q_b X1_2 (mR X1_2 r0 4) (0 : Int32) then
some ((mI X1_2 (mR X1_2 r0 4) ((0 : Int32)).toNatClampNeg), X1_2)
else none
else none
else none
) else (
fX9_nameAlone_L32 n X1_2
)
else none
) else (
fX9_nameAlone_L32 n X1_2
)
else none
else none
else none
else none
else none
theorem gX9_nameAlone_L32 {E : q_E} {X0 : Mm} (C : Cx E cX9_nameAlone RX9 1 (some .int) (q_rm 10 213 0 0) X0) (n : Nat) (X : Mm) : Sm E (q_fin E q_eI X0 0 0) 0 0 32 [] [] X (fX9_nameAlone_L32 n  X) := by
  unfold fX9_nameAlone_L32
  refine q_iconst C (-1 : Int32) dX9_nameAlone_32 rfl ?_
  exact q_iret C dX9_nameAlone_33
theorem sX9_nameAlone (n : Nat) (r0 : Nat) : q_Ct yX9_nameAlone cX9_nameAlone 1 (some .int) 10 213 0 0 q_eI (fun P => [.ref (P + r0)]) (fX9_nameAlone n r0) := by
  refine q_meth (by decide +kernel) (fun P => Nat.le_of_ble_eq_true rfl) (fun E X C hn => ?_)
  show Sm E (q_fin E q_eI X 0 0) 0 0 0 [(0, .ref (q_P E + r0))] [] X _
  unfold fX9_nameAlone
  refine q_aload_n C 0 dX9_nameAlone_0 rfl rfl ?_
  refine q_chk (fun h3 => ?_)
  refine q_cVV (As := (fun P => [])) C [] (sX9_scanAll n r0) fcX9_32 rfl (fun _ => rfl) ⟨Nat.le_of_ble_eq_true rfl, Nat.le_of_ble_eq_true rfl⟩ ⟨Nat.le_of_ble_eq_true rfl, Nat.le_of_ble_eq_true rfl⟩ (Nat.le_of_ble_eq_true rfl) dX9_nameAlone_1 h3 (fun _ X1_2 => ?_)
  refine q_aload_n C 0 dX9_nameAlone_4 rfl rfl ?_
  refine q_chk (fun h4 => ?_)
  refine q_chk (fun h5 => ?_)
  refine p_getR C fgX9_15 rfl dX9_nameAlone_5 h4 h5 ?_
  refine q_iconst C (0 : Int32) dX9_nameAlone_8 rfl ?_
  refine q_chk (fun h6 => ?_)
  refine q_chk (fun h7 => ?_)
  refine p_iald C dX9_nameAlone_9 h6 h7 ?_
  refine q_iconst C (2 : Int32) dX9_nameAlone_10 rfl ?_
  refine q_icmp_ne C 32 dX9_nameAlone_11 (by decide) (fun _ => ?_) (fun _ => ?_)
  · refine q_aload_n C 0 dX9_nameAlone_14 rfl rfl ?_
    refine p_getR C fgX9_15 rfl dX9_nameAlone_15 h4 h5 ?_
    refine q_iconst C (1 : Int32) dX9_nameAlone_18 rfl ?_
    refine q_chk (fun h8 => ?_)
    refine p_iald C dX9_nameAlone_19 h6 h8 ?_
    refine q_if_ne C 32 dX9_nameAlone_20 (by decide) (fun _ => ?_) (fun _ => ?_)
    · refine q_aload_n C 0 dX9_nameAlone_23 rfl rfl ?_
      refine q_chk (fun h9 => ?_)
      refine p_getR C fgX9_22 rfl dX9_nameAlone_24 h4 h9 ?_
      refine q_iconst C (0 : Int32) dX9_nameAlone_27 rfl ?_
      refine q_chk (fun h10 => ?_)
      refine q_chk (fun h11 => ?_)
      refine p_iald C dX9_nameAlone_28 h10 h11 ?_
      refine q_goto C 33 dX9_nameAlone_29 (by decide) ?_
      exact q_iret C dX9_nameAlone_33
    · refine q_sub C [] [] rfl ?_
      exact gX9_nameAlone_L32 C n X1_2
  · refine q_sub C [] [] rfl ?_
    exact gX9_nameAlone_L32 C n X1_2
