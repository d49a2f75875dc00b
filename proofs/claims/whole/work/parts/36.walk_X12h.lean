/-! RecordClaimsModel.putsName(J)V -/
abbrev cX12_putsName : ByteArray := prog_14_method_107_code
def yX12_putsName : MethodName := ⟨RX12, "putsName", "(J)V"⟩
theorem dX12_putsName_0 : decode cX12_putsName 0 = .ok (.lconst 1, 1) := by decide +kernel
theorem dX12_putsName_1 : decode cX12_putsName 1 = .ok (.lstore_n 3, 1) := by decide +kernel
theorem dX12_putsName_2 : decode cX12_putsName 2 = .ok (.lload_n 1, 1) := by decide +kernel
theorem dX12_putsName_3 : decode cX12_putsName 3 = .ok (.lload_n 3, 1) := by decide +kernel
theorem dX12_putsName_4 : decode cX12_putsName 4 = .ok (.ldiv, 1) := by decide +kernel
theorem dX12_putsName_5 : decode cX12_putsName 5 = .ok (.ldc2_w 266, 3) := by decide +kernel
theorem dX12_putsName_8 : decode cX12_putsName 8 = .ok (.lcmp, 1) := by decide +kernel
theorem dX12_putsName_9 : decode cX12_putsName 9 = .ok (.ifCond .lt 12, 3) := by decide +kernel
theorem dX12_putsName_12 : decode cX12_putsName 12 = .ok (.lload_n 3, 1) := by decide +kernel
theorem dX12_putsName_13 : decode cX12_putsName 13 = .ok (.ldc2_w 266, 3) := by decide +kernel
theorem dX12_putsName_16 : decode cX12_putsName 16 = .ok (.lmul, 1) := by decide +kernel
theorem dX12_putsName_17 : decode cX12_putsName 17 = .ok (.lstore_n 3, 1) := by decide +kernel
theorem dX12_putsName_18 : decode cX12_putsName 18 = .ok (.goto (-16), 3) := by decide +kernel
theorem dX12_putsName_21 : decode cX12_putsName 21 = .ok (.lload_n 1, 1) := by decide +kernel
theorem dX12_putsName_22 : decode cX12_putsName 22 = .ok (.lstore 5, 2) := by decide +kernel
theorem dX12_putsName_24 : decode cX12_putsName 24 = .ok (.lload_n 3, 1) := by decide +kernel
theorem dX12_putsName_25 : decode cX12_putsName 25 = .ok (.lconst 0, 1) := by decide +kernel
theorem dX12_putsName_26 : decode cX12_putsName 26 = .ok (.lcmp, 1) := by decide +kernel
theorem dX12_putsName_27 : decode cX12_putsName 27 = .ok (.ifCond .le 30, 3) := by decide +kernel
theorem dX12_putsName_30 : decode cX12_putsName 30 = .ok (.aload_n 0, 1) := by decide +kernel
theorem dX12_putsName_31 : decode cX12_putsName 31 = .ok (.bipush 96, 2) := by decide +kernel
theorem dX12_putsName_33 : decode cX12_putsName 33 = .ok (.lload 5, 2) := by decide +kernel
theorem dX12_putsName_35 : decode cX12_putsName 35 = .ok (.lload_n 3, 1) := by decide +kernel
theorem dX12_putsName_36 : decode cX12_putsName 36 = .ok (.ldiv, 1) := by decide +kernel
theorem dX12_putsName_37 : decode cX12_putsName 37 = .ok (.l2i, 1) := by decide +kernel
theorem dX12_putsName_38 : decode cX12_putsName 38 = .ok (.iadd, 1) := by decide +kernel
theorem dX12_putsName_39 : decode cX12_putsName 39 = .ok (.invokevirtual 417, 3) := by decide +kernel
theorem dX12_putsName_42 : decode cX12_putsName 42 = .ok (.lload 5, 2) := by decide +kernel
theorem dX12_putsName_44 : decode cX12_putsName 44 = .ok (.lload_n 3, 1) := by decide +kernel
theorem dX12_putsName_45 : decode cX12_putsName 45 = .ok (.lrem, 1) := by decide +kernel
theorem dX12_putsName_46 : decode cX12_putsName 46 = .ok (.lstore 5, 2) := by decide +kernel
theorem dX12_putsName_48 : decode cX12_putsName 48 = .ok (.lload_n 3, 1) := by decide +kernel
theorem dX12_putsName_49 : decode cX12_putsName 49 = .ok (.ldc2_w 266, 3) := by decide +kernel
theorem dX12_putsName_52 : decode cX12_putsName 52 = .ok (.ldiv, 1) := by decide +kernel
theorem dX12_putsName_53 : decode cX12_putsName 53 = .ok (.lstore_n 3, 1) := by decide +kernel
theorem dX12_putsName_54 : decode cX12_putsName 54 = .ok (.goto (-30), 3) := by decide +kernel
theorem dX12_putsName_57 : decode cX12_putsName 57 = .ok (.return_, 1) := by decide +kernel
theorem fcX12_417 : q_LV RX12 417 yX12_puts cX12_puts 2 none 1 12 := ⟨q_tb 1799 (by decide +kernel) rfl, q_tb 1801 (by decide +kernel) rfl, q_tbs (q := (yX12_puts, 35)) 126 (by decide +kernel) rfl, q_tb 13 (by decide +kernel) rfl, q_tb 1802 (by decide +kernel) rfl, ⟨by decide +kernel, by decide +kernel, by decide +kernel⟩, TX12, 35, rfl⟩
def fX12_putsName_L24 (n : Nat) : Nat → Nat → Int64 → Int64 → Mm → Option (Unit × Mm)
| 0, _, _, _, _ => none
| j + 1, r0, v3, v5, X =>
if (lg_cmp v3 (0 : Int64)) ≤ 0 then (
some ((), X)
) else (
if v3 = 0 then none else
if mT X r0 = 12 then
bd (fX12_puts r0 (((96 : Int32) + (((v5 / v3)).toInt32))) X) fun _ X39_2 =>
if v3 = 0 then none else
nm ((v5 - v5 / v3 * v3)) fun v5_46 =>
if (27 : Int64) = 0 then none else
nm ((v3 / (27 : Int64))) fun v3_53 =>
(fX12_putsName_L24 n j) r0 v3_53 v5_46 X39_2
else none
)
def fX12_putsName_L2 (n : Nat) : Nat → Nat → Int64 → Int64 → Mm → Option (Unit × Mm)
| 0, _, _, _, _ => none
| j + 1, r0, v1, v3, X =>
if v3 = 0 then none else
if (lg_cmp (v1 / v3) (27 : Int64)) < 0 then (
fX12_putsName_L24 n n r0 v3 v1 X
) else (
nm ((v3 * (27 : Int64))) fun v3_17 =>
(fX12_putsName_L2 n j) r0 v1 v3_17 X
)
def fX12_putsName (n : Nat) (r0 : Nat) (v1 : Int64) (X : Mm) : Option (Unit × Mm) :=
fX12_putsName_L2 n n r0 v1 (1 : Int64) X
theorem gX12_putsName_L24 {E : q_E} {X0 : Mm} (C : Cx E cX12_putsName RX12 7 none (q_rm 1 21 0 0) X0) (n : Nat) : ∀ (j : Nat) (r0 : Nat) (v3 : Int64) (v5 : Int64) (X : Mm), Sm E (q_fin E q_eV X0 0 0) 0 0 24 [(0, .ref (q_P E + r0)), (3, .long v3), (5, .long v5)] [] X (fX12_putsName_L24 n j r0 v3 v5 X) := by
  intro j
  induction j with
  | zero => intros; exact Sm.none
  | succ j ih =>
    intro r0 v3 v5 X
    rw [fX12_putsName_L24]
    refine q_lload_n C 1 dX12_putsName_24 rfl rfl ?_
    refine q_lconst C (0 : Int64) dX12_putsName_25 rfl ?_
    refine q_lcmp C dX12_putsName_26 ?_
    refine q_if_le C 57 dX12_putsName_27 (by decide) (fun _ => ?_) (fun _ => ?_)
    · exact q_vret C dX12_putsName_57
    · refine q_aload_n C 0 dX12_putsName_30 rfl rfl ?_
      refine q_bipush C (96 : Int32) dX12_putsName_31 rfl ?_
      refine q_lload C 2 dX12_putsName_33 rfl ?_
      refine q_lload_n C 1 dX12_putsName_35 rfl rfl ?_
      refine q_ldiv C dX12_putsName_36 ?_
      refine q_l2i C dX12_putsName_37 ?_
      refine q_iadd C dX12_putsName_38 ?_
      refine q_chk (fun h3 => ?_)
      refine q_cVV (As := (fun P => [.int ((96 : Int32) + (((v5 / v3)).toInt32))])) C [] (sX12_puts r0 (((96 : Int32) + (((v5 / v3)).toInt32)))) fcX12_417 rfl (fun _ => rfl) ⟨Nat.le_of_ble_eq_true rfl, Nat.le_of_ble_eq_true rfl⟩ ⟨Nat.le_of_ble_eq_true rfl, Nat.le_of_ble_eq_true rfl⟩ (Nat.le_of_ble_eq_true rfl) dX12_putsName_39 h3 (fun _ X39_2 => ?_)
      refine q_lload C 2 dX12_putsName_42 rfl ?_
      refine q_lload_n C 1 dX12_putsName_44 rfl rfl ?_
      refine q_lrem C dX12_putsName_45 ?_
      refine q_nml (fun v5_46 => ?_)
      refine q_lstore C [(5, .long v5_46), (0, .ref (q_P E + r0)), (3, .long v3)] dX12_putsName_46 (Nat.le_of_ble_eq_true rfl) rfl ?_
      refine q_lload_n C 2 dX12_putsName_48 rfl rfl ?_
      refine q_ldc2 C dX12_putsName_49 fkX12_266 ?_
      refine q_ldiv C dX12_putsName_52 ?_
      refine q_nml (fun v3_53 => ?_)
      refine q_lstore_n C [(3, .long v3_53), (5, .long v5_46), (0, .ref (q_P E + r0))] dX12_putsName_53 rfl (Nat.le_of_ble_eq_true rfl) rfl ?_
      refine q_goto C 24 dX12_putsName_54 (by decide) ?_
      refine q_sub C [(0, .ref (q_P E + r0)), (3, .long v3_53), (5, .long v5_46)] [2, 0, 1] rfl ?_
      exact ih r0 v3_53 v5_46 X39_2
theorem gX12_putsName_L2 {E : q_E} {X0 : Mm} (C : Cx E cX12_putsName RX12 7 none (q_rm 1 21 0 0) X0) (n : Nat) : ∀ (j : Nat) (r0 : Nat) (v1 : Int64) (v3 : Int64) (X : Mm), Sm E (q_fin E q_eV X0 0 0) 0 0 2 [(0, .ref (q_P E + r0)), (1, .long v1), (3, .long v3)] [] X (fX12_putsName_L2 n j r0 v1 v3 X) := by
  intro j
  induction j with
  | zero => intros; exact Sm.none
  | succ j ih =>
    intro r0 v1 v3 X
    rw [fX12_putsName_L2]
    refine q_lload_n C 1 dX12_putsName_2 rfl rfl ?_
    refine q_lload_n C 2 dX12_putsName_3 rfl rfl ?_
    refine q_ldiv C dX12_putsName_4 ?_
    refine q_ldc2 C dX12_putsName_5 fkX12_266 ?_
    refine q_lcmp C dX12_putsName_8 ?_
    refine q_if_lt C 21 dX12_putsName_9 (by decide) (fun _ => ?_) (fun _ => ?_)
    · refine q_lload_n C 1 dX12_putsName_21 rfl rfl ?_
      refine q_lstore C [(5, .long v1), (0, .ref (q_P E + r0)), (1, .long v1), (3, .long v3)] dX12_putsName_22 (Nat.le_of_ble_eq_true rfl) rfl ?_
      refine q_sub C [(0, .ref (q_P E + r0)), (3, .long v3), (5, .long v1)] [1, 3, 0] rfl ?_
      exact gX12_putsName_L24 C n n r0 v3 v1 X
    · refine q_lload_n C 2 dX12_putsName_12 rfl rfl ?_
      refine q_ldc2 C dX12_putsName_13 fkX12_266 ?_
      refine q_lmul C dX12_putsName_16 ?_
      refine q_nml (fun v3_17 => ?_)
      refine q_lstore_n C [(3, .long v3_17), (0, .ref (q_P E + r0)), (1, .long v1)] dX12_putsName_17 rfl (Nat.le_of_ble_eq_true rfl) rfl ?_
      refine q_goto C 2 dX12_putsName_18 (by decide) ?_
      refine q_sub C [(0, .ref (q_P E + r0)), (1, .long v1), (3, .long v3_17)] [1, 2, 0] rfl ?_
      exact ih r0 v1 v3_17 X
theorem sX12_putsName (n : Nat) (r0 : Nat) (v1 : Int64) : q_Ct yX12_putsName cX12_putsName 7 none 1 21 0 0 q_eV (fun P => [.ref (P + r0), .long v1]) (fX12_putsName n r0 v1) := by
  refine q_meth (by decide +kernel) (fun P => Nat.le_of_ble_eq_true rfl) (fun E X C hn => ?_)
  show Sm E (q_fin E q_eV X 0 0) 0 0 0 [(0, .ref (q_P E + r0)), (1, .long v1)] [] X _
  unfold fX12_putsName
  refine q_lconst C (1 : Int64) dX12_putsName_0 rfl ?_
  refine q_lstore_n C [(3, .long (1 : Int64)), (0, .ref (q_P E + r0)), (1, .long v1)] dX12_putsName_1 rfl (Nat.le_of_ble_eq_true rfl) rfl ?_
  refine q_sub C [(0, .ref (q_P E + r0)), (1, .long v1), (3, .long (1 : Int64))] [1, 2, 0] rfl ?_
  exact gX12_putsName_L2 C n n r0 v1 (1 : Int64) X
/-! RecordClaimsModel.putsNumber(J)V -/
abbrev cX12_putsNumber : ByteArray := prog_14_method_108_code
def yX12_putsNumber : MethodName := ⟨RX12, "putsNumber", "(J)V"⟩
theorem dX12_putsNumber_0 : decode cX12_putsNumber 0 = .ok (.lload_n 1, 1) := by decide +kernel
theorem dX12_putsNumber_1 : decode cX12_putsNumber 1 = .ok (.lconst 0, 1) := by decide +kernel
theorem dX12_putsNumber_2 : decode cX12_putsNumber 2 = .ok (.lcmp, 1) := by decide +kernel
theorem dX12_putsNumber_3 : decode cX12_putsNumber 3 = .ok (.ifCond .ge 9, 3) := by decide +kernel
theorem dX12_putsNumber_6 : decode cX12_putsNumber 6 = .ok (.aload_n 0, 1) := by decide +kernel
theorem dX12_putsNumber_7 : decode cX12_putsNumber 7 = .ok (.bipush 45, 2) := by decide +kernel
theorem dX12_putsNumber_9 : decode cX12_putsNumber 9 = .ok (.invokevirtual 417, 3) := by decide +kernel
theorem dX12_putsNumber_12 : decode cX12_putsNumber 12 = .ok (.lload_n 1, 1) := by decide +kernel
theorem dX12_putsNumber_13 : decode cX12_putsNumber 13 = .ok (.lconst 0, 1) := by decide +kernel
theorem dX12_putsNumber_14 : decode cX12_putsNumber 14 = .ok (.lcmp, 1) := by decide +kernel
theorem dX12_putsNumber_15 : decode cX12_putsNumber 15 = .ok (.ifCond .ge 8, 3) := by decide +kernel
theorem dX12_putsNumber_18 : decode cX12_putsNumber 18 = .ok (.lload_n 1, 1) := by decide +kernel
theorem dX12_putsNumber_19 : decode cX12_putsNumber 19 = .ok (.lneg, 1) := by decide +kernel
theorem dX12_putsNumber_20 : decode cX12_putsNumber 20 = .ok (.goto 4, 3) := by decide +kernel
theorem dX12_putsNumber_23 : decode cX12_putsNumber 23 = .ok (.lload_n 1, 1) := by decide +kernel
theorem dX12_putsNumber_24 : decode cX12_putsNumber 24 = .ok (.lstore_n 3, 1) := by decide +kernel
theorem dX12_putsNumber_25 : decode cX12_putsNumber 25 = .ok (.lconst 1, 1) := by decide +kernel
theorem dX12_putsNumber_26 : decode cX12_putsNumber 26 = .ok (.lstore 5, 2) := by decide +kernel
theorem dX12_putsNumber_28 : decode cX12_putsNumber 28 = .ok (.lload_n 3, 1) := by decide +kernel
theorem dX12_putsNumber_29 : decode cX12_putsNumber 29 = .ok (.lload 5, 2) := by decide +kernel
theorem dX12_putsNumber_31 : decode cX12_putsNumber 31 = .ok (.ldiv, 1) := by decide +kernel
theorem dX12_putsNumber_32 : decode cX12_putsNumber 32 = .ok (.ldc2_w 420, 3) := by decide +kernel
theorem dX12_putsNumber_35 : decode cX12_putsNumber 35 = .ok (.lcmp, 1) := by decide +kernel
theorem dX12_putsNumber_36 : decode cX12_putsNumber 36 = .ok (.ifCond .lt 14, 3) := by decide +kernel
theorem dX12_putsNumber_39 : decode cX12_putsNumber 39 = .ok (.lload 5, 2) := by decide +kernel
theorem dX12_putsNumber_41 : decode cX12_putsNumber 41 = .ok (.ldc2_w 420, 3) := by decide +kernel
theorem dX12_putsNumber_44 : decode cX12_putsNumber 44 = .ok (.lmul, 1) := by decide +kernel
theorem dX12_putsNumber_45 : decode cX12_putsNumber 45 = .ok (.lstore 5, 2) := by decide +kernel
theorem dX12_putsNumber_47 : decode cX12_putsNumber 47 = .ok (.goto (-19), 3) := by decide +kernel
theorem dX12_putsNumber_50 : decode cX12_putsNumber 50 = .ok (.lload 5, 2) := by decide +kernel
theorem dX12_putsNumber_52 : decode cX12_putsNumber 52 = .ok (.lconst 0, 1) := by decide +kernel
theorem dX12_putsNumber_53 : decode cX12_putsNumber 53 = .ok (.lcmp, 1) := by decide +kernel
theorem dX12_putsNumber_54 : decode cX12_putsNumber 54 = .ok (.ifCond .le 30, 3) := by decide +kernel
theorem dX12_putsNumber_57 : decode cX12_putsNumber 57 = .ok (.aload_n 0, 1) := by decide +kernel
theorem dX12_putsNumber_58 : decode cX12_putsNumber 58 = .ok (.bipush 48, 2) := by decide +kernel
theorem dX12_putsNumber_60 : decode cX12_putsNumber 60 = .ok (.lload_n 3, 1) := by decide +kernel
theorem dX12_putsNumber_61 : decode cX12_putsNumber 61 = .ok (.lload 5, 2) := by decide +kernel
theorem dX12_putsNumber_63 : decode cX12_putsNumber 63 = .ok (.ldiv, 1) := by decide +kernel
theorem dX12_putsNumber_64 : decode cX12_putsNumber 64 = .ok (.ldc2_w 420, 3) := by decide +kernel
theorem dX12_putsNumber_67 : decode cX12_putsNumber 67 = .ok (.lrem, 1) := by decide +kernel
theorem dX12_putsNumber_68 : decode cX12_putsNumber 68 = .ok (.l2i, 1) := by decide +kernel
theorem dX12_putsNumber_69 : decode cX12_putsNumber 69 = .ok (.iadd, 1) := by decide +kernel
theorem dX12_putsNumber_70 : decode cX12_putsNumber 70 = .ok (.invokevirtual 417, 3) := by decide +kernel
theorem dX12_putsNumber_73 : decode cX12_putsNumber 73 = .ok (.lload 5, 2) := by decide +kernel
theorem dX12_putsNumber_75 : decode cX12_putsNumber 75 = .ok (.ldc2_w 420, 3) := by decide +kernel
theorem dX12_putsNumber_78 : decode cX12_putsNumber 78 = .ok (.ldiv, 1) := by decide +kernel
theorem dX12_putsNumber_79 : decode cX12_putsNumber 79 = .ok (.lstore 5, 2) := by decide +kernel
theorem dX12_putsNumber_81 : decode cX12_putsNumber 81 = .ok (.goto (-31), 3) := by decide +kernel
theorem dX12_putsNumber_84 : decode cX12_putsNumber 84 = .ok (.return_, 1) := by decide +kernel
theorem fkX12_420 : Cond.constantLong RX12 420 (10 : Int64) ∈ q_tbl := q_tb 1807 (by decide +kernel) rfl
def fX12_putsNumber_L50 (n : Nat) : Nat → Nat → Int64 → Int64 → Mm → Option (Unit × Mm)
| 0, _, _, _, _ => none
| j + 1, r0, v3, v5, X =>
if (lg_cmp v5 (0 : Int64)) ≤ 0 then (
some ((), X)
) else (
if v5 = 0 then none else
if (10 : Int64) = 0 then none else
if mT X r0 = 12 then
bd (fX12_puts r0 (((48 : Int32) + ((((v3 / v5) - (v3 / v5) / (10 : Int64) * (10 : Int64))).toInt32))) X) fun _ X70_2 =>
if (10 : Int64) = 0 then none else
nm ((v5 / (10 : Int64))) fun v5_79 =>
(fX12_putsNumber_L50 n j) r0 v3 v5_79 X70_2
else none
)
def fX12_putsNumber_L28 (n : Nat) : Nat → Nat → Int64 → Int64 → Mm → Option (Unit × Mm)
| 0, _, _, _, _ => none
| j + 1, r0, v3, v5, X =>
if v5 = 0 then none else
if (lg_cmp (v3 / v5) (10 : Int64)) < 0 then (
fX12_putsNumber_L50 n n r0 v3 v5 X
) else (
nm ((v5 * (10 : Int64))) fun v5_45 =>
(fX12_putsNumber_L28 n j) r0 v3 v5_45 X
)
def fX12_putsNumber_L24 (n : Nat) (r0 : Nat) (s0 : Int64) (X : Mm) : Option (Unit × Mm) :=
fX12_putsNumber_L28 n n r0 s0 (1 : Int64) X
def fX12_putsNumber_L12 (n : Nat) (r0 : Nat) (v1 : Int64) (X : Mm) : Option (Unit × Mm) :=
if 0 ≤ (lg_cmp v1 (0 : Int64)) then (
fX12_putsNumber_L24 n r0 v1 X
) else (
fX12_putsNumber_L24 n r0 ((-v1)) X
)
def fX12_putsNumber (n : Nat) (r0 : Nat) (v1 : Int64) (X : Mm) : Option (Unit × Mm) :=
if 0 ≤ (lg_cmp v1 (0 : Int64)) then (
fX12_putsNumber_L12 n r0 v1 X
) else (
if mT X r0 = 12 then
bd (fX12_puts r0 (45 : Int32) X) fun _ X9_7 =>
fX12_putsNumber_L12 n r0 v1 X9_7
else none
)
theorem gX12_putsNumber_L50 {E : q_E} {X0 : Mm} (C : Cx E cX12_putsNumber RX12 7 none (q_rm 1 21 0 0) X0) (n : Nat) : ∀ (j : Nat) (r0 : Nat) (v3 : Int64) (v5 : Int64) (X : Mm), Sm E (q_fin E q_eV X0 0 0) 0 0 50 [(0, .ref (q_P E + r0)), (3, .long v3), (5, .long v5)] [] X (fX12_putsNumber_L50 n j r0 v3 v5 X) := by
  intro j
  induction j with
  | zero => intros; exact Sm.none
  | succ j ih =>
    intro r0 v3 v5 X
    rw [fX12_putsNumber_L50]
    refine q_lload C 2 dX12_putsNumber_50 rfl ?_
    refine q_lconst C (0 : Int64) dX12_putsNumber_52 rfl ?_
    refine q_lcmp C dX12_putsNumber_53 ?_
    refine q_if_le C 84 dX12_putsNumber_54 (by decide) (fun _ => ?_) (fun _ => ?_)
    · exact q_vret C dX12_putsNumber_84
    · refine q_aload_n C 0 dX12_putsNumber_57 rfl rfl ?_
      refine q_bipush C (48 : Int32) dX12_putsNumber_58 rfl ?_
      refine q_lload_n C 1 dX12_putsNumber_60 rfl rfl ?_
      refine q_lload C 2 dX12_putsNumber_61 rfl ?_
      refine q_ldiv C dX12_putsNumber_63 ?_
      refine q_ldc2 C dX12_putsNumber_64 fkX12_420 ?_
      refine q_lrem C dX12_putsNumber_67 ?_
      refine q_l2i C dX12_putsNumber_68 ?_
      refine q_iadd C dX12_putsNumber_69 ?_
      refine q_chk (fun h3 => ?_)
      refine q_cVV (As := (fun P => [.int ((48 : Int32) + ((((v3 / v5) - (v3 / v5) / (10 : Int64) * (10 : Int64))).toInt32))])) C [] (sX12_puts r0 (((48 : Int32) + ((((v3 / v5) - (v3 / v5) / (10 : Int64) * (10 : Int64))).toInt32)))) fcX12_417 rfl (fun _ => rfl) ⟨Nat.le_of_ble_eq_true rfl, Nat.le_of_ble_eq_true rfl⟩ ⟨Nat.le_of_ble_eq_true rfl, Nat.le_of_ble_eq_true rfl⟩ (Nat.le_of_ble_eq_true rfl) dX12_putsNumber_70 h3 (fun _ X70_2 => ?_)
      refine q_lload C 2 dX12_putsNumber_73 rfl ?_
      refine q_ldc2 C dX12_putsNumber_75 fkX12_420 ?_
      refine q_ldiv C dX12_putsNumber_78 ?_
      refine q_nml (fun v5_79 => ?_)
      refine q_lstore C [(5, .long v5_79), (0, .ref (q_P E + r0)), (3, .long v3)] dX12_putsNumber_79 (Nat.le_of_ble_eq_true rfl) rfl ?_
      refine q_goto C 50 dX12_putsNumber_81 (by decide) ?_
      refine q_sub C [(0, .ref (q_P E + r0)), (3, .long v3), (5, .long v5_79)] [1, 2, 0] rfl ?_
      exact ih r0 v3 v5_79 X70_2
theorem gX12_putsNumber_L28 {E : q_E} {X0 : Mm} (C : Cx E cX12_putsNumber RX12 7 none (q_rm 1 21 0 0) X0) (n : Nat) : ∀ (j : Nat) (r0 : Nat) (v3 : Int64) (v5 : Int64) (X : Mm), Sm E (q_fin E q_eV X0 0 0) 0 0 28 [(0, .ref (q_P E + r0)), (3, .long v3), (5, .long v5)] [] X (fX12_putsNumber_L28 n j r0 v3 v5 X) := by
  intro j
  induction j with
  | zero => intros; exact Sm.none
  | succ j ih =>
    intro r0 v3 v5 X
    rw [fX12_putsNumber_L28]
    refine q_lload_n C 1 dX12_putsNumber_28 rfl rfl ?_
    refine q_lload C 2 dX12_putsNumber_29 rfl ?_
    refine q_ldiv C dX12_putsNumber_31 ?_
    refine q_ldc2 C dX12_putsNumber_32 fkX12_420 ?_
    refine q_lcmp C dX12_putsNumber_35 ?_
    refine q_if_lt C 50 dX12_putsNumber_36 (by decide) (fun _ => ?_) (fun _ => ?_)
    · exact gX12_putsNumber_L50 C n n r0 v3 v5 X
    · refine q_lload C 2 dX12_putsNumber_39 rfl ?_
      refine q_ldc2 C dX12_putsNumber_41 fkX12_420 ?_
      refine q_lmul C dX12_putsNumber_44 ?_
      refine q_nml (fun v5_45 => ?_)
      refine q_lstore C [(5, .long v5_45), (0, .ref (q_P E + r0)), (3, .long v3)] dX12_putsNumber_45 (Nat.le_of_ble_eq_true rfl) rfl ?_
      refine q_goto C 28 dX12_putsNumber_47 (by decide) ?_
      refine q_sub C [(0, .ref (q_P E + r0)), (3, .long v3), (5, .long v5_45)] [1, 2, 0] rfl ?_
      exact ih r0 v3 v5_45 X
theorem gX12_putsNumber_L24 {E : q_E} {X0 : Mm} (C : Cx E cX12_putsNumber RX12 7 none (q_rm 1 21 0 0) X0) (n : Nat) (r0 : Nat) (s0 : Int64) (X : Mm) : Sm E (q_fin E q_eV X0 0 0) 0 0 24 [(0, .ref (q_P E + r0))] [.long s0] X (fX12_putsNumber_L24 n r0 s0 X) := by
  unfold fX12_putsNumber_L24
  refine q_lstore_n C [(3, .long s0), (0, .ref (q_P E + r0))] dX12_putsNumber_24 rfl (Nat.le_of_ble_eq_true rfl) rfl ?_
  refine q_lconst C (1 : Int64) dX12_putsNumber_25 rfl ?_
  refine q_lstore C [(5, .long (1 : Int64)), (3, .long s0), (0, .ref (q_P E + r0))] dX12_putsNumber_26 (Nat.le_of_ble_eq_true rfl) rfl ?_
  refine q_sub C [(0, .ref (q_P E + r0)), (3, .long s0), (5, .long (1 : Int64))] [2, 1, 0] rfl ?_
  exact gX12_putsNumber_L28 C n n r0 s0 (1 : Int64) X
theorem gX12_putsNumber_L12 {E : q_E} {X0 : Mm} (C : Cx E cX12_putsNumber RX12 7 none (q_rm 1 21 0 0) X0) (n : Nat) (r0 : Nat) (v1 : Int64) (X : Mm) : Sm E (q_fin E q_eV X0 0 0) 0 0 12 [(0, .ref (q_P E + r0)), (1, .long v1)] [] X (fX12_putsNumber_L12 n r0 v1 X) := by
  unfold fX12_putsNumber_L12
  refine q_lload_n C 1 dX12_putsNumber_12 rfl rfl ?_
  refine q_lconst C (0 : Int64) dX12_putsNumber_13 rfl ?_
  refine q_lcmp C dX12_putsNumber_14 ?_
  refine q_if_ge C 23 dX12_putsNumber_15 (by decide) (fun _ => ?_) (fun _ => ?_)
  · refine q_lload_n C 1 dX12_putsNumber_23 rfl rfl ?_
    refine q_sub C [(0, .ref (q_P E + r0))] [0] rfl ?_
    exact gX12_putsNumber_L24 C n r0 v1 X
  · refine q_lload_n C 1 dX12_putsNumber_18 rfl rfl ?_
    refine q_lneg C dX12_putsNumber_19 ?_
    refine q_goto C 24 dX12_putsNumber_20 (by decide) ?_
    refine q_sub C [(0, .ref (q_P E + r0))] [0] rfl ?_
    exact gX12_putsNumber_L24 C n r0 ((-v1)) X
theorem sX12_putsNumber (n : Nat) (r0 : Nat) (v1 : Int64) : q_Ct yX12_putsNumber cX12_putsNumber 7 none 1 21 0 0 q_eV (fun P => [.ref (P + r0), .long v1]) (fX12_putsNumber n r0 v1) := by
  refine q_meth (by decide +kernel) (fun P => Nat.le_of_ble_eq_true rfl) (fun E X C hn => ?_)
  show Sm E (q_fin E q_eV X 0 0) 0 0 0 [(0, .ref (q_P E + r0)), (1, .long v1)] [] X _
  unfold fX12_putsNumber
  refine q_lload_n C 1 dX12_putsNumber_0 rfl rfl ?_
  refine q_lconst C (0 : Int64) dX12_putsNumber_1 rfl ?_
  refine q_lcmp C dX12_putsNumber_2 ?_
  refine q_if_ge C 12 dX12_putsNumber_3 (by decide) (fun _ => ?_) (fun _ => ?_)
  · exact gX12_putsNumber_L12 C n r0 v1 X
  · refine q_aload_n C 0 dX12_putsNumber_6 rfl rfl ?_
    refine q_bipush C (45 : Int32) dX12_putsNumber_7 rfl ?_
    refine q_chk (fun h8 => ?_)
    refine q_cVV (As := (fun P => [.int (45 : Int32)])) C [] (sX12_puts r0 (45 : Int32)) fcX12_417 rfl (fun _ => rfl) ⟨Nat.le_of_ble_eq_true rfl, Nat.le_of_ble_eq_true rfl⟩ ⟨Nat.le_of_ble_eq_true rfl, Nat.le_of_ble_eq_true rfl⟩ (Nat.le_of_ble_eq_true rfl) dX12_putsNumber_9 h8 (fun _ X9_7 => ?_)
    exact gX12_putsNumber_L12 C n r0 v1 X9_7
/-! RecordClaimsModel.show(I)I -/
abbrev cX12_show : ByteArray := prog_14_method_109_code
def yX12_show : MethodName := ⟨RX12, "show", "(I)I"⟩
theorem dX12_show_0 : decode cX12_show 0 = .ok (.aload_n 0, 1) := by decide +kernel
theorem dX12_show_1 : decode cX12_show 1 = .ok (.iconst 0, 1) := by decide +kernel
theorem dX12_show_2 : decode cX12_show 2 = .ok (.putfield 63, 3) := by decide +kernel
theorem dX12_show_5 : decode cX12_show 5 = .ok (.aload_n 0, 1) := by decide +kernel
theorem dX12_show_6 : decode cX12_show 6 = .ok (.iload_n 1, 1) := by decide +kernel
theorem dX12_show_7 : decode cX12_show 7 = .ok (.invokevirtual 98, 3) := by decide +kernel
theorem dX12_show_10 : decode cX12_show 10 = .ok (.ifCond .ne 5, 3) := by decide +kernel
theorem dX12_show_13 : decode cX12_show 13 = .ok (.iconst (-1), 1) := by decide +kernel
theorem dX12_show_14 : decode cX12_show 14 = .ok (.ireturn, 1) := by decide +kernel
theorem dX12_show_15 : decode cX12_show 15 = .ok (.aload_n 0, 1) := by decide +kernel
theorem dX12_show_16 : decode cX12_show 16 = .ok (.iconst 0, 1) := by decide +kernel
theorem dX12_show_17 : decode cX12_show 17 = .ok (.putfield 414, 3) := by decide +kernel
theorem dX12_show_20 : decode cX12_show 20 = .ok (.aload_n 0, 1) := by decide +kernel
theorem dX12_show_21 : decode cX12_show 21 = .ok (.aload_n 0, 1) := by decide +kernel
theorem dX12_show_22 : decode cX12_show 22 = .ok (.getfield 24, 3) := by decide +kernel
theorem dX12_show_25 : decode cX12_show 25 = .ok (.iload_n 1, 1) := by decide +kernel
theorem dX12_show_26 : decode cX12_show 26 = .ok (.laload, 1) := by decide +kernel
theorem dX12_show_27 : decode cX12_show 27 = .ok (.invokevirtual 422, 3) := by decide +kernel
theorem dX12_show_30 : decode cX12_show 30 = .ok (.aload_n 0, 1) := by decide +kernel
theorem dX12_show_31 : decode cX12_show 31 = .ok (.bipush 58, 2) := by decide +kernel
theorem dX12_show_33 : decode cX12_show 33 = .ok (.invokevirtual 417, 3) := by decide +kernel
theorem dX12_show_36 : decode cX12_show 36 = .ok (.iconst 0, 1) := by decide +kernel
theorem dX12_show_37 : decode cX12_show 37 = .ok (.istore_n 2, 1) := by decide +kernel
theorem dX12_show_38 : decode cX12_show 38 = .ok (.iload_n 2, 1) := by decide +kernel
theorem dX12_show_39 : decode cX12_show 39 = .ok (.aload_n 0, 1) := by decide +kernel
theorem dX12_show_40 : decode cX12_show 40 = .ok (.getfield 84, 3) := by decide +kernel
theorem dX12_show_43 : decode cX12_show 43 = .ok (.if_icmp .ge 65, 3) := by decide +kernel
theorem dX12_show_46 : decode cX12_show 46 = .ok (.aload_n 0, 1) := by decide +kernel
theorem dX12_show_47 : decode cX12_show 47 = .ok (.iload_n 1, 1) := by decide +kernel
theorem dX12_show_48 : decode cX12_show 48 = .ok (.i2l, 1) := by decide +kernel
theorem dX12_show_49 : decode cX12_show 49 = .ok (.iload_n 2, 1) := by decide +kernel
theorem dX12_show_50 : decode cX12_show 50 = .ok (.i2l, 1) := by decide +kernel
theorem dX12_show_51 : decode cX12_show 51 = .ok (.invokevirtual 171, 3) := by decide +kernel
theorem dX12_show_54 : decode cX12_show 54 = .ok (.lconst 0, 1) := by decide +kernel
theorem dX12_show_55 : decode cX12_show 55 = .ok (.lcmp, 1) := by decide +kernel
theorem dX12_show_56 : decode cX12_show 56 = .ok (.ifCond .ne 6, 3) := by decide +kernel
theorem dX12_show_59 : decode cX12_show 59 = .ok (.goto 43, 3) := by decide +kernel
theorem dX12_show_62 : decode cX12_show 62 = .ok (.aload_n 0, 1) := by decide +kernel
theorem dX12_show_63 : decode cX12_show 63 = .ok (.bipush 32, 2) := by decide +kernel
theorem dX12_show_65 : decode cX12_show 65 = .ok (.invokevirtual 417, 3) := by decide +kernel
theorem dX12_show_68 : decode cX12_show 68 = .ok (.aload_n 0, 1) := by decide +kernel
theorem dX12_show_69 : decode cX12_show 69 = .ok (.aload_n 0, 1) := by decide +kernel
theorem dX12_show_70 : decode cX12_show 70 = .ok (.iload_n 1, 1) := by decide +kernel
theorem dX12_show_71 : decode cX12_show 71 = .ok (.i2l, 1) := by decide +kernel
theorem dX12_show_72 : decode cX12_show 72 = .ok (.iload_n 2, 1) := by decide +kernel
theorem dX12_show_73 : decode cX12_show 73 = .ok (.i2l, 1) := by decide +kernel
theorem dX12_show_74 : decode cX12_show 74 = .ok (.invokevirtual 171, 3) := by decide +kernel
theorem dX12_show_77 : decode cX12_show 77 = .ok (.invokevirtual 426, 3) := by decide +kernel
theorem dX12_show_80 : decode cX12_show 80 = .ok (.aload_n 0, 1) := by decide +kernel
theorem dX12_show_81 : decode cX12_show 81 = .ok (.bipush 32, 2) := by decide +kernel
theorem dX12_show_83 : decode cX12_show 83 = .ok (.invokevirtual 417, 3) := by decide +kernel
theorem dX12_show_86 : decode cX12_show 86 = .ok (.aload_n 0, 1) := by decide +kernel
theorem dX12_show_87 : decode cX12_show 87 = .ok (.aload_n 0, 1) := by decide +kernel
theorem dX12_show_88 : decode cX12_show 88 = .ok (.getfield 27, 3) := by decide +kernel
theorem dX12_show_91 : decode cX12_show 91 = .ok (.iload_n 2, 1) := by decide +kernel
theorem dX12_show_92 : decode cX12_show 92 = .ok (.laload, 1) := by decide +kernel
theorem dX12_show_93 : decode cX12_show 93 = .ok (.invokevirtual 422, 3) := by decide +kernel
theorem dX12_show_96 : decode cX12_show 96 = .ok (.aload_n 0, 1) := by decide +kernel
theorem dX12_show_97 : decode cX12_show 97 = .ok (.bipush 44, 2) := by decide +kernel
theorem dX12_show_99 : decode cX12_show 99 = .ok (.invokevirtual 417, 3) := by decide +kernel
theorem dX12_show_102 : decode cX12_show 102 = .ok (.iinc 2 1, 3) := by decide +kernel
theorem dX12_show_105 : decode cX12_show 105 = .ok (.goto (-67), 3) := by decide +kernel
theorem dX12_show_108 : decode cX12_show 108 = .ok (.aload_n 0, 1) := by decide +kernel
theorem dX12_show_109 : decode cX12_show 109 = .ok (.bipush 32, 2) := by decide +kernel
theorem dX12_show_111 : decode cX12_show 111 = .ok (.invokevirtual 417, 3) := by decide +kernel
theorem dX12_show_114 : decode cX12_show 114 = .ok (.aload_n 0, 1) := by decide +kernel
theorem dX12_show_115 : decode cX12_show 115 = .ok (.aload_n 0, 1) := by decide +kernel
theorem dX12_show_116 : decode cX12_show 116 = .ok (.getfield 11, 3) := by decide +kernel
theorem dX12_show_119 : decode cX12_show 119 = .ok (.bipush 50, 2) := by decide +kernel
theorem dX12_show_121 : decode cX12_show 121 = .ok (.iload_n 1, 1) := by decide +kernel
theorem dX12_show_122 : decode cX12_show 122 = .ok (.iadd, 1) := by decide +kernel
theorem dX12_show_123 : decode cX12_show 123 = .ok (.laload, 1) := by decide +kernel
theorem dX12_show_124 : decode cX12_show 124 = .ok (.invokevirtual 426, 3) := by decide +kernel
theorem dX12_show_127 : decode cX12_show 127 = .ok (.aload_n 0, 1) := by decide +kernel
theorem dX12_show_128 : decode cX12_show 128 = .ok (.bipush 46, 2) := by decide +kernel
theorem dX12_show_130 : decode cX12_show 130 = .ok (.invokevirtual 417, 3) := by decide +kernel
theorem dX12_show_133 : decode cX12_show 133 = .ok (.aload_n 0, 1) := by decide +kernel
theorem dX12_show_134 : decode cX12_show 134 = .ok (.getfield 414, 3) := by decide +kernel
theorem dX12_show_137 : decode cX12_show 137 = .ok (.ireturn, 1) := by decide +kernel
theorem fcX12_422 : q_LV RX12 422 yX12_putsName cX12_putsName 7 none 1 12 := ⟨q_tb 1795 (by decide +kernel) rfl, q_tb 1797 (by decide +kernel) rfl, q_tbs (q := (yX12_putsName, 35)) 125 (by decide +kernel) rfl, q_tb 13 (by decide +kernel) rfl, q_tb 1798 (by decide +kernel) rfl, ⟨by decide +kernel, by decide +kernel, by decide +kernel⟩, TX12, 35, rfl⟩
theorem fcX12_426 : q_LV RX12 426 yX12_putsNumber cX12_putsNumber 7 none 1 12 := ⟨q_tb 1803 (by decide +kernel) rfl, q_tb 1805 (by decide +kernel) rfl, q_tbs (q := (yX12_putsNumber, 35)) 127 (by decide +kernel) rfl, q_tb 13 (by decide +kernel) rfl, q_tb 1806 (by decide +kernel) rfl, ⟨by decide +kernel, by decide +kernel, by decide +kernel⟩, TX12, 35, rfl⟩
def fX12_show_L102 (n : Nat) (k38 : Nat → Int32 → Int32 → Mm → Option (Int32 × Mm)) (r0 : Nat) (v1 : Int32) (v2 : Int32) (X : Mm) : Option (Int32 × Mm) :=
nm (v2 + (1 : Int32)) fun v2_102 =>
k38 r0 v1 v2_102 X
def fX12_show_L38 (n : Nat) : Nat → Nat → Int32 → Int32 → Mm → Option (Int32 × Mm)
| 0, _, _, _, _ => none
| j + 1, r0, v1, v2, X =>
if mT X r0 = 12 then
if (mI X r0 7) ≤ v2 then (
bd (fX12_puts r0 (32 : Int32) X) fun _ X111_19 =>
if mT X111_19 r0 = 12 then
if mR X111_19 r0 1 ≠ 0 then
if mT X111_19 (mR X111_19 r0 1) = 15 then
if q_b X111_19 (mR X111_19 r0 1) ((50 : Int32) + v1) then
bd (fX12_putsNumber n r0 ((mJ X111_19 (mR X111_19 r0 1) (((50 : Int32) + v1)).toNatClampNeg)) X111_19) fun _ X124_25 =>
if mT X124_25 r0 = 12 then
bd (fX12_puts r0 (46 : Int32) X124_25) fun _ X130_27 =>
if mT X130_27 r0 = 12 then
some ((mI X130_27 r0 34), X130_27)
else none
else none
else none
else none
else none
else none
) else (
bd (fX12_sharesOf r0 (((v1).toInt64)) (((v2).toInt64)) X) fun w30 X51_31 =>
if (lg_cmp w30 (0 : Int64)) = 0 then (
fX12_show_L102 n (fX12_show_L38 n j) r0 v1 v2 X51_31
) else (
if mT X51_31 r0 = 12 then
bd (fX12_puts r0 (32 : Int32) X51_31) fun _ X65_33 =>
if mT X65_33 r0 = 12 then
bd (fX12_sharesOf r0 (((v1).toInt64)) (((v2).toInt64)) X65_33) fun w35 X74_36 =>
if mT X74_36 r0 = 12 then
bd (fX12_putsNumber n r0 w35 X74_36) fun _ X77_39 =>
if mT X77_39 r0 = 12 then
bd (fX12_puts r0 (32 : Int32) X77_39) fun _ X83_42 =>
if mT X83_42 r0 = 12 then
if mR X83_42 r0 9 ≠ 0 then
if mT X83_42 (mR X83_42 r0 9) = 15 then
if q_b X83_42 (mR X83_42 r0 9) v2 then
bd (fX12_putsName n r0 ((mJ X83_42 (mR X83_42 r0 9) (v2).toNatClampNeg)) X83_42) fun _ X93_49 =>
if mT X93_49 r0 = 12 then
bd (fX12_puts r0 (44 : Int32) X93_49) fun _ X99_51 =>
fX12_show_L102 n (fX12_show_L38 n j) r0 v1 v2 X99_51
else none
else none
else none
else none
else none
else none
else none
else none
else none
)
)
else none
def fX12_show (n : Nat) (r0 : Nat) (v1 : Int32) (X : Mm) : Option (Int32 × Mm) :=
if mT X r0 = 12 then
nm (sI X r0 0 (0 : Int32)) fun X2_1 =>
if mT X2_1 r0 = 12 then
bd (fX12_isHolder r0 v1 X2_1) fun w3 X7_4 =>
if w3 = 0 then (
some ((-1 : Int32), X7_4)
) else (
if mT X7_4 r0 = 12 then
nm (sI X7_4 r0 34 (0 : Int32)) fun X17_6 =>
if mT X17_6 r0 = 12 then
if mR X17_6 r0 8 ≠ 0 then
if mT X17_6 (mR X17_6 r0 8) = 15 then
if q_b X17_6 (mR X17_6 r0 8) v1 then
bd (fX12_putsName n r0 ((mJ X17_6 (mR X17_6 r0 8) (v1).toNatClampNeg)) X17_6) fun _ X27_13 =>
if mT X27_13 r0 = 12 then
bd (fX12_puts r0 (58 : Int32) X27_13) fun _ X33_15 =>
fX12_show_L38 n n r0 v1 (0 : Int32) X33_15
else none
else none
else none
else none
else none
else none
)
else none
else none
theorem gX12_show_L102 {E : q_E} {X0 : Mm} (C : Cx E cX12_show RX12 3 (some .int) (q_rm 2 47 0 0) X0) (n : Nat) (k38 : Nat → Int32 → Int32 → Mm → Option (Int32 × Mm)) (hk38 : ∀ (r0 : Nat) (v1 : Int32) (v2 : Int32) (X : Mm), Sm E (q_fin E q_eI X0 0 0) 0 0 38 [(0, .ref (q_P E + r0)), (1, .int v1), (2, .int v2)] [] X (k38 r0 v1 v2 X)) (r0 : Nat) (v1 : Int32) (v2 : Int32) (X : Mm) : Sm E (q_fin E q_eI X0 0 0) 0 0 102 [(0, .ref (q_P E + r0)), (1, .int v1), (2, .int v2)] [] X (fX12_show_L102 n k38 r0 v1 v2 X) := by
  unfold fX12_show_L102
  refine q_iincN C (1 : Int32) 2 (fun v2_102 => [(2, .int v2_102), (0, .ref (q_P E + r0)), (1, .int v1)]) dX12_show_102 rfl rfl (Nat.le_of_ble_eq_true rfl) (fun _ => rfl) (fun v2_102 => ?_)
  refine q_goto C 38 dX12_show_105 (by decide) ?_
  refine q_sub C [(0, .ref (q_P E + r0)), (1, .int v1), (2, .int v2_102)] [1, 2, 0] rfl ?_
  exact hk38 r0 v1 v2_102 X
theorem gX12_show_L38 {E : q_E} {X0 : Mm} (C : Cx E cX12_show RX12 3 (some .int) (q_rm 2 47 0 0) X0) (n : Nat) : ∀ (j : Nat) (r0 : Nat) (v1 : Int32) (v2 : Int32) (X : Mm), Sm E (q_fin E q_eI X0 0 0) 0 0 38 [(0, .ref (q_P E + r0)), (1, .int v1), (2, .int v2)] [] X (fX12_show_L38 n j r0 v1 v2 X) := by
  intro j
  induction j with
  | zero => intros; exact Sm.none
  | succ j ih =>
    intro r0 v1 v2 X
    rw [fX12_show_L38]
    refine q_iload_n C 2 dX12_show_38 rfl rfl ?_
    refine q_aload_n C 0 dX12_show_39 rfl rfl ?_
    refine q_chk (fun h17 => ?_)
    refine p_getI C fgX12_84 rfl dX12_show_40 h17 ?_
    refine q_icmp_ge C 108 dX12_show_43 (by decide) (fun _ => ?_) (fun _ => ?_)
    · refine q_aload_n C 0 dX12_show_108 rfl rfl ?_
      refine q_bipush C (32 : Int32) dX12_show_109 rfl ?_
      refine q_cVV (As := (fun P => [.int (32 : Int32)])) C [] (sX12_puts r0 (32 : Int32)) fcX12_417 rfl (fun _ => rfl) ⟨Nat.le_of_ble_eq_true rfl, Nat.le_of_ble_eq_true rfl⟩ ⟨Nat.le_of_ble_eq_true rfl, Nat.le_of_ble_eq_true rfl⟩ (Nat.le_of_ble_eq_true rfl) dX12_show_111 h17 (fun _ X111_19 => ?_)
      refine q_aload_n C 0 dX12_show_114 rfl rfl ?_
      refine q_aload_n C 0 dX12_show_115 rfl rfl ?_
      refine q_chk (fun h20 => ?_)
      refine q_chk (fun h21 => ?_)
      refine p_getR C fgX12_11 rfl dX12_show_116 h20 h21 ?_
      refine q_bipush C (50 : Int32) dX12_show_119 rfl ?_
      refine q_iload_n C 1 dX12_show_121 rfl rfl ?_
      refine q_iadd C dX12_show_122 ?_
      refine q_chk (fun h22 => ?_)
      refine q_chk (fun h23 => ?_)
      refine p_lald C dX12_show_123 h22 h23 ?_
      refine q_cVV (As := (fun P => [.long (mJ X111_19 (mR X111_19 r0 1) (((50 : Int32) + v1)).toNatClampNeg)])) C [] (sX12_putsNumber n r0 ((mJ X111_19 (mR X111_19 r0 1) (((50 : Int32) + v1)).toNatClampNeg))) fcX12_426 rfl (fun _ => rfl) ⟨Nat.le_of_ble_eq_true rfl, Nat.le_of_ble_eq_true rfl⟩ ⟨Nat.le_of_ble_eq_true rfl, Nat.le_of_ble_eq_true rfl⟩ (Nat.le_of_ble_eq_true rfl) dX12_show_124 h20 (fun _ X124_25 => ?_)
      refine q_aload_n C 0 dX12_show_127 rfl rfl ?_
      refine q_bipush C (46 : Int32) dX12_show_128 rfl ?_
      refine q_chk (fun h28 => ?_)
      refine q_cVV (As := (fun P => [.int (46 : Int32)])) C [] (sX12_puts r0 (46 : Int32)) fcX12_417 rfl (fun _ => rfl) ⟨Nat.le_of_ble_eq_true rfl, Nat.le_of_ble_eq_true rfl⟩ ⟨Nat.le_of_ble_eq_true rfl, Nat.le_of_ble_eq_true rfl⟩ (Nat.le_of_ble_eq_true rfl) dX12_show_130 h28 (fun _ X130_27 => ?_)
      refine q_aload_n C 0 dX12_show_133 rfl rfl ?_
      refine q_chk (fun h29 => ?_)
      refine p_getI C fgX12_414 rfl dX12_show_134 h29 ?_
      exact q_iret C dX12_show_137
    · refine q_aload_n C 0 dX12_show_46 rfl rfl ?_
      refine q_iload_n C 1 dX12_show_47 rfl rfl ?_
      refine q_i2l C dX12_show_48 ?_
      refine q_iload_n C 2 dX12_show_49 rfl rfl ?_
      refine q_i2l C dX12_show_50 ?_
      refine q_cVL (As := (fun P => [.long ((v1).toInt64), .long ((v2).toInt64)])) C [] (sX12_sharesOf r0 (((v1).toInt64)) (((v2).toInt64))) fcX12_171 rfl (fun _ => rfl) ⟨Nat.le_of_ble_eq_true rfl, Nat.le_of_ble_eq_true rfl⟩ ⟨Nat.le_of_ble_eq_true rfl, Nat.le_of_ble_eq_true rfl⟩ (Nat.le_of_ble_eq_true rfl) dX12_show_51 h17 (fun w30 X51_31 => ?_)
      refine q_lconst C (0 : Int64) dX12_show_54 rfl ?_
      refine q_lcmp C dX12_show_55 ?_
      refine q_if_ne C 62 dX12_show_56 (by decide) (fun _ => ?_) (fun _ => ?_)
      · refine q_goto C 102 dX12_show_59 (by decide) ?_
        exact gX12_show_L102 C n (fX12_show_L38 n j) ih r0 v1 v2 X51_31
      · refine q_aload_n C 0 dX12_show_62 rfl rfl ?_
        refine q_bipush C (32 : Int32) dX12_show_63 rfl ?_
        refine q_chk (fun h34 => ?_)
        refine q_cVV (As := (fun P => [.int (32 : Int32)])) C [] (sX12_puts r0 (32 : Int32)) fcX12_417 rfl (fun _ => rfl) ⟨Nat.le_of_ble_eq_true rfl, Nat.le_of_ble_eq_true rfl⟩ ⟨Nat.le_of_ble_eq_true rfl, Nat.le_of_ble_eq_true rfl⟩ (Nat.le_of_ble_eq_true rfl) dX12_show_65 h34 (fun _ X65_33 => ?_)
        refine q_aload_n C 0 dX12_show_68 rfl rfl ?_
        refine q_aload_n C 0 dX12_show_69 rfl rfl ?_
        refine q_iload_n C 1 dX12_show_70 rfl rfl ?_
        refine q_i2l C dX12_show_71 ?_
        refine q_iload_n C 2 dX12_show_72 rfl rfl ?_
        refine q_i2l C dX12_show_73 ?_
        refine q_chk (fun h37 => ?_)
        refine q_cVL (As := (fun P => [.long ((v1).toInt64), .long ((v2).toInt64)])) C [.ref (q_P E + r0)] (sX12_sharesOf r0 (((v1).toInt64)) (((v2).toInt64))) fcX12_171 rfl (fun _ => rfl) ⟨Nat.le_of_ble_eq_true rfl, Nat.le_of_ble_eq_true rfl⟩ ⟨Nat.le_of_ble_eq_true rfl, Nat.le_of_ble_eq_true rfl⟩ (Nat.le_of_ble_eq_true rfl) dX12_show_74 h37 (fun w35 X74_36 => ?_)
        refine q_chk (fun h40 => ?_)
        refine q_cVV (As := (fun P => [.long w35])) C [] (sX12_putsNumber n r0 w35) fcX12_426 rfl (fun _ => rfl) ⟨Nat.le_of_ble_eq_true rfl, Nat.le_of_ble_eq_true rfl⟩ ⟨Nat.le_of_ble_eq_true rfl, Nat.le_of_ble_eq_true rfl⟩ (Nat.le_of_ble_eq_true rfl) dX12_show_77 h40 (fun _ X77_39 => ?_)
        refine q_aload_n C 0 dX12_show_80 rfl rfl ?_
        refine q_bipush C (32 : Int32) dX12_show_81 rfl ?_
        refine q_chk (fun h43 => ?_)
        refine q_cVV (As := (fun P => [.int (32 : Int32)])) C [] (sX12_puts r0 (32 : Int32)) fcX12_417 rfl (fun _ => rfl) ⟨Nat.le_of_ble_eq_true rfl, Nat.le_of_ble_eq_true rfl⟩ ⟨Nat.le_of_ble_eq_true rfl, Nat.le_of_ble_eq_true rfl⟩ (Nat.le_of_ble_eq_true rfl) dX12_show_83 h43 (fun _ X83_42 => ?_)
        refine q_aload_n C 0 dX12_show_86 rfl rfl ?_
        refine q_aload_n C 0 dX12_show_87 rfl rfl ?_
        refine q_chk (fun h44 => ?_)
        refine q_chk (fun h45 => ?_)
        refine p_getR C fgX12_27 rfl dX12_show_88 h44 h45 ?_
        refine q_iload_n C 2 dX12_show_91 rfl rfl ?_
        refine q_chk (fun h46 => ?_)
        refine q_chk (fun h47 => ?_)
        refine p_lald C dX12_show_92 h46 h47 ?_
        refine q_cVV (As := (fun P => [.long (mJ X83_42 (mR X83_42 r0 9) (v2).toNatClampNeg)])) C [] (sX12_putsName n r0 ((mJ X83_42 (mR X83_42 r0 9) (v2).toNatClampNeg))) fcX12_422 rfl (fun _ => rfl) ⟨Nat.le_of_ble_eq_true rfl, Nat.le_of_ble_eq_true rfl⟩ ⟨Nat.le_of_ble_eq_true rfl, Nat.le_of_ble_eq_true rfl⟩ (Nat.le_of_ble_eq_true rfl) dX12_show_93 h44 (fun _ X93_49 => ?_)
        refine q_aload_n C 0 dX12_show_96 rfl rfl ?_
        refine q_bipush C (44 : Int32) dX12_show_97 rfl ?_
        refine q_chk (fun h52 => ?_)
        refine q_cVV (As := (fun P => [.int (44 : Int32)])) C [] (sX12_puts r0 (44 : Int32)) fcX12_417 rfl (fun _ => rfl) ⟨Nat.le_of_ble_eq_true rfl, Nat.le_of_ble_eq_true rfl⟩ ⟨Nat.le_of_ble_eq_true rfl, Nat.le_of_ble_eq_true rfl⟩ (Nat.le_of_ble_eq_true rfl) dX12_show_99 h52 (fun _ X99_51 => ?_)
        exact gX12_show_L102 C n (fX12_show_L38 n j) ih r0 v1 v2 X99_51
theorem sX12_show (n : Nat) (r0 : Nat) (v1 : Int32) : q_Ct yX12_show cX12_show 3 (some .int) 2 47 0 0 q_eI (fun P => [.ref (P + r0), .int v1]) (fX12_show n r0 v1) := by
  refine q_meth (by decide +kernel) (fun P => Nat.le_of_ble_eq_true rfl) (fun E X C hn => ?_)
  show Sm E (q_fin E q_eI X 0 0) 0 0 0 [(0, .ref (q_P E + r0)), (1, .int v1)] [] X _
  unfold fX12_show
  refine q_aload_n C 0 dX12_show_0 rfl rfl ?_
  refine q_iconst C (0 : Int32) dX12_show_1 rfl ?_
  refine q_chk (fun h2 => ?_)
  refine p_putI C fpX12_63 rfl dX12_show_2 h2 ?_
  refine q_nmX (fun X2_1 => ?_)
  refine q_aload_n C 0 dX12_show_5 rfl rfl ?_
  refine q_iload_n C 1 dX12_show_6 rfl rfl ?_
  refine q_chk (fun h5 => ?_)
  refine q_cVI (As := (fun P => [.int v1])) C [] (sX12_isHolder r0 v1) fcX12_98 rfl (fun _ => rfl) ⟨Nat.le_of_ble_eq_true rfl, Nat.le_of_ble_eq_true rfl⟩ ⟨Nat.le_of_ble_eq_true rfl, Nat.le_of_ble_eq_true rfl⟩ (Nat.le_of_ble_eq_true rfl) dX12_show_7 h5 (fun w3 X7_4 => ?_)
  refine q_if_ne C 15 dX12_show_10 (by decide) (fun _ => ?_) (fun _ => ?_)
  · refine q_iconst C (-1 : Int32) dX12_show_13 rfl ?_
    exact q_iret C dX12_show_14
  · refine q_aload_n C 0 dX12_show_15 rfl rfl ?_
    refine q_iconst C (0 : Int32) dX12_show_16 rfl ?_
    refine q_chk (fun h7 => ?_)
    refine p_putI C fpX12_414 rfl dX12_show_17 h7 ?_
    refine q_nmX (fun X17_6 => ?_)
    refine q_aload_n C 0 dX12_show_20 rfl rfl ?_
    refine q_aload_n C 0 dX12_show_21 rfl rfl ?_
    refine q_chk (fun h8 => ?_)
    refine q_chk (fun h9 => ?_)
    refine p_getR C fgX12_24 rfl dX12_show_22 h8 h9 ?_
    refine q_iload_n C 1 dX12_show_25 rfl rfl ?_
    refine q_chk (fun h10 => ?_)
    refine q_chk (fun h11 => ?_)
    refine p_lald C dX12_show_26 h10 h11 ?_
    refine q_cVV (As := (fun P => [.long (mJ X17_6 (mR X17_6 r0 8) (v1).toNatClampNeg)])) C [] (sX12_putsName n r0 ((mJ X17_6 (mR X17_6 r0 8) (v1).toNatClampNeg))) fcX12_422 rfl (fun _ => rfl) ⟨Nat.le_of_ble_eq_true rfl, Nat.le_of_ble_eq_true rfl⟩ ⟨Nat.le_of_ble_eq_true rfl, Nat.le_of_ble_eq_true rfl⟩ (Nat.le_of_ble_eq_true rfl) dX12_show_27 h8 (fun _ X27_13 => ?_)
    refine q_aload_n C 0 dX12_show_30 rfl rfl ?_
    refine q_bipush C (58 : Int32) dX12_show_31 rfl ?_
    refine q_chk (fun h16 => ?_)
    refine q_cVV (As := (fun P => [.int (58 : Int32)])) C [] (sX12_puts r0 (58 : Int32)) fcX12_417 rfl (fun _ => rfl) ⟨Nat.le_of_ble_eq_true rfl, Nat.le_of_ble_eq_true rfl⟩ ⟨Nat.le_of_ble_eq_true rfl, Nat.le_of_ble_eq_true rfl⟩ (Nat.le_of_ble_eq_true rfl) dX12_show_33 h16 (fun _ X33_15 => ?_)
    refine q_iconst C (0 : Int32) dX12_show_36 rfl ?_
    refine q_istore_n C [(2, .int (0 : Int32)), (0, .ref (q_P E + r0)), (1, .int v1)] dX12_show_37 rfl (Nat.le_of_ble_eq_true rfl) rfl ?_
    refine q_sub C [(0, .ref (q_P E + r0)), (1, .int v1), (2, .int (0 : Int32))] [1, 2, 0] rfl ?_
    exact gX12_show_L38 C n n r0 v1 (0 : Int32) X33_15
/-! RecordClaimsModel.out(I)I -/
abbrev cX12_out : ByteArray := prog_14_method_110_code
def yX12_out : MethodName := ⟨RX12, "out", "(I)I"⟩
theorem dX12_out_0 : decode cX12_out 0 = .ok (.aload_n 0, 1) := by decide +kernel
theorem dX12_out_1 : decode cX12_out 1 = .ok (.iconst 0, 1) := by decide +kernel
theorem dX12_out_2 : decode cX12_out 2 = .ok (.putfield 63, 3) := by decide +kernel
theorem dX12_out_5 : decode cX12_out 5 = .ok (.aload_n 0, 1) := by decide +kernel
theorem dX12_out_6 : decode cX12_out 6 = .ok (.iload_n 1, 1) := by decide +kernel
theorem dX12_out_7 : decode cX12_out 7 = .ok (.i2l, 1) := by decide +kernel
theorem dX12_out_8 : decode cX12_out 8 = .ok (.lconst 0, 1) := by decide +kernel
theorem dX12_out_9 : decode cX12_out 9 = .ok (.aload_n 0, 1) := by decide +kernel
theorem dX12_out_10 : decode cX12_out 10 = .ok (.getfield 414, 3) := by decide +kernel
theorem dX12_out_13 : decode cX12_out 13 = .ok (.i2l, 1) := by decide +kernel
theorem dX12_out_14 : decode cX12_out 14 = .ok (.lconst 1, 1) := by decide +kernel
theorem dX12_out_15 : decode cX12_out 15 = .ok (.lsub, 1) := by decide +kernel
theorem dX12_out_16 : decode cX12_out 16 = .ok (.invokevirtual 80, 3) := by decide +kernel
theorem dX12_out_19 : decode cX12_out 19 = .ok (.ifCond .eq 12, 3) := by decide +kernel
theorem dX12_out_22 : decode cX12_out 22 = .ok (.aload_n 0, 1) := by decide +kernel
theorem dX12_out_23 : decode cX12_out 23 = .ok (.getfield 60, 3) := by decide +kernel
theorem dX12_out_26 : decode cX12_out 26 = .ok (.iload_n 1, 1) := by decide +kernel
theorem dX12_out_27 : decode cX12_out 27 = .ok (.baload, 1) := by decide +kernel
theorem dX12_out_28 : decode cX12_out 28 = .ok (.goto 4, 3) := by decide +kernel
theorem dX12_out_31 : decode cX12_out 31 = .ok (.iconst (-1), 1) := by decide +kernel
theorem dX12_out_32 : decode cX12_out 32 = .ok (.ireturn, 1) := by decide +kernel
def fX12_out (r0 : Nat) (v1 : Int32) (X : Mm) : Option (Int32 × Mm) :=
if mT X r0 = 12 then
nm (sI X r0 0 (0 : Int32)) fun X2_1 =>
if mT X2_1 r0 = 12 then
bd (fX12_isIn r0 (((v1).toInt64)) (0 : Int64) (((((mI X2_1 r0 34)).toInt64) - (1 : Int64))) X2_1) fun w4 X16_5 =>
if w4 = 0 then (
some ((-1 : Int32), X16_5)
) else (
if mT X16_5 r0 = 12 then
if mR X16_5 r0 33 ≠ 0 then
if mT X16_5 (mR X16_5 r0 33) = 16 then
if q_b X16_5 (mR X16_5 r0 33) v1 then
some ((mI X16_5 (mR X16_5 r0 33) (v1).toNatClampNeg), X16_5)
else none
else none
else none
else none
)
else none
else none
theorem sX12_out (r0 : Nat) (v1 : Int32) : q_Ct yX12_out cX12_out 2 (some .int) 1 26 0 0 q_eI (fun P => [.ref (P + r0), .int v1]) (fX12_out r0 v1) := by
  refine q_meth (by decide +kernel) (fun P => Nat.le_of_ble_eq_true rfl) (fun E X C hn => ?_)
  show Sm E (q_fin E q_eI X 0 0) 0 0 0 [(0, .ref (q_P E + r0)), (1, .int v1)] [] X _
  unfold fX12_out
  refine q_aload_n C 0 dX12_out_0 rfl rfl ?_
  refine q_iconst C (0 : Int32) dX12_out_1 rfl ?_
  refine q_chk (fun h2 => ?_)
  refine p_putI C fpX12_63 rfl dX12_out_2 h2 ?_
  refine q_nmX (fun X2_1 => ?_)
  refine q_aload_n C 0 dX12_out_5 rfl rfl ?_
  refine q_iload_n C 1 dX12_out_6 rfl rfl ?_
  refine q_i2l C dX12_out_7 ?_
  refine q_lconst C (0 : Int64) dX12_out_8 rfl ?_
  refine q_aload_n C 0 dX12_out_9 rfl rfl ?_
  refine q_chk (fun h3 => ?_)
  refine p_getI C fgX12_414 rfl dX12_out_10 h3 ?_
  refine q_i2l C dX12_out_13 ?_
  refine q_lconst C (1 : Int64) dX12_out_14 rfl ?_
  refine q_lsub C dX12_out_15 ?_
  refine q_cVI (As := (fun P => [.long ((v1).toInt64), .long (0 : Int64), .long ((((mI X2_1 r0 34)).toInt64) - (1 : Int64))])) C [] (sX12_isIn r0 (((v1).toInt64)) (0 : Int64) (((((mI X2_1 r0 34)).toInt64) - (1 : Int64)))) fcX12_80 rfl (fun _ => rfl) ⟨Nat.le_of_ble_eq_true rfl, Nat.le_of_ble_eq_true rfl⟩ ⟨Nat.le_of_ble_eq_true rfl, Nat.le_of_ble_eq_true rfl⟩ (Nat.le_of_ble_eq_true rfl) dX12_out_16 h3 (fun w4 X16_5 => ?_)
  refine q_if_eq C 31 dX12_out_19 (by decide) (fun _ => ?_) (fun _ => ?_)
  · refine q_iconst C (-1 : Int32) dX12_out_31 rfl ?_
    exact q_iret C dX12_out_32
  · refine q_aload_n C 0 dX12_out_22 rfl rfl ?_
    refine q_chk (fun h6 => ?_)
    refine q_chk (fun h7 => ?_)
    refine p_getR C fgX12_60 rfl dX12_out_23 h6 h7 ?_
    refine q_iload_n C 1 dX12_out_26 rfl rfl ?_
    refine q_chk (fun h8 => ?_)
    refine q_chk (fun h9 => ?_)
    refine p_bald C dX12_out_27 h8 h9 ?_
    refine q_goto C 32 dX12_out_28 (by decide) ?_
    exact q_iret C dX12_out_32
/-! RecordClaimsModel.named(I)I -/
abbrev cX12_named : ByteArray := prog_14_method_111_code
def yX12_named : MethodName := ⟨RX12, "named", "(I)I"⟩
theorem dX12_named_0 : decode cX12_named 0 = .ok (.aload_n 0, 1) := by decide +kernel
theorem dX12_named_1 : decode cX12_named 1 = .ok (.iconst 0, 1) := by decide +kernel
theorem dX12_named_2 : decode cX12_named 2 = .ok (.putfield 63, 3) := by decide +kernel
theorem dX12_named_5 : decode cX12_named 5 = .ok (.aload_n 0, 1) := by decide +kernel
theorem dX12_named_6 : decode cX12_named 6 = .ok (.getfield 231, 3) := by decide +kernel
theorem dX12_named_9 : decode cX12_named 9 = .ok (.istore_n 2, 1) := by decide +kernel
theorem dX12_named_10 : decode cX12_named 10 = .ok (.aload_n 0, 1) := by decide +kernel
theorem dX12_named_11 : decode cX12_named 11 = .ok (.getfield 37, 3) := by decide +kernel
theorem dX12_named_14 : decode cX12_named 14 = .ok (.istore_n 3, 1) := by decide +kernel
theorem dX12_named_15 : decode cX12_named 15 = .ok (.aload_n 0, 1) := by decide +kernel
theorem dX12_named_16 : decode cX12_named 16 = .ok (.iconst 0, 1) := by decide +kernel
theorem dX12_named_17 : decode cX12_named 17 = .ok (.putfield 231, 3) := by decide +kernel
theorem dX12_named_20 : decode cX12_named 20 = .ok (.aload_n 0, 1) := by decide +kernel
theorem dX12_named_21 : decode cX12_named 21 = .ok (.invokevirtual 234, 3) := by decide +kernel
theorem dX12_named_24 : decode cX12_named 24 = .ok (.aload_n 0, 1) := by decide +kernel
theorem dX12_named_25 : decode cX12_named 25 = .ok (.invokevirtual 287, 3) := by decide +kernel
theorem dX12_named_28 : decode cX12_named 28 = .ok (.istore 4, 2) := by decide +kernel
theorem dX12_named_30 : decode cX12_named 30 = .ok (.aload_n 0, 1) := by decide +kernel
theorem dX12_named_31 : decode cX12_named 31 = .ok (.getfield 256, 3) := by decide +kernel
theorem dX12_named_34 : decode cX12_named 34 = .ok (.lstore 5, 2) := by decide +kernel
theorem dX12_named_36 : decode cX12_named 36 = .ok (.iload 4, 2) := by decide +kernel
theorem dX12_named_38 : decode cX12_named 38 = .ok (.ifCond .eq 7, 3) := by decide +kernel
theorem dX12_named_41 : decode cX12_named 41 = .ok (.aload_n 0, 1) := by decide +kernel
theorem dX12_named_42 : decode cX12_named 42 = .ok (.invokevirtual 228, 3) := by decide +kernel
theorem dX12_named_45 : decode cX12_named 45 = .ok (.iload 4, 2) := by decide +kernel
theorem dX12_named_47 : decode cX12_named 47 = .ok (.ifCond .eq 14, 3) := by decide +kernel
theorem dX12_named_50 : decode cX12_named 50 = .ok (.aload_n 0, 1) := by decide +kernel
theorem dX12_named_51 : decode cX12_named 51 = .ok (.getfield 253, 3) := by decide +kernel
theorem dX12_named_54 : decode cX12_named 54 = .ok (.ifCond .ne 7, 3) := by decide +kernel
theorem dX12_named_57 : decode cX12_named 57 = .ok (.iconst 1, 1) := by decide +kernel
theorem dX12_named_58 : decode cX12_named 58 = .ok (.goto 4, 3) := by decide +kernel
theorem dX12_named_61 : decode cX12_named 61 = .ok (.iconst 0, 1) := by decide +kernel
theorem dX12_named_62 : decode cX12_named 62 = .ok (.istore 4, 2) := by decide +kernel
theorem dX12_named_64 : decode cX12_named 64 = .ok (.aload_n 0, 1) := by decide +kernel
theorem dX12_named_65 : decode cX12_named 65 = .ok (.iload_n 2, 1) := by decide +kernel
theorem dX12_named_66 : decode cX12_named 66 = .ok (.putfield 231, 3) := by decide +kernel
theorem dX12_named_69 : decode cX12_named 69 = .ok (.aload_n 0, 1) := by decide +kernel
theorem dX12_named_70 : decode cX12_named 70 = .ok (.iload_n 3, 1) := by decide +kernel
theorem dX12_named_71 : decode cX12_named 71 = .ok (.putfield 37, 3) := by decide +kernel
theorem dX12_named_74 : decode cX12_named 74 = .ok (.iload 4, 2) := by decide +kernel
theorem dX12_named_76 : decode cX12_named 76 = .ok (.ifCond .eq 14, 3) := by decide +kernel
theorem dX12_named_79 : decode cX12_named 79 = .ok (.aload_n 0, 1) := by decide +kernel
theorem dX12_named_80 : decode cX12_named 80 = .ok (.iload_n 1, 1) := by decide +kernel
theorem dX12_named_81 : decode cX12_named 81 = .ok (.i2l, 1) := by decide +kernel
theorem dX12_named_82 : decode cX12_named 82 = .ok (.lconst 0, 1) := by decide +kernel
theorem dX12_named_83 : decode cX12_named 83 = .ok (.lconst 1, 1) := by decide +kernel
theorem dX12_named_84 : decode cX12_named 84 = .ok (.invokevirtual 80, 3) := by decide +kernel
theorem dX12_named_87 : decode cX12_named 87 = .ok (.ifCond .ne 5, 3) := by decide +kernel
theorem dX12_named_90 : decode cX12_named 90 = .ok (.iconst (-1), 1) := by decide +kernel
theorem dX12_named_91 : decode cX12_named 91 = .ok (.ireturn, 1) := by decide +kernel
theorem dX12_named_92 : decode cX12_named 92 = .ok (.iload_n 1, 1) := by decide +kernel
theorem dX12_named_93 : decode cX12_named 93 = .ok (.ifCond .ne 20, 3) := by decide +kernel
theorem dX12_named_96 : decode cX12_named 96 = .ok (.aload_n 0, 1) := by decide +kernel
theorem dX12_named_97 : decode cX12_named 97 = .ok (.aload_n 0, 1) := by decide +kernel
theorem dX12_named_98 : decode cX12_named 98 = .ok (.getfield 24, 3) := by decide +kernel
theorem dX12_named_101 : decode cX12_named 101 = .ok (.aload_n 0, 1) := by decide +kernel
theorem dX12_named_102 : decode cX12_named 102 = .ok (.getfield 77, 3) := by decide +kernel
theorem dX12_named_105 : decode cX12_named 105 = .ok (.lload 5, 2) := by decide +kernel
theorem dX12_named_107 : decode cX12_named 107 = .ok (.invokevirtual 290, 3) := by decide +kernel
theorem dX12_named_110 : decode cX12_named 110 = .ok (.goto 17, 3) := by decide +kernel
theorem dX12_named_113 : decode cX12_named 113 = .ok (.aload_n 0, 1) := by decide +kernel
theorem dX12_named_114 : decode cX12_named 114 = .ok (.aload_n 0, 1) := by decide +kernel
theorem dX12_named_115 : decode cX12_named 115 = .ok (.getfield 27, 3) := by decide +kernel
theorem dX12_named_118 : decode cX12_named 118 = .ok (.aload_n 0, 1) := by decide +kernel
theorem dX12_named_119 : decode cX12_named 119 = .ok (.getfield 84, 3) := by decide +kernel
theorem dX12_named_122 : decode cX12_named 122 = .ok (.lload 5, 2) := by decide +kernel
theorem dX12_named_124 : decode cX12_named 124 = .ok (.invokevirtual 290, 3) := by decide +kernel
theorem dX12_named_127 : decode cX12_named 127 = .ok (.ireturn, 1) := by decide +kernel
def fX12_named_L90 (n : Nat) (X : Mm) : Option (Int32 × Mm) :=
some ((-1 : Int32), X)
def fX12_named_L62 (n : Nat) (r0 : Nat) (v1 : Int32) (v2 : Int32) (v3 : Int32) (v5 : Int64) (s0 : Int32) (X : Mm) : Option (Int32 × Mm) :=
if mT X r0 = 12 then
nm (sI X r0 22 v2) fun X66_15 =>
if mT X66_15 r0 = 12 then
nm (sI X66_15 r0 23 v3) fun X71_17 =>
if s0 = 0 then (
fX12_named_L90 n X71_17
) else (
if mT X71_17 r0 = 12 then
bd (fX12_isIn r0 (((v1).toInt64)) (0 : Int64) (1 : Int64) X71_17) fun w19 X84_20 =>
if w19 = 0 then (
fX12_named_L90 n X84_20
) else (
if v1 = 0 then (
if mT X84_20 r0 = 12 then
if mR X84_20 r0 8 ≠ 0 then
bd (fX12_find n r0 ((mR X84_20 r0 8)) ((mI X84_20 r0 6)) v5 X84_20) fun w24 X107_25 =>
some (w24, X107_25)
else none
else none
) else (
if mT X84_20 r0 = 12 then
if mR X84_20 r0 9 ≠ 0 then
bd (fX12_find n r0 ((mR X84_20 r0 9)) ((mI X84_20 r0 7)) v5 X84_20) fun w28 X124_29 =>
some (w28, X124_29)
else none
else none
)
)
else none
)
else none
else none
def fX12_named_L61 (n : Nat) (r0 : Nat) (v1 : Int32) (v2 : Int32) (v3 : Int32) (v5 : Int64) (X : Mm) : Option (Int32 × Mm) :=
fX12_named_L62 n r0 v1 v2 v3 v5 (0 : Int32) X
def fX12_named_L45 (n : Nat) (r0 : Nat) (v1 : Int32) (v2 : Int32) (v3 : Int32) (v4 : Int32) (v5 : Int64) (X : Mm) : Option (Int32 × Mm) :=
if v4 = 0 then (
fX12_named_L61 n r0 v1 v2 v3 v5 X
) else (
if mT X r0 = 12 then
if (mI X r0 16) = 0 then (
fX12_named_L62 n r0 v1 v2 v3 v5 (1 : Int32) X
) else (
fX12_named_L61 n r0 v1 v2 v3 v5 X
)
else none
)
def fX12_named (n : Nat) (r0 : Nat) (v1 : Int32) (X : Mm) : Option (Int32 × Mm) :=
if mT X r0 = 12 then
nm (sI X r0 0 (0 : Int32)) fun X2_1 =>
if mT X2_1 r0 = 12 then
nm ((mI X2_1 r0 22)) fun v2_9 =>
nm ((mI X2_1 r0 23)) fun v3_14 =>
nm (sI X2_1 r0 22 (0 : Int32)) fun X17_6 =>
if mT X17_6 r0 = 12 then
bd (fX12_starts n r0 X17_6) fun _ X21_8 =>
if mT X21_8 r0 = 12 then
bd (fX12_isName r0 X21_8) fun w10 X25_11 =>
if mT X25_11 r0 = 12 then
nm ((mJ X25_11 r0 21)) fun v5_34 =>
if w10 = 0 then (
fX12_named_L45 n r0 v1 v2_9 v3_14 w10 v5_34 X25_11
) else (
bd (fX12_next n r0 X25_11) fun _ X42_32 =>
fX12_named_L45 n r0 v1 v2_9 v3_14 w10 v5_34 X42_32
)
else none
else none
else none
else none
else none
theorem gX12_named_L90 {E : q_E} {X0 : Mm} (C : Cx E cX12_named RX12 7 (some .int) (q_rm 4 88 0 0) X0) (n : Nat) (X : Mm) : Sm E (q_fin E q_eI X0 0 0) 0 0 90 [] [] X (fX12_named_L90 n  X) := by
  unfold fX12_named_L90
  refine q_iconst C (-1 : Int32) dX12_named_90 rfl ?_
  exact q_iret C dX12_named_91
theorem gX12_named_L62 {E : q_E} {X0 : Mm} (C : Cx E cX12_named RX12 7 (some .int) (q_rm 4 88 0 0) X0) (n : Nat) (r0 : Nat) (v1 : Int32) (v2 : Int32) (v3 : Int32) (v5 : Int64) (s0 : Int32) (X : Mm) : Sm E (q_fin E q_eI X0 0 0) 0 0 62 [(0, .ref (q_P E + r0)), (1, .int v1), (2, .int v2), (3, .int v3), (5, .long v5)] [.int s0] X (fX12_named_L62 n r0 v1 v2 v3 v5 s0 X) := by
  unfold fX12_named_L62
  refine q_istore C [(4, .int s0), (0, .ref (q_P E + r0)), (1, .int v1), (2, .int v2), (3, .int v3), (5, .long v5)] dX12_named_62 (Nat.le_of_ble_eq_true rfl) rfl ?_
  refine q_aload_n C 1 dX12_named_64 rfl rfl ?_
  refine q_iload_n C 3 dX12_named_65 rfl rfl ?_
  refine q_chk (fun h16 => ?_)
  refine p_putI C fpX12_231 rfl dX12_named_66 h16 ?_
  refine q_nmX (fun X66_15 => ?_)
  refine q_aload_n C 1 dX12_named_69 rfl rfl ?_
  refine q_iload_n C 4 dX12_named_70 rfl rfl ?_
  refine q_chk (fun h18 => ?_)
  refine p_putI C fpX12_37 rfl dX12_named_71 h18 ?_
  refine q_nmX (fun X71_17 => ?_)
  refine q_iload C 0 dX12_named_74 rfl ?_
  refine q_if_eq C 90 dX12_named_76 (by decide) (fun _ => ?_) (fun _ => ?_)
  · refine q_sub C [] [] rfl ?_
    exact gX12_named_L90 C n X71_17
  · refine q_aload_n C 1 dX12_named_79 rfl rfl ?_
    refine q_iload_n C 2 dX12_named_80 rfl rfl ?_
    refine q_i2l C dX12_named_81 ?_
    refine q_lconst C (0 : Int64) dX12_named_82 rfl ?_
    refine q_lconst C (1 : Int64) dX12_named_83 rfl ?_
    refine q_chk (fun h21 => ?_)
    refine q_cVI (As := (fun P => [.long ((v1).toInt64), .long (0 : Int64), .long (1 : Int64)])) C [] (sX12_isIn r0 (((v1).toInt64)) (0 : Int64) (1 : Int64)) fcX12_80 rfl (fun _ => rfl) ⟨Nat.le_of_ble_eq_true rfl, Nat.le_of_ble_eq_true rfl⟩ ⟨Nat.le_of_ble_eq_true rfl, Nat.le_of_ble_eq_true rfl⟩ (Nat.le_of_ble_eq_true rfl) dX12_named_84 h21 (fun w19 X84_20 => ?_)
    refine q_if_ne C 92 dX12_named_87 (by decide) (fun _ => ?_) (fun _ => ?_)
    · refine q_sub C [] [] rfl ?_
      exact gX12_named_L90 C n X84_20
    · refine q_iload_n C 2 dX12_named_92 rfl rfl ?_
      refine q_if_ne C 113 dX12_named_93 (by decide) (fun _ => ?_) (fun _ => ?_)
      · refine q_aload_n C 1 dX12_named_96 rfl rfl ?_
        refine q_aload_n C 1 dX12_named_97 rfl rfl ?_
        refine q_chk (fun h22 => ?_)
        refine q_chk (fun h23 => ?_)
        refine p_getR C fgX12_24 rfl dX12_named_98 h22 h23 ?_
        refine q_aload_n C 1 dX12_named_101 rfl rfl ?_
        refine p_getI C fgX12_77 rfl dX12_named_102 h22 ?_
        refine q_lload C 5 dX12_named_105 rfl ?_
        refine q_cVI (As := (fun P => [.ref (P + (mR X84_20 r0 8)), .int (mI X84_20 r0 6), .long v5])) C [] (sX12_find n r0 ((mR X84_20 r0 8)) ((mI X84_20 r0 6)) v5) fcX12_290 rfl (fun _ => rfl) ⟨Nat.le_of_ble_eq_true rfl, Nat.le_of_ble_eq_true rfl⟩ ⟨Nat.le_of_ble_eq_true rfl, Nat.le_of_ble_eq_true rfl⟩ (Nat.le_of_ble_eq_true rfl) dX12_named_107 h22 (fun w24 X107_25 => ?_)
        refine q_goto C 127 dX12_named_110 (by decide) ?_
        exact q_iret C dX12_named_127
      · refine q_aload_n C 1 dX12_named_113 rfl rfl ?_
        refine q_aload_n C 1 dX12_named_114 rfl rfl ?_
        refine q_chk (fun h26 => ?_)
        refine q_chk (fun h27 => ?_)
        refine p_getR C fgX12_27 rfl dX12_named_115 h26 h27 ?_
        refine q_aload_n C 1 dX12_named_118 rfl rfl ?_
        refine p_getI C fgX12_84 rfl dX12_named_119 h26 ?_
        refine q_lload C 5 dX12_named_122 rfl ?_
        refine q_cVI (As := (fun P => [.ref (P + (mR X84_20 r0 9)), .int (mI X84_20 r0 7), .long v5])) C [] (sX12_find n r0 ((mR X84_20 r0 9)) ((mI X84_20 r0 7)) v5) fcX12_290 rfl (fun _ => rfl) ⟨Nat.le_of_ble_eq_true rfl, Nat.le_of_ble_eq_true rfl⟩ ⟨Nat.le_of_ble_eq_true rfl, Nat.le_of_ble_eq_true rfl⟩ (Nat.le_of_ble_eq_true rfl) dX12_named_124 h26 (fun w28 X124_29 => ?_)
        exact q_iret C dX12_named_127
theorem gX12_named_L61 {E : q_E} {X0 : Mm} (C : Cx E cX12_named RX12 7 (some .int) (q_rm 4 88 0 0) X0) (n : Nat) (r0 : Nat) (v1 : Int32) (v2 : Int32) (v3 : Int32) (v5 : Int64) (X : Mm) : Sm E (q_fin E q_eI X0 0 0) 0 0 61 [(0, .ref (q_P E + r0)), (1, .int v1), (2, .int v2), (3, .int v3), (5, .long v5)] [] X (fX12_named_L61 n r0 v1 v2 v3 v5 X) := by
  unfold fX12_named_L61
  refine q_iconst C (0 : Int32) dX12_named_61 rfl ?_
  exact gX12_named_L62 C n r0 v1 v2 v3 v5 (0 : Int32) X
theorem gX12_named_L45 {E : q_E} {X0 : Mm} (C : Cx E cX12_named RX12 7 (some .int) (q_rm 4 88 0 0) X0) (n : Nat) (r0 : Nat) (v1 : Int32) (v2 : Int32) (v3 : Int32) (v4 : Int32) (v5 : Int64) (X : Mm) : Sm E (q_fin E q_eI X0 0 0) 0 0 45 [(0, .ref (q_P E + r0)), (1, .int v1), (2, .int v2), (3, .int v3), (4, .int v4), (5, .long v5)] [] X (fX12_named_L45 n r0 v1 v2 v3 v4 v5 X) := by
  unfold fX12_named_L45
  refine q_iload C 4 dX12_named_45 rfl ?_
  refine q_if_eq C 61 dX12_named_47 (by decide) (fun _ => ?_) (fun _ => ?_)
  · refine q_sub C [(0, .ref (q_P E + r0)), (1, .int v1), (2, .int v2), (3, .int v3), (5, .long v5)] [0, 1, 2, 3, 5] rfl ?_
    exact gX12_named_L61 C n r0 v1 v2 v3 v5 X
  · refine q_aload_n C 0 dX12_named_50 rfl rfl ?_
    refine q_chk (fun h30 => ?_)
    refine p_getI C fgX12_253 rfl dX12_named_51 h30 ?_
    refine q_if_ne C 61 dX12_named_54 (by decide) (fun _ => ?_) (fun _ => ?_)
    · refine q_iconst C (1 : Int32) dX12_named_57 rfl ?_
      refine q_goto C 62 dX12_named_58 (by decide) ?_
      refine q_sub C [(0, .ref (q_P E + r0)), (1, .int v1), (2, .int v2), (3, .int v3), (5, .long v5)] [0, 1, 2, 3, 5] rfl ?_
      exact gX12_named_L62 C n r0 v1 v2 v3 v5 (1 : Int32) X
    · refine q_sub C [(0, .ref (q_P E + r0)), (1, .int v1), (2, .int v2), (3, .int v3), (5, .long v5)] [0, 1, 2, 3, 5] rfl ?_
      exact gX12_named_L61 C n r0 v1 v2 v3 v5 X
theorem sX12_named (n : Nat) (r0 : Nat) (v1 : Int32) : q_Ct yX12_named cX12_named 7 (some .int) 4 88 0 0 q_eI (fun P => [.ref (P + r0), .int v1]) (fX12_named n r0 v1) := by
  refine q_meth (by decide +kernel) (fun P => Nat.le_of_ble_eq_true rfl) (fun E X C hn => ?_)
  show Sm E (q_fin E q_eI X 0 0) 0 0 0 [(0, .ref (q_P E + r0)), (1, .int v1)] [] X _
  unfold fX12_named
  refine q_aload_n C 0 dX12_named_0 rfl rfl ?_
  refine q_iconst C (0 : Int32) dX12_named_1 rfl ?_
  refine q_chk (fun h2 => ?_)
  refine p_putI C fpX12_63 rfl dX12_named_2 h2 ?_
  refine q_nmX (fun X2_1 => ?_)
  refine q_aload_n C 0 dX12_named_5 rfl rfl ?_
  refine q_chk (fun h3 => ?_)
  refine p_getI C fgX12_231 rfl dX12_named_6 h3 ?_
  refine q_nmi (fun v2_9 => ?_)
  refine q_istore_n C [(2, .int v2_9), (0, .ref (q_P E + r0)), (1, .int v1)] dX12_named_9 rfl (Nat.le_of_ble_eq_true rfl) rfl ?_
  refine q_aload_n C 1 dX12_named_10 rfl rfl ?_
  refine p_getI C fgX12_37 rfl dX12_named_11 h3 ?_
  refine q_nmi (fun v3_14 => ?_)
  refine q_istore_n C [(3, .int v3_14), (2, .int v2_9), (0, .ref (q_P E + r0)), (1, .int v1)] dX12_named_14 rfl (Nat.le_of_ble_eq_true rfl) rfl ?_
  refine q_aload_n C 2 dX12_named_15 rfl rfl ?_
  refine q_iconst C (0 : Int32) dX12_named_16 rfl ?_
  refine p_putI C fpX12_231 rfl dX12_named_17 h3 ?_
  refine q_nmX (fun X17_6 => ?_)
  refine q_aload_n C 2 dX12_named_20 rfl rfl ?_
  refine q_chk (fun h9 => ?_)
  refine q_cVV (As := (fun P => [])) C [] (sX12_starts n r0) fcX12_234 rfl (fun _ => rfl) ⟨Nat.le_of_ble_eq_true rfl, Nat.le_of_ble_eq_true rfl⟩ ⟨Nat.le_of_ble_eq_true rfl, Nat.le_of_ble_eq_true rfl⟩ (Nat.le_of_ble_eq_true rfl) dX12_named_21 h9 (fun _ X21_8 => ?_)
  refine q_aload_n C 2 dX12_named_24 rfl rfl ?_
  refine q_chk (fun h12 => ?_)
  refine q_cVI (As := (fun P => [])) C [] (sX12_isName r0) fcX12_287 rfl (fun _ => rfl) ⟨Nat.le_of_ble_eq_true rfl, Nat.le_of_ble_eq_true rfl⟩ ⟨Nat.le_of_ble_eq_true rfl, Nat.le_of_ble_eq_true rfl⟩ (Nat.le_of_ble_eq_true rfl) dX12_named_25 h12 (fun w10 X25_11 => ?_)
  refine q_istore C [(4, .int w10), (3, .int v3_14), (2, .int v2_9), (0, .ref (q_P E + r0)), (1, .int v1)] dX12_named_28 (Nat.le_of_ble_eq_true rfl) rfl ?_
  refine q_aload_n C 3 dX12_named_30 rfl rfl ?_
  refine q_chk (fun h13 => ?_)
  refine p_getJ C fgX12_256 rfl dX12_named_31 h13 ?_
  refine q_nml (fun v5_34 => ?_)
  refine q_lstore C [(5, .long v5_34), (4, .int w10), (3, .int v3_14), (2, .int v2_9), (0, .ref (q_P E + r0)), (1, .int v1)] dX12_named_34 (Nat.le_of_ble_eq_true rfl) rfl ?_
  refine q_iload C 1 dX12_named_36 rfl ?_
  refine q_if_eq C 45 dX12_named_38 (by decide) (fun _ => ?_) (fun _ => ?_)
  · refine q_sub C [(0, .ref (q_P E + r0)), (1, .int v1), (2, .int v2_9), (3, .int v3_14), (4, .int w10), (5, .long v5_34)] [4, 5, 3, 2, 1, 0] rfl ?_
    exact gX12_named_L45 C n r0 v1 v2_9 v3_14 w10 v5_34 X25_11
  · refine q_aload_n C 4 dX12_named_41 rfl rfl ?_
    refine q_cVV (As := (fun P => [])) C [] (sX12_next n r0) fcX12_228 rfl (fun _ => rfl) ⟨Nat.le_of_ble_eq_true rfl, Nat.le_of_ble_eq_true rfl⟩ ⟨Nat.le_of_ble_eq_true rfl, Nat.le_of_ble_eq_true rfl⟩ (Nat.le_of_ble_eq_true rfl) dX12_named_42 h13 (fun _ X42_32 => ?_)
    refine q_sub C [(0, .ref (q_P E + r0)), (1, .int v1), (2, .int v2_9), (3, .int v3_14), (4, .int w10), (5, .long v5_34)] [4, 5, 3, 2, 1, 0] rfl ?_
    exact gX12_named_L45 C n r0 v1 v2_9 v3_14 w10 v5_34 X42_32
/-! RecordClaimsModel.openTrades(Z)I -/
abbrev cX12_openTrades : ByteArray := prog_14_method_112_code
def yX12_openTrades : MethodName := ⟨RX12, "openTrades", "(Z)I"⟩
theorem dX12_openTrades_0 : decode cX12_openTrades 0 = .ok (.iconst 0, 1) := by decide +kernel
theorem dX12_openTrades_1 : decode cX12_openTrades 1 = .ok (.istore_n 2, 1) := by decide +kernel
theorem dX12_openTrades_2 : decode cX12_openTrades 2 = .ok (.iconst 0, 1) := by decide +kernel
theorem dX12_openTrades_3 : decode cX12_openTrades 3 = .ok (.istore_n 3, 1) := by decide +kernel
theorem dX12_openTrades_4 : decode cX12_openTrades 4 = .ok (.iload_n 3, 1) := by decide +kernel
theorem dX12_openTrades_5 : decode cX12_openTrades 5 = .ok (.aload_n 0, 1) := by decide +kernel
theorem dX12_openTrades_6 : decode cX12_openTrades 6 = .ok (.invokevirtual 87, 3) := by decide +kernel
theorem dX12_openTrades_9 : decode cX12_openTrades 9 = .ok (.if_icmp .ge 57, 3) := by decide +kernel
theorem dX12_openTrades_12 : decode cX12_openTrades 12 = .ok (.aload_n 0, 1) := by decide +kernel
theorem dX12_openTrades_13 : decode cX12_openTrades 13 = .ok (.getfield 11, 3) := by decide +kernel
theorem dX12_openTrades_16 : decode cX12_openTrades 16 = .ok (.aload_n 0, 1) := by decide +kernel
theorem dX12_openTrades_17 : decode cX12_openTrades 17 = .ok (.iload_n 3, 1) := by decide +kernel
theorem dX12_openTrades_18 : decode cX12_openTrades 18 = .ok (.bipush 7, 2) := by decide +kernel
theorem dX12_openTrades_20 : decode cX12_openTrades 20 = .ok (.invokevirtual 111, 3) := by decide +kernel
theorem dX12_openTrades_23 : decode cX12_openTrades 23 = .ok (.laload, 1) := by decide +kernel
theorem dX12_openTrades_24 : decode cX12_openTrades 24 = .ok (.lconst 0, 1) := by decide +kernel
theorem dX12_openTrades_25 : decode cX12_openTrades 25 = .ok (.lcmp, 1) := by decide +kernel
theorem dX12_openTrades_26 : decode cX12_openTrades 26 = .ok (.ifCond .ne 34, 3) := by decide +kernel
theorem dX12_openTrades_29 : decode cX12_openTrades 29 = .ok (.iload_n 1, 1) := by decide +kernel
theorem dX12_openTrades_30 : decode cX12_openTrades 30 = .ok (.ifCond .eq 26, 3) := by decide +kernel
theorem dX12_openTrades_33 : decode cX12_openTrades 33 = .ok (.aload_n 0, 1) := by decide +kernel
theorem dX12_openTrades_34 : decode cX12_openTrades 34 = .ok (.getfield 11, 3) := by decide +kernel
theorem dX12_openTrades_37 : decode cX12_openTrades 37 = .ok (.aload_n 0, 1) := by decide +kernel
theorem dX12_openTrades_38 : decode cX12_openTrades 38 = .ok (.iload_n 3, 1) := by decide +kernel
theorem dX12_openTrades_39 : decode cX12_openTrades 39 = .ok (.bipush 6, 2) := by decide +kernel
theorem dX12_openTrades_41 : decode cX12_openTrades 41 = .ok (.invokevirtual 111, 3) := by decide +kernel
theorem dX12_openTrades_44 : decode cX12_openTrades 44 = .ok (.laload, 1) := by decide +kernel
theorem dX12_openTrades_45 : decode cX12_openTrades 45 = .ok (.aload_n 0, 1) := by decide +kernel
theorem dX12_openTrades_46 : decode cX12_openTrades 46 = .ok (.getfield 11, 3) := by decide +kernel
theorem dX12_openTrades_49 : decode cX12_openTrades 49 = .ok (.bipush 62, 2) := by decide +kernel
theorem dX12_openTrades_51 : decode cX12_openTrades 51 = .ok (.laload, 1) := by decide +kernel
theorem dX12_openTrades_52 : decode cX12_openTrades 52 = .ok (.lcmp, 1) := by decide +kernel
theorem dX12_openTrades_53 : decode cX12_openTrades 53 = .ok (.ifCond .ge 7, 3) := by decide +kernel
theorem dX12_openTrades_56 : decode cX12_openTrades 56 = .ok (.iload_n 2, 1) := by decide +kernel
theorem dX12_openTrades_57 : decode cX12_openTrades 57 = .ok (.iconst 1, 1) := by decide +kernel
theorem dX12_openTrades_58 : decode cX12_openTrades 58 = .ok (.iadd, 1) := by decide +kernel
theorem dX12_openTrades_59 : decode cX12_openTrades 59 = .ok (.istore_n 2, 1) := by decide +kernel
theorem dX12_openTrades_60 : decode cX12_openTrades 60 = .ok (.iinc 3 1, 3) := by decide +kernel
theorem dX12_openTrades_63 : decode cX12_openTrades 63 = .ok (.goto (-59), 3) := by decide +kernel
theorem dX12_openTrades_66 : decode cX12_openTrades 66 = .ok (.iload_n 2, 1) := by decide +kernel
theorem dX12_openTrades_67 : decode cX12_openTrades 67 = .ok (.ireturn, 1) := by decide +kernel
def fX12_openTrades_L60 (n : Nat) (k4 : Nat → Int32 → Int32 → Int32 → Mm → Option (Int32 × Mm)) (r0 : Nat) (v1 : Int32) (v2 : Int32) (v3 : Int32) (X : Mm) : Option (Int32 × Mm) :=
nm (v3 + (1 : Int32)) fun v3_60 =>
k4 r0 v1 v2 v3_60 X
def fX12_openTrades_L56 (n : Nat) (k4 : Nat → Int32 → Int32 → Int32 → Mm → Option (Int32 × Mm)) (r0 : Nat) (v1 : Int32) (v2 : Int32) (v3 : Int32) (X : Mm) : Option (Int32 × Mm) :=
nm ((v2 + (1 : Int32))) fun v2_59 =>
fX12_openTrades_L60 n k4 r0 v1 v2_59 v3 X
def fX12_openTrades_L4 (n : Nat) : Nat → Nat → Int32 → Int32 → Int32 → Mm → Option (Int32 × Mm)
| 0, _, _, _, _, _ => none
| j + 1, r0, v1, v2, v3, X =>
if mT X r0 = 12 then
bd (fX12_tradeMany r0 X) fun w1 X6_2 =>
if w1 ≤ v3 then (
some (v2, X6_2)
) else (
if mT X6_2 r0 = 12 then
if mR X6_2 r0 1 ≠ 0 then
bd (fX12_at r0 v3 (7 : Int32) X6_2) fun w6 X20_7 =>
if mT X20_7 (mR X6_2 r0 1) = 15 then
if q_b X20_7 (mR X6_2 r0 1) w6 then
if (lg_cmp (mJ X20_7 (mR X6_2 r0 1) (w6).toNatClampNeg) (0 : Int64)) = 0 then (
if v1 = 0 then (
fX12_openTrades_L56 n (fX12_openTrades_L4 n j) r0 v1 v2 v3 X20_7
) else (
if mT X20_7 r0 = 12 then
if mR X20_7 r0 1 ≠ 0 then
bd (fX12_at r0 v3 (6 : Int32) X20_7) fun w13 X41_14 =>
if mT X41_14 (mR X20_7 r0 1) = 15 then
if q_b X41_14 (mR X20_7 r0 1) w13 then
if mT X41_14 r0 = 12 then
if mR X41_14 r0 1 ≠ 0 then
if mT X41_14 (mR X41_14 r0 1) = 15 then
if q_b X41_14 (mR X41_14 r0 1) (62 : Int32) then
if 0 ≤ (lg_cmp (mJ X41_14 (mR X20_7 r0 1) (w13).toNatClampNeg) (mJ X41_14 (mR X41_14 r0 1) ((62 : Int32)).toNatClampNeg)) then (
fX12_openTrades_L60 n (fX12_openTrades_L4 n j) r0 v1 v2 v3 X41_14
) else (
fX12_openTrades_L56 n (fX12_openTrades_L4 n j) r0 v1 v2 v3 X41_14
)
else none
else none
else none
else none
else none
else none
else none
else none
)
) else (
fX12_openTrades_L60 n (fX12_openTrades_L4 n j) r0 v1 v2 v3 X20_7
)
else none
else none
else none
else none
)
else none
def fX12_openTrades (n : Nat) (r0 : Nat) (v1 : Int32) (X : Mm) : Option (Int32 × Mm) :=
fX12_openTrades_L4 n n r0 v1 (0 : Int32) (0 : Int32) X
theorem gX12_openTrades_L60 {E : q_E} {X0 : Mm} (C : Cx E cX12_openTrades RX12 4 (some .int) (q_rm 1 22 0 0) X0) (n : Nat) (k4 : Nat → Int32 → Int32 → Int32 → Mm → Option (Int32 × Mm)) (hk4 : ∀ (r0 : Nat) (v1 : Int32) (v2 : Int32) (v3 : Int32) (X : Mm), Sm E (q_fin E q_eI X0 0 0) 0 0 4 [(0, .ref (q_P E + r0)), (1, .int v1), (2, .int v2), (3, .int v3)] [] X (k4 r0 v1 v2 v3 X)) (r0 : Nat) (v1 : Int32) (v2 : Int32) (v3 : Int32) (X : Mm) : Sm E (q_fin E q_eI X0 0 0) 0 0 60 [(0, .ref (q_P E + r0)), (1, .int v1), (2, .int v2), (3, .int v3)] [] X (fX12_openTrades_L60 n k4 r0 v1 v2 v3 X) := by
  unfold fX12_openTrades_L60
  refine q_iincN C (1 : Int32) 3 (fun v3_60 => [(3, .int v3_60), (0, .ref (q_P E + r0)), (1, .int v1), (2, .int v2)]) dX12_openTrades_60 rfl rfl (Nat.le_of_ble_eq_true rfl) (fun _ => rfl) (fun v3_60 => ?_)
  refine q_goto C 4 dX12_openTrades_63 (by decide) ?_
  refine q_sub C [(0, .ref (q_P E + r0)), (1, .int v1), (2, .int v2), (3, .int v3_60)] [1, 2, 3, 0] rfl ?_
  exact hk4 r0 v1 v2 v3_60 X
theorem gX12_openTrades_L56 {E : q_E} {X0 : Mm} (C : Cx E cX12_openTrades RX12 4 (some .int) (q_rm 1 22 0 0) X0) (n : Nat) (k4 : Nat → Int32 → Int32 → Int32 → Mm → Option (Int32 × Mm)) (hk4 : ∀ (r0 : Nat) (v1 : Int32) (v2 : Int32) (v3 : Int32) (X : Mm), Sm E (q_fin E q_eI X0 0 0) 0 0 4 [(0, .ref (q_P E + r0)), (1, .int v1), (2, .int v2), (3, .int v3)] [] X (k4 r0 v1 v2 v3 X)) (r0 : Nat) (v1 : Int32) (v2 : Int32) (v3 : Int32) (X : Mm) : Sm E (q_fin E q_eI X0 0 0) 0 0 56 [(0, .ref (q_P E + r0)), (1, .int v1), (2, .int v2), (3, .int v3)] [] X (fX12_openTrades_L56 n k4 r0 v1 v2 v3 X) := by
  unfold fX12_openTrades_L56
  refine q_iload_n C 2 dX12_openTrades_56 rfl rfl ?_
  refine q_iconst C (1 : Int32) dX12_openTrades_57 rfl ?_
  refine q_iadd C dX12_openTrades_58 ?_
  refine q_nmi (fun v2_59 => ?_)
  refine q_istore_n C [(2, .int v2_59), (0, .ref (q_P E + r0)), (1, .int v1), (3, .int v3)] dX12_openTrades_59 rfl (Nat.le_of_ble_eq_true rfl) rfl ?_
  refine q_sub C [(0, .ref (q_P E + r0)), (1, .int v1), (2, .int v2_59), (3, .int v3)] [1, 2, 0, 3] rfl ?_
  exact gX12_openTrades_L60 C n k4 hk4 r0 v1 v2_59 v3 X
theorem gX12_openTrades_L4 {E : q_E} {X0 : Mm} (C : Cx E cX12_openTrades RX12 4 (some .int) (q_rm 1 22 0 0) X0) (n : Nat) : ∀ (j : Nat) (r0 : Nat) (v1 : Int32) (v2 : Int32) (v3 : Int32) (X : Mm), Sm E (q_fin E q_eI X0 0 0) 0 0 4 [(0, .ref (q_P E + r0)), (1, .int v1), (2, .int v2), (3, .int v3)] [] X (fX12_openTrades_L4 n j r0 v1 v2 v3 X) := by
  intro j
  induction j with
  | zero => intros; exact Sm.none
  | succ j ih =>
    intro r0 v1 v2 v3 X
    rw [fX12_openTrades_L4]
    refine q_iload_n C 3 dX12_openTrades_4 rfl rfl ?_
    refine q_aload_n C 0 dX12_openTrades_5 rfl rfl ?_
    refine q_chk (fun h3 => ?_)
    refine q_cVI (As := (fun P => [])) C [.int v3] (sX12_tradeMany r0) fcX12_87 rfl (fun _ => rfl) ⟨Nat.le_of_ble_eq_true rfl, Nat.le_of_ble_eq_true rfl⟩ ⟨Nat.le_of_ble_eq_true rfl, Nat.le_of_ble_eq_true rfl⟩ (Nat.le_of_ble_eq_true rfl) dX12_openTrades_6 h3 (fun w1 X6_2 => ?_)
    refine q_icmp_ge C 66 dX12_openTrades_9 (by decide) (fun _ => ?_) (fun _ => ?_)
    · refine q_iload_n C 2 dX12_openTrades_66 rfl rfl ?_
      exact q_iret C dX12_openTrades_67
    · refine q_aload_n C 0 dX12_openTrades_12 rfl rfl ?_
      refine q_chk (fun h4 => ?_)
      refine q_chk (fun h5 => ?_)
      refine p_getR C fgX12_11 rfl dX12_openTrades_13 h4 h5 ?_
      refine q_aload_n C 0 dX12_openTrades_16 rfl rfl ?_
      refine q_iload_n C 3 dX12_openTrades_17 rfl rfl ?_
      refine q_bipush C (7 : Int32) dX12_openTrades_18 rfl ?_
      refine q_cVI (As := (fun P => [.int v3, .int (7 : Int32)])) C [.ref (q_P E + (mR X6_2 r0 1))] (sX12_at r0 v3 (7 : Int32)) fcX12_111 rfl (fun _ => rfl) ⟨Nat.le_of_ble_eq_true rfl, Nat.le_of_ble_eq_true rfl⟩ ⟨Nat.le_of_ble_eq_true rfl, Nat.le_of_ble_eq_true rfl⟩ (Nat.le_of_ble_eq_true rfl) dX12_openTrades_20 h4 (fun w6 X20_7 => ?_)
      refine q_chk (fun h8 => ?_)
      refine q_chk (fun h9 => ?_)
      refine p_lald C dX12_openTrades_23 h8 h9 ?_
      refine q_lconst C (0 : Int64) dX12_openTrades_24 rfl ?_
      refine q_lcmp C dX12_openTrades_25 ?_
      refine q_if_ne C 60 dX12_openTrades_26 (by decide) (fun _ => ?_) (fun _ => ?_)
      · refine q_iload_n C 1 dX12_openTrades_29 rfl rfl ?_
        refine q_if_eq C 56 dX12_openTrades_30 (by decide) (fun _ => ?_) (fun _ => ?_)
        · exact gX12_openTrades_L56 C n (fX12_openTrades_L4 n j) ih r0 v1 v2 v3 X20_7
        · refine q_aload_n C 0 dX12_openTrades_33 rfl rfl ?_
          refine q_chk (fun h11 => ?_)
          refine q_chk (fun h12 => ?_)
          refine p_getR C fgX12_11 rfl dX12_openTrades_34 h11 h12 ?_
          refine q_aload_n C 0 dX12_openTrades_37 rfl rfl ?_
          refine q_iload_n C 3 dX12_openTrades_38 rfl rfl ?_
          refine q_bipush C (6 : Int32) dX12_openTrades_39 rfl ?_
          refine q_cVI (As := (fun P => [.int v3, .int (6 : Int32)])) C [.ref (q_P E + (mR X20_7 r0 1))] (sX12_at r0 v3 (6 : Int32)) fcX12_111 rfl (fun _ => rfl) ⟨Nat.le_of_ble_eq_true rfl, Nat.le_of_ble_eq_true rfl⟩ ⟨Nat.le_of_ble_eq_true rfl, Nat.le_of_ble_eq_true rfl⟩ (Nat.le_of_ble_eq_true rfl) dX12_openTrades_41 h11 (fun w13 X41_14 => ?_)
          refine q_chk (fun h15 => ?_)
          refine q_chk (fun h16 => ?_)
          refine p_lald C dX12_openTrades_44 h15 h16 ?_
          refine q_aload_n C 0 dX12_openTrades_45 rfl rfl ?_
          refine q_chk (fun h17 => ?_)
          refine q_chk (fun h18 => ?_)
          refine p_getR C fgX12_11 rfl dX12_openTrades_46 h17 h18 ?_
          refine q_bipush C (62 : Int32) dX12_openTrades_49 rfl ?_
          refine q_chk (fun h19 => ?_)
          refine q_chk (fun h20 => ?_)
          refine p_lald C dX12_openTrades_51 h19 h20 ?_
          refine q_lcmp C dX12_openTrades_52 ?_
          refine q_if_ge C 60 dX12_openTrades_53 (by decide) (fun _ => ?_) (fun _ => ?_)
          · exact gX12_openTrades_L60 C n (fX12_openTrades_L4 n j) ih r0 v1 v2 v3 X41_14
          · exact gX12_openTrades_L56 C n (fX12_openTrades_L4 n j) ih r0 v1 v2 v3 X41_14
      · exact gX12_openTrades_L60 C n (fX12_openTrades_L4 n j) ih r0 v1 v2 v3 X20_7
theorem sX12_openTrades (n : Nat) (r0 : Nat) (v1 : Int32) : q_Ct yX12_openTrades cX12_openTrades 4 (some .int) 1 22 0 0 q_eI (fun P => [.ref (P + r0), .int v1]) (fX12_openTrades n r0 v1) := by
  refine q_meth (by decide +kernel) (fun P => Nat.le_of_ble_eq_true rfl) (fun E X C hn => ?_)
  show Sm E (q_fin E q_eI X 0 0) 0 0 0 [(0, .ref (q_P E + r0)), (1, .int v1)] [] X _
  unfold fX12_openTrades
  refine q_iconst C (0 : Int32) dX12_openTrades_0 rfl ?_
  refine q_istore_n C [(2, .int (0 : Int32)), (0, .ref (q_P E + r0)), (1, .int v1)] dX12_openTrades_1 rfl (Nat.le_of_ble_eq_true rfl) rfl ?_
  refine q_iconst C (0 : Int32) dX12_openTrades_2 rfl ?_
  refine q_istore_n C [(3, .int (0 : Int32)), (2, .int (0 : Int32)), (0, .ref (q_P E + r0)), (1, .int v1)] dX12_openTrades_3 rfl (Nat.le_of_ble_eq_true rfl) rfl ?_
  refine q_sub C [(0, .ref (q_P E + r0)), (1, .int v1), (2, .int (0 : Int32)), (3, .int (0 : Int32))] [2, 3, 1, 0] rfl ?_
  exact gX12_openTrades_L4 C n n r0 v1 (0 : Int32) (0 : Int32) X
/-! RecordClaimsModel.allWaiting()I -/
abbrev cX12_allWaiting : ByteArray := prog_14_method_113_code
def yX12_allWaiting : MethodName := ⟨RX12, "allWaiting", "()I"⟩
theorem dX12_allWaiting_0 : decode cX12_allWaiting 0 = .ok (.iconst 0, 1) := by decide +kernel
theorem dX12_allWaiting_1 : decode cX12_allWaiting 1 = .ok (.istore_n 1, 1) := by decide +kernel
theorem dX12_allWaiting_2 : decode cX12_allWaiting 2 = .ok (.iconst 0, 1) := by decide +kernel
theorem dX12_allWaiting_3 : decode cX12_allWaiting 3 = .ok (.istore_n 2, 1) := by decide +kernel
theorem dX12_allWaiting_4 : decode cX12_allWaiting 4 = .ok (.iload_n 2, 1) := by decide +kernel
theorem dX12_allWaiting_5 : decode cX12_allWaiting 5 = .ok (.aload_n 0, 1) := by decide +kernel
theorem dX12_allWaiting_6 : decode cX12_allWaiting 6 = .ok (.invokevirtual 91, 3) := by decide +kernel
theorem dX12_allWaiting_9 : decode cX12_allWaiting 9 = .ok (.if_icmp .ge 17, 3) := by decide +kernel
theorem dX12_allWaiting_12 : decode cX12_allWaiting 12 = .ok (.iload_n 1, 1) := by decide +kernel
theorem dX12_allWaiting_13 : decode cX12_allWaiting 13 = .ok (.aload_n 0, 1) := by decide +kernel
theorem dX12_allWaiting_14 : decode cX12_allWaiting 14 = .ok (.iload_n 2, 1) := by decide +kernel
theorem dX12_allWaiting_15 : decode cX12_allWaiting 15 = .ok (.invokevirtual 388, 3) := by decide +kernel
theorem dX12_allWaiting_18 : decode cX12_allWaiting 18 = .ok (.iadd, 1) := by decide +kernel
theorem dX12_allWaiting_19 : decode cX12_allWaiting 19 = .ok (.istore_n 1, 1) := by decide +kernel
theorem dX12_allWaiting_20 : decode cX12_allWaiting 20 = .ok (.iinc 2 1, 3) := by decide +kernel
theorem dX12_allWaiting_23 : decode cX12_allWaiting 23 = .ok (.goto (-19), 3) := by decide +kernel
theorem dX12_allWaiting_26 : decode cX12_allWaiting 26 = .ok (.iload_n 1, 1) := by decide +kernel
theorem dX12_allWaiting_27 : decode cX12_allWaiting 27 = .ok (.ireturn, 1) := by decide +kernel
def fX12_allWaiting_L4 (n : Nat) : Nat → Nat → Int32 → Int32 → Mm → Option (Int32 × Mm)
| 0, _, _, _, _ => none
| j + 1, r0, v1, v2, X =>
if mT X r0 = 12 then
bd (fX12_eventMany r0 X) fun w1 X6_2 =>
if w1 ≤ v2 then (
some (v1, X6_2)
) else (
if mT X6_2 r0 = 12 then
bd (fX12_waiting n r0 v2 X6_2) fun w4 X15_5 =>
nm ((v1 + w4)) fun v1_19 =>
nm (v2 + (1 : Int32)) fun v2_20 =>
(fX12_allWaiting_L4 n j) r0 v1_19 v2_20 X15_5
else none
)
else none
def fX12_allWaiting (n : Nat) (r0 : Nat) (X : Mm) : Option (Int32 × Mm) :=
fX12_allWaiting_L4 n n r0 (0 : Int32) (0 : Int32) X
theorem gX12_allWaiting_L4 {E : q_E} {X0 : Mm} (C : Cx E cX12_allWaiting RX12 3 (some .int) (q_rm 3 68 0 0) X0) (n : Nat) : ∀ (j : Nat) (r0 : Nat) (v1 : Int32) (v2 : Int32) (X : Mm), Sm E (q_fin E q_eI X0 0 0) 0 0 4 [(0, .ref (q_P E + r0)), (1, .int v1), (2, .int v2)] [] X (fX12_allWaiting_L4 n j r0 v1 v2 X) := by
  intro j
  induction j with
  | zero => intros; exact Sm.none
  | succ j ih =>
    intro r0 v1 v2 X
    rw [fX12_allWaiting_L4]
    refine q_iload_n C 2 dX12_allWaiting_4 rfl rfl ?_
    refine q_aload_n C 0 dX12_allWaiting_5 rfl rfl ?_
    refine q_chk (fun h3 => ?_)
    refine q_cVI (As := (fun P => [])) C [.int v2] (sX12_eventMany r0) fcX12_91 rfl (fun _ => rfl) ⟨Nat.le_of_ble_eq_true rfl, Nat.le_of_ble_eq_true rfl⟩ ⟨Nat.le_of_ble_eq_true rfl, Nat.le_of_ble_eq_true rfl⟩ (Nat.le_of_ble_eq_true rfl) dX12_allWaiting_6 h3 (fun w1 X6_2 => ?_)
    refine q_icmp_ge C 26 dX12_allWaiting_9 (by decide) (fun _ => ?_) (fun _ => ?_)
    · refine q_iload_n C 1 dX12_allWaiting_26 rfl rfl ?_
      exact q_iret C dX12_allWaiting_27
    · refine q_iload_n C 1 dX12_allWaiting_12 rfl rfl ?_
      refine q_aload_n C 0 dX12_allWaiting_13 rfl rfl ?_
      refine q_iload_n C 2 dX12_allWaiting_14 rfl rfl ?_
      refine q_chk (fun h6 => ?_)
      refine q_cVI (As := (fun P => [.int v2])) C [.int v1] (sX12_waiting n r0 v2) fcX12_388 rfl (fun _ => rfl) ⟨Nat.le_of_ble_eq_true rfl, Nat.le_of_ble_eq_true rfl⟩ ⟨Nat.le_of_ble_eq_true rfl, Nat.le_of_ble_eq_true rfl⟩ (Nat.le_of_ble_eq_true rfl) dX12_allWaiting_15 h6 (fun w4 X15_5 => ?_)
      refine q_iadd C dX12_allWaiting_18 ?_
      refine q_nmi (fun v1_19 => ?_)
      refine q_istore_n C [(1, .int v1_19), (0, .ref (q_P E + r0)), (2, .int v2)] dX12_allWaiting_19 rfl (Nat.le_of_ble_eq_true rfl) rfl ?_
      refine q_iincN C (1 : Int32) 2 (fun v2_20 => [(2, .int v2_20), (1, .int v1_19), (0, .ref (q_P E + r0))]) dX12_allWaiting_20 rfl rfl (Nat.le_of_ble_eq_true rfl) (fun _ => rfl) (fun v2_20 => ?_)
      refine q_goto C 4 dX12_allWaiting_23 (by decide) ?_
      refine q_sub C [(0, .ref (q_P E + r0)), (1, .int v1_19), (2, .int v2_20)] [2, 1, 0] rfl ?_
      exact ih r0 v1_19 v2_20 X15_5
theorem sX12_allWaiting (n : Nat) (r0 : Nat) : q_Ct yX12_allWaiting cX12_allWaiting 3 (some .int) 3 68 0 0 q_eI (fun P => [.ref (P + r0)]) (fX12_allWaiting n r0) := by
  refine q_meth (by decide +kernel) (fun P => Nat.le_of_ble_eq_true rfl) (fun E X C hn => ?_)
  show Sm E (q_fin E q_eI X 0 0) 0 0 0 [(0, .ref (q_P E + r0))] [] X _
  unfold fX12_allWaiting
  refine q_iconst C (0 : Int32) dX12_allWaiting_0 rfl ?_
  refine q_istore_n C [(1, .int (0 : Int32)), (0, .ref (q_P E + r0))] dX12_allWaiting_1 rfl (Nat.le_of_ble_eq_true rfl) rfl ?_
  refine q_iconst C (0 : Int32) dX12_allWaiting_2 rfl ?_
  refine q_istore_n C [(2, .int (0 : Int32)), (1, .int (0 : Int32)), (0, .ref (q_P E + r0))] dX12_allWaiting_3 rfl (Nat.le_of_ble_eq_true rfl) rfl ?_
  refine q_sub C [(0, .ref (q_P E + r0)), (1, .int (0 : Int32)), (2, .int (0 : Int32))] [2, 1, 0] rfl ?_
  exact gX12_allWaiting_L4 C n n r0 (0 : Int32) (0 : Int32) X
/-! RecordClaimsModel.look(I)I -/
abbrev cX12_look : ByteArray := prog_14_method_114_code
def yX12_look : MethodName := ⟨RX12, "look", "(I)I"⟩
theorem dX12_look_0 : decode cX12_look 0 = .ok (.aload_n 0, 1) := by decide +kernel
theorem dX12_look_1 : decode cX12_look 1 = .ok (.iconst 0, 1) := by decide +kernel
theorem dX12_look_2 : decode cX12_look 2 = .ok (.putfield 63, 3) := by decide +kernel
theorem dX12_look_5 : decode cX12_look 5 = .ok (.iload_n 1, 1) := by decide +kernel
theorem dX12_look_6 : decode cX12_look 6 = .ok (.tableswitch 97 0 8 #[50, 55, 60, 65, 70, 75, 81, 87, 92], 50) := by decide +kernel
theorem dX12_look_56 : decode cX12_look 56 = .ok (.aload_n 0, 1) := by decide +kernel
theorem dX12_look_57 : decode cX12_look 57 = .ok (.getfield 77, 3) := by decide +kernel
theorem dX12_look_60 : decode cX12_look 60 = .ok (.ireturn, 1) := by decide +kernel
theorem dX12_look_61 : decode cX12_look 61 = .ok (.aload_n 0, 1) := by decide +kernel
theorem dX12_look_62 : decode cX12_look 62 = .ok (.getfield 84, 3) := by decide +kernel
theorem dX12_look_65 : decode cX12_look 65 = .ok (.ireturn, 1) := by decide +kernel
theorem dX12_look_66 : decode cX12_look 66 = .ok (.aload_n 0, 1) := by decide +kernel
theorem dX12_look_67 : decode cX12_look 67 = .ok (.invokevirtual 87, 3) := by decide +kernel
theorem dX12_look_70 : decode cX12_look 70 = .ok (.ireturn, 1) := by decide +kernel
theorem dX12_look_71 : decode cX12_look 71 = .ok (.aload_n 0, 1) := by decide +kernel
theorem dX12_look_72 : decode cX12_look 72 = .ok (.invokevirtual 91, 3) := by decide +kernel
theorem dX12_look_75 : decode cX12_look 75 = .ok (.ireturn, 1) := by decide +kernel
theorem dX12_look_76 : decode cX12_look 76 = .ok (.aload_n 0, 1) := by decide +kernel
theorem dX12_look_77 : decode cX12_look 77 = .ok (.invokevirtual 114, 3) := by decide +kernel
theorem dX12_look_80 : decode cX12_look 80 = .ok (.ireturn, 1) := by decide +kernel
theorem dX12_look_81 : decode cX12_look 81 = .ok (.aload_n 0, 1) := by decide +kernel
theorem dX12_look_82 : decode cX12_look 82 = .ok (.iconst 0, 1) := by decide +kernel
theorem dX12_look_83 : decode cX12_look 83 = .ok (.invokevirtual 429, 3) := by decide +kernel
theorem dX12_look_86 : decode cX12_look 86 = .ok (.ireturn, 1) := by decide +kernel
theorem dX12_look_87 : decode cX12_look 87 = .ok (.aload_n 0, 1) := by decide +kernel
theorem dX12_look_88 : decode cX12_look 88 = .ok (.iconst 1, 1) := by decide +kernel
theorem dX12_look_89 : decode cX12_look 89 = .ok (.invokevirtual 429, 3) := by decide +kernel
theorem dX12_look_92 : decode cX12_look 92 = .ok (.ireturn, 1) := by decide +kernel
theorem dX12_look_93 : decode cX12_look 93 = .ok (.aload_n 0, 1) := by decide +kernel
theorem dX12_look_94 : decode cX12_look 94 = .ok (.invokevirtual 432, 3) := by decide +kernel
theorem dX12_look_97 : decode cX12_look 97 = .ok (.ireturn, 1) := by decide +kernel
theorem dX12_look_98 : decode cX12_look 98 = .ok (.aload_n 0, 1) := by decide +kernel
theorem dX12_look_99 : decode cX12_look 99 = .ok (.getfield 70, 3) := by decide +kernel
theorem dX12_look_102 : decode cX12_look 102 = .ok (.ireturn, 1) := by decide +kernel
theorem dX12_look_103 : decode cX12_look 103 = .ok (.iload_n 1, 1) := by decide +kernel
theorem dX12_look_104 : decode cX12_look 104 = .ok (.bipush 9, 2) := by decide +kernel
theorem dX12_look_106 : decode cX12_look 106 = .ok (.if_icmp .ne 10, 3) := by decide +kernel
theorem dX12_look_109 : decode cX12_look 109 = .ok (.aload_n 0, 1) := by decide +kernel
theorem dX12_look_110 : decode cX12_look 110 = .ok (.getfield 211, 3) := by decide +kernel
theorem dX12_look_113 : decode cX12_look 113 = .ok (.goto 4, 3) := by decide +kernel
theorem dX12_look_116 : decode cX12_look 116 = .ok (.iconst (-1), 1) := by decide +kernel
theorem dX12_look_117 : decode cX12_look 117 = .ok (.ireturn, 1) := by decide +kernel
theorem fcX12_429 : q_LV RX12 429 yX12_openTrades cX12_openTrades 4 (some .int) 1 12 := ⟨q_tb 1820 (by decide +kernel) rfl, q_tb 1822 (by decide +kernel) rfl, q_tbs (q := (yX12_openTrades, 35)) 128 (by decide +kernel) rfl, q_tb 13 (by decide +kernel) rfl, q_tb 1823 (by decide +kernel) rfl, ⟨by decide +kernel, by decide +kernel, by decide +kernel⟩, TX12, 35, rfl⟩
theorem fcX12_432 : q_LV RX12 432 yX12_allWaiting cX12_allWaiting 3 (some .int) 0 12 := ⟨q_tb 1824 (by decide +kernel) rfl, q_tb 1826 (by decide +kernel) rfl, q_tbs (q := (yX12_allWaiting, 35)) 129 (by decide +kernel) rfl, q_tb 13 (by decide +kernel) rfl, q_tb 1827 (by decide +kernel) rfl, ⟨by decide +kernel, by decide +kernel, by decide +kernel⟩, TX12, 35, rfl⟩
def fX12_look (n : Nat) (r0 : Nat) (v1 : Int32) (X : Mm) : Option (Int32 × Mm) :=
if mT X r0 = 12 then
nm (sI X r0 0 (0 : Int32)) fun X2_1 =>
if v1 = (0 : Int32) then (
if mT X2_1 r0 = 12 then
some ((mI X2_1 r0 6), X2_1)
else none
) else (
if v1 = (1 : Int32) then (
if mT X2_1 r0 = 12 then
some ((mI X2_1 r0 7), X2_1)
else none
) else (
if v1 = (2 : Int32) then (
if mT X2_1 r0 = 12 then
bd (fX12_tradeMany r0 X2_1) fun w5 X67_6 =>
some (w5, X67_6)
else none
) else (
if v1 = (3 : Int32) then (
if mT X2_1 r0 = 12 then
bd (fX12_eventMany r0 X2_1) fun w8 X72_9 =>
some (w8, X72_9)
else none
) else (
if v1 = (4 : Int32) then (
if mT X2_1 r0 = 12 then
bd (fX12_today r0 X2_1) fun w11 X77_12 =>
some (w11, X77_12)
else none
) else (
if v1 = (5 : Int32) then (
if mT X2_1 r0 = 12 then
bd (fX12_openTrades n r0 (0 : Int32) X2_1) fun w14 X83_15 =>
some (w14, X83_15)
else none
) else (
if v1 = (6 : Int32) then (
if mT X2_1 r0 = 12 then
bd (fX12_openTrades n r0 (1 : Int32) X2_1) fun w17 X89_18 =>
some (w17, X89_18)
else none
) else (
if v1 = (7 : Int32) then (
if mT X2_1 r0 = 12 then
bd (fX12_allWaiting n r0 X2_1) fun w20 X94_21 =>
some (w20, X94_21)
else none
) else (
if v1 = (8 : Int32) then (
if mT X2_1 r0 = 12 then
some ((mI X2_1 r0 5), X2_1)
else none
) else (
if v1 = (9 : Int32) then (
if mT X2_1 r0 = 12 then
some ((mI X2_1 r0 12), X2_1)
else none
) else (
some ((-1 : Int32), X2_1)
)
)
)
)
)
)
)
)
)
)
else none
theorem sX12_look (n : Nat) (r0 : Nat) (v1 : Int32) : q_Ct yX12_look cX12_look 2 (some .int) 4 90 0 0 q_eI (fun P => [.ref (P + r0), .int v1]) (fX12_look n r0 v1) := by
  refine q_meth (by decide +kernel) (fun P => Nat.le_of_ble_eq_true rfl) (fun E X C hn => ?_)
  show Sm E (q_fin E q_eI X 0 0) 0 0 0 [(0, .ref (q_P E + r0)), (1, .int v1)] [] X _
  unfold fX12_look
  refine q_aload_n C 0 dX12_look_0 rfl rfl ?_
  refine q_iconst C (0 : Int32) dX12_look_1 rfl ?_
  refine q_chk (fun h2 => ?_)
  refine p_putI C fpX12_63 rfl dX12_look_2 h2 ?_
  refine q_nmX (fun X2_1 => ?_)
  refine q_iload_n C 1 dX12_look_5 rfl rfl ?_
  refine q_ite (fun e0 => ?_) (fun e0 => ?_)
  · refine q_tabIn C (v := 0) 56 dX12_look_6 (by rw [e0]; rfl) (by decide) (by decide) rfl (by decide) ?_
    refine q_aload_n C 0 dX12_look_56 rfl rfl ?_
    refine q_chk (fun h3 => ?_)
    refine p_getI C fgX12_77 rfl dX12_look_57 h3 ?_
    exact q_iret C dX12_look_60
  · refine q_ite (fun e1 => ?_) (fun e1 => ?_)
    · refine q_tabIn C (v := 1) 61 dX12_look_6 (by rw [e1]; rfl) (by decide) (by decide) rfl (by decide) ?_
      refine q_aload_n C 0 dX12_look_61 rfl rfl ?_
      refine q_chk (fun h4 => ?_)
      refine p_getI C fgX12_84 rfl dX12_look_62 h4 ?_
      exact q_iret C dX12_look_65
    · refine q_ite (fun e2 => ?_) (fun e2 => ?_)
      · refine q_tabIn C (v := 2) 66 dX12_look_6 (by rw [e2]; rfl) (by decide) (by decide) rfl (by decide) ?_
        refine q_aload_n C 0 dX12_look_66 rfl rfl ?_
        refine q_chk (fun h7 => ?_)
        refine q_cVI (As := (fun P => [])) C [] (sX12_tradeMany r0) fcX12_87 rfl (fun _ => rfl) ⟨Nat.le_of_ble_eq_true rfl, Nat.le_of_ble_eq_true rfl⟩ ⟨Nat.le_of_ble_eq_true rfl, Nat.le_of_ble_eq_true rfl⟩ (Nat.le_of_ble_eq_true rfl) dX12_look_67 h7 (fun w5 X67_6 => ?_)
        exact q_iret C dX12_look_70
      · refine q_ite (fun e3 => ?_) (fun e3 => ?_)
        · refine q_tabIn C (v := 3) 71 dX12_look_6 (by rw [e3]; rfl) (by decide) (by decide) rfl (by decide) ?_
          refine q_aload_n C 0 dX12_look_71 rfl rfl ?_
          refine q_chk (fun h10 => ?_)
          refine q_cVI (As := (fun P => [])) C [] (sX12_eventMany r0) fcX12_91 rfl (fun _ => rfl) ⟨Nat.le_of_ble_eq_true rfl, Nat.le_of_ble_eq_true rfl⟩ ⟨Nat.le_of_ble_eq_true rfl, Nat.le_of_ble_eq_true rfl⟩ (Nat.le_of_ble_eq_true rfl) dX12_look_72 h10 (fun w8 X72_9 => ?_)
          exact q_iret C dX12_look_75
        · refine q_ite (fun e4 => ?_) (fun e4 => ?_)
          · refine q_tabIn C (v := 4) 76 dX12_look_6 (by rw [e4]; rfl) (by decide) (by decide) rfl (by decide) ?_
            refine q_aload_n C 0 dX12_look_76 rfl rfl ?_
            refine q_chk (fun h13 => ?_)
            refine q_cVI (As := (fun P => [])) C [] (sX12_today r0) fcX12_114 rfl (fun _ => rfl) ⟨Nat.le_of_ble_eq_true rfl, Nat.le_of_ble_eq_true rfl⟩ ⟨Nat.le_of_ble_eq_true rfl, Nat.le_of_ble_eq_true rfl⟩ (Nat.le_of_ble_eq_true rfl) dX12_look_77 h13 (fun w11 X77_12 => ?_)
            exact q_iret C dX12_look_80
          · refine q_ite (fun e5 => ?_) (fun e5 => ?_)
            · refine q_tabIn C (v := 5) 81 dX12_look_6 (by rw [e5]; rfl) (by decide) (by decide) rfl (by decide) ?_
              refine q_aload_n C 0 dX12_look_81 rfl rfl ?_
              refine q_iconst C (0 : Int32) dX12_look_82 rfl ?_
              refine q_chk (fun h16 => ?_)
              refine q_cVI (As := (fun P => [.int (0 : Int32)])) C [] (sX12_openTrades n r0 (0 : Int32)) fcX12_429 rfl (fun _ => rfl) ⟨Nat.le_of_ble_eq_true rfl, Nat.le_of_ble_eq_true rfl⟩ ⟨Nat.le_of_ble_eq_true rfl, Nat.le_of_ble_eq_true rfl⟩ (Nat.le_of_ble_eq_true rfl) dX12_look_83 h16 (fun w14 X83_15 => ?_)
              exact q_iret C dX12_look_86
            · refine q_ite (fun e6 => ?_) (fun e6 => ?_)
              · refine q_tabIn C (v := 6) 87 dX12_look_6 (by rw [e6]; rfl) (by decide) (by decide) rfl (by decide) ?_
                refine q_aload_n C 0 dX12_look_87 rfl rfl ?_
                refine q_iconst C (1 : Int32) dX12_look_88 rfl ?_
                refine q_chk (fun h19 => ?_)
                refine q_cVI (As := (fun P => [.int (1 : Int32)])) C [] (sX12_openTrades n r0 (1 : Int32)) fcX12_429 rfl (fun _ => rfl) ⟨Nat.le_of_ble_eq_true rfl, Nat.le_of_ble_eq_true rfl⟩ ⟨Nat.le_of_ble_eq_true rfl, Nat.le_of_ble_eq_true rfl⟩ (Nat.le_of_ble_eq_true rfl) dX12_look_89 h19 (fun w17 X89_18 => ?_)
                exact q_iret C dX12_look_92
              · refine q_ite (fun e7 => ?_) (fun e7 => ?_)
                · refine q_tabIn C (v := 7) 93 dX12_look_6 (by rw [e7]; rfl) (by decide) (by decide) rfl (by decide) ?_
                  refine q_aload_n C 0 dX12_look_93 rfl rfl ?_
                  refine q_chk (fun h22 => ?_)
                  refine q_cVI (As := (fun P => [])) C [] (sX12_allWaiting n r0) fcX12_432 rfl (fun _ => rfl) ⟨Nat.le_of_ble_eq_true rfl, Nat.le_of_ble_eq_true rfl⟩ ⟨Nat.le_of_ble_eq_true rfl, Nat.le_of_ble_eq_true rfl⟩ (Nat.le_of_ble_eq_true rfl) dX12_look_94 h22 (fun w20 X94_21 => ?_)
                  exact q_iret C dX12_look_97
                · refine q_ite (fun e8 => ?_) (fun e8 => ?_)
                  · refine q_tabIn C (v := 8) 98 dX12_look_6 (by rw [e8]; rfl) (by decide) (by decide) rfl (by decide) ?_
                    refine q_aload_n C 0 dX12_look_98 rfl rfl ?_
                    refine q_chk (fun h23 => ?_)
                    refine p_getI C fgX12_70 rfl dX12_look_99 h23 ?_
                    exact q_iret C dX12_look_102
                  · have n0 := q_ne e0 (i := 0) rfl
                    have n1 := q_ne e1 (i := 1) rfl
                    have n2 := q_ne e2 (i := 2) rfl
                    have n3 := q_ne e3 (i := 3) rfl
                    have n4 := q_ne e4 (i := 4) rfl
                    have n5 := q_ne e5 (i := 5) rfl
                    have n6 := q_ne e6 (i := 6) rfl
                    have n7 := q_ne e7 (i := 7) rfl
                    have n8 := q_ne e8 (i := 8) rfl
                    refine q_tabOut C 103 dX12_look_6 (by omega) (by decide) ?_
                    refine q_iload_n C 1 dX12_look_103 rfl rfl ?_
                    refine q_bipush C (9 : Int32) dX12_look_104 rfl ?_
                    refine q_icmp_ne C 116 dX12_look_106 (by decide) (fun _ => ?_) (fun _ => ?_)
                    · refine q_aload_n C 0 dX12_look_109 rfl rfl ?_
                      refine q_chk (fun h24 => ?_)
                      refine p_getI C fgX12_211 rfl dX12_look_110 h24 ?_
                      refine q_goto C 117 dX12_look_113 (by decide) ?_
                      exact q_iret C dX12_look_117
                    · refine q_iconst C (-1 : Int32) dX12_look_116 rfl ?_
                      exact q_iret C dX12_look_117
