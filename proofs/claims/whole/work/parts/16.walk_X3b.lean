/-! RecordClaims$Events.worthBehind(III)J -/
abbrev cX3_worthBehind : ByteArray := prog_5_method_13_code
def yX3_worthBehind : MethodName := ⟨RX3, "worthBehind", "(III)J"⟩
theorem dX3_worthBehind_0 : decode cX3_worthBehind 0 = .ok (.aload_n 0, 1) := by decide +kernel
theorem dX3_worthBehind_1 : decode cX3_worthBehind 1 = .ok (.getfield 9, 3) := by decide +kernel
theorem dX3_worthBehind_4 : decode cX3_worthBehind 4 = .ok (.iload_n 1, 1) := by decide +kernel
theorem dX3_worthBehind_5 : decode cX3_worthBehind 5 = .ok (.iaload, 1) := by decide +kernel
theorem dX3_worthBehind_6 : decode cX3_worthBehind 6 = .ok (.tableswitch 114 0 2 #[26, 41, 70], 26) := by decide +kernel
theorem dX3_worthBehind_32 : decode cX3_worthBehind 32 = .ok (.iload_n 2, 1) := by decide +kernel
theorem dX3_worthBehind_33 : decode cX3_worthBehind 33 = .ok (.aload_n 0, 1) := by decide +kernel
theorem dX3_worthBehind_34 : decode cX3_worthBehind 34 = .ok (.getfield 27, 3) := by decide +kernel
theorem dX3_worthBehind_37 : decode cX3_worthBehind 37 = .ok (.iload_n 1, 1) := by decide +kernel
theorem dX3_worthBehind_38 : decode cX3_worthBehind 38 = .ok (.iaload, 1) := by decide +kernel
theorem dX3_worthBehind_39 : decode cX3_worthBehind 39 = .ok (.isub, 1) := by decide +kernel
theorem dX3_worthBehind_40 : decode cX3_worthBehind 40 = .ok (.i2l, 1) := by decide +kernel
theorem dX3_worthBehind_41 : decode cX3_worthBehind 41 = .ok (.lconst 1, 1) := by decide +kernel
theorem dX3_worthBehind_42 : decode cX3_worthBehind 42 = .ok (.iload_n 3, 1) := by decide +kernel
theorem dX3_worthBehind_43 : decode cX3_worthBehind 43 = .ok (.invokestatic 95, 3) := by decide +kernel
theorem dX3_worthBehind_46 : decode cX3_worthBehind 46 = .ok (.lreturn, 1) := by decide +kernel
theorem dX3_worthBehind_47 : decode cX3_worthBehind 47 = .ok (.aload_n 0, 1) := by decide +kernel
theorem dX3_worthBehind_48 : decode cX3_worthBehind 48 = .ok (.getfield 24, 3) := by decide +kernel
theorem dX3_worthBehind_51 : decode cX3_worthBehind 51 = .ok (.iload_n 1, 1) := by decide +kernel
theorem dX3_worthBehind_52 : decode cX3_worthBehind 52 = .ok (.iaload, 1) := by decide +kernel
theorem dX3_worthBehind_53 : decode cX3_worthBehind 53 = .ok (.i2l, 1) := by decide +kernel
theorem dX3_worthBehind_54 : decode cX3_worthBehind 54 = .ok (.iload_n 2, 1) := by decide +kernel
theorem dX3_worthBehind_55 : decode cX3_worthBehind 55 = .ok (.i2l, 1) := by decide +kernel
theorem dX3_worthBehind_56 : decode cX3_worthBehind 56 = .ok (.lmul, 1) := by decide +kernel
theorem dX3_worthBehind_57 : decode cX3_worthBehind 57 = .ok (.aload_n 0, 1) := by decide +kernel
theorem dX3_worthBehind_58 : decode cX3_worthBehind 58 = .ok (.getfield 21, 3) := by decide +kernel
theorem dX3_worthBehind_61 : decode cX3_worthBehind 61 = .ok (.iload_n 1, 1) := by decide +kernel
theorem dX3_worthBehind_62 : decode cX3_worthBehind 62 = .ok (.iaload, 1) := by decide +kernel
theorem dX3_worthBehind_63 : decode cX3_worthBehind 63 = .ok (.aload_n 0, 1) := by decide +kernel
theorem dX3_worthBehind_64 : decode cX3_worthBehind 64 = .ok (.getfield 24, 3) := by decide +kernel
theorem dX3_worthBehind_67 : decode cX3_worthBehind 67 = .ok (.iload_n 1, 1) := by decide +kernel
theorem dX3_worthBehind_68 : decode cX3_worthBehind 68 = .ok (.iaload, 1) := by decide +kernel
theorem dX3_worthBehind_69 : decode cX3_worthBehind 69 = .ok (.iadd, 1) := by decide +kernel
theorem dX3_worthBehind_70 : decode cX3_worthBehind 70 = .ok (.i2l, 1) := by decide +kernel
theorem dX3_worthBehind_71 : decode cX3_worthBehind 71 = .ok (.iload_n 3, 1) := by decide +kernel
theorem dX3_worthBehind_72 : decode cX3_worthBehind 72 = .ok (.invokestatic 95, 3) := by decide +kernel
theorem dX3_worthBehind_75 : decode cX3_worthBehind 75 = .ok (.lreturn, 1) := by decide +kernel
theorem dX3_worthBehind_76 : decode cX3_worthBehind 76 = .ok (.aload_n 0, 1) := by decide +kernel
theorem dX3_worthBehind_77 : decode cX3_worthBehind 77 = .ok (.getfield 24, 3) := by decide +kernel
theorem dX3_worthBehind_80 : decode cX3_worthBehind 80 = .ok (.iload_n 1, 1) := by decide +kernel
theorem dX3_worthBehind_81 : decode cX3_worthBehind 81 = .ok (.iaload, 1) := by decide +kernel
theorem dX3_worthBehind_82 : decode cX3_worthBehind 82 = .ok (.i2l, 1) := by decide +kernel
theorem dX3_worthBehind_83 : decode cX3_worthBehind 83 = .ok (.iload_n 2, 1) := by decide +kernel
theorem dX3_worthBehind_84 : decode cX3_worthBehind 84 = .ok (.i2l, 1) := by decide +kernel
theorem dX3_worthBehind_85 : decode cX3_worthBehind 85 = .ok (.lmul, 1) := by decide +kernel
theorem dX3_worthBehind_86 : decode cX3_worthBehind 86 = .ok (.aload_n 0, 1) := by decide +kernel
theorem dX3_worthBehind_87 : decode cX3_worthBehind 87 = .ok (.getfield 21, 3) := by decide +kernel
theorem dX3_worthBehind_90 : decode cX3_worthBehind 90 = .ok (.iload_n 1, 1) := by decide +kernel
theorem dX3_worthBehind_91 : decode cX3_worthBehind 91 = .ok (.iaload, 1) := by decide +kernel
theorem dX3_worthBehind_92 : decode cX3_worthBehind 92 = .ok (.aload_n 0, 1) := by decide +kernel
theorem dX3_worthBehind_93 : decode cX3_worthBehind 93 = .ok (.getfield 27, 3) := by decide +kernel
theorem dX3_worthBehind_96 : decode cX3_worthBehind 96 = .ok (.iload_n 1, 1) := by decide +kernel
theorem dX3_worthBehind_97 : decode cX3_worthBehind 97 = .ok (.iaload, 1) := by decide +kernel
theorem dX3_worthBehind_98 : decode cX3_worthBehind 98 = .ok (.imul, 1) := by decide +kernel
theorem dX3_worthBehind_99 : decode cX3_worthBehind 99 = .ok (.i2l, 1) := by decide +kernel
theorem dX3_worthBehind_100 : decode cX3_worthBehind 100 = .ok (.ladd, 1) := by decide +kernel
theorem dX3_worthBehind_101 : decode cX3_worthBehind 101 = .ok (.aload_n 0, 1) := by decide +kernel
theorem dX3_worthBehind_102 : decode cX3_worthBehind 102 = .ok (.getfield 21, 3) := by decide +kernel
theorem dX3_worthBehind_105 : decode cX3_worthBehind 105 = .ok (.iload_n 1, 1) := by decide +kernel
theorem dX3_worthBehind_106 : decode cX3_worthBehind 106 = .ok (.iaload, 1) := by decide +kernel
theorem dX3_worthBehind_107 : decode cX3_worthBehind 107 = .ok (.aload_n 0, 1) := by decide +kernel
theorem dX3_worthBehind_108 : decode cX3_worthBehind 108 = .ok (.getfield 24, 3) := by decide +kernel
theorem dX3_worthBehind_111 : decode cX3_worthBehind 111 = .ok (.iload_n 1, 1) := by decide +kernel
theorem dX3_worthBehind_112 : decode cX3_worthBehind 112 = .ok (.iaload, 1) := by decide +kernel
theorem dX3_worthBehind_113 : decode cX3_worthBehind 113 = .ok (.iadd, 1) := by decide +kernel
theorem dX3_worthBehind_114 : decode cX3_worthBehind 114 = .ok (.i2l, 1) := by decide +kernel
theorem dX3_worthBehind_115 : decode cX3_worthBehind 115 = .ok (.iload_n 3, 1) := by decide +kernel
theorem dX3_worthBehind_116 : decode cX3_worthBehind 116 = .ok (.invokestatic 95, 3) := by decide +kernel
theorem dX3_worthBehind_119 : decode cX3_worthBehind 119 = .ok (.lreturn, 1) := by decide +kernel
theorem dX3_worthBehind_120 : decode cX3_worthBehind 120 = .ok (.ldc2_w 99, 3) := by decide +kernel
theorem dX3_worthBehind_123 : decode cX3_worthBehind 123 = .ok (.lreturn, 1) := by decide +kernel
theorem fcX3_95 : q_LS RX3 95 yX3_partOfFraction cX3_partOfFraction 7 (some .long) 3 := ⟨q_tb 1136 (by decide +kernel) rfl, q_tb 1137 (by decide +kernel) rfl, q_tb 7 (by decide +kernel) rfl, q_tb 1138 (by decide +kernel) rfl, ⟨by decide +kernel, by decide +kernel, by decide +kernel⟩⟩
def fX3_worthBehind (n : Nat) (r0 : Nat) (v1 : Int32) (v2 : Int32) (v3 : Int32) (X : Mm) : Option (Int64 × Mm) :=
if mT X r0 = 3 then
if mR X r0 0 ≠ 0 then
if mT X (mR X r0 0) = 14 then
if q_b X (mR X r0 0) v1 then
if (mI X (mR X r0 0) (v1).toNatClampNeg) = (0 : Int32) then (
if mR X r0 5 ≠ 0 then
if mT X (mR X r0 5) = 14 then
if q_b X (mR X r0 5) v1 then
bd (fX3_partOfFraction n ((((v2 - (mI X (mR X r0 5) (v1).toNatClampNeg))).toInt64)) (1 : Int64) v3 X) fun w8 X43_9 =>
some (w8, X43_9)
else none
else none
else none
) else (
if (mI X (mR X r0 0) (v1).toNatClampNeg) = (1 : Int32) then (
if mR X r0 4 ≠ 0 then
if mT X (mR X r0 4) = 14 then
if q_b X (mR X r0 4) v1 then
if mR X r0 3 ≠ 0 then
if mT X (mR X r0 3) = 14 then
if q_b X (mR X r0 3) v1 then
bd (fX3_partOfFraction n (((((mI X (mR X r0 4) (v1).toNatClampNeg)).toInt64) * ((v2).toInt64))) (((((mI X (mR X r0 3) (v1).toNatClampNeg) + (mI X (mR X r0 4) (v1).toNatClampNeg))).toInt64)) v3 X) fun w16 X72_17 =>
some (w16, X72_17)
else none
else none
else none
else none
else none
else none
) else (
if (mI X (mR X r0 0) (v1).toNatClampNeg) = (2 : Int32) then (
if mR X r0 4 ≠ 0 then
if mT X (mR X r0 4) = 14 then
if q_b X (mR X r0 4) v1 then
if mR X r0 3 ≠ 0 then
if mT X (mR X r0 3) = 14 then
if q_b X (mR X r0 3) v1 then
if mR X r0 5 ≠ 0 then
if mT X (mR X r0 5) = 14 then
if q_b X (mR X r0 5) v1 then
bd (fX3_partOfFraction n ((((((mI X (mR X r0 4) (v1).toNatClampNeg)).toInt64) * ((v2).toInt64)) + ((((mI X (mR X r0 3) (v1).toNatClampNeg) * (mI X (mR X r0 5) (v1).toNatClampNeg))).toInt64))) (((((mI X (mR X r0 3) (v1).toNatClampNeg) + (mI X (mR X r0 4) (v1).toNatClampNeg))).toInt64)) v3 X) fun w27 X116_28 =>
some (w27, X116_28)
else none
else none
else none
else none
else none
else none
else none
else none
else none
) else (
some ((-9223372036854775808 : Int64), X)
)
)
)
else none
else none
else none
else none
theorem sX3_worthBehind (n : Nat) (r0 : Nat) (v1 : Int32) (v2 : Int32) (v3 : Int32) : q_Ct yX3_worthBehind cX3_worthBehind 4 (some .long) 2 56 0 0 q_eL (fun P => [.ref (P + r0), .int v1, .int v2, .int v3]) (fX3_worthBehind n r0 v1 v2 v3) := by
  refine q_meth (by decide +kernel) (fun P => Nat.le_of_ble_eq_true rfl) (fun E X C hn => ?_)
  show Sm E (q_fin E q_eL X 0 0) 0 0 0 [(0, .ref (q_P E + r0)), (1, .int v1), (2, .int v2), (3, .int v3)] [] X _
  unfold fX3_worthBehind
  refine q_aload_n C 0 dX3_worthBehind_0 rfl rfl ?_
  refine q_chk (fun h1 => ?_)
  refine q_chk (fun h2 => ?_)
  refine p_getR C fgX3_9 rfl dX3_worthBehind_1 h1 h2 ?_
  refine q_iload_n C 1 dX3_worthBehind_4 rfl rfl ?_
  refine q_chk (fun h3 => ?_)
  refine q_chk (fun h4 => ?_)
  refine p_iald C dX3_worthBehind_5 h3 h4 ?_
  refine q_ite (fun e0 => ?_) (fun e0 => ?_)
  · refine q_tabIn C (v := 0) 32 dX3_worthBehind_6 (by rw [e0]; rfl) (by decide) (by decide) rfl (by decide) ?_
    refine q_iload_n C 2 dX3_worthBehind_32 rfl rfl ?_
    refine q_aload_n C 0 dX3_worthBehind_33 rfl rfl ?_
    refine q_chk (fun h5 => ?_)
    refine p_getR C fgX3_27 rfl dX3_worthBehind_34 h1 h5 ?_
    refine q_iload_n C 1 dX3_worthBehind_37 rfl rfl ?_
    refine q_chk (fun h6 => ?_)
    refine q_chk (fun h7 => ?_)
    refine p_iald C dX3_worthBehind_38 h6 h7 ?_
    refine q_isub C dX3_worthBehind_39 ?_
    refine q_i2l C dX3_worthBehind_40 ?_
    refine q_lconst C (1 : Int64) dX3_worthBehind_41 rfl ?_
    refine q_iload_n C 3 dX3_worthBehind_42 rfl rfl ?_
    refine q_cSL (As := (fun P => [.long (((v2 - (mI X (mR X r0 5) (v1).toNatClampNeg))).toInt64), .long (1 : Int64), .int v3])) C [] (sX3_partOfFraction n ((((v2 - (mI X (mR X r0 5) (v1).toNatClampNeg))).toInt64)) (1 : Int64) v3) fcX3_95 rfl (fun _ => rfl) ⟨Nat.le_of_ble_eq_true rfl, Nat.le_of_ble_eq_true rfl⟩ ⟨Nat.le_of_ble_eq_true rfl, Nat.le_of_ble_eq_true rfl⟩ (Nat.le_of_ble_eq_true rfl) dX3_worthBehind_43 (fun w8 X43_9 => ?_)
    exact q_lret C dX3_worthBehind_46
  · refine q_ite (fun e1 => ?_) (fun e1 => ?_)
    · refine q_tabIn C (v := 1) 47 dX3_worthBehind_6 (by rw [e1]; rfl) (by decide) (by decide) rfl (by decide) ?_
      refine q_aload_n C 0 dX3_worthBehind_47 rfl rfl ?_
      refine q_chk (fun h10 => ?_)
      refine p_getR C fgX3_24 rfl dX3_worthBehind_48 h1 h10 ?_
      refine q_iload_n C 1 dX3_worthBehind_51 rfl rfl ?_
      refine q_chk (fun h11 => ?_)
      refine q_chk (fun h12 => ?_)
      refine p_iald C dX3_worthBehind_52 h11 h12 ?_
      refine q_i2l C dX3_worthBehind_53 ?_
      refine q_iload_n C 2 dX3_worthBehind_54 rfl rfl ?_
      refine q_i2l C dX3_worthBehind_55 ?_
      refine q_lmul C dX3_worthBehind_56 ?_
      refine q_aload_n C 0 dX3_worthBehind_57 rfl rfl ?_
      refine q_chk (fun h13 => ?_)
      refine p_getR C fgX3_21 rfl dX3_worthBehind_58 h1 h13 ?_
      refine q_iload_n C 1 dX3_worthBehind_61 rfl rfl ?_
      refine q_chk (fun h14 => ?_)
      refine q_chk (fun h15 => ?_)
      refine p_iald C dX3_worthBehind_62 h14 h15 ?_
      refine q_aload_n C 0 dX3_worthBehind_63 rfl rfl ?_
      refine p_getR C fgX3_24 rfl dX3_worthBehind_64 h1 h10 ?_
      refine q_iload_n C 1 dX3_worthBehind_67 rfl rfl ?_
      refine p_iald C dX3_worthBehind_68 h11 h12 ?_
      refine q_iadd C dX3_worthBehind_69 ?_
      refine q_i2l C dX3_worthBehind_70 ?_
      refine q_iload_n C 3 dX3_worthBehind_71 rfl rfl ?_
      refine q_cSL (As := (fun P => [.long ((((mI X (mR X r0 4) (v1).toNatClampNeg)).toInt64) * ((v2).toInt64)), .long ((((mI X (mR X r0 3) (v1).toNatClampNeg) + (mI X (mR X r0 4) (v1).toNatClampNeg))).toInt64), .int v3])) C [] (sX3_partOfFraction n (((((mI X (mR X r0 4) (v1).toNatClampNeg)).toInt64) * ((v2).toInt64))) (((((mI X (mR X r0 3) (v1).toNatClampNeg) + (mI X (mR X r0 4) (v1).toNatClampNeg))).toInt64)) v3) fcX3_95 rfl (fun _ => rfl) ⟨Nat.le_of_ble_eq_true rfl, Nat.le_of_ble_eq_true rfl⟩ ⟨Nat.le_of_ble_eq_true rfl, Nat.le_of_ble_eq_true rfl⟩ (Nat.le_of_ble_eq_true rfl) dX3_worthBehind_72 (fun w16 X72_17 => ?_)
      exact q_lret C dX3_worthBehind_75
    · refine q_ite (fun e2 => ?_) (fun e2 => ?_)
      · refine q_tabIn C (v := 2) 76 dX3_worthBehind_6 (by rw [e2]; rfl) (by decide) (by decide) rfl (by decide) ?_
        refine q_aload_n C 0 dX3_worthBehind_76 rfl rfl ?_
        refine q_chk (fun h18 => ?_)
        refine p_getR C fgX3_24 rfl dX3_worthBehind_77 h1 h18 ?_
        refine q_iload_n C 1 dX3_worthBehind_80 rfl rfl ?_
        refine q_chk (fun h19 => ?_)
        refine q_chk (fun h20 => ?_)
        refine p_iald C dX3_worthBehind_81 h19 h20 ?_
        refine q_i2l C dX3_worthBehind_82 ?_
        refine q_iload_n C 2 dX3_worthBehind_83 rfl rfl ?_
        refine q_i2l C dX3_worthBehind_84 ?_
        refine q_lmul C dX3_worthBehind_85 ?_
        refine q_aload_n C 0 dX3_worthBehind_86 rfl rfl ?_
        refine q_chk (fun h21 => ?_)
        refine p_getR C fgX3_21 rfl dX3_worthBehind_87 h1 h21 ?_
        refine q_iload_n C 1 dX3_worthBehind_90 rfl rfl ?_
        refine q_chk (fun h22 => ?_)
        refine q_chk (fun h23 => ?_)
        refine p_iald C dX3_worthBehind_91 h22 h23 ?_
        refine q_aload_n C 0 dX3_worthBehind_92 rfl rfl ?_
        refine q_chk (fun h24 => ?_)
        refine p_getR C fgX3_27 rfl dX3_worthBehind_93 h1 h24 ?_
        refine q_iload_n C 1 dX3_worthBehind_96 rfl rfl ?_
        refine q_chk (fun h25 => ?_)
        refine q_chk (fun h26 => ?_)
        refine p_iald C dX3_worthBehind_97 h25 h26 ?_
        refine q_imul C dX3_worthBehind_98 ?_
        refine q_i2l C dX3_worthBehind_99 ?_
        refine q_ladd C dX3_worthBehind_100 ?_
        refine q_aload_n C 0 dX3_worthBehind_101 rfl rfl ?_
        refine p_getR C fgX3_21 rfl dX3_worthBehind_102 h1 h21 ?_
        refine q_iload_n C 1 dX3_worthBehind_105 rfl rfl ?_
        refine p_iald C dX3_worthBehind_106 h22 h23 ?_
        refine q_aload_n C 0 dX3_worthBehind_107 rfl rfl ?_
        refine p_getR C fgX3_24 rfl dX3_worthBehind_108 h1 h18 ?_
        refine q_iload_n C 1 dX3_worthBehind_111 rfl rfl ?_
        refine p_iald C dX3_worthBehind_112 h19 h20 ?_
        refine q_iadd C dX3_worthBehind_113 ?_
        refine q_i2l C dX3_worthBehind_114 ?_
        refine q_iload_n C 3 dX3_worthBehind_115 rfl rfl ?_
        refine q_cSL (As := (fun P => [.long (((((mI X (mR X r0 4) (v1).toNatClampNeg)).toInt64) * ((v2).toInt64)) + ((((mI X (mR X r0 3) (v1).toNatClampNeg) * (mI X (mR X r0 5) (v1).toNatClampNeg))).toInt64)), .long ((((mI X (mR X r0 3) (v1).toNatClampNeg) + (mI X (mR X r0 4) (v1).toNatClampNeg))).toInt64), .int v3])) C [] (sX3_partOfFraction n ((((((mI X (mR X r0 4) (v1).toNatClampNeg)).toInt64) * ((v2).toInt64)) + ((((mI X (mR X r0 3) (v1).toNatClampNeg) * (mI X (mR X r0 5) (v1).toNatClampNeg))).toInt64))) (((((mI X (mR X r0 3) (v1).toNatClampNeg) + (mI X (mR X r0 4) (v1).toNatClampNeg))).toInt64)) v3) fcX3_95 rfl (fun _ => rfl) ⟨Nat.le_of_ble_eq_true rfl, Nat.le_of_ble_eq_true rfl⟩ ⟨Nat.le_of_ble_eq_true rfl, Nat.le_of_ble_eq_true rfl⟩ (Nat.le_of_ble_eq_true rfl) dX3_worthBehind_116 (fun w27 X116_28 => ?_)
        exact q_lret C dX3_worthBehind_119
      · have n0 := q_ne e0 (i := 0) rfl
        have n1 := q_ne e1 (i := 1) rfl
        have n2 := q_ne e2 (i := 2) rfl
        refine q_tabOut C 120 dX3_worthBehind_6 (by omega) (by decide) ?_
        refine q_ldc2 C dX3_worthBehind_120 fkX3_99 ?_
        exact q_lret C dX3_worthBehind_123
