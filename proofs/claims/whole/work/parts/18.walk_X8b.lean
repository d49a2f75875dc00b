/-! RecordClaims$State.turnPaper(I)V -/
abbrev cX8_turnPaper : ByteArray := prog_10_method_24_code
def yX8_turnPaper : MethodName := ⟨RX8, "turnPaper", "(I)V"⟩
theorem dX8_turnPaper_0 : decode cX8_turnPaper 0 = .ok (.iconst 0, 1) := by decide +kernel
theorem dX8_turnPaper_1 : decode cX8_turnPaper 1 = .ok (.istore_n 2, 1) := by decide +kernel
theorem dX8_turnPaper_2 : decode cX8_turnPaper 2 = .ok (.iload_n 2, 1) := by decide +kernel
theorem dX8_turnPaper_3 : decode cX8_turnPaper 3 = .ok (.aload_n 0, 1) := by decide +kernel
theorem dX8_turnPaper_4 : decode cX8_turnPaper 4 = .ok (.getfield 63, 3) := by decide +kernel
theorem dX8_turnPaper_7 : decode cX8_turnPaper 7 = .ok (.if_icmp .ge 56, 3) := by decide +kernel
theorem dX8_turnPaper_10 : decode cX8_turnPaper 10 = .ok (.aload_n 0, 1) := by decide +kernel
theorem dX8_turnPaper_11 : decode cX8_turnPaper 11 = .ok (.iload_n 2, 1) := by decide +kernel
theorem dX8_turnPaper_12 : decode cX8_turnPaper 12 = .ok (.aload_n 0, 1) := by decide +kernel
theorem dX8_turnPaper_13 : decode cX8_turnPaper 13 = .ok (.getfield 28, 3) := by decide +kernel
theorem dX8_turnPaper_16 : decode cX8_turnPaper 16 = .ok (.getfield 274, 3) := by decide +kernel
theorem dX8_turnPaper_19 : decode cX8_turnPaper 19 = .ok (.iload_n 1, 1) := by decide +kernel
theorem dX8_turnPaper_20 : decode cX8_turnPaper 20 = .ok (.iaload, 1) := by decide +kernel
theorem dX8_turnPaper_21 : decode cX8_turnPaper 21 = .ok (.invokevirtual 236, 3) := by decide +kernel
theorem dX8_turnPaper_24 : decode cX8_turnPaper 24 = .ok (.lstore_n 3, 1) := by decide +kernel
theorem dX8_turnPaper_25 : decode cX8_turnPaper 25 = .ok (.aload_n 0, 1) := by decide +kernel
theorem dX8_turnPaper_26 : decode cX8_turnPaper 26 = .ok (.iload_n 2, 1) := by decide +kernel
theorem dX8_turnPaper_27 : decode cX8_turnPaper 27 = .ok (.aload_n 0, 1) := by decide +kernel
theorem dX8_turnPaper_28 : decode cX8_turnPaper 28 = .ok (.getfield 28, 3) := by decide +kernel
theorem dX8_turnPaper_31 : decode cX8_turnPaper 31 = .ok (.getfield 274, 3) := by decide +kernel
theorem dX8_turnPaper_34 : decode cX8_turnPaper 34 = .ok (.iload_n 1, 1) := by decide +kernel
theorem dX8_turnPaper_35 : decode cX8_turnPaper 35 = .ok (.iaload, 1) := by decide +kernel
theorem dX8_turnPaper_36 : decode cX8_turnPaper 36 = .ok (.lload_n 3, 1) := by decide +kernel
theorem dX8_turnPaper_37 : decode cX8_turnPaper 37 = .ok (.lneg, 1) := by decide +kernel
theorem dX8_turnPaper_38 : decode cX8_turnPaper 38 = .ok (.invokevirtual 241, 3) := by decide +kernel
theorem dX8_turnPaper_41 : decode cX8_turnPaper 41 = .ok (.aload_n 0, 1) := by decide +kernel
theorem dX8_turnPaper_42 : decode cX8_turnPaper 42 = .ok (.iload_n 2, 1) := by decide +kernel
theorem dX8_turnPaper_43 : decode cX8_turnPaper 43 = .ok (.iload_n 1, 1) := by decide +kernel
theorem dX8_turnPaper_44 : decode cX8_turnPaper 44 = .ok (.aload_n 0, 1) := by decide +kernel
theorem dX8_turnPaper_45 : decode cX8_turnPaper 45 = .ok (.getfield 28, 3) := by decide +kernel
theorem dX8_turnPaper_48 : decode cX8_turnPaper 48 = .ok (.getfield 289, 3) := by decide +kernel
theorem dX8_turnPaper_51 : decode cX8_turnPaper 51 = .ok (.iload_n 1, 1) := by decide +kernel
theorem dX8_turnPaper_52 : decode cX8_turnPaper 52 = .ok (.iaload, 1) := by decide +kernel
theorem dX8_turnPaper_53 : decode cX8_turnPaper 53 = .ok (.lload_n 3, 1) := by decide +kernel
theorem dX8_turnPaper_54 : decode cX8_turnPaper 54 = .ok (.invokevirtual 291, 3) := by decide +kernel
theorem dX8_turnPaper_57 : decode cX8_turnPaper 57 = .ok (.iinc 2 1, 3) := by decide +kernel
theorem dX8_turnPaper_60 : decode cX8_turnPaper 60 = .ok (.goto (-58), 3) := by decide +kernel
theorem dX8_turnPaper_63 : decode cX8_turnPaper 63 = .ok (.iconst 0, 1) := by decide +kernel
theorem dX8_turnPaper_64 : decode cX8_turnPaper 64 = .ok (.istore_n 2, 1) := by decide +kernel
theorem dX8_turnPaper_65 : decode cX8_turnPaper 65 = .ok (.iload_n 2, 1) := by decide +kernel
theorem dX8_turnPaper_66 : decode cX8_turnPaper 66 = .ok (.aload_n 0, 1) := by decide +kernel
theorem dX8_turnPaper_67 : decode cX8_turnPaper 67 = .ok (.getfield 21, 3) := by decide +kernel
theorem dX8_turnPaper_70 : decode cX8_turnPaper 70 = .ok (.getfield 55, 3) := by decide +kernel
theorem dX8_turnPaper_73 : decode cX8_turnPaper 73 = .ok (.if_icmp .ge 48, 3) := by decide +kernel
theorem dX8_turnPaper_76 : decode cX8_turnPaper 76 = .ok (.aload_n 0, 1) := by decide +kernel
theorem dX8_turnPaper_77 : decode cX8_turnPaper 77 = .ok (.getfield 21, 3) := by decide +kernel
theorem dX8_turnPaper_80 : decode cX8_turnPaper 80 = .ok (.getfield 226, 3) := by decide +kernel
theorem dX8_turnPaper_83 : decode cX8_turnPaper 83 = .ok (.iload_n 2, 1) := by decide +kernel
theorem dX8_turnPaper_84 : decode cX8_turnPaper 84 = .ok (.iaload, 1) := by decide +kernel
theorem dX8_turnPaper_85 : decode cX8_turnPaper 85 = .ok (.ifCond .ne 30, 3) := by decide +kernel
theorem dX8_turnPaper_88 : decode cX8_turnPaper 88 = .ok (.aload_n 0, 1) := by decide +kernel
theorem dX8_turnPaper_89 : decode cX8_turnPaper 89 = .ok (.getfield 21, 3) := by decide +kernel
theorem dX8_turnPaper_92 : decode cX8_turnPaper 92 = .ok (.getfield 234, 3) := by decide +kernel
theorem dX8_turnPaper_95 : decode cX8_turnPaper 95 = .ok (.iload_n 2, 1) := by decide +kernel
theorem dX8_turnPaper_96 : decode cX8_turnPaper 96 = .ok (.iaload, 1) := by decide +kernel
theorem dX8_turnPaper_97 : decode cX8_turnPaper 97 = .ok (.aload_n 0, 1) := by decide +kernel
theorem dX8_turnPaper_98 : decode cX8_turnPaper 98 = .ok (.getfield 28, 3) := by decide +kernel
theorem dX8_turnPaper_101 : decode cX8_turnPaper 101 = .ok (.getfield 274, 3) := by decide +kernel
theorem dX8_turnPaper_104 : decode cX8_turnPaper 104 = .ok (.iload_n 1, 1) := by decide +kernel
theorem dX8_turnPaper_105 : decode cX8_turnPaper 105 = .ok (.iaload, 1) := by decide +kernel
theorem dX8_turnPaper_106 : decode cX8_turnPaper 106 = .ok (.if_icmp .ne 9, 3) := by decide +kernel
theorem dX8_turnPaper_109 : decode cX8_turnPaper 109 = .ok (.aload_n 0, 1) := by decide +kernel
theorem dX8_turnPaper_110 : decode cX8_turnPaper 110 = .ok (.iload_n 1, 1) := by decide +kernel
theorem dX8_turnPaper_111 : decode cX8_turnPaper 111 = .ok (.iload_n 2, 1) := by decide +kernel
theorem dX8_turnPaper_112 : decode cX8_turnPaper 112 = .ok (.invokevirtual 295, 3) := by decide +kernel
theorem dX8_turnPaper_115 : decode cX8_turnPaper 115 = .ok (.iinc 2 1, 3) := by decide +kernel
theorem dX8_turnPaper_118 : decode cX8_turnPaper 118 = .ok (.goto (-53), 3) := by decide +kernel
theorem dX8_turnPaper_121 : decode cX8_turnPaper 121 = .ok (.aload_n 0, 1) := by decide +kernel
theorem dX8_turnPaper_122 : decode cX8_turnPaper 122 = .ok (.getfield 28, 3) := by decide +kernel
theorem dX8_turnPaper_125 : decode cX8_turnPaper 125 = .ok (.iload_n 1, 1) := by decide +kernel
theorem dX8_turnPaper_126 : decode cX8_turnPaper 126 = .ok (.invokevirtual 299, 3) := by decide +kernel
theorem dX8_turnPaper_129 : decode cX8_turnPaper 129 = .ok (.aload_n 0, 1) := by decide +kernel
theorem dX8_turnPaper_130 : decode cX8_turnPaper 130 = .ok (.getfield 28, 3) := by decide +kernel
theorem dX8_turnPaper_133 : decode cX8_turnPaper 133 = .ok (.getfield 257, 3) := by decide +kernel
theorem dX8_turnPaper_136 : decode cX8_turnPaper 136 = .ok (.iload_n 1, 1) := by decide +kernel
theorem dX8_turnPaper_137 : decode cX8_turnPaper 137 = .ok (.iconst 2, 1) := by decide +kernel
theorem dX8_turnPaper_138 : decode cX8_turnPaper 138 = .ok (.iastore, 1) := by decide +kernel
theorem dX8_turnPaper_139 : decode cX8_turnPaper 139 = .ok (.return_, 1) := by decide +kernel
theorem fcX8_299 : q_LV RX8 299 yX3_dropBehind cX3_dropBehind 4 none 1 3 := ⟨q_tb 893 (by decide +kernel) rfl, q_tb 894 (by decide +kernel) rfl, q_tb 895 (by decide +kernel) rfl, q_tb 7 (by decide +kernel) rfl, q_tb 896 (by decide +kernel) rfl, ⟨by decide +kernel, by decide +kernel, by decide +kernel⟩, TX3, 17, rfl⟩
theorem fgX8_257 : q_Fg RX8 257 3 11 := q_Fg.of (C := RX3) (T := TX3) (N := 17) rfl (by decide) inX3 290 (by decide +kernel) rfl rfl
theorem fcX8_295 : q_LV RX8 295 yX8_turnTrade cX8_turnTrade 5 none 2 8 := ⟨q_tb 889 (by decide +kernel) rfl, q_tb 891 (by decide +kernel) rfl, q_tbs (q := (yX8_turnTrade, 9)) 29 (by decide +kernel) rfl, q_tb 5 (by decide +kernel) rfl, q_tb 892 (by decide +kernel) rfl, ⟨by decide +kernel, by decide +kernel, by decide +kernel⟩, TX8, 9, rfl⟩
theorem fcX8_291 : q_LV RX8 291 yX8_giveTo cX8_giveTo 10 none 4 8 := ⟨q_tb 873 (by decide +kernel) rfl, q_tb 875 (by decide +kernel) rfl, q_tbs (q := (yX8_giveTo, 9)) 28 (by decide +kernel) rfl, q_tb 5 (by decide +kernel) rfl, q_tb 876 (by decide +kernel) rfl, ⟨by decide +kernel, by decide +kernel, by decide +kernel⟩, TX8, 9, rfl⟩
def fX8_turnPaper_L115 (n : Nat) (k65 : Nat → Int32 → Int32 → Mm → Option (Unit × Mm)) (r0 : Nat) (v1 : Int32) (v2 : Int32) (X : Mm) : Option (Unit × Mm) :=
nm (v2 + (1 : Int32)) fun v2_115 =>
k65 r0 v1 v2_115 X
def fX8_turnPaper_L65 (n : Nat) : Nat → Nat → Int32 → Int32 → Mm → Option (Unit × Mm)
| 0, _, _, _, _ => none
| j + 1, r0, v1, v2, X =>
if mT X r0 = 8 then
if mR X r0 2 ≠ 0 then
if mT X (mR X r0 2) = 10 then
if (mI X (mR X r0 2) 9) ≤ v2 then (
if mR X r0 3 ≠ 0 then
if mT X (mR X r0 3) = 3 then
bd (fX3_dropBehind n ((mR X r0 3)) v1 X) fun _ X126_7 =>
if mT X126_7 r0 = 8 then
if mR X126_7 r0 3 ≠ 0 then
if mT X126_7 (mR X126_7 r0 3) = 3 then
if mR X126_7 (mR X126_7 r0 3) 11 ≠ 0 then
if mT X126_7 (mR X126_7 (mR X126_7 r0 3) 11) = 14 then
if q_b X126_7 (mR X126_7 (mR X126_7 r0 3) 11) v1 then
nm (sI X126_7 (mR X126_7 (mR X126_7 r0 3) 11) (v1).toNatClampNeg (2 : Int32)) fun X138_13 =>
some ((), X138_13)
else none
else none
else none
else none
else none
else none
else none
else none
) else (
if mR X (mR X r0 2) 7 ≠ 0 then
if mT X (mR X (mR X r0 2) 7) = 14 then
if q_b X (mR X (mR X r0 2) 7) v2 then
if (mI X (mR X (mR X r0 2) 7) (v2).toNatClampNeg) = 0 then (
if mR X (mR X r0 2) 2 ≠ 0 then
if mT X (mR X (mR X r0 2) 2) = 14 then
if q_b X (mR X (mR X r0 2) 2) v2 then
if mR X r0 3 ≠ 0 then
if mT X (mR X r0 3) = 3 then
if mR X (mR X r0 3) 1 ≠ 0 then
if mT X (mR X (mR X r0 3) 1) = 14 then
if q_b X (mR X (mR X r0 3) 1) v1 then
if (mI X (mR X (mR X r0 2) 2) (v2).toNatClampNeg) = (mI X (mR X (mR X r0 3) 1) (v1).toNatClampNeg) then (
bd (fX8_turnTrade r0 v1 v2 X) fun _ X112_28 =>
fX8_turnPaper_L115 n (fX8_turnPaper_L65 n j) r0 v1 v2 X112_28
) else (
fX8_turnPaper_L115 n (fX8_turnPaper_L65 n j) r0 v1 v2 X
)
else none
else none
else none
else none
else none
else none
else none
else none
) else (
fX8_turnPaper_L115 n (fX8_turnPaper_L65 n j) r0 v1 v2 X
)
else none
else none
else none
)
else none
else none
else none
def fX8_turnPaper_L2 (n : Nat) : Nat → Nat → Int32 → Int32 → Mm → Option (Unit × Mm)
| 0, _, _, _, _ => none
| j + 1, r0, v1, v2, X =>
if mT X r0 = 8 then
if (mI X r0 6) ≤ v2 then (
fX8_turnPaper_L65 n n r0 v1 (0 : Int32) X
) else (
if mR X r0 3 ≠ 0 then
if mT X (mR X r0 3) = 3 then
if mR X (mR X r0 3) 1 ≠ 0 then
if mT X (mR X (mR X r0 3) 1) = 14 then
if q_b X (mR X (mR X r0 3) 1) v1 then
bd (fX8_sharesOf r0 v2 ((mI X (mR X (mR X r0 3) 1) (v1).toNatClampNeg)) X) fun w34 X21_35 =>
if mT X21_35 r0 = 8 then
if mR X21_35 r0 3 ≠ 0 then
if mT X21_35 (mR X21_35 r0 3) = 3 then
if mR X21_35 (mR X21_35 r0 3) 1 ≠ 0 then
if mT X21_35 (mR X21_35 (mR X21_35 r0 3) 1) = 14 then
if q_b X21_35 (mR X21_35 (mR X21_35 r0 3) 1) v1 then
bd (fX8_addShares r0 v2 ((mI X21_35 (mR X21_35 (mR X21_35 r0 3) 1) (v1).toNatClampNeg)) ((-w34)) X21_35) fun _ X38_43 =>
if mT X38_43 r0 = 8 then
if mR X38_43 r0 3 ≠ 0 then
if mT X38_43 (mR X38_43 r0 3) = 3 then
if mR X38_43 (mR X38_43 r0 3) 2 ≠ 0 then
if mT X38_43 (mR X38_43 (mR X38_43 r0 3) 2) = 14 then
if q_b X38_43 (mR X38_43 (mR X38_43 r0 3) 2) v1 then
bd (fX8_giveTo r0 v2 v1 ((mI X38_43 (mR X38_43 (mR X38_43 r0 3) 2) (v1).toNatClampNeg)) w34 X38_43) fun _ X54_51 =>
nm (v2 + (1 : Int32)) fun v2_57 =>
(fX8_turnPaper_L2 n j) r0 v1 v2_57 X54_51
else none
else none
else none
else none
else none
else none
else none
else none
else none
else none
else none
else none
else none
else none
else none
else none
else none
)
else none
def fX8_turnPaper (n : Nat) (r0 : Nat) (v1 : Int32) (X : Mm) : Option (Unit × Mm) :=
fX8_turnPaper_L2 n n r0 v1 (0 : Int32) X
theorem gX8_turnPaper_L115 {E : q_E} {X0 : Mm} (C : Cx E cX8_turnPaper RX8 5 none (q_rm 2 54 0 0) X0) (n : Nat) (k65 : Nat → Int32 → Int32 → Mm → Option (Unit × Mm)) (hk65 : ∀ (r0 : Nat) (v1 : Int32) (v2 : Int32) (X : Mm), Sm E (q_fin E q_eV X0 0 0) 0 0 65 [(0, .ref (q_P E + r0)), (1, .int v1), (2, .int v2)] [] X (k65 r0 v1 v2 X)) (r0 : Nat) (v1 : Int32) (v2 : Int32) (X : Mm) : Sm E (q_fin E q_eV X0 0 0) 0 0 115 [(0, .ref (q_P E + r0)), (1, .int v1), (2, .int v2)] [] X (fX8_turnPaper_L115 n k65 r0 v1 v2 X) := by
  unfold fX8_turnPaper_L115
  refine q_iincN C (1 : Int32) 2 (fun v2_115 => [(2, .int v2_115), (0, .ref (q_P E + r0)), (1, .int v1)]) dX8_turnPaper_115 rfl rfl (Nat.le_of_ble_eq_true rfl) (fun _ => rfl) (fun v2_115 => ?_)
  refine q_goto C 65 dX8_turnPaper_118 (by decide) ?_
  refine q_sub C [(0, .ref (q_P E + r0)), (1, .int v1), (2, .int v2_115)] [1, 2, 0] rfl ?_
  exact hk65 r0 v1 v2_115 X
theorem gX8_turnPaper_L65 {E : q_E} {X0 : Mm} (C : Cx E cX8_turnPaper RX8 5 none (q_rm 2 54 0 0) X0) (n : Nat) : ∀ (j : Nat) (r0 : Nat) (v1 : Int32) (v2 : Int32) (X : Mm), Sm E (q_fin E q_eV X0 0 0) 0 0 65 [(0, .ref (q_P E + r0)), (1, .int v1), (2, .int v2)] [] X (fX8_turnPaper_L65 n j r0 v1 v2 X) := by
  intro j
  induction j with
  | zero => intros; exact Sm.none
  | succ j ih =>
    intro r0 v1 v2 X
    rw [fX8_turnPaper_L65]
    refine q_iload_n C 2 dX8_turnPaper_65 rfl rfl ?_
    refine q_aload_n C 0 dX8_turnPaper_66 rfl rfl ?_
    refine q_chk (fun h2 => ?_)
    refine q_chk (fun h3 => ?_)
    refine p_getR C fgX8_21 rfl dX8_turnPaper_67 h2 h3 ?_
    refine q_chk (fun h4 => ?_)
    refine p_getI C fgX8_55 rfl dX8_turnPaper_70 h4 ?_
    refine q_icmp_ge C 121 dX8_turnPaper_73 (by decide) (fun _ => ?_) (fun _ => ?_)
    · refine q_aload_n C 0 dX8_turnPaper_121 rfl rfl ?_
      refine q_chk (fun h5 => ?_)
      refine p_getR C fgX8_28 rfl dX8_turnPaper_122 h2 h5 ?_
      refine q_iload_n C 1 dX8_turnPaper_125 rfl rfl ?_
      refine q_chk (fun h8 => ?_)
      refine q_cVV (As := (fun P => [.int v1])) C [] (sX3_dropBehind n ((mR X r0 3)) v1) fcX8_299 rfl (fun _ => rfl) ⟨Nat.le_of_ble_eq_true rfl, Nat.le_of_ble_eq_true rfl⟩ ⟨Nat.le_of_ble_eq_true rfl, Nat.le_of_ble_eq_true rfl⟩ (Nat.le_of_ble_eq_true rfl) dX8_turnPaper_126 h8 (fun _ X126_7 => ?_)
      refine q_aload_n C 0 dX8_turnPaper_129 rfl rfl ?_
      refine q_chk (fun h9 => ?_)
      refine q_chk (fun h10 => ?_)
      refine p_getR C fgX8_28 rfl dX8_turnPaper_130 h9 h10 ?_
      refine q_chk (fun h11 => ?_)
      refine q_chk (fun h12 => ?_)
      refine p_getR C fgX8_257 rfl dX8_turnPaper_133 h11 h12 ?_
      refine q_iload_n C 1 dX8_turnPaper_136 rfl rfl ?_
      refine q_iconst C (2 : Int32) dX8_turnPaper_137 rfl ?_
      refine q_chk (fun h14 => ?_)
      refine q_chk (fun h15 => ?_)
      refine p_iast C dX8_turnPaper_138 h14 h15 ?_
      refine q_nmX (fun X138_13 => ?_)
      exact q_vret C dX8_turnPaper_139
    · refine q_aload_n C 0 dX8_turnPaper_76 rfl rfl ?_
      refine p_getR C fgX8_21 rfl dX8_turnPaper_77 h2 h3 ?_
      refine q_chk (fun h16 => ?_)
      refine p_getR C fgX8_226 rfl dX8_turnPaper_80 h4 h16 ?_
      refine q_iload_n C 2 dX8_turnPaper_83 rfl rfl ?_
      refine q_chk (fun h17 => ?_)
      refine q_chk (fun h18 => ?_)
      refine p_iald C dX8_turnPaper_84 h17 h18 ?_
      refine q_if_ne C 115 dX8_turnPaper_85 (by decide) (fun _ => ?_) (fun _ => ?_)
      · refine q_aload_n C 0 dX8_turnPaper_88 rfl rfl ?_
        refine p_getR C fgX8_21 rfl dX8_turnPaper_89 h2 h3 ?_
        refine q_chk (fun h19 => ?_)
        refine p_getR C fgX8_234 rfl dX8_turnPaper_92 h4 h19 ?_
        refine q_iload_n C 2 dX8_turnPaper_95 rfl rfl ?_
        refine q_chk (fun h20 => ?_)
        refine q_chk (fun h21 => ?_)
        refine p_iald C dX8_turnPaper_96 h20 h21 ?_
        refine q_aload_n C 0 dX8_turnPaper_97 rfl rfl ?_
        refine q_chk (fun h22 => ?_)
        refine p_getR C fgX8_28 rfl dX8_turnPaper_98 h2 h22 ?_
        refine q_chk (fun h23 => ?_)
        refine q_chk (fun h24 => ?_)
        refine p_getR C fgX8_274 rfl dX8_turnPaper_101 h23 h24 ?_
        refine q_iload_n C 1 dX8_turnPaper_104 rfl rfl ?_
        refine q_chk (fun h25 => ?_)
        refine q_chk (fun h26 => ?_)
        refine p_iald C dX8_turnPaper_105 h25 h26 ?_
        refine q_icmp_ne C 115 dX8_turnPaper_106 (by decide) (fun _ => ?_) (fun _ => ?_)
        · refine q_aload_n C 0 dX8_turnPaper_109 rfl rfl ?_
          refine q_iload_n C 1 dX8_turnPaper_110 rfl rfl ?_
          refine q_iload_n C 2 dX8_turnPaper_111 rfl rfl ?_
          refine q_cVV (As := (fun P => [.int v1, .int v2])) C [] (sX8_turnTrade r0 v1 v2) fcX8_295 rfl (fun _ => rfl) ⟨Nat.le_of_ble_eq_true rfl, Nat.le_of_ble_eq_true rfl⟩ ⟨Nat.le_of_ble_eq_true rfl, Nat.le_of_ble_eq_true rfl⟩ (Nat.le_of_ble_eq_true rfl) dX8_turnPaper_112 h2 (fun _ X112_28 => ?_)
          exact gX8_turnPaper_L115 C n (fX8_turnPaper_L65 n j) ih r0 v1 v2 X112_28
        · exact gX8_turnPaper_L115 C n (fX8_turnPaper_L65 n j) ih r0 v1 v2 X
      · exact gX8_turnPaper_L115 C n (fX8_turnPaper_L65 n j) ih r0 v1 v2 X
theorem gX8_turnPaper_L2 {E : q_E} {X0 : Mm} (C : Cx E cX8_turnPaper RX8 5 none (q_rm 2 54 0 0) X0) (n : Nat) : ∀ (j : Nat) (r0 : Nat) (v1 : Int32) (v2 : Int32) (X : Mm), Sm E (q_fin E q_eV X0 0 0) 0 0 2 [(0, .ref (q_P E + r0)), (1, .int v1), (2, .int v2)] [] X (fX8_turnPaper_L2 n j r0 v1 v2 X) := by
  intro j
  induction j with
  | zero => intros; exact Sm.none
  | succ j ih =>
    intro r0 v1 v2 X
    rw [fX8_turnPaper_L2]
    refine q_iload_n C 2 dX8_turnPaper_2 rfl rfl ?_
    refine q_aload_n C 0 dX8_turnPaper_3 rfl rfl ?_
    refine q_chk (fun h1 => ?_)
    refine p_getI C fgX8_63 rfl dX8_turnPaper_4 h1 ?_
    refine q_icmp_ge C 63 dX8_turnPaper_7 (by decide) (fun _ => ?_) (fun _ => ?_)
    · refine q_iconst C (0 : Int32) dX8_turnPaper_63 rfl ?_
      refine q_istore_n C [(2, .int (0 : Int32)), (0, .ref (q_P E + r0)), (1, .int v1)] dX8_turnPaper_64 rfl (Nat.le_of_ble_eq_true rfl) rfl ?_
      refine q_sub C [(0, .ref (q_P E + r0)), (1, .int v1), (2, .int (0 : Int32))] [1, 2, 0] rfl ?_
      exact gX8_turnPaper_L65 C n n r0 v1 (0 : Int32) X
    · refine q_aload_n C 0 dX8_turnPaper_10 rfl rfl ?_
      refine q_iload_n C 2 dX8_turnPaper_11 rfl rfl ?_
      refine q_aload_n C 0 dX8_turnPaper_12 rfl rfl ?_
      refine q_chk (fun h29 => ?_)
      refine p_getR C fgX8_28 rfl dX8_turnPaper_13 h1 h29 ?_
      refine q_chk (fun h30 => ?_)
      refine q_chk (fun h31 => ?_)
      refine p_getR C fgX8_274 rfl dX8_turnPaper_16 h30 h31 ?_
      refine q_iload_n C 1 dX8_turnPaper_19 rfl rfl ?_
      refine q_chk (fun h32 => ?_)
      refine q_chk (fun h33 => ?_)
      refine p_iald C dX8_turnPaper_20 h32 h33 ?_
      refine q_cVL (As := (fun P => [.int v2, .int (mI X (mR X (mR X r0 3) 1) (v1).toNatClampNeg)])) C [] (sX8_sharesOf r0 v2 ((mI X (mR X (mR X r0 3) 1) (v1).toNatClampNeg))) fcX8_236 rfl (fun _ => rfl) ⟨Nat.le_of_ble_eq_true rfl, Nat.le_of_ble_eq_true rfl⟩ ⟨Nat.le_of_ble_eq_true rfl, Nat.le_of_ble_eq_true rfl⟩ (Nat.le_of_ble_eq_true rfl) dX8_turnPaper_21 h1 (fun w34 X21_35 => ?_)
      refine q_lstore_n C [(3, .long w34), (0, .ref (q_P E + r0)), (1, .int v1), (2, .int v2)] dX8_turnPaper_24 rfl (Nat.le_of_ble_eq_true rfl) rfl ?_
      refine q_aload_n C 1 dX8_turnPaper_25 rfl rfl ?_
      refine q_iload_n C 3 dX8_turnPaper_26 rfl rfl ?_
      refine q_aload_n C 1 dX8_turnPaper_27 rfl rfl ?_
      refine q_chk (fun h36 => ?_)
      refine q_chk (fun h37 => ?_)
      refine p_getR C fgX8_28 rfl dX8_turnPaper_28 h36 h37 ?_
      refine q_chk (fun h38 => ?_)
      refine q_chk (fun h39 => ?_)
      refine p_getR C fgX8_274 rfl dX8_turnPaper_31 h38 h39 ?_
      refine q_iload_n C 2 dX8_turnPaper_34 rfl rfl ?_
      refine q_chk (fun h40 => ?_)
      refine q_chk (fun h41 => ?_)
      refine p_iald C dX8_turnPaper_35 h40 h41 ?_
      refine q_lload_n C 0 dX8_turnPaper_36 rfl rfl ?_
      refine q_lneg C dX8_turnPaper_37 ?_
      refine q_cVV (As := (fun P => [.int v2, .int (mI X21_35 (mR X21_35 (mR X21_35 r0 3) 1) (v1).toNatClampNeg), .long (-w34)])) C [] (sX8_addShares r0 v2 ((mI X21_35 (mR X21_35 (mR X21_35 r0 3) 1) (v1).toNatClampNeg)) ((-w34))) fcX8_241 rfl (fun _ => rfl) ⟨Nat.le_of_ble_eq_true rfl, Nat.le_of_ble_eq_true rfl⟩ ⟨Nat.le_of_ble_eq_true rfl, Nat.le_of_ble_eq_true rfl⟩ (Nat.le_of_ble_eq_true rfl) dX8_turnPaper_38 h36 (fun _ X38_43 => ?_)
      refine q_aload_n C 1 dX8_turnPaper_41 rfl rfl ?_
      refine q_iload_n C 3 dX8_turnPaper_42 rfl rfl ?_
      refine q_iload_n C 2 dX8_turnPaper_43 rfl rfl ?_
      refine q_aload_n C 1 dX8_turnPaper_44 rfl rfl ?_
      refine q_chk (fun h44 => ?_)
      refine q_chk (fun h45 => ?_)
      refine p_getR C fgX8_28 rfl dX8_turnPaper_45 h44 h45 ?_
      refine q_chk (fun h46 => ?_)
      refine q_chk (fun h47 => ?_)
      refine p_getR C fgX8_289 rfl dX8_turnPaper_48 h46 h47 ?_
      refine q_iload_n C 2 dX8_turnPaper_51 rfl rfl ?_
      refine q_chk (fun h48 => ?_)
      refine q_chk (fun h49 => ?_)
      refine p_iald C dX8_turnPaper_52 h48 h49 ?_
      refine q_lload_n C 0 dX8_turnPaper_53 rfl rfl ?_
      refine q_cVV (As := (fun P => [.int v2, .int v1, .int (mI X38_43 (mR X38_43 (mR X38_43 r0 3) 2) (v1).toNatClampNeg), .long w34])) C [] (sX8_giveTo r0 v2 v1 ((mI X38_43 (mR X38_43 (mR X38_43 r0 3) 2) (v1).toNatClampNeg)) w34) fcX8_291 rfl (fun _ => rfl) ⟨Nat.le_of_ble_eq_true rfl, Nat.le_of_ble_eq_true rfl⟩ ⟨Nat.le_of_ble_eq_true rfl, Nat.le_of_ble_eq_true rfl⟩ (Nat.le_of_ble_eq_true rfl) dX8_turnPaper_54 h44 (fun _ X54_51 => ?_)
      refine q_iincN C (1 : Int32) 3 (fun v2_57 => [(2, .int v2_57), (3, .long w34), (0, .ref (q_P E + r0)), (1, .int v1)]) dX8_turnPaper_57 rfl rfl (Nat.le_of_ble_eq_true rfl) (fun _ => rfl) (fun v2_57 => ?_)
      refine q_goto C 2 dX8_turnPaper_60 (by decide) ?_
      refine q_sub C [(0, .ref (q_P E + r0)), (1, .int v1), (2, .int v2_57)] [2, 3, 0] rfl ?_
      exact ih r0 v1 v2_57 X54_51
theorem sX8_turnPaper (n : Nat) (r0 : Nat) (v1 : Int32) : q_Ct yX8_turnPaper cX8_turnPaper 5 none 2 54 0 0 q_eV (fun P => [.ref (P + r0), .int v1]) (fX8_turnPaper n r0 v1) := by
  refine q_meth (by decide +kernel) (fun P => Nat.le_of_ble_eq_true rfl) (fun E X C hn => ?_)
  show Sm E (q_fin E q_eV X 0 0) 0 0 0 [(0, .ref (q_P E + r0)), (1, .int v1)] [] X _
  unfold fX8_turnPaper
  refine q_iconst C (0 : Int32) dX8_turnPaper_0 rfl ?_
  refine q_istore_n C [(2, .int (0 : Int32)), (0, .ref (q_P E + r0)), (1, .int v1)] dX8_turnPaper_1 rfl (Nat.le_of_ble_eq_true rfl) rfl ?_
  refine q_sub C [(0, .ref (q_P E + r0)), (1, .int v1), (2, .int (0 : Int32))] [1, 2, 0] rfl ?_
  exact gX8_turnPaper_L2 C n n r0 v1 (0 : Int32) X
/-! RecordClaims$State.addClaim(IIII)V -/
abbrev cX8_addClaim : ByteArray := prog_10_method_23_code
def yX8_addClaim : MethodName := ⟨RX8, "addClaim", "(IIII)V"⟩
theorem dX8_addClaim_0 : decode cX8_addClaim 0 = .ok (.aload_n 0, 1) := by decide +kernel
theorem dX8_addClaim_1 : decode cX8_addClaim 1 = .ok (.getfield 28, 3) := by decide +kernel
theorem dX8_addClaim_4 : decode cX8_addClaim 4 = .ok (.getfield 88, 3) := by decide +kernel
theorem dX8_addClaim_7 : decode cX8_addClaim 7 = .ok (.iload_n 1, 1) := by decide +kernel
theorem dX8_addClaim_8 : decode cX8_addClaim 8 = .ok (.iaload, 1) := by decide +kernel
theorem dX8_addClaim_9 : decode cX8_addClaim 9 = .ok (.istore 5, 2) := by decide +kernel
theorem dX8_addClaim_11 : decode cX8_addClaim 11 = .ok (.iload 5, 2) := by decide +kernel
theorem dX8_addClaim_13 : decode cX8_addClaim 13 = .ok (.bipush 60, 2) := by decide +kernel
theorem dX8_addClaim_15 : decode cX8_addClaim 15 = .ok (.if_icmp .ge 43, 3) := by decide +kernel
theorem dX8_addClaim_18 : decode cX8_addClaim 18 = .ok (.aload_n 0, 1) := by decide +kernel
theorem dX8_addClaim_19 : decode cX8_addClaim 19 = .ok (.getfield 42, 3) := by decide +kernel
theorem dX8_addClaim_22 : decode cX8_addClaim 22 = .ok (.iload_n 1, 1) := by decide +kernel
theorem dX8_addClaim_23 : decode cX8_addClaim 23 = .ok (.iload 5, 2) := by decide +kernel
theorem dX8_addClaim_25 : decode cX8_addClaim 25 = .ok (.invokestatic 284, 3) := by decide +kernel
theorem dX8_addClaim_28 : decode cX8_addClaim 28 = .ok (.iload_n 2, 1) := by decide +kernel
theorem dX8_addClaim_29 : decode cX8_addClaim 29 = .ok (.iload_n 3, 1) := by decide +kernel
theorem dX8_addClaim_30 : decode cX8_addClaim 30 = .ok (.aload_n 0, 1) := by decide +kernel
theorem dX8_addClaim_31 : decode cX8_addClaim 31 = .ok (.getfield 21, 3) := by decide +kernel
theorem dX8_addClaim_34 : decode cX8_addClaim 34 = .ok (.getfield 240, 3) := by decide +kernel
theorem dX8_addClaim_37 : decode cX8_addClaim 37 = .ok (.iload 4, 2) := by decide +kernel
theorem dX8_addClaim_39 : decode cX8_addClaim 39 = .ok (.laload, 1) := by decide +kernel
theorem dX8_addClaim_40 : decode cX8_addClaim 40 = .ok (.iload 4, 2) := by decide +kernel
theorem dX8_addClaim_42 : decode cX8_addClaim 42 = .ok (.invokevirtual 285, 3) := by decide +kernel
theorem dX8_addClaim_45 : decode cX8_addClaim 45 = .ok (.aload_n 0, 1) := by decide +kernel
theorem dX8_addClaim_46 : decode cX8_addClaim 46 = .ok (.getfield 28, 3) := by decide +kernel
theorem dX8_addClaim_49 : decode cX8_addClaim 49 = .ok (.getfield 88, 3) := by decide +kernel
theorem dX8_addClaim_52 : decode cX8_addClaim 52 = .ok (.iload_n 1, 1) := by decide +kernel
theorem dX8_addClaim_53 : decode cX8_addClaim 53 = .ok (.iload 5, 2) := by decide +kernel
theorem dX8_addClaim_55 : decode cX8_addClaim 55 = .ok (.iconst 1, 1) := by decide +kernel
theorem dX8_addClaim_56 : decode cX8_addClaim 56 = .ok (.iadd, 1) := by decide +kernel
theorem dX8_addClaim_57 : decode cX8_addClaim 57 = .ok (.iastore, 1) := by decide +kernel
theorem dX8_addClaim_58 : decode cX8_addClaim 58 = .ok (.return_, 1) := by decide +kernel
theorem fcX8_285 : q_LV RX8 285 yX1_put cX1_put 7 none 5 1 := ⟨q_tb 908 (by decide +kernel) rfl, q_tb 909 (by decide +kernel) rfl, q_tb 910 (by decide +kernel) rfl, q_tb 9 (by decide +kernel) rfl, q_tb 911 (by decide +kernel) rfl, ⟨by decide +kernel, by decide +kernel, by decide +kernel⟩, TX1, 5, rfl⟩
def fX8_addClaim (r0 : Nat) (v1 : Int32) (v2 : Int32) (v3 : Int32) (v4 : Int32) (X : Mm) : Option (Unit × Mm) :=
if mT X r0 = 8 then
if mR X r0 3 ≠ 0 then
if mT X (mR X r0 3) = 3 then
if mR X (mR X r0 3) 12 ≠ 0 then
if mT X (mR X (mR X r0 3) 12) = 14 then
if q_b X (mR X (mR X r0 3) 12) v1 then
nm ((mI X (mR X (mR X r0 3) 12) (v1).toNatClampNeg)) fun v5_9 =>
if (60 : Int32) ≤ v5_9 then (
some ((), X)
) else (
if mR X r0 5 ≠ 0 then
bd (fX1_at v1 v5_9 X) fun w9 X25_10 =>
if mT X25_10 r0 = 8 then
if mR X25_10 r0 2 ≠ 0 then
if mT X25_10 (mR X25_10 r0 2) = 10 then
if mR X25_10 (mR X25_10 r0 2) 3 ≠ 0 then
if mT X25_10 (mR X25_10 (mR X25_10 r0 2) 3) = 15 then
if q_b X25_10 (mR X25_10 (mR X25_10 r0 2) 3) v4 then
if mT X25_10 (mR X r0 5) = 1 then
bd (fX1_put ((mR X r0 5)) w9 v2 v3 ((mJ X25_10 (mR X25_10 (mR X25_10 r0 2) 3) (v4).toNatClampNeg)) v4 X25_10) fun _ X42_18 =>
if mT X42_18 r0 = 8 then
if mR X42_18 r0 3 ≠ 0 then
if mT X42_18 (mR X42_18 r0 3) = 3 then
if mR X42_18 (mR X42_18 r0 3) 12 ≠ 0 then
if mT X42_18 (mR X42_18 (mR X42_18 r0 3) 12) = 14 then
if q_b X42_18 (mR X42_18 (mR X42_18 r0 3) 12) v1 then
nm (sI X42_18 (mR X42_18 (mR X42_18 r0 3) 12) (v1).toNatClampNeg (v5_9 + (1 : Int32))) fun X57_24 =>
some ((), X57_24)
else none
else none
else none
else none
else none
else none
else none
else none
else none
else none
else none
else none
else none
else none
)
else none
else none
else none
else none
else none
else none
theorem sX8_addClaim (r0 : Nat) (v1 : Int32) (v2 : Int32) (v3 : Int32) (v4 : Int32) : q_Ct yX8_addClaim cX8_addClaim 6 none 1 26 0 0 q_eV (fun P => [.ref (P + r0), .int v1, .int v2, .int v3, .int v4]) (fX8_addClaim r0 v1 v2 v3 v4) := by
  refine q_meth (by decide +kernel) (fun P => Nat.le_of_ble_eq_true rfl) (fun E X C hn => ?_)
  show Sm E (q_fin E q_eV X 0 0) 0 0 0 [(0, .ref (q_P E + r0)), (1, .int v1), (2, .int v2), (3, .int v3), (4, .int v4)] [] X _
  unfold fX8_addClaim
  refine q_aload_n C 0 dX8_addClaim_0 rfl rfl ?_
  refine q_chk (fun h1 => ?_)
  refine q_chk (fun h2 => ?_)
  refine p_getR C fgX8_28 rfl dX8_addClaim_1 h1 h2 ?_
  refine q_chk (fun h3 => ?_)
  refine q_chk (fun h4 => ?_)
  refine p_getR C fgX8_88 rfl dX8_addClaim_4 h3 h4 ?_
  refine q_iload_n C 1 dX8_addClaim_7 rfl rfl ?_
  refine q_chk (fun h5 => ?_)
  refine q_chk (fun h6 => ?_)
  refine p_iald C dX8_addClaim_8 h5 h6 ?_
  refine q_nmi (fun v5_9 => ?_)
  refine q_istore C [(5, .int v5_9), (0, .ref (q_P E + r0)), (1, .int v1), (2, .int v2), (3, .int v3), (4, .int v4)] dX8_addClaim_9 (Nat.le_of_ble_eq_true rfl) rfl ?_
  refine q_iload C 0 dX8_addClaim_11 rfl ?_
  refine q_bipush C (60 : Int32) dX8_addClaim_13 rfl ?_
  refine q_icmp_ge C 58 dX8_addClaim_15 (by decide) (fun _ => ?_) (fun _ => ?_)
  · exact q_vret C dX8_addClaim_58
  · refine q_aload_n C 1 dX8_addClaim_18 rfl rfl ?_
    refine q_chk (fun h8 => ?_)
    refine p_getR C fgX8_42 rfl dX8_addClaim_19 h1 h8 ?_
    refine q_iload_n C 2 dX8_addClaim_22 rfl rfl ?_
    refine q_iload C 0 dX8_addClaim_23 rfl ?_
    refine q_cSI (As := (fun P => [.int v1, .int v5_9])) C [.ref (q_P E + (mR X r0 5))] (sX1_at v1 v5_9) fcX8_284 rfl (fun _ => rfl) ⟨Nat.le_of_ble_eq_true rfl, Nat.le_of_ble_eq_true rfl⟩ ⟨Nat.le_of_ble_eq_true rfl, Nat.le_of_ble_eq_true rfl⟩ (Nat.le_of_ble_eq_true rfl) dX8_addClaim_25 (fun w9 X25_10 => ?_)
    refine q_iload_n C 3 dX8_addClaim_28 rfl rfl ?_
    refine q_iload_n C 4 dX8_addClaim_29 rfl rfl ?_
    refine q_aload_n C 1 dX8_addClaim_30 rfl rfl ?_
    refine q_chk (fun h11 => ?_)
    refine q_chk (fun h12 => ?_)
    refine p_getR C fgX8_21 rfl dX8_addClaim_31 h11 h12 ?_
    refine q_chk (fun h13 => ?_)
    refine q_chk (fun h14 => ?_)
    refine p_getR C fgX8_240 rfl dX8_addClaim_34 h13 h14 ?_
    refine q_iload C 5 dX8_addClaim_37 rfl ?_
    refine q_chk (fun h15 => ?_)
    refine q_chk (fun h16 => ?_)
    refine p_lald C dX8_addClaim_39 h15 h16 ?_
    refine q_iload C 5 dX8_addClaim_40 rfl ?_
    refine q_chk (fun h19 => ?_)
    refine q_cVV (As := (fun P => [.int w9, .int v2, .int v3, .long (mJ X25_10 (mR X25_10 (mR X25_10 r0 2) 3) (v4).toNatClampNeg), .int v4])) C [] (sX1_put ((mR X r0 5)) w9 v2 v3 ((mJ X25_10 (mR X25_10 (mR X25_10 r0 2) 3) (v4).toNatClampNeg)) v4) fcX8_285 rfl (fun _ => rfl) ⟨Nat.le_of_ble_eq_true rfl, Nat.le_of_ble_eq_true rfl⟩ ⟨Nat.le_of_ble_eq_true rfl, Nat.le_of_ble_eq_true rfl⟩ (Nat.le_of_ble_eq_true rfl) dX8_addClaim_42 h19 (fun _ X42_18 => ?_)
    refine q_aload_n C 1 dX8_addClaim_45 rfl rfl ?_
    refine q_chk (fun h20 => ?_)
    refine q_chk (fun h21 => ?_)
    refine p_getR C fgX8_28 rfl dX8_addClaim_46 h20 h21 ?_
    refine q_chk (fun h22 => ?_)
    refine q_chk (fun h23 => ?_)
    refine p_getR C fgX8_88 rfl dX8_addClaim_49 h22 h23 ?_
    refine q_iload_n C 2 dX8_addClaim_52 rfl rfl ?_
    refine q_iload C 0 dX8_addClaim_53 rfl ?_
    refine q_iconst C (1 : Int32) dX8_addClaim_55 rfl ?_
    refine q_iadd C dX8_addClaim_56 ?_
    refine q_chk (fun h25 => ?_)
    refine q_chk (fun h26 => ?_)
    refine p_iast C dX8_addClaim_57 h25 h26 ?_
    refine q_nmX (fun X57_24 => ?_)
    exact q_vret C dX8_addClaim_58
/-! RecordClaims$State.makeClaims(I)V -/
abbrev cX8_makeClaims : ByteArray := prog_10_method_22_code
def yX8_makeClaims : MethodName := ⟨RX8, "makeClaims", "(I)V"⟩
theorem dX8_makeClaims_0 : decode cX8_makeClaims 0 = .ok (.iconst 0, 1) := by decide +kernel
theorem dX8_makeClaims_1 : decode cX8_makeClaims 1 = .ok (.istore_n 2, 1) := by decide +kernel
theorem dX8_makeClaims_2 : decode cX8_makeClaims 2 = .ok (.iload_n 2, 1) := by decide +kernel
theorem dX8_makeClaims_3 : decode cX8_makeClaims 3 = .ok (.aload_n 0, 1) := by decide +kernel
theorem dX8_makeClaims_4 : decode cX8_makeClaims 4 = .ok (.getfield 21, 3) := by decide +kernel
theorem dX8_makeClaims_7 : decode cX8_makeClaims 7 = .ok (.getfield 55, 3) := by decide +kernel
theorem dX8_makeClaims_10 : decode cX8_makeClaims 10 = .ok (.if_icmp .ge 141, 3) := by decide +kernel
theorem dX8_makeClaims_13 : decode cX8_makeClaims 13 = .ok (.aload_n 0, 1) := by decide +kernel
theorem dX8_makeClaims_14 : decode cX8_makeClaims 14 = .ok (.getfield 21, 3) := by decide +kernel
theorem dX8_makeClaims_17 : decode cX8_makeClaims 17 = .ok (.getfield 275, 3) := by decide +kernel
theorem dX8_makeClaims_20 : decode cX8_makeClaims 20 = .ok (.iload_n 2, 1) := by decide +kernel
theorem dX8_makeClaims_21 : decode cX8_makeClaims 21 = .ok (.iaload, 1) := by decide +kernel
theorem dX8_makeClaims_22 : decode cX8_makeClaims 22 = .ok (.aload_n 0, 1) := by decide +kernel
theorem dX8_makeClaims_23 : decode cX8_makeClaims 23 = .ok (.getfield 28, 3) := by decide +kernel
theorem dX8_makeClaims_26 : decode cX8_makeClaims 26 = .ok (.getfield 278, 3) := by decide +kernel
theorem dX8_makeClaims_29 : decode cX8_makeClaims 29 = .ok (.iload_n 1, 1) := by decide +kernel
theorem dX8_makeClaims_30 : decode cX8_makeClaims 30 = .ok (.iaload, 1) := by decide +kernel
theorem dX8_makeClaims_31 : decode cX8_makeClaims 31 = .ok (.if_icmp .ge 7, 3) := by decide +kernel
theorem dX8_makeClaims_34 : decode cX8_makeClaims 34 = .ok (.iconst 1, 1) := by decide +kernel
theorem dX8_makeClaims_35 : decode cX8_makeClaims 35 = .ok (.goto 4, 3) := by decide +kernel
theorem dX8_makeClaims_38 : decode cX8_makeClaims 38 = .ok (.iconst 0, 1) := by decide +kernel
theorem dX8_makeClaims_39 : decode cX8_makeClaims 39 = .ok (.istore_n 3, 1) := by decide +kernel
theorem dX8_makeClaims_40 : decode cX8_makeClaims 40 = .ok (.aload_n 0, 1) := by decide +kernel
theorem dX8_makeClaims_41 : decode cX8_makeClaims 41 = .ok (.getfield 21, 3) := by decide +kernel
theorem dX8_makeClaims_44 : decode cX8_makeClaims 44 = .ok (.getfield 234, 3) := by decide +kernel
theorem dX8_makeClaims_47 : decode cX8_makeClaims 47 = .ok (.iload_n 2, 1) := by decide +kernel
theorem dX8_makeClaims_48 : decode cX8_makeClaims 48 = .ok (.iaload, 1) := by decide +kernel
theorem dX8_makeClaims_49 : decode cX8_makeClaims 49 = .ok (.aload_n 0, 1) := by decide +kernel
theorem dX8_makeClaims_50 : decode cX8_makeClaims 50 = .ok (.getfield 28, 3) := by decide +kernel
theorem dX8_makeClaims_53 : decode cX8_makeClaims 53 = .ok (.getfield 274, 3) := by decide +kernel
theorem dX8_makeClaims_56 : decode cX8_makeClaims 56 = .ok (.iload_n 1, 1) := by decide +kernel
theorem dX8_makeClaims_57 : decode cX8_makeClaims 57 = .ok (.iaload, 1) := by decide +kernel
theorem dX8_makeClaims_58 : decode cX8_makeClaims 58 = .ok (.if_icmp .ne 87, 3) := by decide +kernel
theorem dX8_makeClaims_61 : decode cX8_makeClaims 61 = .ok (.aload_n 0, 1) := by decide +kernel
theorem dX8_makeClaims_62 : decode cX8_makeClaims 62 = .ok (.getfield 21, 3) := by decide +kernel
theorem dX8_makeClaims_65 : decode cX8_makeClaims 65 = .ok (.getfield 226, 3) := by decide +kernel
theorem dX8_makeClaims_68 : decode cX8_makeClaims 68 = .ok (.iload_n 2, 1) := by decide +kernel
theorem dX8_makeClaims_69 : decode cX8_makeClaims 69 = .ok (.iaload, 1) := by decide +kernel
theorem dX8_makeClaims_70 : decode cX8_makeClaims 70 = .ok (.ifCond .ne 34, 3) := by decide +kernel
theorem dX8_makeClaims_73 : decode cX8_makeClaims 73 = .ok (.iload_n 3, 1) := by decide +kernel
theorem dX8_makeClaims_74 : decode cX8_makeClaims 74 = .ok (.ifCond .eq 30, 3) := by decide +kernel
theorem dX8_makeClaims_77 : decode cX8_makeClaims 77 = .ok (.aload_n 0, 1) := by decide +kernel
theorem dX8_makeClaims_78 : decode cX8_makeClaims 78 = .ok (.iload_n 1, 1) := by decide +kernel
theorem dX8_makeClaims_79 : decode cX8_makeClaims 79 = .ok (.aload_n 0, 1) := by decide +kernel
theorem dX8_makeClaims_80 : decode cX8_makeClaims 80 = .ok (.getfield 21, 3) := by decide +kernel
theorem dX8_makeClaims_83 : decode cX8_makeClaims 83 = .ok (.getfield 232, 3) := by decide +kernel
theorem dX8_makeClaims_86 : decode cX8_makeClaims 86 = .ok (.iload_n 2, 1) := by decide +kernel
theorem dX8_makeClaims_87 : decode cX8_makeClaims 87 = .ok (.iaload, 1) := by decide +kernel
theorem dX8_makeClaims_88 : decode cX8_makeClaims 88 = .ok (.aload_n 0, 1) := by decide +kernel
theorem dX8_makeClaims_89 : decode cX8_makeClaims 89 = .ok (.getfield 21, 3) := by decide +kernel
theorem dX8_makeClaims_92 : decode cX8_makeClaims 92 = .ok (.getfield 245, 3) := by decide +kernel
theorem dX8_makeClaims_95 : decode cX8_makeClaims 95 = .ok (.iload_n 2, 1) := by decide +kernel
theorem dX8_makeClaims_96 : decode cX8_makeClaims 96 = .ok (.iaload, 1) := by decide +kernel
theorem dX8_makeClaims_97 : decode cX8_makeClaims 97 = .ok (.iload_n 2, 1) := by decide +kernel
theorem dX8_makeClaims_98 : decode cX8_makeClaims 98 = .ok (.invokevirtual 280, 3) := by decide +kernel
theorem dX8_makeClaims_101 : decode cX8_makeClaims 101 = .ok (.goto 44, 3) := by decide +kernel
theorem dX8_makeClaims_104 : decode cX8_makeClaims 104 = .ok (.aload_n 0, 1) := by decide +kernel
theorem dX8_makeClaims_105 : decode cX8_makeClaims 105 = .ok (.getfield 21, 3) := by decide +kernel
theorem dX8_makeClaims_108 : decode cX8_makeClaims 108 = .ok (.getfield 226, 3) := by decide +kernel
theorem dX8_makeClaims_111 : decode cX8_makeClaims 111 = .ok (.iload_n 2, 1) := by decide +kernel
theorem dX8_makeClaims_112 : decode cX8_makeClaims 112 = .ok (.iaload, 1) := by decide +kernel
theorem dX8_makeClaims_113 : decode cX8_makeClaims 113 = .ok (.iconst 1, 1) := by decide +kernel
theorem dX8_makeClaims_114 : decode cX8_makeClaims 114 = .ok (.if_icmp .ne 31, 3) := by decide +kernel
theorem dX8_makeClaims_117 : decode cX8_makeClaims 117 = .ok (.iload_n 3, 1) := by decide +kernel
theorem dX8_makeClaims_118 : decode cX8_makeClaims 118 = .ok (.ifCond .ne 27, 3) := by decide +kernel
theorem dX8_makeClaims_121 : decode cX8_makeClaims 121 = .ok (.aload_n 0, 1) := by decide +kernel
theorem dX8_makeClaims_122 : decode cX8_makeClaims 122 = .ok (.iload_n 1, 1) := by decide +kernel
theorem dX8_makeClaims_123 : decode cX8_makeClaims 123 = .ok (.aload_n 0, 1) := by decide +kernel
theorem dX8_makeClaims_124 : decode cX8_makeClaims 124 = .ok (.getfield 21, 3) := by decide +kernel
theorem dX8_makeClaims_127 : decode cX8_makeClaims 127 = .ok (.getfield 245, 3) := by decide +kernel
theorem dX8_makeClaims_130 : decode cX8_makeClaims 130 = .ok (.iload_n 2, 1) := by decide +kernel
theorem dX8_makeClaims_131 : decode cX8_makeClaims 131 = .ok (.iaload, 1) := by decide +kernel
theorem dX8_makeClaims_132 : decode cX8_makeClaims 132 = .ok (.aload_n 0, 1) := by decide +kernel
theorem dX8_makeClaims_133 : decode cX8_makeClaims 133 = .ok (.getfield 21, 3) := by decide +kernel
theorem dX8_makeClaims_136 : decode cX8_makeClaims 136 = .ok (.getfield 232, 3) := by decide +kernel
theorem dX8_makeClaims_139 : decode cX8_makeClaims 139 = .ok (.iload_n 2, 1) := by decide +kernel
theorem dX8_makeClaims_140 : decode cX8_makeClaims 140 = .ok (.iaload, 1) := by decide +kernel
theorem dX8_makeClaims_141 : decode cX8_makeClaims 141 = .ok (.iload_n 2, 1) := by decide +kernel
theorem dX8_makeClaims_142 : decode cX8_makeClaims 142 = .ok (.invokevirtual 280, 3) := by decide +kernel
theorem dX8_makeClaims_145 : decode cX8_makeClaims 145 = .ok (.iinc 2 1, 3) := by decide +kernel
theorem dX8_makeClaims_148 : decode cX8_makeClaims 148 = .ok (.goto (-146), 3) := by decide +kernel
theorem dX8_makeClaims_151 : decode cX8_makeClaims 151 = .ok (.return_, 1) := by decide +kernel
theorem fgX8_275 : q_Fg RX8 275 10 5 := q_Fg.of (C := RX10) (T := TX10) (N := 10) rfl (by decide) inX10 233 (by decide +kernel) rfl rfl
theorem fgX8_278 : q_Fg RX8 278 3 8 := q_Fg.of (C := RX3) (T := TX3) (N := 17) rfl (by decide) inX3 284 (by decide +kernel) rfl rfl
theorem fcX8_280 : q_LV RX8 280 yX8_addClaim cX8_addClaim 6 none 4 8 := ⟨q_tb 901 (by decide +kernel) rfl, q_tb 903 (by decide +kernel) rfl, q_tbs (q := (yX8_addClaim, 9)) 31 (by decide +kernel) rfl, q_tb 5 (by decide +kernel) rfl, q_tb 904 (by decide +kernel) rfl, ⟨by decide +kernel, by decide +kernel, by decide +kernel⟩, TX8, 9, rfl⟩
def fX8_makeClaims_L145 (n : Nat) (k2 : Nat → Int32 → Int32 → Mm → Option (Unit × Mm)) (r0 : Nat) (v1 : Int32) (v2 : Int32) (X : Mm) : Option (Unit × Mm) :=
nm (v2 + (1 : Int32)) fun v2_145 =>
k2 r0 v1 v2_145 X
def fX8_makeClaims_L104 (n : Nat) (k2 : Nat → Int32 → Int32 → Mm → Option (Unit × Mm)) (r0 : Nat) (v1 : Int32) (v2 : Int32) (v3 : Int32) (X : Mm) : Option (Unit × Mm) :=
if mT X r0 = 8 then
if mR X r0 2 ≠ 0 then
if mT X (mR X r0 2) = 10 then
if mR X (mR X r0 2) 7 ≠ 0 then
if mT X (mR X (mR X r0 2) 7) = 14 then
if q_b X (mR X (mR X r0 2) 7) v2 then
if (mI X (mR X (mR X r0 2) 7) (v2).toNatClampNeg) = (1 : Int32) then (
if v3 = 0 then (
if mR X (mR X r0 2) 0 ≠ 0 then
if mT X (mR X (mR X r0 2) 0) = 14 then
if q_b X (mR X (mR X r0 2) 0) v2 then
if mR X (mR X r0 2) 1 ≠ 0 then
if mT X (mR X (mR X r0 2) 1) = 14 then
if q_b X (mR X (mR X r0 2) 1) v2 then
bd (fX8_addClaim r0 v1 ((mI X (mR X (mR X r0 2) 0) (v2).toNatClampNeg)) ((mI X (mR X (mR X r0 2) 1) (v2).toNatClampNeg)) v2 X) fun _ X142_39 =>
fX8_makeClaims_L145 n k2 r0 v1 v2 X142_39
else none
else none
else none
else none
else none
else none
) else (
fX8_makeClaims_L145 n k2 r0 v1 v2 X
)
) else (
fX8_makeClaims_L145 n k2 r0 v1 v2 X
)
else none
else none
else none
else none
else none
else none
def fX8_makeClaims_L39 (n : Nat) (k2 : Nat → Int32 → Int32 → Mm → Option (Unit × Mm)) (r0 : Nat) (v1 : Int32) (v2 : Int32) (s0 : Int32) (X : Mm) : Option (Unit × Mm) :=
if mT X r0 = 8 then
if mR X r0 2 ≠ 0 then
if mT X (mR X r0 2) = 10 then
if mR X (mR X r0 2) 2 ≠ 0 then
if mT X (mR X (mR X r0 2) 2) = 14 then
if q_b X (mR X (mR X r0 2) 2) v2 then
if mR X r0 3 ≠ 0 then
if mT X (mR X r0 3) = 3 then
if mR X (mR X r0 3) 1 ≠ 0 then
if mT X (mR X (mR X r0 3) 1) = 14 then
if q_b X (mR X (mR X r0 3) 1) v1 then
if (mI X (mR X (mR X r0 2) 2) (v2).toNatClampNeg) = (mI X (mR X (mR X r0 3) 1) (v1).toNatClampNeg) then (
if mR X (mR X r0 2) 7 ≠ 0 then
if mT X (mR X (mR X r0 2) 7) = 14 then
if q_b X (mR X (mR X r0 2) 7) v2 then
if (mI X (mR X (mR X r0 2) 7) (v2).toNatClampNeg) = 0 then (
if s0 = 0 then (
fX8_makeClaims_L104 n k2 r0 v1 v2 s0 X
) else (
if mR X (mR X r0 2) 1 ≠ 0 then
if mT X (mR X (mR X r0 2) 1) = 14 then
if q_b X (mR X (mR X r0 2) 1) v2 then
if mR X (mR X r0 2) 0 ≠ 0 then
if mT X (mR X (mR X r0 2) 0) = 14 then
if q_b X (mR X (mR X r0 2) 0) v2 then
bd (fX8_addClaim r0 v1 ((mI X (mR X (mR X r0 2) 1) (v2).toNatClampNeg)) ((mI X (mR X (mR X r0 2) 0) (v2).toNatClampNeg)) v2 X) fun _ X98_47 =>
fX8_makeClaims_L145 n k2 r0 v1 v2 X98_47
else none
else none
else none
else none
else none
else none
)
) else (
fX8_makeClaims_L104 n k2 r0 v1 v2 s0 X
)
else none
else none
else none
) else (
fX8_makeClaims_L145 n k2 r0 v1 v2 X
)
else none
else none
else none
else none
else none
else none
else none
else none
else none
else none
else none
def fX8_makeClaims_L2 (n : Nat) : Nat → Nat → Int32 → Int32 → Mm → Option (Unit × Mm)
| 0, _, _, _, _ => none
| j + 1, r0, v1, v2, X =>
if mT X r0 = 8 then
if mR X r0 2 ≠ 0 then
if mT X (mR X r0 2) = 10 then
if (mI X (mR X r0 2) 9) ≤ v2 then (
some ((), X)
) else (
if mR X (mR X r0 2) 5 ≠ 0 then
if mT X (mR X (mR X r0 2) 5) = 14 then
if q_b X (mR X (mR X r0 2) 5) v2 then
if mR X r0 3 ≠ 0 then
if mT X (mR X r0 3) = 3 then
if mR X (mR X r0 3) 8 ≠ 0 then
if mT X (mR X (mR X r0 3) 8) = 14 then
if q_b X (mR X (mR X r0 3) 8) v1 then
if (mI X (mR X (mR X r0 3) 8) (v1).toNatClampNeg) ≤ (mI X (mR X (mR X r0 2) 5) (v2).toNatClampNeg) then (
fX8_makeClaims_L39 n (fX8_makeClaims_L2 n j) r0 v1 v2 (0 : Int32) X
) else (
fX8_makeClaims_L39 n (fX8_makeClaims_L2 n j) r0 v1 v2 (1 : Int32) X
)
else none
else none
else none
else none
else none
else none
else none
else none
)
else none
else none
else none
def fX8_makeClaims (n : Nat) (r0 : Nat) (v1 : Int32) (X : Mm) : Option (Unit × Mm) :=
fX8_makeClaims_L2 n n r0 v1 (0 : Int32) X
theorem gX8_makeClaims_L145 {E : q_E} {X0 : Mm} (C : Cx E cX8_makeClaims RX8 4 none (q_rm 2 51 0 0) X0) (n : Nat) (k2 : Nat → Int32 → Int32 → Mm → Option (Unit × Mm)) (hk2 : ∀ (r0 : Nat) (v1 : Int32) (v2 : Int32) (X : Mm), Sm E (q_fin E q_eV X0 0 0) 0 0 2 [(0, .ref (q_P E + r0)), (1, .int v1), (2, .int v2)] [] X (k2 r0 v1 v2 X)) (r0 : Nat) (v1 : Int32) (v2 : Int32) (X : Mm) : Sm E (q_fin E q_eV X0 0 0) 0 0 145 [(0, .ref (q_P E + r0)), (1, .int v1), (2, .int v2)] [] X (fX8_makeClaims_L145 n k2 r0 v1 v2 X) := by
  unfold fX8_makeClaims_L145
  refine q_iincN C (1 : Int32) 2 (fun v2_145 => [(2, .int v2_145), (0, .ref (q_P E + r0)), (1, .int v1)]) dX8_makeClaims_145 rfl rfl (Nat.le_of_ble_eq_true rfl) (fun _ => rfl) (fun v2_145 => ?_)
  refine q_goto C 2 dX8_makeClaims_148 (by decide) ?_
  refine q_sub C [(0, .ref (q_P E + r0)), (1, .int v1), (2, .int v2_145)] [1, 2, 0] rfl ?_
  exact hk2 r0 v1 v2_145 X
theorem gX8_makeClaims_L104 {E : q_E} {X0 : Mm} (C : Cx E cX8_makeClaims RX8 4 none (q_rm 2 51 0 0) X0) (n : Nat) (k2 : Nat → Int32 → Int32 → Mm → Option (Unit × Mm)) (hk2 : ∀ (r0 : Nat) (v1 : Int32) (v2 : Int32) (X : Mm), Sm E (q_fin E q_eV X0 0 0) 0 0 2 [(0, .ref (q_P E + r0)), (1, .int v1), (2, .int v2)] [] X (k2 r0 v1 v2 X)) (r0 : Nat) (v1 : Int32) (v2 : Int32) (v3 : Int32) (X : Mm) : Sm E (q_fin E q_eV X0 0 0) 0 0 104 [(0, .ref (q_P E + r0)), (1, .int v1), (2, .int v2), (3, .int v3)] [] X (fX8_makeClaims_L104 n k2 r0 v1 v2 v3 X) := by
  unfold fX8_makeClaims_L104
  refine q_aload_n C 0 dX8_makeClaims_104 rfl rfl ?_
  refine q_chk (fun h26 => ?_)
  refine q_chk (fun h27 => ?_)
  refine p_getR C fgX8_21 rfl dX8_makeClaims_105 h26 h27 ?_
  refine q_chk (fun h28 => ?_)
  refine q_chk (fun h29 => ?_)
  refine p_getR C fgX8_226 rfl dX8_makeClaims_108 h28 h29 ?_
  refine q_iload_n C 2 dX8_makeClaims_111 rfl rfl ?_
  refine q_chk (fun h30 => ?_)
  refine q_chk (fun h31 => ?_)
  refine p_iald C dX8_makeClaims_112 h30 h31 ?_
  refine q_iconst C (1 : Int32) dX8_makeClaims_113 rfl ?_
  refine q_icmp_ne C 145 dX8_makeClaims_114 (by decide) (fun _ => ?_) (fun _ => ?_)
  · refine q_iload_n C 3 dX8_makeClaims_117 rfl rfl ?_
    refine q_if_ne C 145 dX8_makeClaims_118 (by decide) (fun _ => ?_) (fun _ => ?_)
    · refine q_aload_n C 0 dX8_makeClaims_121 rfl rfl ?_
      refine q_iload_n C 1 dX8_makeClaims_122 rfl rfl ?_
      refine q_aload_n C 0 dX8_makeClaims_123 rfl rfl ?_
      refine p_getR C fgX8_21 rfl dX8_makeClaims_124 h26 h27 ?_
      refine q_chk (fun h32 => ?_)
      refine p_getR C fgX8_245 rfl dX8_makeClaims_127 h28 h32 ?_
      refine q_iload_n C 2 dX8_makeClaims_130 rfl rfl ?_
      refine q_chk (fun h33 => ?_)
      refine q_chk (fun h34 => ?_)
      refine p_iald C dX8_makeClaims_131 h33 h34 ?_
      refine q_aload_n C 0 dX8_makeClaims_132 rfl rfl ?_
      refine p_getR C fgX8_21 rfl dX8_makeClaims_133 h26 h27 ?_
      refine q_chk (fun h35 => ?_)
      refine p_getR C fgX8_232 rfl dX8_makeClaims_136 h28 h35 ?_
      refine q_iload_n C 2 dX8_makeClaims_139 rfl rfl ?_
      refine q_chk (fun h36 => ?_)
      refine q_chk (fun h37 => ?_)
      refine p_iald C dX8_makeClaims_140 h36 h37 ?_
      refine q_iload_n C 2 dX8_makeClaims_141 rfl rfl ?_
      refine q_cVV (As := (fun P => [.int v1, .int (mI X (mR X (mR X r0 2) 0) (v2).toNatClampNeg), .int (mI X (mR X (mR X r0 2) 1) (v2).toNatClampNeg), .int v2])) C [] (sX8_addClaim r0 v1 ((mI X (mR X (mR X r0 2) 0) (v2).toNatClampNeg)) ((mI X (mR X (mR X r0 2) 1) (v2).toNatClampNeg)) v2) fcX8_280 rfl (fun _ => rfl) ⟨Nat.le_of_ble_eq_true rfl, Nat.le_of_ble_eq_true rfl⟩ ⟨Nat.le_of_ble_eq_true rfl, Nat.le_of_ble_eq_true rfl⟩ (Nat.le_of_ble_eq_true rfl) dX8_makeClaims_142 h26 (fun _ X142_39 => ?_)
      refine q_sub C [(0, .ref (q_P E + r0)), (1, .int v1), (2, .int v2)] [0, 1, 2] rfl ?_
      exact gX8_makeClaims_L145 C n k2 hk2 r0 v1 v2 X142_39
    · refine q_sub C [(0, .ref (q_P E + r0)), (1, .int v1), (2, .int v2)] [0, 1, 2] rfl ?_
      exact gX8_makeClaims_L145 C n k2 hk2 r0 v1 v2 X
  · refine q_sub C [(0, .ref (q_P E + r0)), (1, .int v1), (2, .int v2)] [0, 1, 2] rfl ?_
    exact gX8_makeClaims_L145 C n k2 hk2 r0 v1 v2 X
theorem gX8_makeClaims_L39 {E : q_E} {X0 : Mm} (C : Cx E cX8_makeClaims RX8 4 none (q_rm 2 51 0 0) X0) (n : Nat) (k2 : Nat → Int32 → Int32 → Mm → Option (Unit × Mm)) (hk2 : ∀ (r0 : Nat) (v1 : Int32) (v2 : Int32) (X : Mm), Sm E (q_fin E q_eV X0 0 0) 0 0 2 [(0, .ref (q_P E + r0)), (1, .int v1), (2, .int v2)] [] X (k2 r0 v1 v2 X)) (r0 : Nat) (v1 : Int32) (v2 : Int32) (s0 : Int32) (X : Mm) : Sm E (q_fin E q_eV X0 0 0) 0 0 39 [(0, .ref (q_P E + r0)), (1, .int v1), (2, .int v2)] [.int s0] X (fX8_makeClaims_L39 n k2 r0 v1 v2 s0 X) := by
  unfold fX8_makeClaims_L39
  refine q_istore_n C [(3, .int s0), (0, .ref (q_P E + r0)), (1, .int v1), (2, .int v2)] dX8_makeClaims_39 rfl (Nat.le_of_ble_eq_true rfl) rfl ?_
  refine q_aload_n C 1 dX8_makeClaims_40 rfl rfl ?_
  refine q_chk (fun h12 => ?_)
  refine q_chk (fun h13 => ?_)
  refine p_getR C fgX8_21 rfl dX8_makeClaims_41 h12 h13 ?_
  refine q_chk (fun h14 => ?_)
  refine q_chk (fun h15 => ?_)
  refine p_getR C fgX8_234 rfl dX8_makeClaims_44 h14 h15 ?_
  refine q_iload_n C 3 dX8_makeClaims_47 rfl rfl ?_
  refine q_chk (fun h16 => ?_)
  refine q_chk (fun h17 => ?_)
  refine p_iald C dX8_makeClaims_48 h16 h17 ?_
  refine q_aload_n C 1 dX8_makeClaims_49 rfl rfl ?_
  refine q_chk (fun h18 => ?_)
  refine p_getR C fgX8_28 rfl dX8_makeClaims_50 h12 h18 ?_
  refine q_chk (fun h19 => ?_)
  refine q_chk (fun h20 => ?_)
  refine p_getR C fgX8_274 rfl dX8_makeClaims_53 h19 h20 ?_
  refine q_iload_n C 2 dX8_makeClaims_56 rfl rfl ?_
  refine q_chk (fun h21 => ?_)
  refine q_chk (fun h22 => ?_)
  refine p_iald C dX8_makeClaims_57 h21 h22 ?_
  refine q_icmp_ne C 145 dX8_makeClaims_58 (by decide) (fun _ => ?_) (fun _ => ?_)
  · refine q_aload_n C 1 dX8_makeClaims_61 rfl rfl ?_
    refine p_getR C fgX8_21 rfl dX8_makeClaims_62 h12 h13 ?_
    refine q_chk (fun h23 => ?_)
    refine p_getR C fgX8_226 rfl dX8_makeClaims_65 h14 h23 ?_
    refine q_iload_n C 3 dX8_makeClaims_68 rfl rfl ?_
    refine q_chk (fun h24 => ?_)
    refine q_chk (fun h25 => ?_)
    refine p_iald C dX8_makeClaims_69 h24 h25 ?_
    refine q_if_ne C 104 dX8_makeClaims_70 (by decide) (fun _ => ?_) (fun _ => ?_)
    · refine q_iload_n C 0 dX8_makeClaims_73 rfl rfl ?_
      refine q_if_eq C 104 dX8_makeClaims_74 (by decide) (fun _ => ?_) (fun _ => ?_)
      · refine q_sub C [(0, .ref (q_P E + r0)), (1, .int v1), (2, .int v2), (3, .int s0)] [1, 2, 3, 0] rfl ?_
        exact gX8_makeClaims_L104 C n k2 hk2 r0 v1 v2 s0 X
      · refine q_aload_n C 1 dX8_makeClaims_77 rfl rfl ?_
        refine q_iload_n C 2 dX8_makeClaims_78 rfl rfl ?_
        refine q_aload_n C 1 dX8_makeClaims_79 rfl rfl ?_
        refine p_getR C fgX8_21 rfl dX8_makeClaims_80 h12 h13 ?_
        refine q_chk (fun h40 => ?_)
        refine p_getR C fgX8_232 rfl dX8_makeClaims_83 h14 h40 ?_
        refine q_iload_n C 3 dX8_makeClaims_86 rfl rfl ?_
        refine q_chk (fun h41 => ?_)
        refine q_chk (fun h42 => ?_)
        refine p_iald C dX8_makeClaims_87 h41 h42 ?_
        refine q_aload_n C 1 dX8_makeClaims_88 rfl rfl ?_
        refine p_getR C fgX8_21 rfl dX8_makeClaims_89 h12 h13 ?_
        refine q_chk (fun h43 => ?_)
        refine p_getR C fgX8_245 rfl dX8_makeClaims_92 h14 h43 ?_
        refine q_iload_n C 3 dX8_makeClaims_95 rfl rfl ?_
        refine q_chk (fun h44 => ?_)
        refine q_chk (fun h45 => ?_)
        refine p_iald C dX8_makeClaims_96 h44 h45 ?_
        refine q_iload_n C 3 dX8_makeClaims_97 rfl rfl ?_
        refine q_cVV (As := (fun P => [.int v1, .int (mI X (mR X (mR X r0 2) 1) (v2).toNatClampNeg), .int (mI X (mR X (mR X r0 2) 0) (v2).toNatClampNeg), .int v2])) C [] (sX8_addClaim r0 v1 ((mI X (mR X (mR X r0 2) 1) (v2).toNatClampNeg)) ((mI X (mR X (mR X r0 2) 0) (v2).toNatClampNeg)) v2) fcX8_280 rfl (fun _ => rfl) ⟨Nat.le_of_ble_eq_true rfl, Nat.le_of_ble_eq_true rfl⟩ ⟨Nat.le_of_ble_eq_true rfl, Nat.le_of_ble_eq_true rfl⟩ (Nat.le_of_ble_eq_true rfl) dX8_makeClaims_98 h12 (fun _ X98_47 => ?_)
        refine q_goto C 145 dX8_makeClaims_101 (by decide) ?_
        refine q_sub C [(0, .ref (q_P E + r0)), (1, .int v1), (2, .int v2)] [1, 2, 3] rfl ?_
        exact gX8_makeClaims_L145 C n k2 hk2 r0 v1 v2 X98_47
    · refine q_sub C [(0, .ref (q_P E + r0)), (1, .int v1), (2, .int v2), (3, .int s0)] [1, 2, 3, 0] rfl ?_
      exact gX8_makeClaims_L104 C n k2 hk2 r0 v1 v2 s0 X
  · refine q_sub C [(0, .ref (q_P E + r0)), (1, .int v1), (2, .int v2)] [1, 2, 3] rfl ?_
    exact gX8_makeClaims_L145 C n k2 hk2 r0 v1 v2 X
theorem gX8_makeClaims_L2 {E : q_E} {X0 : Mm} (C : Cx E cX8_makeClaims RX8 4 none (q_rm 2 51 0 0) X0) (n : Nat) : ∀ (j : Nat) (r0 : Nat) (v1 : Int32) (v2 : Int32) (X : Mm), Sm E (q_fin E q_eV X0 0 0) 0 0 2 [(0, .ref (q_P E + r0)), (1, .int v1), (2, .int v2)] [] X (fX8_makeClaims_L2 n j r0 v1 v2 X) := by
  intro j
  induction j with
  | zero => intros; exact Sm.none
  | succ j ih =>
    intro r0 v1 v2 X
    rw [fX8_makeClaims_L2]
    refine q_iload_n C 2 dX8_makeClaims_2 rfl rfl ?_
    refine q_aload_n C 0 dX8_makeClaims_3 rfl rfl ?_
    refine q_chk (fun h1 => ?_)
    refine q_chk (fun h2 => ?_)
    refine p_getR C fgX8_21 rfl dX8_makeClaims_4 h1 h2 ?_
    refine q_chk (fun h3 => ?_)
    refine p_getI C fgX8_55 rfl dX8_makeClaims_7 h3 ?_
    refine q_icmp_ge C 151 dX8_makeClaims_10 (by decide) (fun _ => ?_) (fun _ => ?_)
    · exact q_vret C dX8_makeClaims_151
    · refine q_aload_n C 0 dX8_makeClaims_13 rfl rfl ?_
      refine p_getR C fgX8_21 rfl dX8_makeClaims_14 h1 h2 ?_
      refine q_chk (fun h4 => ?_)
      refine p_getR C fgX8_275 rfl dX8_makeClaims_17 h3 h4 ?_
      refine q_iload_n C 2 dX8_makeClaims_20 rfl rfl ?_
      refine q_chk (fun h5 => ?_)
      refine q_chk (fun h6 => ?_)
      refine p_iald C dX8_makeClaims_21 h5 h6 ?_
      refine q_aload_n C 0 dX8_makeClaims_22 rfl rfl ?_
      refine q_chk (fun h7 => ?_)
      refine p_getR C fgX8_28 rfl dX8_makeClaims_23 h1 h7 ?_
      refine q_chk (fun h8 => ?_)
      refine q_chk (fun h9 => ?_)
      refine p_getR C fgX8_278 rfl dX8_makeClaims_26 h8 h9 ?_
      refine q_iload_n C 1 dX8_makeClaims_29 rfl rfl ?_
      refine q_chk (fun h10 => ?_)
      refine q_chk (fun h11 => ?_)
      refine p_iald C dX8_makeClaims_30 h10 h11 ?_
      refine q_icmp_ge C 38 dX8_makeClaims_31 (by decide) (fun _ => ?_) (fun _ => ?_)
      · refine q_iconst C (0 : Int32) dX8_makeClaims_38 rfl ?_
        exact gX8_makeClaims_L39 C n (fX8_makeClaims_L2 n j) ih r0 v1 v2 (0 : Int32) X
      · refine q_iconst C (1 : Int32) dX8_makeClaims_34 rfl ?_
        refine q_goto C 39 dX8_makeClaims_35 (by decide) ?_
        exact gX8_makeClaims_L39 C n (fX8_makeClaims_L2 n j) ih r0 v1 v2 (1 : Int32) X
theorem sX8_makeClaims (n : Nat) (r0 : Nat) (v1 : Int32) : q_Ct yX8_makeClaims cX8_makeClaims 4 none 2 51 0 0 q_eV (fun P => [.ref (P + r0), .int v1]) (fX8_makeClaims n r0 v1) := by
  refine q_meth (by decide +kernel) (fun P => Nat.le_of_ble_eq_true rfl) (fun E X C hn => ?_)
  show Sm E (q_fin E q_eV X 0 0) 0 0 0 [(0, .ref (q_P E + r0)), (1, .int v1)] [] X _
  unfold fX8_makeClaims
  refine q_iconst C (0 : Int32) dX8_makeClaims_0 rfl ?_
  refine q_istore_n C [(2, .int (0 : Int32)), (0, .ref (q_P E + r0)), (1, .int v1)] dX8_makeClaims_1 rfl (Nat.le_of_ble_eq_true rfl) rfl ?_
  refine q_sub C [(0, .ref (q_P E + r0)), (1, .int v1), (2, .int (0 : Int32))] [1, 2, 0] rfl ?_
  exact gX8_makeClaims_L2 C n n r0 v1 (0 : Int32) X
/-! RecordClaims$State.writeEvents()V -/
abbrev cX8_writeEvents : ByteArray := prog_10_method_20_code
def yX8_writeEvents : MethodName := ⟨RX8, "writeEvents", "()V"⟩
theorem dX8_writeEvents_0 : decode cX8_writeEvents 0 = .ok (.iconst 0, 1) := by decide +kernel
theorem dX8_writeEvents_1 : decode cX8_writeEvents 1 = .ok (.istore_n 1, 1) := by decide +kernel
theorem dX8_writeEvents_2 : decode cX8_writeEvents 2 = .ok (.iload_n 1, 1) := by decide +kernel
theorem dX8_writeEvents_3 : decode cX8_writeEvents 3 = .ok (.aload_n 0, 1) := by decide +kernel
theorem dX8_writeEvents_4 : decode cX8_writeEvents 4 = .ok (.getfield 28, 3) := by decide +kernel
theorem dX8_writeEvents_7 : decode cX8_writeEvents 7 = .ok (.getfield 59, 3) := by decide +kernel
theorem dX8_writeEvents_10 : decode cX8_writeEvents 10 = .ok (.if_icmp .ge 78, 3) := by decide +kernel
theorem dX8_writeEvents_13 : decode cX8_writeEvents 13 = .ok (.aload_n 0, 1) := by decide +kernel
theorem dX8_writeEvents_14 : decode cX8_writeEvents 14 = .ok (.getfield 28, 3) := by decide +kernel
theorem dX8_writeEvents_17 : decode cX8_writeEvents 17 = .ok (.getfield 257, 3) := by decide +kernel
theorem dX8_writeEvents_20 : decode cX8_writeEvents 20 = .ok (.iload_n 1, 1) := by decide +kernel
theorem dX8_writeEvents_21 : decode cX8_writeEvents 21 = .ok (.iaload, 1) := by decide +kernel
theorem dX8_writeEvents_22 : decode cX8_writeEvents 22 = .ok (.ifCond .ne 60, 3) := by decide +kernel
theorem dX8_writeEvents_25 : decode cX8_writeEvents 25 = .ok (.aload_n 0, 1) := by decide +kernel
theorem dX8_writeEvents_26 : decode cX8_writeEvents 26 = .ok (.getfield 28, 3) := by decide +kernel
theorem dX8_writeEvents_29 : decode cX8_writeEvents 29 = .ok (.getfield 258, 3) := by decide +kernel
theorem dX8_writeEvents_32 : decode cX8_writeEvents 32 = .ok (.iload_n 1, 1) := by decide +kernel
theorem dX8_writeEvents_33 : decode cX8_writeEvents 33 = .ok (.iaload, 1) := by decide +kernel
theorem dX8_writeEvents_34 : decode cX8_writeEvents 34 = .ok (.aload_n 0, 1) := by decide +kernel
theorem dX8_writeEvents_35 : decode cX8_writeEvents 35 = .ok (.getfield 68, 3) := by decide +kernel
theorem dX8_writeEvents_38 : decode cX8_writeEvents 38 = .ok (.if_icmp .ne 44, 3) := by decide +kernel
theorem dX8_writeEvents_41 : decode cX8_writeEvents 41 = .ok (.aload_n 0, 1) := by decide +kernel
theorem dX8_writeEvents_42 : decode cX8_writeEvents 42 = .ok (.iload_n 1, 1) := by decide +kernel
theorem dX8_writeEvents_43 : decode cX8_writeEvents 43 = .ok (.invokevirtual 260, 3) := by decide +kernel
theorem dX8_writeEvents_46 : decode cX8_writeEvents 46 = .ok (.aload_n 0, 1) := by decide +kernel
theorem dX8_writeEvents_47 : decode cX8_writeEvents 47 = .ok (.getfield 28, 3) := by decide +kernel
theorem dX8_writeEvents_50 : decode cX8_writeEvents 50 = .ok (.getfield 263, 3) := by decide +kernel
theorem dX8_writeEvents_53 : decode cX8_writeEvents 53 = .ok (.iload_n 1, 1) := by decide +kernel
theorem dX8_writeEvents_54 : decode cX8_writeEvents 54 = .ok (.iaload, 1) := by decide +kernel
theorem dX8_writeEvents_55 : decode cX8_writeEvents 55 = .ok (.iconst 3, 1) := by decide +kernel
theorem dX8_writeEvents_56 : decode cX8_writeEvents 56 = .ok (.if_icmp .ne 11, 3) := by decide +kernel
theorem dX8_writeEvents_59 : decode cX8_writeEvents 59 = .ok (.aload_n 0, 1) := by decide +kernel
theorem dX8_writeEvents_60 : decode cX8_writeEvents 60 = .ok (.iload_n 1, 1) := by decide +kernel
theorem dX8_writeEvents_61 : decode cX8_writeEvents 61 = .ok (.invokevirtual 265, 3) := by decide +kernel
theorem dX8_writeEvents_64 : decode cX8_writeEvents 64 = .ok (.goto 18, 3) := by decide +kernel
theorem dX8_writeEvents_67 : decode cX8_writeEvents 67 = .ok (.aload_n 0, 1) := by decide +kernel
theorem dX8_writeEvents_68 : decode cX8_writeEvents 68 = .ok (.iload_n 1, 1) := by decide +kernel
theorem dX8_writeEvents_69 : decode cX8_writeEvents 69 = .ok (.invokevirtual 268, 3) := by decide +kernel
theorem dX8_writeEvents_72 : decode cX8_writeEvents 72 = .ok (.aload_n 0, 1) := by decide +kernel
theorem dX8_writeEvents_73 : decode cX8_writeEvents 73 = .ok (.getfield 28, 3) := by decide +kernel
theorem dX8_writeEvents_76 : decode cX8_writeEvents 76 = .ok (.getfield 257, 3) := by decide +kernel
theorem dX8_writeEvents_79 : decode cX8_writeEvents 79 = .ok (.iload_n 1, 1) := by decide +kernel
theorem dX8_writeEvents_80 : decode cX8_writeEvents 80 = .ok (.iconst 1, 1) := by decide +kernel
theorem dX8_writeEvents_81 : decode cX8_writeEvents 81 = .ok (.iastore, 1) := by decide +kernel
theorem dX8_writeEvents_82 : decode cX8_writeEvents 82 = .ok (.iinc 1 1, 3) := by decide +kernel
theorem dX8_writeEvents_85 : decode cX8_writeEvents 85 = .ok (.goto (-83), 3) := by decide +kernel
theorem dX8_writeEvents_88 : decode cX8_writeEvents 88 = .ok (.return_, 1) := by decide +kernel
theorem fgX8_59 : q_Fg RX8 59 3 16 := q_Fg.of (C := RX3) (T := TX3) (N := 17) rfl (by decide) inX3 301 (by decide +kernel) rfl rfl
theorem fgX8_258 : q_Fg RX8 258 3 9 := q_Fg.of (C := RX3) (T := TX3) (N := 17) rfl (by decide) inX3 286 (by decide +kernel) rfl rfl
theorem fcX8_260 : q_LV RX8 260 yX8_writeShares cX8_writeShares 3 none 1 8 := ⟨q_tb 865 (by decide +kernel) rfl, q_tb 867 (by decide +kernel) rfl, q_tbs (q := (yX8_writeShares, 9)) 26 (by decide +kernel) rfl, q_tb 5 (by decide +kernel) rfl, q_tb 868 (by decide +kernel) rfl, ⟨by decide +kernel, by decide +kernel, by decide +kernel⟩, TX8, 9, rfl⟩
theorem fgX8_263 : q_Fg RX8 263 3 0 := q_Fg.of (C := RX3) (T := TX3) (N := 17) rfl (by decide) inX3 271 (by decide +kernel) rfl rfl
theorem fcX8_265 : q_LV RX8 265 yX8_turnPaper cX8_turnPaper 5 none 1 8 := ⟨q_tb 869 (by decide +kernel) rfl, q_tb 871 (by decide +kernel) rfl, q_tbs (q := (yX8_turnPaper, 9)) 27 (by decide +kernel) rfl, q_tb 5 (by decide +kernel) rfl, q_tb 872 (by decide +kernel) rfl, ⟨by decide +kernel, by decide +kernel, by decide +kernel⟩, TX8, 9, rfl⟩
theorem fcX8_268 : q_LV RX8 268 yX8_makeClaims cX8_makeClaims 4 none 1 8 := ⟨q_tb 897 (by decide +kernel) rfl, q_tb 899 (by decide +kernel) rfl, q_tbs (q := (yX8_makeClaims, 9)) 30 (by decide +kernel) rfl, q_tb 5 (by decide +kernel) rfl, q_tb 900 (by decide +kernel) rfl, ⟨by decide +kernel, by decide +kernel, by decide +kernel⟩, TX8, 9, rfl⟩
def fX8_writeEvents_L82 (n : Nat) (k2 : Nat → Int32 → Mm → Option (Unit × Mm)) (r0 : Nat) (v1 : Int32) (X : Mm) : Option (Unit × Mm) :=
nm (v1 + (1 : Int32)) fun v1_82 =>
k2 r0 v1_82 X
def fX8_writeEvents_L2 (n : Nat) : Nat → Nat → Int32 → Mm → Option (Unit × Mm)
| 0, _, _, _ => none
| j + 1, r0, v1, X =>
if mT X r0 = 8 then
if mR X r0 3 ≠ 0 then
if mT X (mR X r0 3) = 3 then
if (mI X (mR X r0 3) 16) ≤ v1 then (
some ((), X)
) else (
if mR X (mR X r0 3) 11 ≠ 0 then
if mT X (mR X (mR X r0 3) 11) = 14 then
if q_b X (mR X (mR X r0 3) 11) v1 then
if (mI X (mR X (mR X r0 3) 11) (v1).toNatClampNeg) = 0 then (
if mR X (mR X r0 3) 9 ≠ 0 then
if mT X (mR X (mR X r0 3) 9) = 14 then
if q_b X (mR X (mR X r0 3) 9) v1 then
if (mI X (mR X (mR X r0 3) 9) (v1).toNatClampNeg) = (mI X r0 8) then (
bd (fX8_writeShares n r0 v1 X) fun _ X43_11 =>
if mT X43_11 r0 = 8 then
if mR X43_11 r0 3 ≠ 0 then
if mT X43_11 (mR X43_11 r0 3) = 3 then
if mR X43_11 (mR X43_11 r0 3) 0 ≠ 0 then
if mT X43_11 (mR X43_11 (mR X43_11 r0 3) 0) = 14 then
if q_b X43_11 (mR X43_11 (mR X43_11 r0 3) 0) v1 then
if (mI X43_11 (mR X43_11 (mR X43_11 r0 3) 0) (v1).toNatClampNeg) = (3 : Int32) then (
bd (fX8_turnPaper n r0 v1 X43_11) fun _ X61_19 =>
fX8_writeEvents_L82 n (fX8_writeEvents_L2 n j) r0 v1 X61_19
) else (
bd (fX8_makeClaims n r0 v1 X43_11) fun _ X69_21 =>
if mT X69_21 r0 = 8 then
if mR X69_21 r0 3 ≠ 0 then
if mT X69_21 (mR X69_21 r0 3) = 3 then
if mR X69_21 (mR X69_21 r0 3) 11 ≠ 0 then
if mT X69_21 (mR X69_21 (mR X69_21 r0 3) 11) = 14 then
if q_b X69_21 (mR X69_21 (mR X69_21 r0 3) 11) v1 then
nm (sI X69_21 (mR X69_21 (mR X69_21 r0 3) 11) (v1).toNatClampNeg (1 : Int32)) fun X81_26 =>
fX8_writeEvents_L82 n (fX8_writeEvents_L2 n j) r0 v1 X81_26
else none
else none
else none
else none
else none
else none
)
else none
else none
else none
else none
else none
else none
) else (
fX8_writeEvents_L82 n (fX8_writeEvents_L2 n j) r0 v1 X
)
else none
else none
else none
) else (
fX8_writeEvents_L82 n (fX8_writeEvents_L2 n j) r0 v1 X
)
else none
else none
else none
)
else none
else none
else none
def fX8_writeEvents (n : Nat) (r0 : Nat) (X : Mm) : Option (Unit × Mm) :=
fX8_writeEvents_L2 n n r0 (0 : Int32) X
theorem gX8_writeEvents_L82 {E : q_E} {X0 : Mm} (C : Cx E cX8_writeEvents RX8 2 none (q_rm 3 78 0 0) X0) (n : Nat) (k2 : Nat → Int32 → Mm → Option (Unit × Mm)) (hk2 : ∀ (r0 : Nat) (v1 : Int32) (X : Mm), Sm E (q_fin E q_eV X0 0 0) 0 0 2 [(0, .ref (q_P E + r0)), (1, .int v1)] [] X (k2 r0 v1 X)) (r0 : Nat) (v1 : Int32) (X : Mm) : Sm E (q_fin E q_eV X0 0 0) 0 0 82 [(0, .ref (q_P E + r0)), (1, .int v1)] [] X (fX8_writeEvents_L82 n k2 r0 v1 X) := by
  unfold fX8_writeEvents_L82
  refine q_iincN C (1 : Int32) 1 (fun v1_82 => [(1, .int v1_82), (0, .ref (q_P E + r0))]) dX8_writeEvents_82 rfl rfl (Nat.le_of_ble_eq_true rfl) (fun _ => rfl) (fun v1_82 => ?_)
  refine q_goto C 2 dX8_writeEvents_85 (by decide) ?_
  refine q_sub C [(0, .ref (q_P E + r0)), (1, .int v1_82)] [1, 0] rfl ?_
  exact hk2 r0 v1_82 X
theorem gX8_writeEvents_L2 {E : q_E} {X0 : Mm} (C : Cx E cX8_writeEvents RX8 2 none (q_rm 3 78 0 0) X0) (n : Nat) : ∀ (j : Nat) (r0 : Nat) (v1 : Int32) (X : Mm), Sm E (q_fin E q_eV X0 0 0) 0 0 2 [(0, .ref (q_P E + r0)), (1, .int v1)] [] X (fX8_writeEvents_L2 n j r0 v1 X) := by
  intro j
  induction j with
  | zero => intros; exact Sm.none
  | succ j ih =>
    intro r0 v1 X
    rw [fX8_writeEvents_L2]
    refine q_iload_n C 1 dX8_writeEvents_2 rfl rfl ?_
    refine q_aload_n C 0 dX8_writeEvents_3 rfl rfl ?_
    refine q_chk (fun h1 => ?_)
    refine q_chk (fun h2 => ?_)
    refine p_getR C fgX8_28 rfl dX8_writeEvents_4 h1 h2 ?_
    refine q_chk (fun h3 => ?_)
    refine p_getI C fgX8_59 rfl dX8_writeEvents_7 h3 ?_
    refine q_icmp_ge C 88 dX8_writeEvents_10 (by decide) (fun _ => ?_) (fun _ => ?_)
    · exact q_vret C dX8_writeEvents_88
    · refine q_aload_n C 0 dX8_writeEvents_13 rfl rfl ?_
      refine p_getR C fgX8_28 rfl dX8_writeEvents_14 h1 h2 ?_
      refine q_chk (fun h4 => ?_)
      refine p_getR C fgX8_257 rfl dX8_writeEvents_17 h3 h4 ?_
      refine q_iload_n C 1 dX8_writeEvents_20 rfl rfl ?_
      refine q_chk (fun h5 => ?_)
      refine q_chk (fun h6 => ?_)
      refine p_iald C dX8_writeEvents_21 h5 h6 ?_
      refine q_if_ne C 82 dX8_writeEvents_22 (by decide) (fun _ => ?_) (fun _ => ?_)
      · refine q_aload_n C 0 dX8_writeEvents_25 rfl rfl ?_
        refine p_getR C fgX8_28 rfl dX8_writeEvents_26 h1 h2 ?_
        refine q_chk (fun h7 => ?_)
        refine p_getR C fgX8_258 rfl dX8_writeEvents_29 h3 h7 ?_
        refine q_iload_n C 1 dX8_writeEvents_32 rfl rfl ?_
        refine q_chk (fun h8 => ?_)
        refine q_chk (fun h9 => ?_)
        refine p_iald C dX8_writeEvents_33 h8 h9 ?_
        refine q_aload_n C 0 dX8_writeEvents_34 rfl rfl ?_
        refine p_getI C fgX8_68 rfl dX8_writeEvents_35 h1 ?_
        refine q_icmp_ne C 82 dX8_writeEvents_38 (by decide) (fun _ => ?_) (fun _ => ?_)
        · refine q_aload_n C 0 dX8_writeEvents_41 rfl rfl ?_
          refine q_iload_n C 1 dX8_writeEvents_42 rfl rfl ?_
          refine q_cVV (As := (fun P => [.int v1])) C [] (sX8_writeShares n r0 v1) fcX8_260 rfl (fun _ => rfl) ⟨Nat.le_of_ble_eq_true rfl, Nat.le_of_ble_eq_true rfl⟩ ⟨Nat.le_of_ble_eq_true rfl, Nat.le_of_ble_eq_true rfl⟩ (Nat.le_of_ble_eq_true rfl) dX8_writeEvents_43 h1 (fun _ X43_11 => ?_)
          refine q_aload_n C 0 dX8_writeEvents_46 rfl rfl ?_
          refine q_chk (fun h12 => ?_)
          refine q_chk (fun h13 => ?_)
          refine p_getR C fgX8_28 rfl dX8_writeEvents_47 h12 h13 ?_
          refine q_chk (fun h14 => ?_)
          refine q_chk (fun h15 => ?_)
          refine p_getR C fgX8_263 rfl dX8_writeEvents_50 h14 h15 ?_
          refine q_iload_n C 1 dX8_writeEvents_53 rfl rfl ?_
          refine q_chk (fun h16 => ?_)
          refine q_chk (fun h17 => ?_)
          refine p_iald C dX8_writeEvents_54 h16 h17 ?_
          refine q_iconst C (3 : Int32) dX8_writeEvents_55 rfl ?_
          refine q_icmp_ne C 67 dX8_writeEvents_56 (by decide) (fun _ => ?_) (fun _ => ?_)
          · refine q_aload_n C 0 dX8_writeEvents_59 rfl rfl ?_
            refine q_iload_n C 1 dX8_writeEvents_60 rfl rfl ?_
            refine q_cVV (As := (fun P => [.int v1])) C [] (sX8_turnPaper n r0 v1) fcX8_265 rfl (fun _ => rfl) ⟨Nat.le_of_ble_eq_true rfl, Nat.le_of_ble_eq_true rfl⟩ ⟨Nat.le_of_ble_eq_true rfl, Nat.le_of_ble_eq_true rfl⟩ (Nat.le_of_ble_eq_true rfl) dX8_writeEvents_61 h12 (fun _ X61_19 => ?_)
            refine q_goto C 82 dX8_writeEvents_64 (by decide) ?_
            exact gX8_writeEvents_L82 C n (fX8_writeEvents_L2 n j) ih r0 v1 X61_19
          · refine q_aload_n C 0 dX8_writeEvents_67 rfl rfl ?_
            refine q_iload_n C 1 dX8_writeEvents_68 rfl rfl ?_
            refine q_cVV (As := (fun P => [.int v1])) C [] (sX8_makeClaims n r0 v1) fcX8_268 rfl (fun _ => rfl) ⟨Nat.le_of_ble_eq_true rfl, Nat.le_of_ble_eq_true rfl⟩ ⟨Nat.le_of_ble_eq_true rfl, Nat.le_of_ble_eq_true rfl⟩ (Nat.le_of_ble_eq_true rfl) dX8_writeEvents_69 h12 (fun _ X69_21 => ?_)
            refine q_aload_n C 0 dX8_writeEvents_72 rfl rfl ?_
            refine q_chk (fun h22 => ?_)
            refine q_chk (fun h23 => ?_)
            refine p_getR C fgX8_28 rfl dX8_writeEvents_73 h22 h23 ?_
            refine q_chk (fun h24 => ?_)
            refine q_chk (fun h25 => ?_)
            refine p_getR C fgX8_257 rfl dX8_writeEvents_76 h24 h25 ?_
            refine q_iload_n C 1 dX8_writeEvents_79 rfl rfl ?_
            refine q_iconst C (1 : Int32) dX8_writeEvents_80 rfl ?_
            refine q_chk (fun h27 => ?_)
            refine q_chk (fun h28 => ?_)
            refine p_iast C dX8_writeEvents_81 h27 h28 ?_
            refine q_nmX (fun X81_26 => ?_)
            exact gX8_writeEvents_L82 C n (fX8_writeEvents_L2 n j) ih r0 v1 X81_26
        · exact gX8_writeEvents_L82 C n (fX8_writeEvents_L2 n j) ih r0 v1 X
      · exact gX8_writeEvents_L82 C n (fX8_writeEvents_L2 n j) ih r0 v1 X
theorem sX8_writeEvents (n : Nat) (r0 : Nat) : q_Ct yX8_writeEvents cX8_writeEvents 2 none 3 78 0 0 q_eV (fun P => [.ref (P + r0)]) (fX8_writeEvents n r0) := by
  refine q_meth (by decide +kernel) (fun P => Nat.le_of_ble_eq_true rfl) (fun E X C hn => ?_)
  show Sm E (q_fin E q_eV X 0 0) 0 0 0 [(0, .ref (q_P E + r0))] [] X _
  unfold fX8_writeEvents
  refine q_iconst C (0 : Int32) dX8_writeEvents_0 rfl ?_
  refine q_istore_n C [(1, .int (0 : Int32)), (0, .ref (q_P E + r0))] dX8_writeEvents_1 rfl (Nat.le_of_ble_eq_true rfl) rfl ?_
  refine q_sub C [(0, .ref (q_P E + r0)), (1, .int (0 : Int32))] [1, 0] rfl ?_
  exact gX8_writeEvents_L2 C n n r0 (0 : Int32) X
/-! RecordClaims$State.rightsOf(II)J -/
abbrev cX8_rightsOf : ByteArray := prog_10_method_32_code
def yX8_rightsOf : MethodName := ⟨RX8, "rightsOf", "(II)J"⟩
theorem dX8_rightsOf_0 : decode cX8_rightsOf 0 = .ok (.aload_n 0, 1) := by decide +kernel
theorem dX8_rightsOf_1 : decode cX8_rightsOf 1 = .ok (.getfield 28, 3) := by decide +kernel
theorem dX8_rightsOf_4 : decode cX8_rightsOf 4 = .ok (.iload_n 1, 1) := by decide +kernel
theorem dX8_rightsOf_5 : decode cX8_rightsOf 5 = .ok (.aload_n 0, 1) := by decide +kernel
theorem dX8_rightsOf_6 : decode cX8_rightsOf 6 = .ok (.getfield 35, 3) := by decide +kernel
theorem dX8_rightsOf_9 : decode cX8_rightsOf 9 = .ok (.getfield 271, 3) := by decide +kernel
theorem dX8_rightsOf_12 : decode cX8_rightsOf 12 = .ok (.iload_n 1, 1) := by decide +kernel
theorem dX8_rightsOf_13 : decode cX8_rightsOf 13 = .ok (.iload_n 2, 1) := by decide +kernel
theorem dX8_rightsOf_14 : decode cX8_rightsOf 14 = .ok (.invokestatic 164, 3) := by decide +kernel
theorem dX8_rightsOf_17 : decode cX8_rightsOf 17 = .ok (.laload, 1) := by decide +kernel
theorem dX8_rightsOf_18 : decode cX8_rightsOf 18 = .ok (.invokevirtual 302, 3) := by decide +kernel
theorem dX8_rightsOf_21 : decode cX8_rightsOf 21 = .ok (.lstore_n 3, 1) := by decide +kernel
theorem dX8_rightsOf_22 : decode cX8_rightsOf 22 = .ok (.iconst 0, 1) := by decide +kernel
theorem dX8_rightsOf_23 : decode cX8_rightsOf 23 = .ok (.istore 5, 2) := by decide +kernel
theorem dX8_rightsOf_25 : decode cX8_rightsOf 25 = .ok (.iload 5, 2) := by decide +kernel
theorem dX8_rightsOf_27 : decode cX8_rightsOf 27 = .ok (.aload_n 0, 1) := by decide +kernel
theorem dX8_rightsOf_28 : decode cX8_rightsOf 28 = .ok (.getfield 28, 3) := by decide +kernel
theorem dX8_rightsOf_31 : decode cX8_rightsOf 31 = .ok (.getfield 88, 3) := by decide +kernel
theorem dX8_rightsOf_34 : decode cX8_rightsOf 34 = .ok (.iload_n 1, 1) := by decide +kernel
theorem dX8_rightsOf_35 : decode cX8_rightsOf 35 = .ok (.iaload, 1) := by decide +kernel
theorem dX8_rightsOf_36 : decode cX8_rightsOf 36 = .ok (.if_icmp .ge 75, 3) := by decide +kernel
theorem dX8_rightsOf_39 : decode cX8_rightsOf 39 = .ok (.iload_n 1, 1) := by decide +kernel
theorem dX8_rightsOf_40 : decode cX8_rightsOf 40 = .ok (.iload 5, 2) := by decide +kernel
theorem dX8_rightsOf_42 : decode cX8_rightsOf 42 = .ok (.invokestatic 284, 3) := by decide +kernel
theorem dX8_rightsOf_45 : decode cX8_rightsOf 45 = .ok (.istore 6, 2) := by decide +kernel
theorem dX8_rightsOf_47 : decode cX8_rightsOf 47 = .ok (.aload_n 0, 1) := by decide +kernel
theorem dX8_rightsOf_48 : decode cX8_rightsOf 48 = .ok (.getfield 28, 3) := by decide +kernel
theorem dX8_rightsOf_51 : decode cX8_rightsOf 51 = .ok (.iload_n 1, 1) := by decide +kernel
theorem dX8_rightsOf_52 : decode cX8_rightsOf 52 = .ok (.aload_n 0, 1) := by decide +kernel
theorem dX8_rightsOf_53 : decode cX8_rightsOf 53 = .ok (.getfield 42, 3) := by decide +kernel
theorem dX8_rightsOf_56 : decode cX8_rightsOf 56 = .ok (.getfield 334, 3) := by decide +kernel
theorem dX8_rightsOf_59 : decode cX8_rightsOf 59 = .ok (.iload 6, 2) := by decide +kernel
theorem dX8_rightsOf_61 : decode cX8_rightsOf 61 = .ok (.laload, 1) := by decide +kernel
theorem dX8_rightsOf_62 : decode cX8_rightsOf 62 = .ok (.invokevirtual 302, 3) := by decide +kernel
theorem dX8_rightsOf_65 : decode cX8_rightsOf 65 = .ok (.lstore 7, 2) := by decide +kernel
theorem dX8_rightsOf_67 : decode cX8_rightsOf 67 = .ok (.aload_n 0, 1) := by decide +kernel
theorem dX8_rightsOf_68 : decode cX8_rightsOf 68 = .ok (.getfield 42, 3) := by decide +kernel
theorem dX8_rightsOf_71 : decode cX8_rightsOf 71 = .ok (.getfield 331, 3) := by decide +kernel
theorem dX8_rightsOf_74 : decode cX8_rightsOf 74 = .ok (.iload 6, 2) := by decide +kernel
theorem dX8_rightsOf_76 : decode cX8_rightsOf 76 = .ok (.iaload, 1) := by decide +kernel
theorem dX8_rightsOf_77 : decode cX8_rightsOf 77 = .ok (.iload_n 2, 1) := by decide +kernel
theorem dX8_rightsOf_78 : decode cX8_rightsOf 78 = .ok (.if_icmp .ne 8, 3) := by decide +kernel
theorem dX8_rightsOf_81 : decode cX8_rightsOf 81 = .ok (.lload_n 3, 1) := by decide +kernel
theorem dX8_rightsOf_82 : decode cX8_rightsOf 82 = .ok (.lload 7, 2) := by decide +kernel
theorem dX8_rightsOf_84 : decode cX8_rightsOf 84 = .ok (.ladd, 1) := by decide +kernel
theorem dX8_rightsOf_85 : decode cX8_rightsOf 85 = .ok (.lstore_n 3, 1) := by decide +kernel
theorem dX8_rightsOf_86 : decode cX8_rightsOf 86 = .ok (.aload_n 0, 1) := by decide +kernel
theorem dX8_rightsOf_87 : decode cX8_rightsOf 87 = .ok (.getfield 42, 3) := by decide +kernel
theorem dX8_rightsOf_90 : decode cX8_rightsOf 90 = .ok (.getfield 328, 3) := by decide +kernel
theorem dX8_rightsOf_93 : decode cX8_rightsOf 93 = .ok (.iload 6, 2) := by decide +kernel
theorem dX8_rightsOf_95 : decode cX8_rightsOf 95 = .ok (.iaload, 1) := by decide +kernel
theorem dX8_rightsOf_96 : decode cX8_rightsOf 96 = .ok (.iload_n 2, 1) := by decide +kernel
theorem dX8_rightsOf_97 : decode cX8_rightsOf 97 = .ok (.if_icmp .ne 8, 3) := by decide +kernel
theorem dX8_rightsOf_100 : decode cX8_rightsOf 100 = .ok (.lload_n 3, 1) := by decide +kernel
theorem dX8_rightsOf_101 : decode cX8_rightsOf 101 = .ok (.lload 7, 2) := by decide +kernel
theorem dX8_rightsOf_103 : decode cX8_rightsOf 103 = .ok (.lsub, 1) := by decide +kernel
theorem dX8_rightsOf_104 : decode cX8_rightsOf 104 = .ok (.lstore_n 3, 1) := by decide +kernel
theorem dX8_rightsOf_105 : decode cX8_rightsOf 105 = .ok (.iinc 5 1, 3) := by decide +kernel
theorem dX8_rightsOf_108 : decode cX8_rightsOf 108 = .ok (.goto (-83), 3) := by decide +kernel
theorem dX8_rightsOf_111 : decode cX8_rightsOf 111 = .ok (.lload_n 3, 1) := by decide +kernel
theorem dX8_rightsOf_112 : decode cX8_rightsOf 112 = .ok (.lreturn, 1) := by decide +kernel
def fX8_rightsOf_L105 (n : Nat) (k25 : Nat → Int32 → Int32 → Int64 → Int32 → Mm → Option (Int64 × Mm)) (r0 : Nat) (v1 : Int32) (v2 : Int32) (v3 : Int64) (v5 : Int32) (X : Mm) : Option (Int64 × Mm) :=
nm (v5 + (1 : Int32)) fun v5_105 =>
k25 r0 v1 v2 v3 v5_105 X
def fX8_rightsOf_L86 (n : Nat) (k25 : Nat → Int32 → Int32 → Int64 → Int32 → Mm → Option (Int64 × Mm)) (r0 : Nat) (v1 : Int32) (v2 : Int32) (v3 : Int64) (v5 : Int32) (v6 : Int32) (v7 : Int64) (X : Mm) : Option (Int64 × Mm) :=
if mT X r0 = 8 then
if mR X r0 5 ≠ 0 then
if mT X (mR X r0 5) = 1 then
if mR X (mR X r0 5) 0 ≠ 0 then
if mT X (mR X (mR X r0 5) 0) = 14 then
if q_b X (mR X (mR X r0 5) 0) v6 then
if (mI X (mR X (mR X r0 5) 0) (v6).toNatClampNeg) = v2 then (
nm ((v3 - v7)) fun v3_104 =>
fX8_rightsOf_L105 n k25 r0 v1 v2 v3_104 v5 X
) else (
fX8_rightsOf_L105 n k25 r0 v1 v2 v3 v5 X
)
else none
else none
else none
else none
else none
else none
def fX8_rightsOf_L25 (n : Nat) : Nat → Nat → Int32 → Int32 → Int64 → Int32 → Mm → Option (Int64 × Mm)
| 0, _, _, _, _, _, _ => none
| j + 1, r0, v1, v2, v3, v5, X =>
if mT X r0 = 8 then
if mR X r0 3 ≠ 0 then
if mT X (mR X r0 3) = 3 then
if mR X (mR X r0 3) 12 ≠ 0 then
if mT X (mR X (mR X r0 3) 12) = 14 then
if q_b X (mR X (mR X r0 3) 12) v1 then
if (mI X (mR X (mR X r0 3) 12) (v1).toNatClampNeg) ≤ v5 then (
some (v3, X)
) else (
bd (fX1_at v1 v5 X) fun w19 X42_20 =>
if mT X42_20 r0 = 8 then
if mR X42_20 r0 3 ≠ 0 then
if mR X42_20 r0 5 ≠ 0 then
if mT X42_20 (mR X42_20 r0 5) = 1 then
if mR X42_20 (mR X42_20 r0 5) 2 ≠ 0 then
if mT X42_20 (mR X42_20 (mR X42_20 r0 5) 2) = 15 then
if q_b X42_20 (mR X42_20 (mR X42_20 r0 5) 2) w19 then
if mT X42_20 (mR X42_20 r0 3) = 3 then
bd (fX3_sharesFor ((mR X42_20 r0 3)) v1 ((mJ X42_20 (mR X42_20 (mR X42_20 r0 5) 2) (w19).toNatClampNeg)) X42_20) fun w28 X62_29 =>
if mT X62_29 r0 = 8 then
if mR X62_29 r0 5 ≠ 0 then
if mT X62_29 (mR X62_29 r0 5) = 1 then
if mR X62_29 (mR X62_29 r0 5) 1 ≠ 0 then
if mT X62_29 (mR X62_29 (mR X62_29 r0 5) 1) = 14 then
if q_b X62_29 (mR X62_29 (mR X62_29 r0 5) 1) w19 then
if (mI X62_29 (mR X62_29 (mR X62_29 r0 5) 1) (w19).toNatClampNeg) = v2 then (
nm ((v3 + w28)) fun v3_85 =>
fX8_rightsOf_L86 n (fX8_rightsOf_L25 n j) r0 v1 v2 v3_85 v5 w19 w28 X62_29
) else (
fX8_rightsOf_L86 n (fX8_rightsOf_L25 n j) r0 v1 v2 v3 v5 w19 w28 X62_29
)
else none
else none
else none
else none
else none
else none
else none
else none
else none
else none
else none
else none
else none
else none
)
else none
else none
else none
else none
else none
else none
def fX8_rightsOf (n : Nat) (r0 : Nat) (v1 : Int32) (v2 : Int32) (X : Mm) : Option (Int64 × Mm) :=
if mT X r0 = 8 then
if mR X r0 3 ≠ 0 then
if mR X r0 4 ≠ 0 then
if mT X (mR X r0 4) = 6 then
if mR X (mR X r0 4) 0 ≠ 0 then
bd (fX6_at v1 v2 X) fun w6 X14_7 =>
if mT X14_7 (mR X (mR X r0 4) 0) = 15 then
if q_b X14_7 (mR X (mR X r0 4) 0) w6 then
if mT X14_7 (mR X r0 3) = 3 then
bd (fX3_sharesFor ((mR X r0 3)) v1 ((mJ X14_7 (mR X (mR X r0 4) 0) (w6).toNatClampNeg)) X14_7) fun w10 X18_11 =>
fX8_rightsOf_L25 n n r0 v1 v2 w10 (0 : Int32) X18_11
else none
else none
else none
else none
else none
else none
else none
else none
theorem gX8_rightsOf_L105 {E : q_E} {X0 : Mm} (C : Cx E cX8_rightsOf RX8 9 (some .long) (q_rm 1 24 0 0) X0) (n : Nat) (k25 : Nat → Int32 → Int32 → Int64 → Int32 → Mm → Option (Int64 × Mm)) (hk25 : ∀ (r0 : Nat) (v1 : Int32) (v2 : Int32) (v3 : Int64) (v5 : Int32) (X : Mm), Sm E (q_fin E q_eL X0 0 0) 0 0 25 [(0, .ref (q_P E + r0)), (1, .int v1), (2, .int v2), (3, .long v3), (5, .int v5)] [] X (k25 r0 v1 v2 v3 v5 X)) (r0 : Nat) (v1 : Int32) (v2 : Int32) (v3 : Int64) (v5 : Int32) (X : Mm) : Sm E (q_fin E q_eL X0 0 0) 0 0 105 [(0, .ref (q_P E + r0)), (1, .int v1), (2, .int v2), (3, .long v3), (5, .int v5)] [] X (fX8_rightsOf_L105 n k25 r0 v1 v2 v3 v5 X) := by
  unfold fX8_rightsOf_L105
  refine q_iincN C (1 : Int32) 4 (fun v5_105 => [(5, .int v5_105), (0, .ref (q_P E + r0)), (1, .int v1), (2, .int v2), (3, .long v3)]) dX8_rightsOf_105 rfl rfl (Nat.le_of_ble_eq_true rfl) (fun _ => rfl) (fun v5_105 => ?_)
  refine q_goto C 25 dX8_rightsOf_108 (by decide) ?_
  refine q_sub C [(0, .ref (q_P E + r0)), (1, .int v1), (2, .int v2), (3, .long v3), (5, .int v5_105)] [1, 2, 3, 4, 0] rfl ?_
  exact hk25 r0 v1 v2 v3 v5_105 X
theorem gX8_rightsOf_L86 {E : q_E} {X0 : Mm} (C : Cx E cX8_rightsOf RX8 9 (some .long) (q_rm 1 24 0 0) X0) (n : Nat) (k25 : Nat → Int32 → Int32 → Int64 → Int32 → Mm → Option (Int64 × Mm)) (hk25 : ∀ (r0 : Nat) (v1 : Int32) (v2 : Int32) (v3 : Int64) (v5 : Int32) (X : Mm), Sm E (q_fin E q_eL X0 0 0) 0 0 25 [(0, .ref (q_P E + r0)), (1, .int v1), (2, .int v2), (3, .long v3), (5, .int v5)] [] X (k25 r0 v1 v2 v3 v5 X)) (r0 : Nat) (v1 : Int32) (v2 : Int32) (v3 : Int64) (v5 : Int32) (v6 : Int32) (v7 : Int64) (X : Mm) : Sm E (q_fin E q_eL X0 0 0) 0 0 86 [(0, .ref (q_P E + r0)), (1, .int v1), (2, .int v2), (3, .long v3), (5, .int v5), (6, .int v6), (7, .long v7)] [] X (fX8_rightsOf_L86 n k25 r0 v1 v2 v3 v5 v6 v7 X) := by
  unfold fX8_rightsOf_L86
  refine q_aload_n C 0 dX8_rightsOf_86 rfl rfl ?_
  refine q_chk (fun h38 => ?_)
  refine q_chk (fun h39 => ?_)
  refine p_getR C fgX8_42 rfl dX8_rightsOf_87 h38 h39 ?_
  refine q_chk (fun h40 => ?_)
  refine q_chk (fun h41 => ?_)
  refine p_getR C fgX8_328 rfl dX8_rightsOf_90 h40 h41 ?_
  refine q_iload C 5 dX8_rightsOf_93 rfl ?_
  refine q_chk (fun h42 => ?_)
  refine q_chk (fun h43 => ?_)
  refine p_iald C dX8_rightsOf_95 h42 h43 ?_
  refine q_iload_n C 2 dX8_rightsOf_96 rfl rfl ?_
  refine q_icmp_ne C 105 dX8_rightsOf_97 (by decide) (fun _ => ?_) (fun _ => ?_)
  · refine q_lload_n C 3 dX8_rightsOf_100 rfl rfl ?_
    refine q_lload C 6 dX8_rightsOf_101 rfl ?_
    refine q_lsub C dX8_rightsOf_103 ?_
    refine q_nml (fun v3_104 => ?_)
    refine q_lstore_n C [(3, .long v3_104), (0, .ref (q_P E + r0)), (1, .int v1), (2, .int v2), (5, .int v5), (6, .int v6), (7, .long v7)] dX8_rightsOf_104 rfl (Nat.le_of_ble_eq_true rfl) rfl ?_
    refine q_sub C [(0, .ref (q_P E + r0)), (1, .int v1), (2, .int v2), (3, .long v3_104), (5, .int v5)] [1, 2, 3, 0, 4] rfl ?_
    exact gX8_rightsOf_L105 C n k25 hk25 r0 v1 v2 v3_104 v5 X
  · refine q_sub C [(0, .ref (q_P E + r0)), (1, .int v1), (2, .int v2), (3, .long v3), (5, .int v5)] [0, 1, 2, 3, 4] rfl ?_
    exact gX8_rightsOf_L105 C n k25 hk25 r0 v1 v2 v3 v5 X
theorem gX8_rightsOf_L25 {E : q_E} {X0 : Mm} (C : Cx E cX8_rightsOf RX8 9 (some .long) (q_rm 1 24 0 0) X0) (n : Nat) : ∀ (j : Nat) (r0 : Nat) (v1 : Int32) (v2 : Int32) (v3 : Int64) (v5 : Int32) (X : Mm), Sm E (q_fin E q_eL X0 0 0) 0 0 25 [(0, .ref (q_P E + r0)), (1, .int v1), (2, .int v2), (3, .long v3), (5, .int v5)] [] X (fX8_rightsOf_L25 n j r0 v1 v2 v3 v5 X) := by
  intro j
  induction j with
  | zero => intros; exact Sm.none
  | succ j ih =>
    intro r0 v1 v2 v3 v5 X
    rw [fX8_rightsOf_L25]
    refine q_iload C 4 dX8_rightsOf_25 rfl ?_
    refine q_aload_n C 0 dX8_rightsOf_27 rfl rfl ?_
    refine q_chk (fun h13 => ?_)
    refine q_chk (fun h14 => ?_)
    refine p_getR C fgX8_28 rfl dX8_rightsOf_28 h13 h14 ?_
    refine q_chk (fun h15 => ?_)
    refine q_chk (fun h16 => ?_)
    refine p_getR C fgX8_88 rfl dX8_rightsOf_31 h15 h16 ?_
    refine q_iload_n C 1 dX8_rightsOf_34 rfl rfl ?_
    refine q_chk (fun h17 => ?_)
    refine q_chk (fun h18 => ?_)
    refine p_iald C dX8_rightsOf_35 h17 h18 ?_
    refine q_icmp_ge C 111 dX8_rightsOf_36 (by decide) (fun _ => ?_) (fun _ => ?_)
    · refine q_lload_n C 3 dX8_rightsOf_111 rfl rfl ?_
      exact q_lret C dX8_rightsOf_112
    · refine q_iload_n C 1 dX8_rightsOf_39 rfl rfl ?_
      refine q_iload C 4 dX8_rightsOf_40 rfl ?_
      refine q_cSI (As := (fun P => [.int v1, .int v5])) C [] (sX1_at v1 v5) fcX8_284 rfl (fun _ => rfl) ⟨Nat.le_of_ble_eq_true rfl, Nat.le_of_ble_eq_true rfl⟩ ⟨Nat.le_of_ble_eq_true rfl, Nat.le_of_ble_eq_true rfl⟩ (Nat.le_of_ble_eq_true rfl) dX8_rightsOf_42 (fun w19 X42_20 => ?_)
      refine q_istore C [(6, .int w19), (0, .ref (q_P E + r0)), (1, .int v1), (2, .int v2), (3, .long v3), (5, .int v5)] dX8_rightsOf_45 (Nat.le_of_ble_eq_true rfl) rfl ?_
      refine q_aload_n C 1 dX8_rightsOf_47 rfl rfl ?_
      refine q_chk (fun h21 => ?_)
      refine q_chk (fun h22 => ?_)
      refine p_getR C fgX8_28 rfl dX8_rightsOf_48 h21 h22 ?_
      refine q_iload_n C 2 dX8_rightsOf_51 rfl rfl ?_
      refine q_aload_n C 1 dX8_rightsOf_52 rfl rfl ?_
      refine q_chk (fun h23 => ?_)
      refine p_getR C fgX8_42 rfl dX8_rightsOf_53 h21 h23 ?_
      refine q_chk (fun h24 => ?_)
      refine q_chk (fun h25 => ?_)
      refine p_getR C fgX8_334 rfl dX8_rightsOf_56 h24 h25 ?_
      refine q_iload C 0 dX8_rightsOf_59 rfl ?_
      refine q_chk (fun h26 => ?_)
      refine q_chk (fun h27 => ?_)
      refine p_lald C dX8_rightsOf_61 h26 h27 ?_
      refine q_chk (fun h30 => ?_)
      refine q_cVL (As := (fun P => [.int v1, .long (mJ X42_20 (mR X42_20 (mR X42_20 r0 5) 2) (w19).toNatClampNeg)])) C [] (sX3_sharesFor ((mR X42_20 r0 3)) v1 ((mJ X42_20 (mR X42_20 (mR X42_20 r0 5) 2) (w19).toNatClampNeg))) fcX8_302 rfl (fun _ => rfl) ⟨Nat.le_of_ble_eq_true rfl, Nat.le_of_ble_eq_true rfl⟩ ⟨Nat.le_of_ble_eq_true rfl, Nat.le_of_ble_eq_true rfl⟩ (Nat.le_of_ble_eq_true rfl) dX8_rightsOf_62 h30 (fun w28 X62_29 => ?_)
      refine q_lstore C [(7, .long w28), (6, .int w19), (0, .ref (q_P E + r0)), (1, .int v1), (2, .int v2), (3, .long v3), (5, .int v5)] dX8_rightsOf_65 (Nat.le_of_ble_eq_true rfl) rfl ?_
      refine q_aload_n C 2 dX8_rightsOf_67 rfl rfl ?_
      refine q_chk (fun h31 => ?_)
      refine q_chk (fun h32 => ?_)
      refine p_getR C fgX8_42 rfl dX8_rightsOf_68 h31 h32 ?_
      refine q_chk (fun h33 => ?_)
      refine q_chk (fun h34 => ?_)
      refine p_getR C fgX8_331 rfl dX8_rightsOf_71 h33 h34 ?_
      refine q_iload C 1 dX8_rightsOf_74 rfl ?_
      refine q_chk (fun h35 => ?_)
      refine q_chk (fun h36 => ?_)
      refine p_iald C dX8_rightsOf_76 h35 h36 ?_
      refine q_iload_n C 4 dX8_rightsOf_77 rfl rfl ?_
      refine q_icmp_ne C 86 dX8_rightsOf_78 (by decide) (fun _ => ?_) (fun _ => ?_)
      · refine q_lload_n C 5 dX8_rightsOf_81 rfl rfl ?_
        refine q_lload C 0 dX8_rightsOf_82 rfl ?_
        refine q_ladd C dX8_rightsOf_84 ?_
        refine q_nml (fun v3_85 => ?_)
        refine q_lstore_n C [(3, .long v3_85), (7, .long w28), (6, .int w19), (0, .ref (q_P E + r0)), (1, .int v1), (2, .int v2), (5, .int v5)] dX8_rightsOf_85 rfl (Nat.le_of_ble_eq_true rfl) rfl ?_
        refine q_sub C [(0, .ref (q_P E + r0)), (1, .int v1), (2, .int v2), (3, .long v3_85), (5, .int v5), (6, .int w19), (7, .long w28)] [3, 4, 5, 0, 6, 2, 1] rfl ?_
        exact gX8_rightsOf_L86 C n (fX8_rightsOf_L25 n j) ih r0 v1 v2 v3_85 v5 w19 w28 X62_29
      · refine q_sub C [(0, .ref (q_P E + r0)), (1, .int v1), (2, .int v2), (3, .long v3), (5, .int v5), (6, .int w19), (7, .long w28)] [2, 3, 4, 5, 6, 1, 0] rfl ?_
        exact gX8_rightsOf_L86 C n (fX8_rightsOf_L25 n j) ih r0 v1 v2 v3 v5 w19 w28 X62_29
theorem sX8_rightsOf (n : Nat) (r0 : Nat) (v1 : Int32) (v2 : Int32) : q_Ct yX8_rightsOf cX8_rightsOf 9 (some .long) 1 24 0 0 q_eL (fun P => [.ref (P + r0), .int v1, .int v2]) (fX8_rightsOf n r0 v1 v2) := by
  refine q_meth (by decide +kernel) (fun P => Nat.le_of_ble_eq_true rfl) (fun E X C hn => ?_)
  show Sm E (q_fin E q_eL X 0 0) 0 0 0 [(0, .ref (q_P E + r0)), (1, .int v1), (2, .int v2)] [] X _
  unfold fX8_rightsOf
  refine q_aload_n C 0 dX8_rightsOf_0 rfl rfl ?_
  refine q_chk (fun h1 => ?_)
  refine q_chk (fun h2 => ?_)
  refine p_getR C fgX8_28 rfl dX8_rightsOf_1 h1 h2 ?_
  refine q_iload_n C 1 dX8_rightsOf_4 rfl rfl ?_
  refine q_aload_n C 0 dX8_rightsOf_5 rfl rfl ?_
  refine q_chk (fun h3 => ?_)
  refine p_getR C fgX8_35 rfl dX8_rightsOf_6 h1 h3 ?_
  refine q_chk (fun h4 => ?_)
  refine q_chk (fun h5 => ?_)
  refine p_getR C fgX8_271 rfl dX8_rightsOf_9 h4 h5 ?_
  refine q_iload_n C 1 dX8_rightsOf_12 rfl rfl ?_
  refine q_iload_n C 2 dX8_rightsOf_13 rfl rfl ?_
  refine q_cSI (As := (fun P => [.int v1, .int v2])) C [.ref (q_P E + (mR X (mR X r0 4) 0)), .int v1, .ref (q_P E + (mR X r0 3))] (sX6_at v1 v2) fcX8_164 rfl (fun _ => rfl) ⟨Nat.le_of_ble_eq_true rfl, Nat.le_of_ble_eq_true rfl⟩ ⟨Nat.le_of_ble_eq_true rfl, Nat.le_of_ble_eq_true rfl⟩ (Nat.le_of_ble_eq_true rfl) dX8_rightsOf_14 (fun w6 X14_7 => ?_)
  refine q_chk (fun h8 => ?_)
  refine q_chk (fun h9 => ?_)
  refine p_lald C dX8_rightsOf_17 h8 h9 ?_
  refine q_chk (fun h12 => ?_)
  refine q_cVL (As := (fun P => [.int v1, .long (mJ X14_7 (mR X (mR X r0 4) 0) (w6).toNatClampNeg)])) C [] (sX3_sharesFor ((mR X r0 3)) v1 ((mJ X14_7 (mR X (mR X r0 4) 0) (w6).toNatClampNeg))) fcX8_302 rfl (fun _ => rfl) ⟨Nat.le_of_ble_eq_true rfl, Nat.le_of_ble_eq_true rfl⟩ ⟨Nat.le_of_ble_eq_true rfl, Nat.le_of_ble_eq_true rfl⟩ (Nat.le_of_ble_eq_true rfl) dX8_rightsOf_18 h12 (fun w10 X18_11 => ?_)
  refine q_lstore_n C [(3, .long w10), (0, .ref (q_P E + r0)), (1, .int v1), (2, .int v2)] dX8_rightsOf_21 rfl (Nat.le_of_ble_eq_true rfl) rfl ?_
  refine q_iconst C (0 : Int32) dX8_rightsOf_22 rfl ?_
  refine q_istore C [(5, .int (0 : Int32)), (3, .long w10), (0, .ref (q_P E + r0)), (1, .int v1), (2, .int v2)] dX8_rightsOf_23 (Nat.le_of_ble_eq_true rfl) rfl ?_
  refine q_sub C [(0, .ref (q_P E + r0)), (1, .int v1), (2, .int v2), (3, .long w10), (5, .int (0 : Int32))] [2, 3, 4, 1, 0] rfl ?_
  exact gX8_rightsOf_L25 C n n r0 v1 v2 w10 (0 : Int32) X18_11
/-! RecordClaims$State.owePerRight(IIJ)V -/
abbrev cX8_owePerRight : ByteArray := prog_10_method_33_code
def yX8_owePerRight : MethodName := ⟨RX8, "owePerRight", "(IIJ)V"⟩
theorem dX8_owePerRight_0 : decode cX8_owePerRight 0 = .ok (.lload_n 3, 1) := by decide +kernel
theorem dX8_owePerRight_1 : decode cX8_owePerRight 1 = .ok (.aload_n 0, 1) := by decide +kernel
theorem dX8_owePerRight_2 : decode cX8_owePerRight 2 = .ok (.getfield 28, 3) := by decide +kernel
theorem dX8_owePerRight_5 : decode cX8_owePerRight 5 = .ok (.getfield 344, 3) := by decide +kernel
theorem dX8_owePerRight_8 : decode cX8_owePerRight 8 = .ok (.iload_n 1, 1) := by decide +kernel
theorem dX8_owePerRight_9 : decode cX8_owePerRight 9 = .ok (.iaload, 1) := by decide +kernel
theorem dX8_owePerRight_10 : decode cX8_owePerRight 10 = .ok (.i2l, 1) := by decide +kernel
theorem dX8_owePerRight_11 : decode cX8_owePerRight 11 = .ok (.lmul, 1) := by decide +kernel
theorem dX8_owePerRight_12 : decode cX8_owePerRight 12 = .ok (.lstore 5, 2) := by decide +kernel
theorem dX8_owePerRight_14 : decode cX8_owePerRight 14 = .ok (.aload_n 0, 1) := by decide +kernel
theorem dX8_owePerRight_15 : decode cX8_owePerRight 15 = .ok (.getfield 15, 3) := by decide +kernel
theorem dX8_owePerRight_18 : decode cX8_owePerRight 18 = .ok (.iload_n 2, 1) := by decide +kernel
theorem dX8_owePerRight_19 : decode cX8_owePerRight 19 = .ok (.dup2, 1) := by decide +kernel
theorem dX8_owePerRight_20 : decode cX8_owePerRight 20 = .ok (.laload, 1) := by decide +kernel
theorem dX8_owePerRight_21 : decode cX8_owePerRight 21 = .ok (.lload 5, 2) := by decide +kernel
theorem dX8_owePerRight_23 : decode cX8_owePerRight 23 = .ok (.ladd, 1) := by decide +kernel
theorem dX8_owePerRight_24 : decode cX8_owePerRight 24 = .ok (.lastore, 1) := by decide +kernel
theorem dX8_owePerRight_25 : decode cX8_owePerRight 25 = .ok (.aload_n 0, 1) := by decide +kernel
theorem dX8_owePerRight_26 : decode cX8_owePerRight 26 = .ok (.getfield 35, 3) := by decide +kernel
theorem dX8_owePerRight_29 : decode cX8_owePerRight 29 = .ok (.getfield 346, 3) := by decide +kernel
theorem dX8_owePerRight_32 : decode cX8_owePerRight 32 = .ok (.iload_n 1, 1) := by decide +kernel
theorem dX8_owePerRight_33 : decode cX8_owePerRight 33 = .ok (.iload_n 2, 1) := by decide +kernel
theorem dX8_owePerRight_34 : decode cX8_owePerRight 34 = .ok (.invokestatic 164, 3) := by decide +kernel
theorem dX8_owePerRight_37 : decode cX8_owePerRight 37 = .ok (.lload_n 3, 1) := by decide +kernel
theorem dX8_owePerRight_38 : decode cX8_owePerRight 38 = .ok (.lastore, 1) := by decide +kernel
theorem dX8_owePerRight_39 : decode cX8_owePerRight 39 = .ok (.aload_n 0, 1) := by decide +kernel
theorem dX8_owePerRight_40 : decode cX8_owePerRight 40 = .ok (.getfield 28, 3) := by decide +kernel
theorem dX8_owePerRight_43 : decode cX8_owePerRight 43 = .ok (.iload_n 1, 1) := by decide +kernel
theorem dX8_owePerRight_44 : decode cX8_owePerRight 44 = .ok (.lconst 0, 1) := by decide +kernel
theorem dX8_owePerRight_45 : decode cX8_owePerRight 45 = .ok (.lload 5, 2) := by decide +kernel
theorem dX8_owePerRight_47 : decode cX8_owePerRight 47 = .ok (.invokevirtual 309, 3) := by decide +kernel
theorem dX8_owePerRight_50 : decode cX8_owePerRight 50 = .ok (.return_, 1) := by decide +kernel
theorem fgX8_344 : q_Fg RX8 344 3 6 := q_Fg.of (C := RX3) (T := TX3) (N := 17) rfl (by decide) inX3 281 (by decide +kernel) rfl rfl
theorem fgX8_346 : q_Fg RX8 346 6 5 := q_Fg.of (C := RX6) (T := TX6) (N := 6) rfl (by decide) inX6 355 (by decide +kernel) rfl rfl
def fX8_owePerRight (r0 : Nat) (v1 : Int32) (v2 : Int32) (v3 : Int64) (X : Mm) : Option (Unit × Mm) :=
if mT X r0 = 8 then
if mR X r0 3 ≠ 0 then
if mT X (mR X r0 3) = 3 then
if mR X (mR X r0 3) 6 ≠ 0 then
if mT X (mR X (mR X r0 3) 6) = 14 then
if q_b X (mR X (mR X r0 3) 6) v1 then
nm ((v3 * (((mI X (mR X (mR X r0 3) 6) (v1).toNatClampNeg)).toInt64))) fun v5_12 =>
if mR X r0 1 ≠ 0 then
if mT X (mR X r0 1) = 15 then
if q_b X (mR X r0 1) v2 then
nm (sJ X (mR X r0 1) (v2).toNatClampNeg ((mJ X (mR X r0 1) (v2).toNatClampNeg) + v5_12)) fun X24_11 =>
if mT X24_11 r0 = 8 then
if mR X24_11 r0 4 ≠ 0 then
if mT X24_11 (mR X24_11 r0 4) = 6 then
if mR X24_11 (mR X24_11 r0 4) 5 ≠ 0 then
bd (fX6_at v1 v2 X24_11) fun w16 X34_17 =>
if mT X34_17 (mR X24_11 (mR X24_11 r0 4) 5) = 15 then
if q_b X34_17 (mR X24_11 (mR X24_11 r0 4) 5) w16 then
nm (sJ X34_17 (mR X24_11 (mR X24_11 r0 4) 5) (w16).toNatClampNeg v3) fun X38_18 =>
if mT X38_18 r0 = 8 then
if mR X38_18 r0 3 ≠ 0 then
if mT X38_18 (mR X38_18 r0 3) = 3 then
bd (fX3_issue ((mR X38_18 r0 3)) v1 (0 : Int64) v5_12 X38_18) fun _ X47_24 =>
some ((), X47_24)
else none
else none
else none
else none
else none
else none
else none
else none
else none
else none
else none
else none
else none
else none
else none
else none
else none
else none
theorem sX8_owePerRight (r0 : Nat) (v1 : Int32) (v2 : Int32) (v3 : Int64) : q_Ct yX8_owePerRight cX8_owePerRight 7 none 1 25 0 0 q_eV (fun P => [.ref (P + r0), .int v1, .int v2, .long v3]) (fX8_owePerRight r0 v1 v2 v3) := by
  refine q_meth (by decide +kernel) (fun P => Nat.le_of_ble_eq_true rfl) (fun E X C hn => ?_)
  show Sm E (q_fin E q_eV X 0 0) 0 0 0 [(0, .ref (q_P E + r0)), (1, .int v1), (2, .int v2), (3, .long v3)] [] X _
  unfold fX8_owePerRight
  refine q_lload_n C 3 dX8_owePerRight_0 rfl rfl ?_
  refine q_aload_n C 0 dX8_owePerRight_1 rfl rfl ?_
  refine q_chk (fun h1 => ?_)
  refine q_chk (fun h2 => ?_)
  refine p_getR C fgX8_28 rfl dX8_owePerRight_2 h1 h2 ?_
  refine q_chk (fun h3 => ?_)
  refine q_chk (fun h4 => ?_)
  refine p_getR C fgX8_344 rfl dX8_owePerRight_5 h3 h4 ?_
  refine q_iload_n C 1 dX8_owePerRight_8 rfl rfl ?_
  refine q_chk (fun h5 => ?_)
  refine q_chk (fun h6 => ?_)
  refine p_iald C dX8_owePerRight_9 h5 h6 ?_
  refine q_i2l C dX8_owePerRight_10 ?_
  refine q_lmul C dX8_owePerRight_11 ?_
  refine q_nml (fun v5_12 => ?_)
  refine q_lstore C [(5, .long v5_12), (0, .ref (q_P E + r0)), (1, .int v1), (2, .int v2), (3, .long v3)] dX8_owePerRight_12 (Nat.le_of_ble_eq_true rfl) rfl ?_
  refine q_aload_n C 1 dX8_owePerRight_14 rfl rfl ?_
  refine q_chk (fun h8 => ?_)
  refine p_getR C fgX8_15 rfl dX8_owePerRight_15 h1 h8 ?_
  refine q_iload_n C 3 dX8_owePerRight_18 rfl rfl ?_
  refine q_dup2_11 C dX8_owePerRight_19 rfl rfl ?_
  refine q_chk (fun h9 => ?_)
  refine q_chk (fun h10 => ?_)
  refine p_lald C dX8_owePerRight_20 h9 h10 ?_
  refine q_lload C 0 dX8_owePerRight_21 rfl ?_
  refine q_ladd C dX8_owePerRight_23 ?_
  refine p_last C dX8_owePerRight_24 h9 h10 ?_
  refine q_nmX (fun X24_11 => ?_)
  refine q_aload_n C 1 dX8_owePerRight_25 rfl rfl ?_
  refine q_chk (fun h12 => ?_)
  refine q_chk (fun h13 => ?_)
  refine p_getR C fgX8_35 rfl dX8_owePerRight_26 h12 h13 ?_
  refine q_chk (fun h14 => ?_)
  refine q_chk (fun h15 => ?_)
  refine p_getR C fgX8_346 rfl dX8_owePerRight_29 h14 h15 ?_
  refine q_iload_n C 2 dX8_owePerRight_32 rfl rfl ?_
  refine q_iload_n C 3 dX8_owePerRight_33 rfl rfl ?_
  refine q_cSI (As := (fun P => [.int v1, .int v2])) C [.ref (q_P E + (mR X24_11 (mR X24_11 r0 4) 5))] (sX6_at v1 v2) fcX8_164 rfl (fun _ => rfl) ⟨Nat.le_of_ble_eq_true rfl, Nat.le_of_ble_eq_true rfl⟩ ⟨Nat.le_of_ble_eq_true rfl, Nat.le_of_ble_eq_true rfl⟩ (Nat.le_of_ble_eq_true rfl) dX8_owePerRight_34 (fun w16 X34_17 => ?_)
  refine q_lload_n C 4 dX8_owePerRight_37 rfl rfl ?_
  refine q_chk (fun h19 => ?_)
  refine q_chk (fun h20 => ?_)
  refine p_last C dX8_owePerRight_38 h19 h20 ?_
  refine q_nmX (fun X38_18 => ?_)
  refine q_aload_n C 1 dX8_owePerRight_39 rfl rfl ?_
  refine q_chk (fun h21 => ?_)
  refine q_chk (fun h22 => ?_)
  refine p_getR C fgX8_28 rfl dX8_owePerRight_40 h21 h22 ?_
  refine q_iload_n C 2 dX8_owePerRight_43 rfl rfl ?_
  refine q_lconst C (0 : Int64) dX8_owePerRight_44 rfl ?_
  refine q_lload C 0 dX8_owePerRight_45 rfl ?_
  refine q_chk (fun h25 => ?_)
  refine q_cVV (As := (fun P => [.int v1, .long (0 : Int64), .long v5_12])) C [] (sX3_issue ((mR X38_18 r0 3)) v1 (0 : Int64) v5_12) fcX8_309 rfl (fun _ => rfl) ⟨Nat.le_of_ble_eq_true rfl, Nat.le_of_ble_eq_true rfl⟩ ⟨Nat.le_of_ble_eq_true rfl, Nat.le_of_ble_eq_true rfl⟩ (Nat.le_of_ble_eq_true rfl) dX8_owePerRight_47 h25 (fun _ X47_24 => ?_)
  exact q_vret C dX8_owePerRight_50
/-! RecordClaims$State.useRights(IIJ)V -/
abbrev cX8_useRights : ByteArray := prog_10_method_34_code
def yX8_useRights : MethodName := ⟨RX8, "useRights", "(IIJ)V"⟩
theorem dX8_useRights_0 : decode cX8_useRights 0 = .ok (.iload_n 1, 1) := by decide +kernel
theorem dX8_useRights_1 : decode cX8_useRights 1 = .ok (.iload_n 2, 1) := by decide +kernel
theorem dX8_useRights_2 : decode cX8_useRights 2 = .ok (.invokestatic 164, 3) := by decide +kernel
theorem dX8_useRights_5 : decode cX8_useRights 5 = .ok (.istore 5, 2) := by decide +kernel
theorem dX8_useRights_7 : decode cX8_useRights 7 = .ok (.aload_n 0, 1) := by decide +kernel
theorem dX8_useRights_8 : decode cX8_useRights 8 = .ok (.getfield 35, 3) := by decide +kernel
theorem dX8_useRights_11 : decode cX8_useRights 11 = .ok (.getfield 168, 3) := by decide +kernel
theorem dX8_useRights_14 : decode cX8_useRights 14 = .ok (.iload 5, 2) := by decide +kernel
theorem dX8_useRights_16 : decode cX8_useRights 16 = .ok (.laload, 1) := by decide +kernel
theorem dX8_useRights_17 : decode cX8_useRights 17 = .ok (.lload_n 3, 1) := by decide +kernel
theorem dX8_useRights_18 : decode cX8_useRights 18 = .ok (.invokestatic 349, 3) := by decide +kernel
theorem dX8_useRights_21 : decode cX8_useRights 21 = .ok (.lstore 6, 2) := by decide +kernel
theorem dX8_useRights_23 : decode cX8_useRights 23 = .ok (.aload_n 0, 1) := by decide +kernel
theorem dX8_useRights_24 : decode cX8_useRights 24 = .ok (.getfield 35, 3) := by decide +kernel
theorem dX8_useRights_27 : decode cX8_useRights 27 = .ok (.getfield 170, 3) := by decide +kernel
theorem dX8_useRights_30 : decode cX8_useRights 30 = .ok (.iload 5, 2) := by decide +kernel
theorem dX8_useRights_32 : decode cX8_useRights 32 = .ok (.laload, 1) := by decide +kernel
theorem dX8_useRights_33 : decode cX8_useRights 33 = .ok (.lload_n 3, 1) := by decide +kernel
theorem dX8_useRights_34 : decode cX8_useRights 34 = .ok (.lload 6, 2) := by decide +kernel
theorem dX8_useRights_36 : decode cX8_useRights 36 = .ok (.lsub, 1) := by decide +kernel
theorem dX8_useRights_37 : decode cX8_useRights 37 = .ok (.invokestatic 349, 3) := by decide +kernel
theorem dX8_useRights_40 : decode cX8_useRights 40 = .ok (.lstore 8, 2) := by decide +kernel
theorem dX8_useRights_42 : decode cX8_useRights 42 = .ok (.lload 8, 2) := by decide +kernel
theorem dX8_useRights_44 : decode cX8_useRights 44 = .ok (.aload_n 0, 1) := by decide +kernel
theorem dX8_useRights_45 : decode cX8_useRights 45 = .ok (.getfield 28, 3) := by decide +kernel
theorem dX8_useRights_48 : decode cX8_useRights 48 = .ok (.getfield 344, 3) := by decide +kernel
theorem dX8_useRights_51 : decode cX8_useRights 51 = .ok (.iload_n 1, 1) := by decide +kernel
theorem dX8_useRights_52 : decode cX8_useRights 52 = .ok (.iaload, 1) := by decide +kernel
theorem dX8_useRights_53 : decode cX8_useRights 53 = .ok (.i2l, 1) := by decide +kernel
theorem dX8_useRights_54 : decode cX8_useRights 54 = .ok (.lmul, 1) := by decide +kernel
theorem dX8_useRights_55 : decode cX8_useRights 55 = .ok (.lload 6, 2) := by decide +kernel
theorem dX8_useRights_57 : decode cX8_useRights 57 = .ok (.aload_n 0, 1) := by decide +kernel
theorem dX8_useRights_58 : decode cX8_useRights 58 = .ok (.getfield 28, 3) := by decide +kernel
theorem dX8_useRights_61 : decode cX8_useRights 61 = .ok (.getfield 355, 3) := by decide +kernel
theorem dX8_useRights_64 : decode cX8_useRights 64 = .ok (.iload_n 1, 1) := by decide +kernel
theorem dX8_useRights_65 : decode cX8_useRights 65 = .ok (.iaload, 1) := by decide +kernel
theorem dX8_useRights_66 : decode cX8_useRights 66 = .ok (.i2l, 1) := by decide +kernel
theorem dX8_useRights_67 : decode cX8_useRights 67 = .ok (.lmul, 1) := by decide +kernel
theorem dX8_useRights_68 : decode cX8_useRights 68 = .ok (.lsub, 1) := by decide +kernel
theorem dX8_useRights_69 : decode cX8_useRights 69 = .ok (.lstore 10, 2) := by decide +kernel
theorem dX8_useRights_71 : decode cX8_useRights 71 = .ok (.aload_n 0, 1) := by decide +kernel
theorem dX8_useRights_72 : decode cX8_useRights 72 = .ok (.getfield 35, 3) := by decide +kernel
theorem dX8_useRights_75 : decode cX8_useRights 75 = .ok (.getfield 357, 3) := by decide +kernel
theorem dX8_useRights_78 : decode cX8_useRights 78 = .ok (.iload 5, 2) := by decide +kernel
theorem dX8_useRights_80 : decode cX8_useRights 80 = .ok (.lload 6, 2) := by decide +kernel
theorem dX8_useRights_82 : decode cX8_useRights 82 = .ok (.lastore, 1) := by decide +kernel
theorem dX8_useRights_83 : decode cX8_useRights 83 = .ok (.aload_n 0, 1) := by decide +kernel
theorem dX8_useRights_84 : decode cX8_useRights 84 = .ok (.getfield 35, 3) := by decide +kernel
theorem dX8_useRights_87 : decode cX8_useRights 87 = .ok (.getfield 360, 3) := by decide +kernel
theorem dX8_useRights_90 : decode cX8_useRights 90 = .ok (.iload 5, 2) := by decide +kernel
theorem dX8_useRights_92 : decode cX8_useRights 92 = .ok (.lload 8, 2) := by decide +kernel
theorem dX8_useRights_94 : decode cX8_useRights 94 = .ok (.lastore, 1) := by decide +kernel
theorem dX8_useRights_95 : decode cX8_useRights 95 = .ok (.aload_n 0, 1) := by decide +kernel
theorem dX8_useRights_96 : decode cX8_useRights 96 = .ok (.getfield 35, 3) := by decide +kernel
theorem dX8_useRights_99 : decode cX8_useRights 99 = .ok (.getfield 346, 3) := by decide +kernel
theorem dX8_useRights_102 : decode cX8_useRights 102 = .ok (.iload 5, 2) := by decide +kernel
theorem dX8_useRights_104 : decode cX8_useRights 104 = .ok (.lload_n 3, 1) := by decide +kernel
theorem dX8_useRights_105 : decode cX8_useRights 105 = .ok (.lload 6, 2) := by decide +kernel
theorem dX8_useRights_107 : decode cX8_useRights 107 = .ok (.lsub, 1) := by decide +kernel
theorem dX8_useRights_108 : decode cX8_useRights 108 = .ok (.lload 8, 2) := by decide +kernel
theorem dX8_useRights_110 : decode cX8_useRights 110 = .ok (.lsub, 1) := by decide +kernel
theorem dX8_useRights_111 : decode cX8_useRights 111 = .ok (.lastore, 1) := by decide +kernel
theorem dX8_useRights_112 : decode cX8_useRights 112 = .ok (.aload_n 0, 1) := by decide +kernel
theorem dX8_useRights_113 : decode cX8_useRights 113 = .ok (.iload_n 2, 1) := by decide +kernel
theorem dX8_useRights_114 : decode cX8_useRights 114 = .ok (.aload_n 0, 1) := by decide +kernel
theorem dX8_useRights_115 : decode cX8_useRights 115 = .ok (.getfield 28, 3) := by decide +kernel
theorem dX8_useRights_118 : decode cX8_useRights 118 = .ok (.getfield 274, 3) := by decide +kernel
theorem dX8_useRights_121 : decode cX8_useRights 121 = .ok (.iload_n 1, 1) := by decide +kernel
theorem dX8_useRights_122 : decode cX8_useRights 122 = .ok (.iaload, 1) := by decide +kernel
theorem dX8_useRights_123 : decode cX8_useRights 123 = .ok (.lload 6, 2) := by decide +kernel
theorem dX8_useRights_125 : decode cX8_useRights 125 = .ok (.invokevirtual 241, 3) := by decide +kernel
theorem dX8_useRights_128 : decode cX8_useRights 128 = .ok (.aload_n 0, 1) := by decide +kernel
theorem dX8_useRights_129 : decode cX8_useRights 129 = .ok (.getfield 15, 3) := by decide +kernel
theorem dX8_useRights_132 : decode cX8_useRights 132 = .ok (.iload_n 2, 1) := by decide +kernel
theorem dX8_useRights_133 : decode cX8_useRights 133 = .ok (.dup2, 1) := by decide +kernel
theorem dX8_useRights_134 : decode cX8_useRights 134 = .ok (.laload, 1) := by decide +kernel
theorem dX8_useRights_135 : decode cX8_useRights 135 = .ok (.lload 10, 2) := by decide +kernel
theorem dX8_useRights_137 : decode cX8_useRights 137 = .ok (.ladd, 1) := by decide +kernel
theorem dX8_useRights_138 : decode cX8_useRights 138 = .ok (.lastore, 1) := by decide +kernel
theorem dX8_useRights_139 : decode cX8_useRights 139 = .ok (.aload_n 0, 1) := by decide +kernel
theorem dX8_useRights_140 : decode cX8_useRights 140 = .ok (.getfield 28, 3) := by decide +kernel
theorem dX8_useRights_143 : decode cX8_useRights 143 = .ok (.iload_n 1, 1) := by decide +kernel
theorem dX8_useRights_144 : decode cX8_useRights 144 = .ok (.lload 6, 2) := by decide +kernel
theorem dX8_useRights_146 : decode cX8_useRights 146 = .ok (.lload 10, 2) := by decide +kernel
theorem dX8_useRights_148 : decode cX8_useRights 148 = .ok (.invokevirtual 309, 3) := by decide +kernel
theorem dX8_useRights_151 : decode cX8_useRights 151 = .ok (.return_, 1) := by decide +kernel
theorem fmX8_349 : q_LM RX8 349 Lib.MathLoose.min_long.x Lib.MathLoose.min_long.code 4 .long := ⟨q_tb 932 (by decide +kernel) rfl, q_tb 933 (by decide +kernel) rfl, q_tb 19 (by decide +kernel) rfl, q_tb 934 (by decide +kernel) rfl⟩
theorem fgX8_355 : q_Fg RX8 355 3 5 := q_Fg.of (C := RX3) (T := TX3) (N := 17) rfl (by decide) inX3 279 (by decide +kernel) rfl rfl
theorem fgX8_357 : q_Fg RX8 357 6 3 := q_Fg.of (C := RX6) (T := TX6) (N := 6) rfl (by decide) inX6 351 (by decide +kernel) rfl rfl
theorem fgX8_360 : q_Fg RX8 360 6 4 := q_Fg.of (C := RX6) (T := TX6) (N := 6) rfl (by decide) inX6 353 (by decide +kernel) rfl rfl
def fX8_useRights (r0 : Nat) (v1 : Int32) (v2 : Int32) (v3 : Int64) (X : Mm) : Option (Unit × Mm) :=
bd (fX6_at v1 v2 X) fun w1 X2_2 =>
if mT X2_2 r0 = 8 then
if mR X2_2 r0 4 ≠ 0 then
if mT X2_2 (mR X2_2 r0 4) = 6 then
if mR X2_2 (mR X2_2 r0 4) 1 ≠ 0 then
if mT X2_2 (mR X2_2 (mR X2_2 r0 4) 1) = 15 then
if q_b X2_2 (mR X2_2 (mR X2_2 r0 4) 1) w1 then
nm ((if v3 < (mJ X2_2 (mR X2_2 (mR X2_2 r0 4) 1) (w1).toNatClampNeg) then v3 else (mJ X2_2 (mR X2_2 (mR X2_2 r0 4) 1) (w1).toNatClampNeg))) fun v6_21 =>
if mR X2_2 (mR X2_2 r0 4) 2 ≠ 0 then
if mT X2_2 (mR X2_2 (mR X2_2 r0 4) 2) = 15 then
if q_b X2_2 (mR X2_2 (mR X2_2 r0 4) 2) w1 then
nm ((if (v3 - v6_21) < (mJ X2_2 (mR X2_2 (mR X2_2 r0 4) 2) (w1).toNatClampNeg) then (v3 - v6_21) else (mJ X2_2 (mR X2_2 (mR X2_2 r0 4) 2) (w1).toNatClampNeg))) fun v8_40 =>
if mR X2_2 r0 3 ≠ 0 then
if mT X2_2 (mR X2_2 r0 3) = 3 then
if mR X2_2 (mR X2_2 r0 3) 6 ≠ 0 then
if mT X2_2 (mR X2_2 (mR X2_2 r0 3) 6) = 14 then
if q_b X2_2 (mR X2_2 (mR X2_2 r0 3) 6) v1 then
if mR X2_2 (mR X2_2 r0 3) 5 ≠ 0 then
if mT X2_2 (mR X2_2 (mR X2_2 r0 3) 5) = 14 then
if q_b X2_2 (mR X2_2 (mR X2_2 r0 3) 5) v1 then
nm (((v8_40 * (((mI X2_2 (mR X2_2 (mR X2_2 r0 3) 6) (v1).toNatClampNeg)).toInt64)) - (v6_21 * (((mI X2_2 (mR X2_2 (mR X2_2 r0 3) 5) (v1).toNatClampNeg)).toInt64)))) fun v10_69 =>
if mR X2_2 (mR X2_2 r0 4) 3 ≠ 0 then
if mT X2_2 (mR X2_2 (mR X2_2 r0 4) 3) = 15 then
if q_b X2_2 (mR X2_2 (mR X2_2 r0 4) 3) w1 then
nm (sJ X2_2 (mR X2_2 (mR X2_2 r0 4) 3) (w1).toNatClampNeg v6_21) fun X82_24 =>
if mT X82_24 r0 = 8 then
if mR X82_24 r0 4 ≠ 0 then
if mT X82_24 (mR X82_24 r0 4) = 6 then
if mR X82_24 (mR X82_24 r0 4) 4 ≠ 0 then
if mT X82_24 (mR X82_24 (mR X82_24 r0 4) 4) = 15 then
if q_b X82_24 (mR X82_24 (mR X82_24 r0 4) 4) w1 then
nm (sJ X82_24 (mR X82_24 (mR X82_24 r0 4) 4) (w1).toNatClampNeg v8_40) fun X94_31 =>
if mT X94_31 r0 = 8 then
if mR X94_31 r0 4 ≠ 0 then
if mT X94_31 (mR X94_31 r0 4) = 6 then
if mR X94_31 (mR X94_31 r0 4) 5 ≠ 0 then
if mT X94_31 (mR X94_31 (mR X94_31 r0 4) 5) = 15 then
if q_b X94_31 (mR X94_31 (mR X94_31 r0 4) 5) w1 then
nm (sJ X94_31 (mR X94_31 (mR X94_31 r0 4) 5) (w1).toNatClampNeg ((v3 - v6_21) - v8_40)) fun X111_38 =>
if mT X111_38 r0 = 8 then
if mR X111_38 r0 3 ≠ 0 then
if mT X111_38 (mR X111_38 r0 3) = 3 then
if mR X111_38 (mR X111_38 r0 3) 1 ≠ 0 then
if mT X111_38 (mR X111_38 (mR X111_38 r0 3) 1) = 14 then
if q_b X111_38 (mR X111_38 (mR X111_38 r0 3) 1) v1 then
bd (fX8_addShares r0 v2 ((mI X111_38 (mR X111_38 (mR X111_38 r0 3) 1) (v1).toNatClampNeg)) v6_21 X111_38) fun _ X125_48 =>
if mT X125_48 r0 = 8 then
if mR X125_48 r0 1 ≠ 0 then
if mT X125_48 (mR X125_48 r0 1) = 15 then
if q_b X125_48 (mR X125_48 r0 1) v2 then
nm (sJ X125_48 (mR X125_48 r0 1) (v2).toNatClampNeg ((mJ X125_48 (mR X125_48 r0 1) (v2).toNatClampNeg) + v10_69)) fun X138_53 =>
if mT X138_53 r0 = 8 then
if mR X138_53 r0 3 ≠ 0 then
if mT X138_53 (mR X138_53 r0 3) = 3 then
bd (fX3_issue ((mR X138_53 r0 3)) v1 v6_21 v10_69 X138_53) fun _ X148_57 =>
some ((), X148_57)
else none
else none
else none
else none
else none
else none
else none
else none
else none
else none
else none
else none
else none
else none
else none
else none
else none
else none
else none
else none
else none
else none
else none
else none
else none
else none
else none
else none
else none
else none
else none
else none
else none
else none
else none
else none
else none
else none
else none
else none
else none
else none
else none
else none
else none
theorem sX8_useRights (r0 : Nat) (v1 : Int32) (v2 : Int32) (v3 : Int64) : q_Ct yX8_useRights cX8_useRights 12 none 1 25 0 0 q_eV (fun P => [.ref (P + r0), .int v1, .int v2, .long v3]) (fX8_useRights r0 v1 v2 v3) := by
  refine q_meth (by decide +kernel) (fun P => Nat.le_of_ble_eq_true rfl) (fun E X C hn => ?_)
  show Sm E (q_fin E q_eV X 0 0) 0 0 0 [(0, .ref (q_P E + r0)), (1, .int v1), (2, .int v2), (3, .long v3)] [] X _
  unfold fX8_useRights
  refine q_iload_n C 1 dX8_useRights_0 rfl rfl ?_
  refine q_iload_n C 2 dX8_useRights_1 rfl rfl ?_
  refine q_cSI (As := (fun P => [.int v1, .int v2])) C [] (sX6_at v1 v2) fcX8_164 rfl (fun _ => rfl) ⟨Nat.le_of_ble_eq_true rfl, Nat.le_of_ble_eq_true rfl⟩ ⟨Nat.le_of_ble_eq_true rfl, Nat.le_of_ble_eq_true rfl⟩ (Nat.le_of_ble_eq_true rfl) dX8_useRights_2 (fun w1 X2_2 => ?_)
  refine q_istore C [(5, .int w1), (0, .ref (q_P E + r0)), (1, .int v1), (2, .int v2), (3, .long v3)] dX8_useRights_5 (Nat.le_of_ble_eq_true rfl) rfl ?_
  refine q_aload_n C 1 dX8_useRights_7 rfl rfl ?_
  refine q_chk (fun h3 => ?_)
  refine q_chk (fun h4 => ?_)
  refine p_getR C fgX8_35 rfl dX8_useRights_8 h3 h4 ?_
  refine q_chk (fun h5 => ?_)
  refine q_chk (fun h6 => ?_)
  refine p_getR C fgX8_168 rfl dX8_useRights_11 h5 h6 ?_
  refine q_iload C 0 dX8_useRights_14 rfl ?_
  refine q_chk (fun h7 => ?_)
  refine q_chk (fun h8 => ?_)
  refine p_lald C dX8_useRights_16 h7 h8 ?_
  refine q_lload_n C 4 dX8_useRights_17 rfl rfl ?_
  refine q_minL C fmX8_349 ⟨Nat.le_of_ble_eq_true rfl, Nat.le_of_ble_eq_true rfl, Nat.le_of_ble_eq_true rfl, Nat.le_of_ble_eq_true rfl⟩ dX8_useRights_18 ?_
  refine q_nml (fun v6_21 => ?_)
  refine q_lstore C [(6, .long v6_21), (5, .int w1), (0, .ref (q_P E + r0)), (1, .int v1), (2, .int v2), (3, .long v3)] dX8_useRights_21 (Nat.le_of_ble_eq_true rfl) rfl ?_
  refine q_aload_n C 2 dX8_useRights_23 rfl rfl ?_
  refine p_getR C fgX8_35 rfl dX8_useRights_24 h3 h4 ?_
  refine q_chk (fun h10 => ?_)
  refine p_getR C fgX8_170 rfl dX8_useRights_27 h5 h10 ?_
  refine q_iload C 1 dX8_useRights_30 rfl ?_
  refine q_chk (fun h11 => ?_)
  refine q_chk (fun h12 => ?_)
  refine p_lald C dX8_useRights_32 h11 h12 ?_
  refine q_lload_n C 5 dX8_useRights_33 rfl rfl ?_
  refine q_lload C 0 dX8_useRights_34 rfl ?_
  refine q_lsub C dX8_useRights_36 ?_
  refine q_minL C fmX8_349 ⟨Nat.le_of_ble_eq_true rfl, Nat.le_of_ble_eq_true rfl, Nat.le_of_ble_eq_true rfl, Nat.le_of_ble_eq_true rfl⟩ dX8_useRights_37 ?_
  refine q_nml (fun v8_40 => ?_)
  refine q_lstore C [(8, .long v8_40), (6, .long v6_21), (5, .int w1), (0, .ref (q_P E + r0)), (1, .int v1), (2, .int v2), (3, .long v3)] dX8_useRights_40 (Nat.le_of_ble_eq_true rfl) rfl ?_
  refine q_lload C 0 dX8_useRights_42 rfl ?_
  refine q_aload_n C 3 dX8_useRights_44 rfl rfl ?_
  refine q_chk (fun h14 => ?_)
  refine p_getR C fgX8_28 rfl dX8_useRights_45 h3 h14 ?_
  refine q_chk (fun h15 => ?_)
  refine q_chk (fun h16 => ?_)
  refine p_getR C fgX8_344 rfl dX8_useRights_48 h15 h16 ?_
  refine q_iload_n C 4 dX8_useRights_51 rfl rfl ?_
  refine q_chk (fun h17 => ?_)
  refine q_chk (fun h18 => ?_)
  refine p_iald C dX8_useRights_52 h17 h18 ?_
  refine q_i2l C dX8_useRights_53 ?_
  refine q_lmul C dX8_useRights_54 ?_
  refine q_lload C 1 dX8_useRights_55 rfl ?_
  refine q_aload_n C 3 dX8_useRights_57 rfl rfl ?_
  refine p_getR C fgX8_28 rfl dX8_useRights_58 h3 h14 ?_
  refine q_chk (fun h19 => ?_)
  refine p_getR C fgX8_355 rfl dX8_useRights_61 h15 h19 ?_
  refine q_iload_n C 4 dX8_useRights_64 rfl rfl ?_
  refine q_chk (fun h20 => ?_)
  refine q_chk (fun h21 => ?_)
  refine p_iald C dX8_useRights_65 h20 h21 ?_
  refine q_i2l C dX8_useRights_66 ?_
  refine q_lmul C dX8_useRights_67 ?_
  refine q_lsub C dX8_useRights_68 ?_
  refine q_nml (fun v10_69 => ?_)
  refine q_lstore C [(10, .long v10_69), (8, .long v8_40), (6, .long v6_21), (5, .int w1), (0, .ref (q_P E + r0)), (1, .int v1), (2, .int v2), (3, .long v3)] dX8_useRights_69 (Nat.le_of_ble_eq_true rfl) rfl ?_
  refine q_aload_n C 4 dX8_useRights_71 rfl rfl ?_
  refine p_getR C fgX8_35 rfl dX8_useRights_72 h3 h4 ?_
  refine q_chk (fun h23 => ?_)
  refine p_getR C fgX8_357 rfl dX8_useRights_75 h5 h23 ?_
  refine q_iload C 3 dX8_useRights_78 rfl ?_
  refine q_lload C 2 dX8_useRights_80 rfl ?_
  refine q_chk (fun h25 => ?_)
  refine q_chk (fun h26 => ?_)
  refine p_last C dX8_useRights_82 h25 h26 ?_
  refine q_nmX (fun X82_24 => ?_)
  refine q_aload_n C 4 dX8_useRights_83 rfl rfl ?_
  refine q_chk (fun h27 => ?_)
  refine q_chk (fun h28 => ?_)
  refine p_getR C fgX8_35 rfl dX8_useRights_84 h27 h28 ?_
  refine q_chk (fun h29 => ?_)
  refine q_chk (fun h30 => ?_)
  refine p_getR C fgX8_360 rfl dX8_useRights_87 h29 h30 ?_
  refine q_iload C 3 dX8_useRights_90 rfl ?_
  refine q_lload C 1 dX8_useRights_92 rfl ?_
  refine q_chk (fun h32 => ?_)
  refine q_chk (fun h33 => ?_)
  refine p_last C dX8_useRights_94 h32 h33 ?_
  refine q_nmX (fun X94_31 => ?_)
  refine q_aload_n C 4 dX8_useRights_95 rfl rfl ?_
  refine q_chk (fun h34 => ?_)
  refine q_chk (fun h35 => ?_)
  refine p_getR C fgX8_35 rfl dX8_useRights_96 h34 h35 ?_
  refine q_chk (fun h36 => ?_)
  refine q_chk (fun h37 => ?_)
  refine p_getR C fgX8_346 rfl dX8_useRights_99 h36 h37 ?_
  refine q_iload C 3 dX8_useRights_102 rfl ?_
  refine q_lload_n C 7 dX8_useRights_104 rfl rfl ?_
  refine q_lload C 2 dX8_useRights_105 rfl ?_
  refine q_lsub C dX8_useRights_107 ?_
  refine q_lload C 1 dX8_useRights_108 rfl ?_
  refine q_lsub C dX8_useRights_110 ?_
  refine q_chk (fun h39 => ?_)
  refine q_chk (fun h40 => ?_)
  refine p_last C dX8_useRights_111 h39 h40 ?_
  refine q_nmX (fun X111_38 => ?_)
  refine q_aload_n C 4 dX8_useRights_112 rfl rfl ?_
  refine q_iload_n C 6 dX8_useRights_113 rfl rfl ?_
  refine q_aload_n C 4 dX8_useRights_114 rfl rfl ?_
  refine q_chk (fun h41 => ?_)
  refine q_chk (fun h42 => ?_)
  refine p_getR C fgX8_28 rfl dX8_useRights_115 h41 h42 ?_
  refine q_chk (fun h43 => ?_)
  refine q_chk (fun h44 => ?_)
  refine p_getR C fgX8_274 rfl dX8_useRights_118 h43 h44 ?_
  refine q_iload_n C 5 dX8_useRights_121 rfl rfl ?_
  refine q_chk (fun h45 => ?_)
  refine q_chk (fun h46 => ?_)
  refine p_iald C dX8_useRights_122 h45 h46 ?_
  refine q_lload C 2 dX8_useRights_123 rfl ?_
  refine q_cVV (As := (fun P => [.int v2, .int (mI X111_38 (mR X111_38 (mR X111_38 r0 3) 1) (v1).toNatClampNeg), .long v6_21])) C [] (sX8_addShares r0 v2 ((mI X111_38 (mR X111_38 (mR X111_38 r0 3) 1) (v1).toNatClampNeg)) v6_21) fcX8_241 rfl (fun _ => rfl) ⟨Nat.le_of_ble_eq_true rfl, Nat.le_of_ble_eq_true rfl⟩ ⟨Nat.le_of_ble_eq_true rfl, Nat.le_of_ble_eq_true rfl⟩ (Nat.le_of_ble_eq_true rfl) dX8_useRights_125 h41 (fun _ X125_48 => ?_)
  refine q_aload_n C 4 dX8_useRights_128 rfl rfl ?_
  refine q_chk (fun h49 => ?_)
  refine q_chk (fun h50 => ?_)
  refine p_getR C fgX8_15 rfl dX8_useRights_129 h49 h50 ?_
  refine q_iload_n C 6 dX8_useRights_132 rfl rfl ?_
  refine q_dup2_11 C dX8_useRights_133 rfl rfl ?_
  refine q_chk (fun h51 => ?_)
  refine q_chk (fun h52 => ?_)
  refine p_lald C dX8_useRights_134 h51 h52 ?_
  refine q_lload C 0 dX8_useRights_135 rfl ?_
  refine q_ladd C dX8_useRights_137 ?_
  refine p_last C dX8_useRights_138 h51 h52 ?_
  refine q_nmX (fun X138_53 => ?_)
  refine q_aload_n C 4 dX8_useRights_139 rfl rfl ?_
  refine q_chk (fun h54 => ?_)
  refine q_chk (fun h55 => ?_)
  refine p_getR C fgX8_28 rfl dX8_useRights_140 h54 h55 ?_
  refine q_iload_n C 5 dX8_useRights_143 rfl rfl ?_
  refine q_lload C 2 dX8_useRights_144 rfl ?_
  refine q_lload C 0 dX8_useRights_146 rfl ?_
  refine q_chk (fun h58 => ?_)
  refine q_cVV (As := (fun P => [.int v1, .long v6_21, .long v10_69])) C [] (sX3_issue ((mR X138_53 r0 3)) v1 v6_21 v10_69) fcX8_309 rfl (fun _ => rfl) ⟨Nat.le_of_ble_eq_true rfl, Nat.le_of_ble_eq_true rfl⟩ ⟨Nat.le_of_ble_eq_true rfl, Nat.le_of_ble_eq_true rfl⟩ (Nat.le_of_ble_eq_true rfl) dX8_useRights_148 h58 (fun _ X148_57 => ?_)
  exact q_vret C dX8_useRights_151
/-! RecordClaims$State.payRights(I)V -/
abbrev cX8_payRights : ByteArray := prog_10_method_31_code
def yX8_payRights : MethodName := ⟨RX8, "payRights", "(I)V"⟩
theorem dX8_payRights_0 : decode cX8_payRights 0 = .ok (.iconst 0, 1) := by decide +kernel
theorem dX8_payRights_1 : decode cX8_payRights 1 = .ok (.istore_n 2, 1) := by decide +kernel
theorem dX8_payRights_2 : decode cX8_payRights 2 = .ok (.iload_n 2, 1) := by decide +kernel
theorem dX8_payRights_3 : decode cX8_payRights 3 = .ok (.aload_n 0, 1) := by decide +kernel
theorem dX8_payRights_4 : decode cX8_payRights 4 = .ok (.getfield 63, 3) := by decide +kernel
theorem dX8_payRights_7 : decode cX8_payRights 7 = .ok (.if_icmp .ge 39, 3) := by decide +kernel
theorem dX8_payRights_10 : decode cX8_payRights 10 = .ok (.aload_n 0, 1) := by decide +kernel
theorem dX8_payRights_11 : decode cX8_payRights 11 = .ok (.iload_n 1, 1) := by decide +kernel
theorem dX8_payRights_12 : decode cX8_payRights 12 = .ok (.iload_n 2, 1) := by decide +kernel
theorem dX8_payRights_13 : decode cX8_payRights 13 = .ok (.invokevirtual 335, 3) := by decide +kernel
theorem dX8_payRights_16 : decode cX8_payRights 16 = .ok (.lstore_n 3, 1) := by decide +kernel
theorem dX8_payRights_17 : decode cX8_payRights 17 = .ok (.lload_n 3, 1) := by decide +kernel
theorem dX8_payRights_18 : decode cX8_payRights 18 = .ok (.lconst 0, 1) := by decide +kernel
theorem dX8_payRights_19 : decode cX8_payRights 19 = .ok (.lcmp, 1) := by decide +kernel
theorem dX8_payRights_20 : decode cX8_payRights 20 = .ok (.ifCond .ge 13, 3) := by decide +kernel
theorem dX8_payRights_23 : decode cX8_payRights 23 = .ok (.aload_n 0, 1) := by decide +kernel
theorem dX8_payRights_24 : decode cX8_payRights 24 = .ok (.iload_n 1, 1) := by decide +kernel
theorem dX8_payRights_25 : decode cX8_payRights 25 = .ok (.iload_n 2, 1) := by decide +kernel
theorem dX8_payRights_26 : decode cX8_payRights 26 = .ok (.lload_n 3, 1) := by decide +kernel
theorem dX8_payRights_27 : decode cX8_payRights 27 = .ok (.invokevirtual 338, 3) := by decide +kernel
theorem dX8_payRights_30 : decode cX8_payRights 30 = .ok (.goto 10, 3) := by decide +kernel
theorem dX8_payRights_33 : decode cX8_payRights 33 = .ok (.aload_n 0, 1) := by decide +kernel
theorem dX8_payRights_34 : decode cX8_payRights 34 = .ok (.iload_n 1, 1) := by decide +kernel
theorem dX8_payRights_35 : decode cX8_payRights 35 = .ok (.iload_n 2, 1) := by decide +kernel
theorem dX8_payRights_36 : decode cX8_payRights 36 = .ok (.lload_n 3, 1) := by decide +kernel
theorem dX8_payRights_37 : decode cX8_payRights 37 = .ok (.invokevirtual 341, 3) := by decide +kernel
theorem dX8_payRights_40 : decode cX8_payRights 40 = .ok (.iinc 2 1, 3) := by decide +kernel
theorem dX8_payRights_43 : decode cX8_payRights 43 = .ok (.goto (-41), 3) := by decide +kernel
theorem dX8_payRights_46 : decode cX8_payRights 46 = .ok (.iconst 0, 1) := by decide +kernel
theorem dX8_payRights_47 : decode cX8_payRights 47 = .ok (.istore_n 2, 1) := by decide +kernel
theorem dX8_payRights_48 : decode cX8_payRights 48 = .ok (.iload_n 2, 1) := by decide +kernel
theorem dX8_payRights_49 : decode cX8_payRights 49 = .ok (.aload_n 0, 1) := by decide +kernel
theorem dX8_payRights_50 : decode cX8_payRights 50 = .ok (.getfield 28, 3) := by decide +kernel
theorem dX8_payRights_53 : decode cX8_payRights 53 = .ok (.getfield 88, 3) := by decide +kernel
theorem dX8_payRights_56 : decode cX8_payRights 56 = .ok (.iload_n 1, 1) := by decide +kernel
theorem dX8_payRights_57 : decode cX8_payRights 57 = .ok (.iaload, 1) := by decide +kernel
theorem dX8_payRights_58 : decode cX8_payRights 58 = .ok (.if_icmp .ge 23, 3) := by decide +kernel
theorem dX8_payRights_61 : decode cX8_payRights 61 = .ok (.aload_n 0, 1) := by decide +kernel
theorem dX8_payRights_62 : decode cX8_payRights 62 = .ok (.getfield 42, 3) := by decide +kernel
theorem dX8_payRights_65 : decode cX8_payRights 65 = .ok (.getfield 324, 3) := by decide +kernel
theorem dX8_payRights_68 : decode cX8_payRights 68 = .ok (.iload_n 1, 1) := by decide +kernel
theorem dX8_payRights_69 : decode cX8_payRights 69 = .ok (.iload_n 2, 1) := by decide +kernel
theorem dX8_payRights_70 : decode cX8_payRights 70 = .ok (.invokestatic 284, 3) := by decide +kernel
theorem dX8_payRights_73 : decode cX8_payRights 73 = .ok (.iconst 1, 1) := by decide +kernel
theorem dX8_payRights_74 : decode cX8_payRights 74 = .ok (.iastore, 1) := by decide +kernel
theorem dX8_payRights_75 : decode cX8_payRights 75 = .ok (.iinc 2 1, 3) := by decide +kernel
theorem dX8_payRights_78 : decode cX8_payRights 78 = .ok (.goto (-30), 3) := by decide +kernel
theorem dX8_payRights_81 : decode cX8_payRights 81 = .ok (.return_, 1) := by decide +kernel
theorem fgX8_324 : q_Fg RX8 324 1 4 := q_Fg.of (C := RX1) (T := TX1) (N := 5) rfl (by decide) inX1 384 (by decide +kernel) rfl rfl
theorem fcX8_335 : q_LV RX8 335 yX8_rightsOf cX8_rightsOf 9 (some .long) 2 8 := ⟨q_tb 920 (by decide +kernel) rfl, q_tb 922 (by decide +kernel) rfl, q_tbs (q := (yX8_rightsOf, 9)) 34 (by decide +kernel) rfl, q_tb 5 (by decide +kernel) rfl, q_tb 923 (by decide +kernel) rfl, ⟨by decide +kernel, by decide +kernel, by decide +kernel⟩, TX8, 9, rfl⟩
theorem fcX8_341 : q_LV RX8 341 yX8_useRights cX8_useRights 12 none 3 8 := ⟨q_tb 928 (by decide +kernel) rfl, q_tb 930 (by decide +kernel) rfl, q_tbs (q := (yX8_useRights, 9)) 36 (by decide +kernel) rfl, q_tb 5 (by decide +kernel) rfl, q_tb 931 (by decide +kernel) rfl, ⟨by decide +kernel, by decide +kernel, by decide +kernel⟩, TX8, 9, rfl⟩
theorem fcX8_338 : q_LV RX8 338 yX8_owePerRight cX8_owePerRight 7 none 3 8 := ⟨q_tb 924 (by decide +kernel) rfl, q_tb 926 (by decide +kernel) rfl, q_tbs (q := (yX8_owePerRight, 9)) 35 (by decide +kernel) rfl, q_tb 5 (by decide +kernel) rfl, q_tb 927 (by decide +kernel) rfl, ⟨by decide +kernel, by decide +kernel, by decide +kernel⟩, TX8, 9, rfl⟩
def fX8_payRights_L48 (n : Nat) : Nat → Nat → Int32 → Int32 → Mm → Option (Unit × Mm)
| 0, _, _, _, _ => none
| j + 1, r0, v1, v2, X =>
if mT X r0 = 8 then
if mR X r0 3 ≠ 0 then
if mT X (mR X r0 3) = 3 then
if mR X (mR X r0 3) 12 ≠ 0 then
if mT X (mR X (mR X r0 3) 12) = 14 then
if q_b X (mR X (mR X r0 3) 12) v1 then
if (mI X (mR X (mR X r0 3) 12) (v1).toNatClampNeg) ≤ v2 then (
some ((), X)
) else (
if mR X r0 5 ≠ 0 then
if mT X (mR X r0 5) = 1 then
if mR X (mR X r0 5) 4 ≠ 0 then
bd (fX1_at v1 v2 X) fun w11 X70_12 =>
if mT X70_12 (mR X (mR X r0 5) 4) = 14 then
if q_b X70_12 (mR X (mR X r0 5) 4) w11 then
nm (sI X70_12 (mR X (mR X r0 5) 4) (w11).toNatClampNeg (1 : Int32)) fun X74_13 =>
nm (v2 + (1 : Int32)) fun v2_75 =>
(fX8_payRights_L48 n j) r0 v1 v2_75 X74_13
else none
else none
else none
else none
else none
)
else none
else none
else none
else none
else none
else none
def fX8_payRights_L40 (n : Nat) (k2 : Nat → Int32 → Int32 → Mm → Option (Unit × Mm)) (r0 : Nat) (v1 : Int32) (v2 : Int32) (X : Mm) : Option (Unit × Mm) :=
nm (v2 + (1 : Int32)) fun v2_40 =>
k2 r0 v1 v2_40 X
def fX8_payRights_L2 (n : Nat) : Nat → Nat → Int32 → Int32 → Mm → Option (Unit × Mm)
| 0, _, _, _, _ => none
| j + 1, r0, v1, v2, X =>
if mT X r0 = 8 then
if (mI X r0 6) ≤ v2 then (
fX8_payRights_L48 n n r0 v1 (0 : Int32) X
) else (
bd (fX8_rightsOf n r0 v1 v2 X) fun w16 X13_17 =>
if 0 ≤ (lg_cmp w16 (0 : Int64)) then (
if mT X13_17 r0 = 8 then
bd (fX8_useRights r0 v1 v2 w16 X13_17) fun _ X37_19 =>
fX8_payRights_L40 n (fX8_payRights_L2 n j) r0 v1 v2 X37_19
else none
) else (
if mT X13_17 r0 = 8 then
bd (fX8_owePerRight r0 v1 v2 w16 X13_17) fun _ X27_22 =>
fX8_payRights_L40 n (fX8_payRights_L2 n j) r0 v1 v2 X27_22
else none
)
)
else none
def fX8_payRights (n : Nat) (r0 : Nat) (v1 : Int32) (X : Mm) : Option (Unit × Mm) :=
fX8_payRights_L2 n n r0 v1 (0 : Int32) X
theorem gX8_payRights_L48 {E : q_E} {X0 : Mm} (C : Cx E cX8_payRights RX8 5 none (q_rm 2 56 0 0) X0) (n : Nat) : ∀ (j : Nat) (r0 : Nat) (v1 : Int32) (v2 : Int32) (X : Mm), Sm E (q_fin E q_eV X0 0 0) 0 0 48 [(0, .ref (q_P E + r0)), (1, .int v1), (2, .int v2)] [] X (fX8_payRights_L48 n j r0 v1 v2 X) := by
  intro j
  induction j with
  | zero => intros; exact Sm.none
  | succ j ih =>
    intro r0 v1 v2 X
    rw [fX8_payRights_L48]
    refine q_iload_n C 2 dX8_payRights_48 rfl rfl ?_
    refine q_aload_n C 0 dX8_payRights_49 rfl rfl ?_
    refine q_chk (fun h2 => ?_)
    refine q_chk (fun h3 => ?_)
    refine p_getR C fgX8_28 rfl dX8_payRights_50 h2 h3 ?_
    refine q_chk (fun h4 => ?_)
    refine q_chk (fun h5 => ?_)
    refine p_getR C fgX8_88 rfl dX8_payRights_53 h4 h5 ?_
    refine q_iload_n C 1 dX8_payRights_56 rfl rfl ?_
    refine q_chk (fun h6 => ?_)
    refine q_chk (fun h7 => ?_)
    refine p_iald C dX8_payRights_57 h6 h7 ?_
    refine q_icmp_ge C 81 dX8_payRights_58 (by decide) (fun _ => ?_) (fun _ => ?_)
    · exact q_vret C dX8_payRights_81
    · refine q_aload_n C 0 dX8_payRights_61 rfl rfl ?_
      refine q_chk (fun h8 => ?_)
      refine p_getR C fgX8_42 rfl dX8_payRights_62 h2 h8 ?_
      refine q_chk (fun h9 => ?_)
      refine q_chk (fun h10 => ?_)
      refine p_getR C fgX8_324 rfl dX8_payRights_65 h9 h10 ?_
      refine q_iload_n C 1 dX8_payRights_68 rfl rfl ?_
      refine q_iload_n C 2 dX8_payRights_69 rfl rfl ?_
      refine q_cSI (As := (fun P => [.int v1, .int v2])) C [.ref (q_P E + (mR X (mR X r0 5) 4))] (sX1_at v1 v2) fcX8_284 rfl (fun _ => rfl) ⟨Nat.le_of_ble_eq_true rfl, Nat.le_of_ble_eq_true rfl⟩ ⟨Nat.le_of_ble_eq_true rfl, Nat.le_of_ble_eq_true rfl⟩ (Nat.le_of_ble_eq_true rfl) dX8_payRights_70 (fun w11 X70_12 => ?_)
      refine q_iconst C (1 : Int32) dX8_payRights_73 rfl ?_
      refine q_chk (fun h14 => ?_)
      refine q_chk (fun h15 => ?_)
      refine p_iast C dX8_payRights_74 h14 h15 ?_
      refine q_nmX (fun X74_13 => ?_)
      refine q_iincN C (1 : Int32) 2 (fun v2_75 => [(2, .int v2_75), (0, .ref (q_P E + r0)), (1, .int v1)]) dX8_payRights_75 rfl rfl (Nat.le_of_ble_eq_true rfl) (fun _ => rfl) (fun v2_75 => ?_)
      refine q_goto C 48 dX8_payRights_78 (by decide) ?_
      refine q_sub C [(0, .ref (q_P E + r0)), (1, .int v1), (2, .int v2_75)] [1, 2, 0] rfl ?_
      exact ih r0 v1 v2_75 X74_13
theorem gX8_payRights_L40 {E : q_E} {X0 : Mm} (C : Cx E cX8_payRights RX8 5 none (q_rm 2 56 0 0) X0) (n : Nat) (k2 : Nat → Int32 → Int32 → Mm → Option (Unit × Mm)) (hk2 : ∀ (r0 : Nat) (v1 : Int32) (v2 : Int32) (X : Mm), Sm E (q_fin E q_eV X0 0 0) 0 0 2 [(0, .ref (q_P E + r0)), (1, .int v1), (2, .int v2)] [] X (k2 r0 v1 v2 X)) (r0 : Nat) (v1 : Int32) (v2 : Int32) (X : Mm) : Sm E (q_fin E q_eV X0 0 0) 0 0 40 [(0, .ref (q_P E + r0)), (1, .int v1), (2, .int v2)] [] X (fX8_payRights_L40 n k2 r0 v1 v2 X) := by
  unfold fX8_payRights_L40
  refine q_iincN C (1 : Int32) 2 (fun v2_40 => [(2, .int v2_40), (0, .ref (q_P E + r0)), (1, .int v1)]) dX8_payRights_40 rfl rfl (Nat.le_of_ble_eq_true rfl) (fun _ => rfl) (fun v2_40 => ?_)
  refine q_goto C 2 dX8_payRights_43 (by decide) ?_
  refine q_sub C [(0, .ref (q_P E + r0)), (1, .int v1), (2, .int v2_40)] [1, 2, 0] rfl ?_
  exact hk2 r0 v1 v2_40 X
theorem gX8_payRights_L2 {E : q_E} {X0 : Mm} (C : Cx E cX8_payRights RX8 5 none (q_rm 2 56 0 0) X0) (n : Nat) : ∀ (j : Nat) (r0 : Nat) (v1 : Int32) (v2 : Int32) (X : Mm), Sm E (q_fin E q_eV X0 0 0) 0 0 2 [(0, .ref (q_P E + r0)), (1, .int v1), (2, .int v2)] [] X (fX8_payRights_L2 n j r0 v1 v2 X) := by
  intro j
  induction j with
  | zero => intros; exact Sm.none
  | succ j ih =>
    intro r0 v1 v2 X
    rw [fX8_payRights_L2]
    refine q_iload_n C 2 dX8_payRights_2 rfl rfl ?_
    refine q_aload_n C 0 dX8_payRights_3 rfl rfl ?_
    refine q_chk (fun h1 => ?_)
    refine p_getI C fgX8_63 rfl dX8_payRights_4 h1 ?_
    refine q_icmp_ge C 46 dX8_payRights_7 (by decide) (fun _ => ?_) (fun _ => ?_)
    · refine q_iconst C (0 : Int32) dX8_payRights_46 rfl ?_
      refine q_istore_n C [(2, .int (0 : Int32)), (0, .ref (q_P E + r0)), (1, .int v1)] dX8_payRights_47 rfl (Nat.le_of_ble_eq_true rfl) rfl ?_
      refine q_sub C [(0, .ref (q_P E + r0)), (1, .int v1), (2, .int (0 : Int32))] [1, 2, 0] rfl ?_
      exact gX8_payRights_L48 C n n r0 v1 (0 : Int32) X
    · refine q_aload_n C 0 dX8_payRights_10 rfl rfl ?_
      refine q_iload_n C 1 dX8_payRights_11 rfl rfl ?_
      refine q_iload_n C 2 dX8_payRights_12 rfl rfl ?_
      refine q_cVL (As := (fun P => [.int v1, .int v2])) C [] (sX8_rightsOf n r0 v1 v2) fcX8_335 rfl (fun _ => rfl) ⟨Nat.le_of_ble_eq_true rfl, Nat.le_of_ble_eq_true rfl⟩ ⟨Nat.le_of_ble_eq_true rfl, Nat.le_of_ble_eq_true rfl⟩ (Nat.le_of_ble_eq_true rfl) dX8_payRights_13 h1 (fun w16 X13_17 => ?_)
      refine q_lstore_n C [(3, .long w16), (0, .ref (q_P E + r0)), (1, .int v1), (2, .int v2)] dX8_payRights_16 rfl (Nat.le_of_ble_eq_true rfl) rfl ?_
      refine q_lload_n C 0 dX8_payRights_17 rfl rfl ?_
      refine q_lconst C (0 : Int64) dX8_payRights_18 rfl ?_
      refine q_lcmp C dX8_payRights_19 ?_
      refine q_if_ge C 33 dX8_payRights_20 (by decide) (fun _ => ?_) (fun _ => ?_)
      · refine q_aload_n C 1 dX8_payRights_33 rfl rfl ?_
        refine q_iload_n C 2 dX8_payRights_34 rfl rfl ?_
        refine q_iload_n C 3 dX8_payRights_35 rfl rfl ?_
        refine q_lload_n C 0 dX8_payRights_36 rfl rfl ?_
        refine q_chk (fun h20 => ?_)
        refine q_cVV (As := (fun P => [.int v1, .int v2, .long w16])) C [] (sX8_useRights r0 v1 v2 w16) fcX8_341 rfl (fun _ => rfl) ⟨Nat.le_of_ble_eq_true rfl, Nat.le_of_ble_eq_true rfl⟩ ⟨Nat.le_of_ble_eq_true rfl, Nat.le_of_ble_eq_true rfl⟩ (Nat.le_of_ble_eq_true rfl) dX8_payRights_37 h20 (fun _ X37_19 => ?_)
        refine q_sub C [(0, .ref (q_P E + r0)), (1, .int v1), (2, .int v2)] [1, 2, 3] rfl ?_
        exact gX8_payRights_L40 C n (fX8_payRights_L2 n j) ih r0 v1 v2 X37_19
      · refine q_aload_n C 1 dX8_payRights_23 rfl rfl ?_
        refine q_iload_n C 2 dX8_payRights_24 rfl rfl ?_
        refine q_iload_n C 3 dX8_payRights_25 rfl rfl ?_
        refine q_lload_n C 0 dX8_payRights_26 rfl rfl ?_
        refine q_chk (fun h23 => ?_)
        refine q_cVV (As := (fun P => [.int v1, .int v2, .long w16])) C [] (sX8_owePerRight r0 v1 v2 w16) fcX8_338 rfl (fun _ => rfl) ⟨Nat.le_of_ble_eq_true rfl, Nat.le_of_ble_eq_true rfl⟩ ⟨Nat.le_of_ble_eq_true rfl, Nat.le_of_ble_eq_true rfl⟩ (Nat.le_of_ble_eq_true rfl) dX8_payRights_27 h23 (fun _ X27_22 => ?_)
        refine q_goto C 40 dX8_payRights_30 (by decide) ?_
        refine q_sub C [(0, .ref (q_P E + r0)), (1, .int v1), (2, .int v2)] [1, 2, 3] rfl ?_
        exact gX8_payRights_L40 C n (fX8_payRights_L2 n j) ih r0 v1 v2 X27_22
theorem sX8_payRights (n : Nat) (r0 : Nat) (v1 : Int32) : q_Ct yX8_payRights cX8_payRights 5 none 2 56 0 0 q_eV (fun P => [.ref (P + r0), .int v1]) (fX8_payRights n r0 v1) := by
  refine q_meth (by decide +kernel) (fun P => Nat.le_of_ble_eq_true rfl) (fun E X C hn => ?_)
  show Sm E (q_fin E q_eV X 0 0) 0 0 0 [(0, .ref (q_P E + r0)), (1, .int v1)] [] X _
  unfold fX8_payRights
  refine q_iconst C (0 : Int32) dX8_payRights_0 rfl ?_
  refine q_istore_n C [(2, .int (0 : Int32)), (0, .ref (q_P E + r0)), (1, .int v1)] dX8_payRights_1 rfl (Nat.le_of_ble_eq_true rfl) rfl ?_
  refine q_sub C [(0, .ref (q_P E + r0)), (1, .int v1), (2, .int (0 : Int32))] [1, 2, 0] rfl ?_
  exact gX8_payRights_L2 C n n r0 v1 (0 : Int32) X
/-! RecordClaims$State.paysClaim(II)Z -/
abbrev cX8_paysClaim : ByteArray := prog_10_method_29_code
def yX8_paysClaim : MethodName := ⟨RX8, "paysClaim", "(II)Z"⟩
theorem dX8_paysClaim_0 : decode cX8_paysClaim 0 = .ok (.iload_n 1, 1) := by decide +kernel
theorem dX8_paysClaim_1 : decode cX8_paysClaim 1 = .ok (.iload_n 2, 1) := by decide +kernel
theorem dX8_paysClaim_2 : decode cX8_paysClaim 2 = .ok (.invokestatic 284, 3) := by decide +kernel
theorem dX8_paysClaim_5 : decode cX8_paysClaim 5 = .ok (.istore_n 3, 1) := by decide +kernel
theorem dX8_paysClaim_6 : decode cX8_paysClaim 6 = .ok (.aload_n 0, 1) := by decide +kernel
theorem dX8_paysClaim_7 : decode cX8_paysClaim 7 = .ok (.getfield 42, 3) := by decide +kernel
theorem dX8_paysClaim_10 : decode cX8_paysClaim 10 = .ok (.getfield 328, 3) := by decide +kernel
theorem dX8_paysClaim_13 : decode cX8_paysClaim 13 = .ok (.iload_n 3, 1) := by decide +kernel
theorem dX8_paysClaim_14 : decode cX8_paysClaim 14 = .ok (.iaload, 1) := by decide +kernel
theorem dX8_paysClaim_15 : decode cX8_paysClaim 15 = .ok (.istore 4, 2) := by decide +kernel
theorem dX8_paysClaim_17 : decode cX8_paysClaim 17 = .ok (.aload_n 0, 1) := by decide +kernel
theorem dX8_paysClaim_18 : decode cX8_paysClaim 18 = .ok (.getfield 42, 3) := by decide +kernel
theorem dX8_paysClaim_21 : decode cX8_paysClaim 21 = .ok (.getfield 331, 3) := by decide +kernel
theorem dX8_paysClaim_24 : decode cX8_paysClaim 24 = .ok (.iload_n 3, 1) := by decide +kernel
theorem dX8_paysClaim_25 : decode cX8_paysClaim 25 = .ok (.iaload, 1) := by decide +kernel
theorem dX8_paysClaim_26 : decode cX8_paysClaim 26 = .ok (.istore 5, 2) := by decide +kernel
theorem dX8_paysClaim_28 : decode cX8_paysClaim 28 = .ok (.aload_n 0, 1) := by decide +kernel
theorem dX8_paysClaim_29 : decode cX8_paysClaim 29 = .ok (.getfield 28, 3) := by decide +kernel
theorem dX8_paysClaim_32 : decode cX8_paysClaim 32 = .ok (.getfield 274, 3) := by decide +kernel
theorem dX8_paysClaim_35 : decode cX8_paysClaim 35 = .ok (.iload_n 1, 1) := by decide +kernel
theorem dX8_paysClaim_36 : decode cX8_paysClaim 36 = .ok (.iaload, 1) := by decide +kernel
theorem dX8_paysClaim_37 : decode cX8_paysClaim 37 = .ok (.istore 6, 2) := by decide +kernel
theorem dX8_paysClaim_39 : decode cX8_paysClaim 39 = .ok (.aload_n 0, 1) := by decide +kernel
theorem dX8_paysClaim_40 : decode cX8_paysClaim 40 = .ok (.getfield 28, 3) := by decide +kernel
theorem dX8_paysClaim_43 : decode cX8_paysClaim 43 = .ok (.iload_n 1, 1) := by decide +kernel
theorem dX8_paysClaim_44 : decode cX8_paysClaim 44 = .ok (.aload_n 0, 1) := by decide +kernel
theorem dX8_paysClaim_45 : decode cX8_paysClaim 45 = .ok (.getfield 42, 3) := by decide +kernel
theorem dX8_paysClaim_48 : decode cX8_paysClaim 48 = .ok (.getfield 334, 3) := by decide +kernel
theorem dX8_paysClaim_51 : decode cX8_paysClaim 51 = .ok (.iload_n 3, 1) := by decide +kernel
theorem dX8_paysClaim_52 : decode cX8_paysClaim 52 = .ok (.laload, 1) := by decide +kernel
theorem dX8_paysClaim_53 : decode cX8_paysClaim 53 = .ok (.invokevirtual 302, 3) := by decide +kernel
theorem dX8_paysClaim_56 : decode cX8_paysClaim 56 = .ok (.lstore 7, 2) := by decide +kernel
theorem dX8_paysClaim_58 : decode cX8_paysClaim 58 = .ok (.aload_n 0, 1) := by decide +kernel
theorem dX8_paysClaim_59 : decode cX8_paysClaim 59 = .ok (.iload 4, 2) := by decide +kernel
theorem dX8_paysClaim_61 : decode cX8_paysClaim 61 = .ok (.iload 6, 2) := by decide +kernel
theorem dX8_paysClaim_63 : decode cX8_paysClaim 63 = .ok (.invokevirtual 236, 3) := by decide +kernel
theorem dX8_paysClaim_66 : decode cX8_paysClaim 66 = .ok (.lload 7, 2) := by decide +kernel
theorem dX8_paysClaim_68 : decode cX8_paysClaim 68 = .ok (.lcmp, 1) := by decide +kernel
theorem dX8_paysClaim_69 : decode cX8_paysClaim 69 = .ok (.ifCond .ge 5, 3) := by decide +kernel
theorem dX8_paysClaim_72 : decode cX8_paysClaim 72 = .ok (.iconst 0, 1) := by decide +kernel
theorem dX8_paysClaim_73 : decode cX8_paysClaim 73 = .ok (.ireturn, 1) := by decide +kernel
theorem dX8_paysClaim_74 : decode cX8_paysClaim 74 = .ok (.aload_n 0, 1) := by decide +kernel
theorem dX8_paysClaim_75 : decode cX8_paysClaim 75 = .ok (.iload 4, 2) := by decide +kernel
theorem dX8_paysClaim_77 : decode cX8_paysClaim 77 = .ok (.iload 6, 2) := by decide +kernel
theorem dX8_paysClaim_79 : decode cX8_paysClaim 79 = .ok (.lload 7, 2) := by decide +kernel
theorem dX8_paysClaim_81 : decode cX8_paysClaim 81 = .ok (.lneg, 1) := by decide +kernel
theorem dX8_paysClaim_82 : decode cX8_paysClaim 82 = .ok (.invokevirtual 241, 3) := by decide +kernel
theorem dX8_paysClaim_85 : decode cX8_paysClaim 85 = .ok (.aload_n 0, 1) := by decide +kernel
theorem dX8_paysClaim_86 : decode cX8_paysClaim 86 = .ok (.iload 5, 2) := by decide +kernel
theorem dX8_paysClaim_88 : decode cX8_paysClaim 88 = .ok (.iload 6, 2) := by decide +kernel
theorem dX8_paysClaim_90 : decode cX8_paysClaim 90 = .ok (.lload 7, 2) := by decide +kernel
theorem dX8_paysClaim_92 : decode cX8_paysClaim 92 = .ok (.invokevirtual 241, 3) := by decide +kernel
theorem dX8_paysClaim_95 : decode cX8_paysClaim 95 = .ok (.aload_n 0, 1) := by decide +kernel
theorem dX8_paysClaim_96 : decode cX8_paysClaim 96 = .ok (.iload 4, 2) := by decide +kernel
theorem dX8_paysClaim_98 : decode cX8_paysClaim 98 = .ok (.iload 5, 2) := by decide +kernel
theorem dX8_paysClaim_100 : decode cX8_paysClaim 100 = .ok (.aload_n 0, 1) := by decide +kernel
theorem dX8_paysClaim_101 : decode cX8_paysClaim 101 = .ok (.getfield 28, 3) := by decide +kernel
theorem dX8_paysClaim_104 : decode cX8_paysClaim 104 = .ok (.iload_n 1, 1) := by decide +kernel
theorem dX8_paysClaim_105 : decode cX8_paysClaim 105 = .ok (.aload_n 0, 1) := by decide +kernel
theorem dX8_paysClaim_106 : decode cX8_paysClaim 106 = .ok (.getfield 42, 3) := by decide +kernel
theorem dX8_paysClaim_109 : decode cX8_paysClaim 109 = .ok (.getfield 334, 3) := by decide +kernel
theorem dX8_paysClaim_112 : decode cX8_paysClaim 112 = .ok (.iload_n 3, 1) := by decide +kernel
theorem dX8_paysClaim_113 : decode cX8_paysClaim 113 = .ok (.laload, 1) := by decide +kernel
theorem dX8_paysClaim_114 : decode cX8_paysClaim 114 = .ok (.invokevirtual 306, 3) := by decide +kernel
theorem dX8_paysClaim_117 : decode cX8_paysClaim 117 = .ok (.invokevirtual 250, 3) := by decide +kernel
theorem dX8_paysClaim_120 : decode cX8_paysClaim 120 = .ok (.aload_n 0, 1) := by decide +kernel
theorem dX8_paysClaim_121 : decode cX8_paysClaim 121 = .ok (.getfield 42, 3) := by decide +kernel
theorem dX8_paysClaim_124 : decode cX8_paysClaim 124 = .ok (.getfield 324, 3) := by decide +kernel
theorem dX8_paysClaim_127 : decode cX8_paysClaim 127 = .ok (.iload_n 3, 1) := by decide +kernel
theorem dX8_paysClaim_128 : decode cX8_paysClaim 128 = .ok (.iconst 1, 1) := by decide +kernel
theorem dX8_paysClaim_129 : decode cX8_paysClaim 129 = .ok (.iastore, 1) := by decide +kernel
theorem dX8_paysClaim_130 : decode cX8_paysClaim 130 = .ok (.iconst 1, 1) := by decide +kernel
theorem dX8_paysClaim_131 : decode cX8_paysClaim 131 = .ok (.ireturn, 1) := by decide +kernel
def fX8_paysClaim (r0 : Nat) (v1 : Int32) (v2 : Int32) (X : Mm) : Option (Int32 × Mm) :=
bd (fX1_at v1 v2 X) fun w1 X2_2 =>
if mT X2_2 r0 = 8 then
if mR X2_2 r0 5 ≠ 0 then
if mT X2_2 (mR X2_2 r0 5) = 1 then
if mR X2_2 (mR X2_2 r0 5) 0 ≠ 0 then
if mT X2_2 (mR X2_2 (mR X2_2 r0 5) 0) = 14 then
if q_b X2_2 (mR X2_2 (mR X2_2 r0 5) 0) w1 then
nm ((mI X2_2 (mR X2_2 (mR X2_2 r0 5) 0) (w1).toNatClampNeg)) fun v4_15 =>
if mR X2_2 (mR X2_2 r0 5) 1 ≠ 0 then
if mT X2_2 (mR X2_2 (mR X2_2 r0 5) 1) = 14 then
if q_b X2_2 (mR X2_2 (mR X2_2 r0 5) 1) w1 then
nm ((mI X2_2 (mR X2_2 (mR X2_2 r0 5) 1) (w1).toNatClampNeg)) fun v5_26 =>
if mR X2_2 r0 3 ≠ 0 then
if mT X2_2 (mR X2_2 r0 3) = 3 then
if mR X2_2 (mR X2_2 r0 3) 1 ≠ 0 then
if mT X2_2 (mR X2_2 (mR X2_2 r0 3) 1) = 14 then
if q_b X2_2 (mR X2_2 (mR X2_2 r0 3) 1) v1 then
nm ((mI X2_2 (mR X2_2 (mR X2_2 r0 3) 1) (v1).toNatClampNeg)) fun v6_37 =>
if mR X2_2 (mR X2_2 r0 5) 2 ≠ 0 then
if mT X2_2 (mR X2_2 (mR X2_2 r0 5) 2) = 15 then
if q_b X2_2 (mR X2_2 (mR X2_2 r0 5) 2) w1 then
bd (fX3_sharesFor ((mR X2_2 r0 3)) v1 ((mJ X2_2 (mR X2_2 (mR X2_2 r0 5) 2) (w1).toNatClampNeg)) X2_2) fun w23 X53_24 =>
if mT X53_24 r0 = 8 then
bd (fX8_sharesOf r0 v4_15 v6_37 X53_24) fun w25 X63_26 =>
if 0 ≤ (lg_cmp w25 w23) then (
if mT X63_26 r0 = 8 then
bd (fX8_addShares r0 v4_15 v6_37 ((-w23)) X63_26) fun _ X82_29 =>
if mT X82_29 r0 = 8 then
bd (fX8_addShares r0 v5_26 v6_37 w23 X82_29) fun _ X92_32 =>
if mT X92_32 r0 = 8 then
if mR X92_32 r0 3 ≠ 0 then
if mR X92_32 r0 5 ≠ 0 then
if mT X92_32 (mR X92_32 r0 5) = 1 then
if mR X92_32 (mR X92_32 r0 5) 2 ≠ 0 then
if mT X92_32 (mR X92_32 (mR X92_32 r0 5) 2) = 15 then
if q_b X92_32 (mR X92_32 (mR X92_32 r0 5) 2) w1 then
if mT X92_32 (mR X92_32 r0 3) = 3 then
bd (fX3_moneyFor ((mR X92_32 r0 3)) v1 ((mJ X92_32 (mR X92_32 (mR X92_32 r0 5) 2) (w1).toNatClampNeg)) X92_32) fun w41 X114_42 =>
if mT X114_42 r0 = 8 then
bd (fX8_moveMoney r0 v4_15 v5_26 w41 X114_42) fun _ X117_45 =>
if mT X117_45 r0 = 8 then
if mR X117_45 r0 5 ≠ 0 then
if mT X117_45 (mR X117_45 r0 5) = 1 then
if mR X117_45 (mR X117_45 r0 5) 4 ≠ 0 then
if mT X117_45 (mR X117_45 (mR X117_45 r0 5) 4) = 14 then
if q_b X117_45 (mR X117_45 (mR X117_45 r0 5) 4) w1 then
nm (sI X117_45 (mR X117_45 (mR X117_45 r0 5) 4) (w1).toNatClampNeg (1 : Int32)) fun X129_51 =>
some (1, X129_51)
else none
else none
else none
else none
else none
else none
else none
else none
else none
else none
else none
else none
else none
else none
else none
else none
else none
) else (
some (0, X63_26)
)
else none
else none
else none
else none
else none
else none
else none
else none
else none
else none
else none
else none
else none
else none
else none
else none
else none
else none
theorem sX8_paysClaim (r0 : Nat) (v1 : Int32) (v2 : Int32) : q_Ct yX8_paysClaim cX8_paysClaim 9 (some .boolean) 1 24 0 0 q_eI (fun P => [.ref (P + r0), .int v1, .int v2]) (fX8_paysClaim r0 v1 v2) := by
  refine q_meth (by decide +kernel) (fun P => Nat.le_of_ble_eq_true rfl) (fun E X C hn => ?_)
  show Sm E (q_fin E q_eI X 0 0) 0 0 0 [(0, .ref (q_P E + r0)), (1, .int v1), (2, .int v2)] [] X _
  unfold fX8_paysClaim
  refine q_iload_n C 1 dX8_paysClaim_0 rfl rfl ?_
  refine q_iload_n C 2 dX8_paysClaim_1 rfl rfl ?_
  refine q_cSI (As := (fun P => [.int v1, .int v2])) C [] (sX1_at v1 v2) fcX8_284 rfl (fun _ => rfl) ⟨Nat.le_of_ble_eq_true rfl, Nat.le_of_ble_eq_true rfl⟩ ⟨Nat.le_of_ble_eq_true rfl, Nat.le_of_ble_eq_true rfl⟩ (Nat.le_of_ble_eq_true rfl) dX8_paysClaim_2 (fun w1 X2_2 => ?_)
  refine q_istore_n C [(3, .int w1), (0, .ref (q_P E + r0)), (1, .int v1), (2, .int v2)] dX8_paysClaim_5 rfl (Nat.le_of_ble_eq_true rfl) rfl ?_
  refine q_aload_n C 1 dX8_paysClaim_6 rfl rfl ?_
  refine q_chk (fun h3 => ?_)
  refine q_chk (fun h4 => ?_)
  refine p_getR C fgX8_42 rfl dX8_paysClaim_7 h3 h4 ?_
  refine q_chk (fun h5 => ?_)
  refine q_chk (fun h6 => ?_)
  refine p_getR C fgX8_328 rfl dX8_paysClaim_10 h5 h6 ?_
  refine q_iload_n C 0 dX8_paysClaim_13 rfl rfl ?_
  refine q_chk (fun h7 => ?_)
  refine q_chk (fun h8 => ?_)
  refine p_iald C dX8_paysClaim_14 h7 h8 ?_
  refine q_nmi (fun v4_15 => ?_)
  refine q_istore C [(4, .int v4_15), (3, .int w1), (0, .ref (q_P E + r0)), (1, .int v1), (2, .int v2)] dX8_paysClaim_15 (Nat.le_of_ble_eq_true rfl) rfl ?_
  refine q_aload_n C 2 dX8_paysClaim_17 rfl rfl ?_
  refine p_getR C fgX8_42 rfl dX8_paysClaim_18 h3 h4 ?_
  refine q_chk (fun h10 => ?_)
  refine p_getR C fgX8_331 rfl dX8_paysClaim_21 h5 h10 ?_
  refine q_iload_n C 1 dX8_paysClaim_24 rfl rfl ?_
  refine q_chk (fun h11 => ?_)
  refine q_chk (fun h12 => ?_)
  refine p_iald C dX8_paysClaim_25 h11 h12 ?_
  refine q_nmi (fun v5_26 => ?_)
  refine q_istore C [(5, .int v5_26), (4, .int v4_15), (3, .int w1), (0, .ref (q_P E + r0)), (1, .int v1), (2, .int v2)] dX8_paysClaim_26 (Nat.le_of_ble_eq_true rfl) rfl ?_
  refine q_aload_n C 3 dX8_paysClaim_28 rfl rfl ?_
  refine q_chk (fun h14 => ?_)
  refine p_getR C fgX8_28 rfl dX8_paysClaim_29 h3 h14 ?_
  refine q_chk (fun h15 => ?_)
  refine q_chk (fun h16 => ?_)
  refine p_getR C fgX8_274 rfl dX8_paysClaim_32 h15 h16 ?_
  refine q_iload_n C 4 dX8_paysClaim_35 rfl rfl ?_
  refine q_chk (fun h17 => ?_)
  refine q_chk (fun h18 => ?_)
  refine p_iald C dX8_paysClaim_36 h17 h18 ?_
  refine q_nmi (fun v6_37 => ?_)
  refine q_istore C [(6, .int v6_37), (5, .int v5_26), (4, .int v4_15), (3, .int w1), (0, .ref (q_P E + r0)), (1, .int v1), (2, .int v2)] dX8_paysClaim_37 (Nat.le_of_ble_eq_true rfl) rfl ?_
  refine q_aload_n C 4 dX8_paysClaim_39 rfl rfl ?_
  refine p_getR C fgX8_28 rfl dX8_paysClaim_40 h3 h14 ?_
  refine q_iload_n C 5 dX8_paysClaim_43 rfl rfl ?_
  refine q_aload_n C 4 dX8_paysClaim_44 rfl rfl ?_
  refine p_getR C fgX8_42 rfl dX8_paysClaim_45 h3 h4 ?_
  refine q_chk (fun h20 => ?_)
  refine p_getR C fgX8_334 rfl dX8_paysClaim_48 h5 h20 ?_
  refine q_iload_n C 3 dX8_paysClaim_51 rfl rfl ?_
  refine q_chk (fun h21 => ?_)
  refine q_chk (fun h22 => ?_)
  refine p_lald C dX8_paysClaim_52 h21 h22 ?_
  refine q_cVL (As := (fun P => [.int v1, .long (mJ X2_2 (mR X2_2 (mR X2_2 r0 5) 2) (w1).toNatClampNeg)])) C [] (sX3_sharesFor ((mR X2_2 r0 3)) v1 ((mJ X2_2 (mR X2_2 (mR X2_2 r0 5) 2) (w1).toNatClampNeg))) fcX8_302 rfl (fun _ => rfl) ⟨Nat.le_of_ble_eq_true rfl, Nat.le_of_ble_eq_true rfl⟩ ⟨Nat.le_of_ble_eq_true rfl, Nat.le_of_ble_eq_true rfl⟩ (Nat.le_of_ble_eq_true rfl) dX8_paysClaim_53 h15 (fun w23 X53_24 => ?_)
  refine q_lstore C [(7, .long w23), (6, .int v6_37), (5, .int v5_26), (4, .int v4_15), (3, .int w1), (0, .ref (q_P E + r0)), (1, .int v1), (2, .int v2)] dX8_paysClaim_56 (Nat.le_of_ble_eq_true rfl) rfl ?_
  refine q_aload_n C 5 dX8_paysClaim_58 rfl rfl ?_
  refine q_iload C 3 dX8_paysClaim_59 rfl ?_
  refine q_iload C 1 dX8_paysClaim_61 rfl ?_
  refine q_chk (fun h27 => ?_)
  refine q_cVL (As := (fun P => [.int v4_15, .int v6_37])) C [] (sX8_sharesOf r0 v4_15 v6_37) fcX8_236 rfl (fun _ => rfl) ⟨Nat.le_of_ble_eq_true rfl, Nat.le_of_ble_eq_true rfl⟩ ⟨Nat.le_of_ble_eq_true rfl, Nat.le_of_ble_eq_true rfl⟩ (Nat.le_of_ble_eq_true rfl) dX8_paysClaim_63 h27 (fun w25 X63_26 => ?_)
  refine q_lload C 0 dX8_paysClaim_66 rfl ?_
  refine q_lcmp C dX8_paysClaim_68 ?_
  refine q_if_ge C 74 dX8_paysClaim_69 (by decide) (fun _ => ?_) (fun _ => ?_)
  · refine q_aload_n C 5 dX8_paysClaim_74 rfl rfl ?_
    refine q_iload C 3 dX8_paysClaim_75 rfl ?_
    refine q_iload C 1 dX8_paysClaim_77 rfl ?_
    refine q_lload C 0 dX8_paysClaim_79 rfl ?_
    refine q_lneg C dX8_paysClaim_81 ?_
    refine q_chk (fun h30 => ?_)
    refine q_cVV (As := (fun P => [.int v4_15, .int v6_37, .long (-w23)])) C [] (sX8_addShares r0 v4_15 v6_37 ((-w23))) fcX8_241 rfl (fun _ => rfl) ⟨Nat.le_of_ble_eq_true rfl, Nat.le_of_ble_eq_true rfl⟩ ⟨Nat.le_of_ble_eq_true rfl, Nat.le_of_ble_eq_true rfl⟩ (Nat.le_of_ble_eq_true rfl) dX8_paysClaim_82 h30 (fun _ X82_29 => ?_)
    refine q_aload_n C 5 dX8_paysClaim_85 rfl rfl ?_
    refine q_iload C 2 dX8_paysClaim_86 rfl ?_
    refine q_iload C 1 dX8_paysClaim_88 rfl ?_
    refine q_lload C 0 dX8_paysClaim_90 rfl ?_
    refine q_chk (fun h33 => ?_)
    refine q_cVV (As := (fun P => [.int v5_26, .int v6_37, .long w23])) C [] (sX8_addShares r0 v5_26 v6_37 w23) fcX8_241 rfl (fun _ => rfl) ⟨Nat.le_of_ble_eq_true rfl, Nat.le_of_ble_eq_true rfl⟩ ⟨Nat.le_of_ble_eq_true rfl, Nat.le_of_ble_eq_true rfl⟩ (Nat.le_of_ble_eq_true rfl) dX8_paysClaim_92 h33 (fun _ X92_32 => ?_)
    refine q_aload_n C 5 dX8_paysClaim_95 rfl rfl ?_
    refine q_iload C 3 dX8_paysClaim_96 rfl ?_
    refine q_iload C 2 dX8_paysClaim_98 rfl ?_
    refine q_aload_n C 5 dX8_paysClaim_100 rfl rfl ?_
    refine q_chk (fun h34 => ?_)
    refine q_chk (fun h35 => ?_)
    refine p_getR C fgX8_28 rfl dX8_paysClaim_101 h34 h35 ?_
    refine q_iload_n C 6 dX8_paysClaim_104 rfl rfl ?_
    refine q_aload_n C 5 dX8_paysClaim_105 rfl rfl ?_
    refine q_chk (fun h36 => ?_)
    refine p_getR C fgX8_42 rfl dX8_paysClaim_106 h34 h36 ?_
    refine q_chk (fun h37 => ?_)
    refine q_chk (fun h38 => ?_)
    refine p_getR C fgX8_334 rfl dX8_paysClaim_109 h37 h38 ?_
    refine q_iload_n C 4 dX8_paysClaim_112 rfl rfl ?_
    refine q_chk (fun h39 => ?_)
    refine q_chk (fun h40 => ?_)
    refine p_lald C dX8_paysClaim_113 h39 h40 ?_
    refine q_chk (fun h43 => ?_)
    refine q_cVL (As := (fun P => [.int v1, .long (mJ X92_32 (mR X92_32 (mR X92_32 r0 5) 2) (w1).toNatClampNeg)])) C [.int v5_26, .int v4_15, .ref (q_P E + r0)] (sX3_moneyFor ((mR X92_32 r0 3)) v1 ((mJ X92_32 (mR X92_32 (mR X92_32 r0 5) 2) (w1).toNatClampNeg))) fcX8_306 rfl (fun _ => rfl) ⟨Nat.le_of_ble_eq_true rfl, Nat.le_of_ble_eq_true rfl⟩ ⟨Nat.le_of_ble_eq_true rfl, Nat.le_of_ble_eq_true rfl⟩ (Nat.le_of_ble_eq_true rfl) dX8_paysClaim_114 h43 (fun w41 X114_42 => ?_)
    refine q_chk (fun h46 => ?_)
    refine q_cVV (As := (fun P => [.int v4_15, .int v5_26, .long w41])) C [] (sX8_moveMoney r0 v4_15 v5_26 w41) fcX8_250 rfl (fun _ => rfl) ⟨Nat.le_of_ble_eq_true rfl, Nat.le_of_ble_eq_true rfl⟩ ⟨Nat.le_of_ble_eq_true rfl, Nat.le_of_ble_eq_true rfl⟩ (Nat.le_of_ble_eq_true rfl) dX8_paysClaim_117 h46 (fun _ X117_45 => ?_)
    refine q_aload_n C 5 dX8_paysClaim_120 rfl rfl ?_
    refine q_chk (fun h47 => ?_)
    refine q_chk (fun h48 => ?_)
    refine p_getR C fgX8_42 rfl dX8_paysClaim_121 h47 h48 ?_
    refine q_chk (fun h49 => ?_)
    refine q_chk (fun h50 => ?_)
    refine p_getR C fgX8_324 rfl dX8_paysClaim_124 h49 h50 ?_
    refine q_iload_n C 4 dX8_paysClaim_127 rfl rfl ?_
    refine q_iconst C (1 : Int32) dX8_paysClaim_128 rfl ?_
    refine q_chk (fun h52 => ?_)
    refine q_chk (fun h53 => ?_)
    refine p_iast C dX8_paysClaim_129 h52 h53 ?_
    refine q_nmX (fun X129_51 => ?_)
    refine q_iconst C (1 : Int32) dX8_paysClaim_130 rfl ?_
    exact q_zret1 C dX8_paysClaim_131
  · refine q_iconst C (0 : Int32) dX8_paysClaim_72 rfl ?_
    exact q_zret0 C dX8_paysClaim_73
/-! RecordClaims$State.payOut(I)V -/
abbrev cX8_payOut : ByteArray := prog_10_method_28_code
def yX8_payOut : MethodName := ⟨RX8, "payOut", "(I)V"⟩
theorem dX8_payOut_0 : decode cX8_payOut 0 = .ok (.iconst 0, 1) := by decide +kernel
theorem dX8_payOut_1 : decode cX8_payOut 1 = .ok (.istore_n 2, 1) := by decide +kernel
theorem dX8_payOut_2 : decode cX8_payOut 2 = .ok (.iload_n 2, 1) := by decide +kernel
theorem dX8_payOut_3 : decode cX8_payOut 3 = .ok (.aload_n 0, 1) := by decide +kernel
theorem dX8_payOut_4 : decode cX8_payOut 4 = .ok (.getfield 63, 3) := by decide +kernel
theorem dX8_payOut_7 : decode cX8_payOut 7 = .ok (.if_icmp .ge 37, 3) := by decide +kernel
theorem dX8_payOut_10 : decode cX8_payOut 10 = .ok (.aload_n 0, 1) := by decide +kernel
theorem dX8_payOut_11 : decode cX8_payOut 11 = .ok (.iload_n 2, 1) := by decide +kernel
theorem dX8_payOut_12 : decode cX8_payOut 12 = .ok (.iload_n 1, 1) := by decide +kernel
theorem dX8_payOut_13 : decode cX8_payOut 13 = .ok (.aload_n 0, 1) := by decide +kernel
theorem dX8_payOut_14 : decode cX8_payOut 14 = .ok (.getfield 28, 3) := by decide +kernel
theorem dX8_payOut_17 : decode cX8_payOut 17 = .ok (.getfield 274, 3) := by decide +kernel
theorem dX8_payOut_20 : decode cX8_payOut 20 = .ok (.iload_n 1, 1) := by decide +kernel
theorem dX8_payOut_21 : decode cX8_payOut 21 = .ok (.iaload, 1) := by decide +kernel
theorem dX8_payOut_22 : decode cX8_payOut 22 = .ok (.aload_n 0, 1) := by decide +kernel
theorem dX8_payOut_23 : decode cX8_payOut 23 = .ok (.getfield 35, 3) := by decide +kernel
theorem dX8_payOut_26 : decode cX8_payOut 26 = .ok (.getfield 271, 3) := by decide +kernel
theorem dX8_payOut_29 : decode cX8_payOut 29 = .ok (.iload_n 1, 1) := by decide +kernel
theorem dX8_payOut_30 : decode cX8_payOut 30 = .ok (.iload_n 2, 1) := by decide +kernel
theorem dX8_payOut_31 : decode cX8_payOut 31 = .ok (.invokestatic 164, 3) := by decide +kernel
theorem dX8_payOut_34 : decode cX8_payOut 34 = .ok (.laload, 1) := by decide +kernel
theorem dX8_payOut_35 : decode cX8_payOut 35 = .ok (.invokevirtual 291, 3) := by decide +kernel
theorem dX8_payOut_38 : decode cX8_payOut 38 = .ok (.iinc 2 1, 3) := by decide +kernel
theorem dX8_payOut_41 : decode cX8_payOut 41 = .ok (.goto (-39), 3) := by decide +kernel
theorem dX8_payOut_44 : decode cX8_payOut 44 = .ok (.iconst 0, 1) := by decide +kernel
theorem dX8_payOut_45 : decode cX8_payOut 45 = .ok (.istore_n 2, 1) := by decide +kernel
theorem dX8_payOut_46 : decode cX8_payOut 46 = .ok (.iload_n 2, 1) := by decide +kernel
theorem dX8_payOut_47 : decode cX8_payOut 47 = .ok (.aload_n 0, 1) := by decide +kernel
theorem dX8_payOut_48 : decode cX8_payOut 48 = .ok (.getfield 28, 3) := by decide +kernel
theorem dX8_payOut_51 : decode cX8_payOut 51 = .ok (.getfield 88, 3) := by decide +kernel
theorem dX8_payOut_54 : decode cX8_payOut 54 = .ok (.iload_n 1, 1) := by decide +kernel
theorem dX8_payOut_55 : decode cX8_payOut 55 = .ok (.iaload, 1) := by decide +kernel
theorem dX8_payOut_56 : decode cX8_payOut 56 = .ok (.if_icmp .ge 45, 3) := by decide +kernel
theorem dX8_payOut_59 : decode cX8_payOut 59 = .ok (.aload_n 0, 1) := by decide +kernel
theorem dX8_payOut_60 : decode cX8_payOut 60 = .ok (.iload_n 1, 1) := by decide +kernel
theorem dX8_payOut_61 : decode cX8_payOut 61 = .ok (.iload_n 2, 1) := by decide +kernel
theorem dX8_payOut_62 : decode cX8_payOut 62 = .ok (.invokevirtual 321, 3) := by decide +kernel
theorem dX8_payOut_65 : decode cX8_payOut 65 = .ok (.ifCond .ne 30, 3) := by decide +kernel
theorem dX8_payOut_68 : decode cX8_payOut 68 = .ok (.aload_n 0, 1) := by decide +kernel
theorem dX8_payOut_69 : decode cX8_payOut 69 = .ok (.getfield 42, 3) := by decide +kernel
theorem dX8_payOut_72 : decode cX8_payOut 72 = .ok (.getfield 324, 3) := by decide +kernel
theorem dX8_payOut_75 : decode cX8_payOut 75 = .ok (.iload_n 1, 1) := by decide +kernel
theorem dX8_payOut_76 : decode cX8_payOut 76 = .ok (.iload_n 2, 1) := by decide +kernel
theorem dX8_payOut_77 : decode cX8_payOut 77 = .ok (.invokestatic 284, 3) := by decide +kernel
theorem dX8_payOut_80 : decode cX8_payOut 80 = .ok (.iconst 2, 1) := by decide +kernel
theorem dX8_payOut_81 : decode cX8_payOut 81 = .ok (.iastore, 1) := by decide +kernel
theorem dX8_payOut_82 : decode cX8_payOut 82 = .ok (.aload_n 0, 1) := by decide +kernel
theorem dX8_payOut_83 : decode cX8_payOut 83 = .ok (.getfield 28, 3) := by decide +kernel
theorem dX8_payOut_86 : decode cX8_payOut 86 = .ok (.getfield 325, 3) := by decide +kernel
theorem dX8_payOut_89 : decode cX8_payOut 89 = .ok (.iload_n 1, 1) := by decide +kernel
theorem dX8_payOut_90 : decode cX8_payOut 90 = .ok (.dup2, 1) := by decide +kernel
theorem dX8_payOut_91 : decode cX8_payOut 91 = .ok (.iaload, 1) := by decide +kernel
theorem dX8_payOut_92 : decode cX8_payOut 92 = .ok (.iconst 1, 1) := by decide +kernel
theorem dX8_payOut_93 : decode cX8_payOut 93 = .ok (.iadd, 1) := by decide +kernel
theorem dX8_payOut_94 : decode cX8_payOut 94 = .ok (.iastore, 1) := by decide +kernel
theorem dX8_payOut_95 : decode cX8_payOut 95 = .ok (.iinc 2 1, 3) := by decide +kernel
theorem dX8_payOut_98 : decode cX8_payOut 98 = .ok (.goto (-52), 3) := by decide +kernel
theorem dX8_payOut_101 : decode cX8_payOut 101 = .ok (.return_, 1) := by decide +kernel
theorem fcX8_321 : q_LV RX8 321 yX8_paysClaim cX8_paysClaim 9 (some .boolean) 2 8 := ⟨q_tb 939 (by decide +kernel) rfl, q_tb 941 (by decide +kernel) rfl, q_tbs (q := (yX8_paysClaim, 9)) 38 (by decide +kernel) rfl, q_tb 5 (by decide +kernel) rfl, q_tb 942 (by decide +kernel) rfl, ⟨by decide +kernel, by decide +kernel, by decide +kernel⟩, TX8, 9, rfl⟩
theorem fgX8_325 : q_Fg RX8 325 3 13 := q_Fg.of (C := RX3) (T := TX3) (N := 17) rfl (by decide) inX3 295 (by decide +kernel) rfl rfl
def fX8_payOut_L95 (n : Nat) (k46 : Nat → Int32 → Int32 → Mm → Option (Unit × Mm)) (r0 : Nat) (v1 : Int32) (v2 : Int32) (X : Mm) : Option (Unit × Mm) :=
nm (v2 + (1 : Int32)) fun v2_95 =>
k46 r0 v1 v2_95 X
def fX8_payOut_L46 (n : Nat) : Nat → Nat → Int32 → Int32 → Mm → Option (Unit × Mm)
| 0, _, _, _, _ => none
| j + 1, r0, v1, v2, X =>
if mT X r0 = 8 then
if mR X r0 3 ≠ 0 then
if mT X (mR X r0 3) = 3 then
if mR X (mR X r0 3) 12 ≠ 0 then
if mT X (mR X (mR X r0 3) 12) = 14 then
if q_b X (mR X (mR X r0 3) 12) v1 then
if (mI X (mR X (mR X r0 3) 12) (v1).toNatClampNeg) ≤ v2 then (
some ((), X)
) else (
bd (fX8_paysClaim r0 v1 v2 X) fun w8 X62_9 =>
if w8 = 0 then (
if mT X62_9 r0 = 8 then
if mR X62_9 r0 5 ≠ 0 then
if mT X62_9 (mR X62_9 r0 5) = 1 then
if mR X62_9 (mR X62_9 r0 5) 4 ≠ 0 then
bd (fX1_at v1 v2 X62_9) fun w14 X77_15 =>
if mT X77_15 (mR X62_9 (mR X62_9 r0 5) 4) = 14 then
if q_b X77_15 (mR X62_9 (mR X62_9 r0 5) 4) w14 then
nm (sI X77_15 (mR X62_9 (mR X62_9 r0 5) 4) (w14).toNatClampNeg (2 : Int32)) fun X81_16 =>
if mT X81_16 r0 = 8 then
if mR X81_16 r0 3 ≠ 0 then
if mT X81_16 (mR X81_16 r0 3) = 3 then
if mR X81_16 (mR X81_16 r0 3) 13 ≠ 0 then
if mT X81_16 (mR X81_16 (mR X81_16 r0 3) 13) = 14 then
if q_b X81_16 (mR X81_16 (mR X81_16 r0 3) 13) v1 then
nm (sI X81_16 (mR X81_16 (mR X81_16 r0 3) 13) (v1).toNatClampNeg ((mI X81_16 (mR X81_16 (mR X81_16 r0 3) 13) (v1).toNatClampNeg) + (1 : Int32))) fun X94_25 =>
fX8_payOut_L95 n (fX8_payOut_L46 n j) r0 v1 v2 X94_25
else none
else none
else none
else none
else none
else none
else none
else none
else none
else none
else none
else none
) else (
fX8_payOut_L95 n (fX8_payOut_L46 n j) r0 v1 v2 X62_9
)
)
else none
else none
else none
else none
else none
else none
def fX8_payOut_L2 (n : Nat) : Nat → Nat → Int32 → Int32 → Mm → Option (Unit × Mm)
| 0, _, _, _, _ => none
| j + 1, r0, v1, v2, X =>
if mT X r0 = 8 then
if (mI X r0 6) ≤ v2 then (
fX8_payOut_L46 n n r0 v1 (0 : Int32) X
) else (
if mR X r0 3 ≠ 0 then
if mT X (mR X r0 3) = 3 then
if mR X (mR X r0 3) 1 ≠ 0 then
if mT X (mR X (mR X r0 3) 1) = 14 then
if q_b X (mR X (mR X r0 3) 1) v1 then
if mR X r0 4 ≠ 0 then
if mT X (mR X r0 4) = 6 then
if mR X (mR X r0 4) 0 ≠ 0 then
bd (fX6_at v1 v2 X) fun w34 X31_35 =>
if mT X31_35 (mR X (mR X r0 4) 0) = 15 then
if q_b X31_35 (mR X (mR X r0 4) 0) w34 then
if mT X31_35 r0 = 8 then
bd (fX8_giveTo r0 v2 v1 ((mI X (mR X (mR X r0 3) 1) (v1).toNatClampNeg)) ((mJ X31_35 (mR X (mR X r0 4) 0) (w34).toNatClampNeg)) X31_35) fun _ X35_39 =>
nm (v2 + (1 : Int32)) fun v2_38 =>
(fX8_payOut_L2 n j) r0 v1 v2_38 X35_39
else none
else none
else none
else none
else none
else none
else none
else none
else none
else none
else none
)
else none
def fX8_payOut (n : Nat) (r0 : Nat) (v1 : Int32) (X : Mm) : Option (Unit × Mm) :=
fX8_payOut_L2 n n r0 v1 (0 : Int32) X
theorem gX8_payOut_L95 {E : q_E} {X0 : Mm} (C : Cx E cX8_payOut RX8 3 none (q_rm 2 54 0 0) X0) (n : Nat) (k46 : Nat → Int32 → Int32 → Mm → Option (Unit × Mm)) (hk46 : ∀ (r0 : Nat) (v1 : Int32) (v2 : Int32) (X : Mm), Sm E (q_fin E q_eV X0 0 0) 0 0 46 [(0, .ref (q_P E + r0)), (1, .int v1), (2, .int v2)] [] X (k46 r0 v1 v2 X)) (r0 : Nat) (v1 : Int32) (v2 : Int32) (X : Mm) : Sm E (q_fin E q_eV X0 0 0) 0 0 95 [(0, .ref (q_P E + r0)), (1, .int v1), (2, .int v2)] [] X (fX8_payOut_L95 n k46 r0 v1 v2 X) := by
  unfold fX8_payOut_L95
  refine q_iincN C (1 : Int32) 2 (fun v2_95 => [(2, .int v2_95), (0, .ref (q_P E + r0)), (1, .int v1)]) dX8_payOut_95 rfl rfl (Nat.le_of_ble_eq_true rfl) (fun _ => rfl) (fun v2_95 => ?_)
  refine q_goto C 46 dX8_payOut_98 (by decide) ?_
  refine q_sub C [(0, .ref (q_P E + r0)), (1, .int v1), (2, .int v2_95)] [1, 2, 0] rfl ?_
  exact hk46 r0 v1 v2_95 X
theorem gX8_payOut_L46 {E : q_E} {X0 : Mm} (C : Cx E cX8_payOut RX8 3 none (q_rm 2 54 0 0) X0) (n : Nat) : ∀ (j : Nat) (r0 : Nat) (v1 : Int32) (v2 : Int32) (X : Mm), Sm E (q_fin E q_eV X0 0 0) 0 0 46 [(0, .ref (q_P E + r0)), (1, .int v1), (2, .int v2)] [] X (fX8_payOut_L46 n j r0 v1 v2 X) := by
  intro j
  induction j with
  | zero => intros; exact Sm.none
  | succ j ih =>
    intro r0 v1 v2 X
    rw [fX8_payOut_L46]
    refine q_iload_n C 2 dX8_payOut_46 rfl rfl ?_
    refine q_aload_n C 0 dX8_payOut_47 rfl rfl ?_
    refine q_chk (fun h2 => ?_)
    refine q_chk (fun h3 => ?_)
    refine p_getR C fgX8_28 rfl dX8_payOut_48 h2 h3 ?_
    refine q_chk (fun h4 => ?_)
    refine q_chk (fun h5 => ?_)
    refine p_getR C fgX8_88 rfl dX8_payOut_51 h4 h5 ?_
    refine q_iload_n C 1 dX8_payOut_54 rfl rfl ?_
    refine q_chk (fun h6 => ?_)
    refine q_chk (fun h7 => ?_)
    refine p_iald C dX8_payOut_55 h6 h7 ?_
    refine q_icmp_ge C 101 dX8_payOut_56 (by decide) (fun _ => ?_) (fun _ => ?_)
    · exact q_vret C dX8_payOut_101
    · refine q_aload_n C 0 dX8_payOut_59 rfl rfl ?_
      refine q_iload_n C 1 dX8_payOut_60 rfl rfl ?_
      refine q_iload_n C 2 dX8_payOut_61 rfl rfl ?_
      refine q_cVI (As := (fun P => [.int v1, .int v2])) C [] (sX8_paysClaim r0 v1 v2) fcX8_321 rfl (fun _ => rfl) ⟨Nat.le_of_ble_eq_true rfl, Nat.le_of_ble_eq_true rfl⟩ ⟨Nat.le_of_ble_eq_true rfl, Nat.le_of_ble_eq_true rfl⟩ (Nat.le_of_ble_eq_true rfl) dX8_payOut_62 h2 (fun w8 X62_9 => ?_)
      refine q_if_ne C 95 dX8_payOut_65 (by decide) (fun _ => ?_) (fun _ => ?_)
      · refine q_aload_n C 0 dX8_payOut_68 rfl rfl ?_
        refine q_chk (fun h10 => ?_)
        refine q_chk (fun h11 => ?_)
        refine p_getR C fgX8_42 rfl dX8_payOut_69 h10 h11 ?_
        refine q_chk (fun h12 => ?_)
        refine q_chk (fun h13 => ?_)
        refine p_getR C fgX8_324 rfl dX8_payOut_72 h12 h13 ?_
        refine q_iload_n C 1 dX8_payOut_75 rfl rfl ?_
        refine q_iload_n C 2 dX8_payOut_76 rfl rfl ?_
        refine q_cSI (As := (fun P => [.int v1, .int v2])) C [.ref (q_P E + (mR X62_9 (mR X62_9 r0 5) 4))] (sX1_at v1 v2) fcX8_284 rfl (fun _ => rfl) ⟨Nat.le_of_ble_eq_true rfl, Nat.le_of_ble_eq_true rfl⟩ ⟨Nat.le_of_ble_eq_true rfl, Nat.le_of_ble_eq_true rfl⟩ (Nat.le_of_ble_eq_true rfl) dX8_payOut_77 (fun w14 X77_15 => ?_)
        refine q_iconst C (2 : Int32) dX8_payOut_80 rfl ?_
        refine q_chk (fun h17 => ?_)
        refine q_chk (fun h18 => ?_)
        refine p_iast C dX8_payOut_81 h17 h18 ?_
        refine q_nmX (fun X81_16 => ?_)
        refine q_aload_n C 0 dX8_payOut_82 rfl rfl ?_
        refine q_chk (fun h19 => ?_)
        refine q_chk (fun h20 => ?_)
        refine p_getR C fgX8_28 rfl dX8_payOut_83 h19 h20 ?_
        refine q_chk (fun h21 => ?_)
        refine q_chk (fun h22 => ?_)
        refine p_getR C fgX8_325 rfl dX8_payOut_86 h21 h22 ?_
        refine q_iload_n C 1 dX8_payOut_89 rfl rfl ?_
        refine q_dup2_11 C dX8_payOut_90 rfl rfl ?_
        refine q_chk (fun h23 => ?_)
        refine q_chk (fun h24 => ?_)
        refine p_iald C dX8_payOut_91 h23 h24 ?_
        refine q_iconst C (1 : Int32) dX8_payOut_92 rfl ?_
        refine q_iadd C dX8_payOut_93 ?_
        refine p_iast C dX8_payOut_94 h23 h24 ?_
        refine q_nmX (fun X94_25 => ?_)
        exact gX8_payOut_L95 C n (fX8_payOut_L46 n j) ih r0 v1 v2 X94_25
      · exact gX8_payOut_L95 C n (fX8_payOut_L46 n j) ih r0 v1 v2 X62_9
theorem gX8_payOut_L2 {E : q_E} {X0 : Mm} (C : Cx E cX8_payOut RX8 3 none (q_rm 2 54 0 0) X0) (n : Nat) : ∀ (j : Nat) (r0 : Nat) (v1 : Int32) (v2 : Int32) (X : Mm), Sm E (q_fin E q_eV X0 0 0) 0 0 2 [(0, .ref (q_P E + r0)), (1, .int v1), (2, .int v2)] [] X (fX8_payOut_L2 n j r0 v1 v2 X) := by
  intro j
  induction j with
  | zero => intros; exact Sm.none
  | succ j ih =>
    intro r0 v1 v2 X
    rw [fX8_payOut_L2]
    refine q_iload_n C 2 dX8_payOut_2 rfl rfl ?_
    refine q_aload_n C 0 dX8_payOut_3 rfl rfl ?_
    refine q_chk (fun h1 => ?_)
    refine p_getI C fgX8_63 rfl dX8_payOut_4 h1 ?_
    refine q_icmp_ge C 44 dX8_payOut_7 (by decide) (fun _ => ?_) (fun _ => ?_)
    · refine q_iconst C (0 : Int32) dX8_payOut_44 rfl ?_
      refine q_istore_n C [(2, .int (0 : Int32)), (0, .ref (q_P E + r0)), (1, .int v1)] dX8_payOut_45 rfl (Nat.le_of_ble_eq_true rfl) rfl ?_
      refine q_sub C [(0, .ref (q_P E + r0)), (1, .int v1), (2, .int (0 : Int32))] [1, 2, 0] rfl ?_
      exact gX8_payOut_L46 C n n r0 v1 (0 : Int32) X
    · refine q_aload_n C 0 dX8_payOut_10 rfl rfl ?_
      refine q_iload_n C 2 dX8_payOut_11 rfl rfl ?_
      refine q_iload_n C 1 dX8_payOut_12 rfl rfl ?_
      refine q_aload_n C 0 dX8_payOut_13 rfl rfl ?_
      refine q_chk (fun h26 => ?_)
      refine p_getR C fgX8_28 rfl dX8_payOut_14 h1 h26 ?_
      refine q_chk (fun h27 => ?_)
      refine q_chk (fun h28 => ?_)
      refine p_getR C fgX8_274 rfl dX8_payOut_17 h27 h28 ?_
      refine q_iload_n C 1 dX8_payOut_20 rfl rfl ?_
      refine q_chk (fun h29 => ?_)
      refine q_chk (fun h30 => ?_)
      refine p_iald C dX8_payOut_21 h29 h30 ?_
      refine q_aload_n C 0 dX8_payOut_22 rfl rfl ?_
      refine q_chk (fun h31 => ?_)
      refine p_getR C fgX8_35 rfl dX8_payOut_23 h1 h31 ?_
      refine q_chk (fun h32 => ?_)
      refine q_chk (fun h33 => ?_)
      refine p_getR C fgX8_271 rfl dX8_payOut_26 h32 h33 ?_
      refine q_iload_n C 1 dX8_payOut_29 rfl rfl ?_
      refine q_iload_n C 2 dX8_payOut_30 rfl rfl ?_
      refine q_cSI (As := (fun P => [.int v1, .int v2])) C [.ref (q_P E + (mR X (mR X r0 4) 0)), .int (mI X (mR X (mR X r0 3) 1) (v1).toNatClampNeg), .int v1, .int v2, .ref (q_P E + r0)] (sX6_at v1 v2) fcX8_164 rfl (fun _ => rfl) ⟨Nat.le_of_ble_eq_true rfl, Nat.le_of_ble_eq_true rfl⟩ ⟨Nat.le_of_ble_eq_true rfl, Nat.le_of_ble_eq_true rfl⟩ (Nat.le_of_ble_eq_true rfl) dX8_payOut_31 (fun w34 X31_35 => ?_)
      refine q_chk (fun h36 => ?_)
      refine q_chk (fun h37 => ?_)
      refine p_lald C dX8_payOut_34 h36 h37 ?_
      refine q_chk (fun h40 => ?_)
      refine q_cVV (As := (fun P => [.int v2, .int v1, .int (mI X (mR X (mR X r0 3) 1) (v1).toNatClampNeg), .long (mJ X31_35 (mR X (mR X r0 4) 0) (w34).toNatClampNeg)])) C [] (sX8_giveTo r0 v2 v1 ((mI X (mR X (mR X r0 3) 1) (v1).toNatClampNeg)) ((mJ X31_35 (mR X (mR X r0 4) 0) (w34).toNatClampNeg))) fcX8_291 rfl (fun _ => rfl) ⟨Nat.le_of_ble_eq_true rfl, Nat.le_of_ble_eq_true rfl⟩ ⟨Nat.le_of_ble_eq_true rfl, Nat.le_of_ble_eq_true rfl⟩ (Nat.le_of_ble_eq_true rfl) dX8_payOut_35 h40 (fun _ X35_39 => ?_)
      refine q_iincN C (1 : Int32) 2 (fun v2_38 => [(2, .int v2_38), (0, .ref (q_P E + r0)), (1, .int v1)]) dX8_payOut_38 rfl rfl (Nat.le_of_ble_eq_true rfl) (fun _ => rfl) (fun v2_38 => ?_)
      refine q_goto C 2 dX8_payOut_41 (by decide) ?_
      refine q_sub C [(0, .ref (q_P E + r0)), (1, .int v1), (2, .int v2_38)] [1, 2, 0] rfl ?_
      exact ih r0 v1 v2_38 X35_39
theorem sX8_payOut (n : Nat) (r0 : Nat) (v1 : Int32) : q_Ct yX8_payOut cX8_payOut 3 none 2 54 0 0 q_eV (fun P => [.ref (P + r0), .int v1]) (fX8_payOut n r0 v1) := by
  refine q_meth (by decide +kernel) (fun P => Nat.le_of_ble_eq_true rfl) (fun E X C hn => ?_)
  show Sm E (q_fin E q_eV X 0 0) 0 0 0 [(0, .ref (q_P E + r0)), (1, .int v1)] [] X _
  unfold fX8_payOut
  refine q_iconst C (0 : Int32) dX8_payOut_0 rfl ?_
  refine q_istore_n C [(2, .int (0 : Int32)), (0, .ref (q_P E + r0)), (1, .int v1)] dX8_payOut_1 rfl (Nat.le_of_ble_eq_true rfl) rfl ?_
  refine q_sub C [(0, .ref (q_P E + r0)), (1, .int v1), (2, .int (0 : Int32))] [1, 2, 0] rfl ?_
  exact gX8_payOut_L2 C n n r0 v1 (0 : Int32) X
/-! RecordClaims$State.payEvents()V -/
abbrev cX8_payEvents : ByteArray := prog_10_method_27_code
def yX8_payEvents : MethodName := ⟨RX8, "payEvents", "()V"⟩
theorem dX8_payEvents_0 : decode cX8_payEvents 0 = .ok (.iconst 0, 1) := by decide +kernel
theorem dX8_payEvents_1 : decode cX8_payEvents 1 = .ok (.istore_n 1, 1) := by decide +kernel
theorem dX8_payEvents_2 : decode cX8_payEvents 2 = .ok (.iload_n 1, 1) := by decide +kernel
theorem dX8_payEvents_3 : decode cX8_payEvents 3 = .ok (.aload_n 0, 1) := by decide +kernel
theorem dX8_payEvents_4 : decode cX8_payEvents 4 = .ok (.getfield 28, 3) := by decide +kernel
theorem dX8_payEvents_7 : decode cX8_payEvents 7 = .ok (.getfield 59, 3) := by decide +kernel
theorem dX8_payEvents_10 : decode cX8_payEvents 10 = .ok (.if_icmp .ge 74, 3) := by decide +kernel
theorem dX8_payEvents_13 : decode cX8_payEvents 13 = .ok (.aload_n 0, 1) := by decide +kernel
theorem dX8_payEvents_14 : decode cX8_payEvents 14 = .ok (.getfield 28, 3) := by decide +kernel
theorem dX8_payEvents_17 : decode cX8_payEvents 17 = .ok (.getfield 257, 3) := by decide +kernel
theorem dX8_payEvents_20 : decode cX8_payEvents 20 = .ok (.iload_n 1, 1) := by decide +kernel
theorem dX8_payEvents_21 : decode cX8_payEvents 21 = .ok (.iaload, 1) := by decide +kernel
theorem dX8_payEvents_22 : decode cX8_payEvents 22 = .ok (.iconst 1, 1) := by decide +kernel
theorem dX8_payEvents_23 : decode cX8_payEvents 23 = .ok (.if_icmp .ne 55, 3) := by decide +kernel
theorem dX8_payEvents_26 : decode cX8_payEvents 26 = .ok (.aload_n 0, 1) := by decide +kernel
theorem dX8_payEvents_27 : decode cX8_payEvents 27 = .ok (.getfield 28, 3) := by decide +kernel
theorem dX8_payEvents_30 : decode cX8_payEvents 30 = .ok (.getfield 313, 3) := by decide +kernel
theorem dX8_payEvents_33 : decode cX8_payEvents 33 = .ok (.iload_n 1, 1) := by decide +kernel
theorem dX8_payEvents_34 : decode cX8_payEvents 34 = .ok (.iaload, 1) := by decide +kernel
theorem dX8_payEvents_35 : decode cX8_payEvents 35 = .ok (.aload_n 0, 1) := by decide +kernel
theorem dX8_payEvents_36 : decode cX8_payEvents 36 = .ok (.getfield 68, 3) := by decide +kernel
theorem dX8_payEvents_39 : decode cX8_payEvents 39 = .ok (.if_icmp .ne 39, 3) := by decide +kernel
theorem dX8_payEvents_42 : decode cX8_payEvents 42 = .ok (.aload_n 0, 1) := by decide +kernel
theorem dX8_payEvents_43 : decode cX8_payEvents 43 = .ok (.getfield 28, 3) := by decide +kernel
theorem dX8_payEvents_46 : decode cX8_payEvents 46 = .ok (.getfield 263, 3) := by decide +kernel
theorem dX8_payEvents_49 : decode cX8_payEvents 49 = .ok (.iload_n 1, 1) := by decide +kernel
theorem dX8_payEvents_50 : decode cX8_payEvents 50 = .ok (.iaload, 1) := by decide +kernel
theorem dX8_payEvents_51 : decode cX8_payEvents 51 = .ok (.iconst 2, 1) := by decide +kernel
theorem dX8_payEvents_52 : decode cX8_payEvents 52 = .ok (.if_icmp .ne 11, 3) := by decide +kernel
theorem dX8_payEvents_55 : decode cX8_payEvents 55 = .ok (.aload_n 0, 1) := by decide +kernel
theorem dX8_payEvents_56 : decode cX8_payEvents 56 = .ok (.iload_n 1, 1) := by decide +kernel
theorem dX8_payEvents_57 : decode cX8_payEvents 57 = .ok (.invokevirtual 315, 3) := by decide +kernel
theorem dX8_payEvents_60 : decode cX8_payEvents 60 = .ok (.goto 8, 3) := by decide +kernel
theorem dX8_payEvents_63 : decode cX8_payEvents 63 = .ok (.aload_n 0, 1) := by decide +kernel
theorem dX8_payEvents_64 : decode cX8_payEvents 64 = .ok (.iload_n 1, 1) := by decide +kernel
theorem dX8_payEvents_65 : decode cX8_payEvents 65 = .ok (.invokevirtual 318, 3) := by decide +kernel
theorem dX8_payEvents_68 : decode cX8_payEvents 68 = .ok (.aload_n 0, 1) := by decide +kernel
theorem dX8_payEvents_69 : decode cX8_payEvents 69 = .ok (.getfield 28, 3) := by decide +kernel
theorem dX8_payEvents_72 : decode cX8_payEvents 72 = .ok (.getfield 257, 3) := by decide +kernel
theorem dX8_payEvents_75 : decode cX8_payEvents 75 = .ok (.iload_n 1, 1) := by decide +kernel
theorem dX8_payEvents_76 : decode cX8_payEvents 76 = .ok (.iconst 2, 1) := by decide +kernel
theorem dX8_payEvents_77 : decode cX8_payEvents 77 = .ok (.iastore, 1) := by decide +kernel
theorem dX8_payEvents_78 : decode cX8_payEvents 78 = .ok (.iinc 1 1, 3) := by decide +kernel
theorem dX8_payEvents_81 : decode cX8_payEvents 81 = .ok (.goto (-79), 3) := by decide +kernel
theorem dX8_payEvents_84 : decode cX8_payEvents 84 = .ok (.return_, 1) := by decide +kernel
theorem fgX8_313 : q_Fg RX8 313 3 10 := q_Fg.of (C := RX3) (T := TX3) (N := 17) rfl (by decide) inX3 288 (by decide +kernel) rfl rfl
theorem fcX8_315 : q_LV RX8 315 yX8_payRights cX8_payRights 5 none 1 8 := ⟨q_tb 916 (by decide +kernel) rfl, q_tb 918 (by decide +kernel) rfl, q_tbs (q := (yX8_payRights, 9)) 33 (by decide +kernel) rfl, q_tb 5 (by decide +kernel) rfl, q_tb 919 (by decide +kernel) rfl, ⟨by decide +kernel, by decide +kernel, by decide +kernel⟩, TX8, 9, rfl⟩
theorem fcX8_318 : q_LV RX8 318 yX8_payOut cX8_payOut 3 none 1 8 := ⟨q_tb 935 (by decide +kernel) rfl, q_tb 937 (by decide +kernel) rfl, q_tbs (q := (yX8_payOut, 9)) 37 (by decide +kernel) rfl, q_tb 5 (by decide +kernel) rfl, q_tb 938 (by decide +kernel) rfl, ⟨by decide +kernel, by decide +kernel, by decide +kernel⟩, TX8, 9, rfl⟩
def fX8_payEvents_L78 (n : Nat) (k2 : Nat → Int32 → Mm → Option (Unit × Mm)) (r0 : Nat) (v1 : Int32) (X : Mm) : Option (Unit × Mm) :=
nm (v1 + (1 : Int32)) fun v1_78 =>
k2 r0 v1_78 X
def fX8_payEvents_L68 (n : Nat) (k2 : Nat → Int32 → Mm → Option (Unit × Mm)) (r0 : Nat) (v1 : Int32) (X : Mm) : Option (Unit × Mm) :=
if mT X r0 = 8 then
if mR X r0 3 ≠ 0 then
if mT X (mR X r0 3) = 3 then
if mR X (mR X r0 3) 11 ≠ 0 then
if mT X (mR X (mR X r0 3) 11) = 14 then
if q_b X (mR X (mR X r0 3) 11) v1 then
nm (sI X (mR X (mR X r0 3) 11) (v1).toNatClampNeg (2 : Int32)) fun X77_19 =>
fX8_payEvents_L78 n k2 r0 v1 X77_19
else none
else none
else none
else none
else none
else none
def fX8_payEvents_L2 (n : Nat) : Nat → Nat → Int32 → Mm → Option (Unit × Mm)
| 0, _, _, _ => none
| j + 1, r0, v1, X =>
if mT X r0 = 8 then
if mR X r0 3 ≠ 0 then
if mT X (mR X r0 3) = 3 then
if (mI X (mR X r0 3) 16) ≤ v1 then (
some ((), X)
) else (
if mR X (mR X r0 3) 11 ≠ 0 then
if mT X (mR X (mR X r0 3) 11) = 14 then
if q_b X (mR X (mR X r0 3) 11) v1 then
if (mI X (mR X (mR X r0 3) 11) (v1).toNatClampNeg) = (1 : Int32) then (
if mR X (mR X r0 3) 10 ≠ 0 then
if mT X (mR X (mR X r0 3) 10) = 14 then
if q_b X (mR X (mR X r0 3) 10) v1 then
if (mI X (mR X (mR X r0 3) 10) (v1).toNatClampNeg) = (mI X r0 8) then (
if mR X (mR X r0 3) 0 ≠ 0 then
if mT X (mR X (mR X r0 3) 0) = 14 then
if q_b X (mR X (mR X r0 3) 0) v1 then
if (mI X (mR X (mR X r0 3) 0) (v1).toNatClampNeg) = (2 : Int32) then (
bd (fX8_payRights n r0 v1 X) fun _ X57_14 =>
fX8_payEvents_L68 n (fX8_payEvents_L2 n j) r0 v1 X57_14
) else (
bd (fX8_payOut n r0 v1 X) fun _ X65_23 =>
fX8_payEvents_L68 n (fX8_payEvents_L2 n j) r0 v1 X65_23
)
else none
else none
else none
) else (
fX8_payEvents_L78 n (fX8_payEvents_L2 n j) r0 v1 X
)
else none
else none
else none
) else (
fX8_payEvents_L78 n (fX8_payEvents_L2 n j) r0 v1 X
)
else none
else none
else none
)
else none
else none
else none
def fX8_payEvents (n : Nat) (r0 : Nat) (X : Mm) : Option (Unit × Mm) :=
fX8_payEvents_L2 n n r0 (0 : Int32) X
theorem gX8_payEvents_L78 {E : q_E} {X0 : Mm} (C : Cx E cX8_payEvents RX8 2 none (q_rm 3 80 0 0) X0) (n : Nat) (k2 : Nat → Int32 → Mm → Option (Unit × Mm)) (hk2 : ∀ (r0 : Nat) (v1 : Int32) (X : Mm), Sm E (q_fin E q_eV X0 0 0) 0 0 2 [(0, .ref (q_P E + r0)), (1, .int v1)] [] X (k2 r0 v1 X)) (r0 : Nat) (v1 : Int32) (X : Mm) : Sm E (q_fin E q_eV X0 0 0) 0 0 78 [(0, .ref (q_P E + r0)), (1, .int v1)] [] X (fX8_payEvents_L78 n k2 r0 v1 X) := by
  unfold fX8_payEvents_L78
  refine q_iincN C (1 : Int32) 1 (fun v1_78 => [(1, .int v1_78), (0, .ref (q_P E + r0))]) dX8_payEvents_78 rfl rfl (Nat.le_of_ble_eq_true rfl) (fun _ => rfl) (fun v1_78 => ?_)
  refine q_goto C 2 dX8_payEvents_81 (by decide) ?_
  refine q_sub C [(0, .ref (q_P E + r0)), (1, .int v1_78)] [1, 0] rfl ?_
  exact hk2 r0 v1_78 X
theorem gX8_payEvents_L68 {E : q_E} {X0 : Mm} (C : Cx E cX8_payEvents RX8 2 none (q_rm 3 80 0 0) X0) (n : Nat) (k2 : Nat → Int32 → Mm → Option (Unit × Mm)) (hk2 : ∀ (r0 : Nat) (v1 : Int32) (X : Mm), Sm E (q_fin E q_eV X0 0 0) 0 0 2 [(0, .ref (q_P E + r0)), (1, .int v1)] [] X (k2 r0 v1 X)) (r0 : Nat) (v1 : Int32) (X : Mm) : Sm E (q_fin E q_eV X0 0 0) 0 0 68 [(0, .ref (q_P E + r0)), (1, .int v1)] [] X (fX8_payEvents_L68 n k2 r0 v1 X) := by
  unfold fX8_payEvents_L68
  refine q_aload_n C 0 dX8_payEvents_68 rfl rfl ?_
  refine q_chk (fun h15 => ?_)
  refine q_chk (fun h16 => ?_)
  refine p_getR C fgX8_28 rfl dX8_payEvents_69 h15 h16 ?_
  refine q_chk (fun h17 => ?_)
  refine q_chk (fun h18 => ?_)
  refine p_getR C fgX8_257 rfl dX8_payEvents_72 h17 h18 ?_
  refine q_iload_n C 1 dX8_payEvents_75 rfl rfl ?_
  refine q_iconst C (2 : Int32) dX8_payEvents_76 rfl ?_
  refine q_chk (fun h20 => ?_)
  refine q_chk (fun h21 => ?_)
  refine p_iast C dX8_payEvents_77 h20 h21 ?_
  refine q_nmX (fun X77_19 => ?_)
  exact gX8_payEvents_L78 C n k2 hk2 r0 v1 X77_19
theorem gX8_payEvents_L2 {E : q_E} {X0 : Mm} (C : Cx E cX8_payEvents RX8 2 none (q_rm 3 80 0 0) X0) (n : Nat) : ∀ (j : Nat) (r0 : Nat) (v1 : Int32) (X : Mm), Sm E (q_fin E q_eV X0 0 0) 0 0 2 [(0, .ref (q_P E + r0)), (1, .int v1)] [] X (fX8_payEvents_L2 n j r0 v1 X) := by
  intro j
  induction j with
  | zero => intros; exact Sm.none
  | succ j ih =>
    intro r0 v1 X
    rw [fX8_payEvents_L2]
    refine q_iload_n C 1 dX8_payEvents_2 rfl rfl ?_
    refine q_aload_n C 0 dX8_payEvents_3 rfl rfl ?_
    refine q_chk (fun h1 => ?_)
    refine q_chk (fun h2 => ?_)
    refine p_getR C fgX8_28 rfl dX8_payEvents_4 h1 h2 ?_
    refine q_chk (fun h3 => ?_)
    refine p_getI C fgX8_59 rfl dX8_payEvents_7 h3 ?_
    refine q_icmp_ge C 84 dX8_payEvents_10 (by decide) (fun _ => ?_) (fun _ => ?_)
    · exact q_vret C dX8_payEvents_84
    · refine q_aload_n C 0 dX8_payEvents_13 rfl rfl ?_
      refine p_getR C fgX8_28 rfl dX8_payEvents_14 h1 h2 ?_
      refine q_chk (fun h4 => ?_)
      refine p_getR C fgX8_257 rfl dX8_payEvents_17 h3 h4 ?_
      refine q_iload_n C 1 dX8_payEvents_20 rfl rfl ?_
      refine q_chk (fun h5 => ?_)
      refine q_chk (fun h6 => ?_)
      refine p_iald C dX8_payEvents_21 h5 h6 ?_
      refine q_iconst C (1 : Int32) dX8_payEvents_22 rfl ?_
      refine q_icmp_ne C 78 dX8_payEvents_23 (by decide) (fun _ => ?_) (fun _ => ?_)
      · refine q_aload_n C 0 dX8_payEvents_26 rfl rfl ?_
        refine p_getR C fgX8_28 rfl dX8_payEvents_27 h1 h2 ?_
        refine q_chk (fun h7 => ?_)
        refine p_getR C fgX8_313 rfl dX8_payEvents_30 h3 h7 ?_
        refine q_iload_n C 1 dX8_payEvents_33 rfl rfl ?_
        refine q_chk (fun h8 => ?_)
        refine q_chk (fun h9 => ?_)
        refine p_iald C dX8_payEvents_34 h8 h9 ?_
        refine q_aload_n C 0 dX8_payEvents_35 rfl rfl ?_
        refine p_getI C fgX8_68 rfl dX8_payEvents_36 h1 ?_
        refine q_icmp_ne C 78 dX8_payEvents_39 (by decide) (fun _ => ?_) (fun _ => ?_)
        · refine q_aload_n C 0 dX8_payEvents_42 rfl rfl ?_
          refine p_getR C fgX8_28 rfl dX8_payEvents_43 h1 h2 ?_
          refine q_chk (fun h10 => ?_)
          refine p_getR C fgX8_263 rfl dX8_payEvents_46 h3 h10 ?_
          refine q_iload_n C 1 dX8_payEvents_49 rfl rfl ?_
          refine q_chk (fun h11 => ?_)
          refine q_chk (fun h12 => ?_)
          refine p_iald C dX8_payEvents_50 h11 h12 ?_
          refine q_iconst C (2 : Int32) dX8_payEvents_51 rfl ?_
          refine q_icmp_ne C 63 dX8_payEvents_52 (by decide) (fun _ => ?_) (fun _ => ?_)
          · refine q_aload_n C 0 dX8_payEvents_55 rfl rfl ?_
            refine q_iload_n C 1 dX8_payEvents_56 rfl rfl ?_
            refine q_cVV (As := (fun P => [.int v1])) C [] (sX8_payRights n r0 v1) fcX8_315 rfl (fun _ => rfl) ⟨Nat.le_of_ble_eq_true rfl, Nat.le_of_ble_eq_true rfl⟩ ⟨Nat.le_of_ble_eq_true rfl, Nat.le_of_ble_eq_true rfl⟩ (Nat.le_of_ble_eq_true rfl) dX8_payEvents_57 h1 (fun _ X57_14 => ?_)
            refine q_goto C 68 dX8_payEvents_60 (by decide) ?_
            exact gX8_payEvents_L68 C n (fX8_payEvents_L2 n j) ih r0 v1 X57_14
          · refine q_aload_n C 0 dX8_payEvents_63 rfl rfl ?_
            refine q_iload_n C 1 dX8_payEvents_64 rfl rfl ?_
            refine q_cVV (As := (fun P => [.int v1])) C [] (sX8_payOut n r0 v1) fcX8_318 rfl (fun _ => rfl) ⟨Nat.le_of_ble_eq_true rfl, Nat.le_of_ble_eq_true rfl⟩ ⟨Nat.le_of_ble_eq_true rfl, Nat.le_of_ble_eq_true rfl⟩ (Nat.le_of_ble_eq_true rfl) dX8_payEvents_65 h1 (fun _ X65_23 => ?_)
            exact gX8_payEvents_L68 C n (fX8_payEvents_L2 n j) ih r0 v1 X65_23
        · exact gX8_payEvents_L78 C n (fX8_payEvents_L2 n j) ih r0 v1 X
      · exact gX8_payEvents_L78 C n (fX8_payEvents_L2 n j) ih r0 v1 X
theorem sX8_payEvents (n : Nat) (r0 : Nat) : q_Ct yX8_payEvents cX8_payEvents 2 none 3 80 0 0 q_eV (fun P => [.ref (P + r0)]) (fX8_payEvents n r0) := by
  refine q_meth (by decide +kernel) (fun P => Nat.le_of_ble_eq_true rfl) (fun E X C hn => ?_)
  show Sm E (q_fin E q_eV X 0 0) 0 0 0 [(0, .ref (q_P E + r0))] [] X _
  unfold fX8_payEvents
  refine q_iconst C (0 : Int32) dX8_payEvents_0 rfl ?_
  refine q_istore_n C [(1, .int (0 : Int32)), (0, .ref (q_P E + r0))] dX8_payEvents_1 rfl (Nat.le_of_ble_eq_true rfl) rfl ?_
  refine q_sub C [(0, .ref (q_P E + r0)), (1, .int (0 : Int32))] [1, 0] rfl ?_
  exact gX8_payEvents_L2 C n n r0 (0 : Int32) X
/-! RecordClaims$State.payWaiting()V -/
abbrev cX8_payWaiting : ByteArray := prog_10_method_30_code
def yX8_payWaiting : MethodName := ⟨RX8, "payWaiting", "()V"⟩
theorem dX8_payWaiting_0 : decode cX8_payWaiting 0 = .ok (.iconst 0, 1) := by decide +kernel
theorem dX8_payWaiting_1 : decode cX8_payWaiting 1 = .ok (.istore_n 1, 1) := by decide +kernel
theorem dX8_payWaiting_2 : decode cX8_payWaiting 2 = .ok (.iload_n 1, 1) := by decide +kernel
theorem dX8_payWaiting_3 : decode cX8_payWaiting 3 = .ok (.aload_n 0, 1) := by decide +kernel
theorem dX8_payWaiting_4 : decode cX8_payWaiting 4 = .ok (.getfield 28, 3) := by decide +kernel
theorem dX8_payWaiting_7 : decode cX8_payWaiting 7 = .ok (.getfield 59, 3) := by decide +kernel
theorem dX8_payWaiting_10 : decode cX8_payWaiting 10 = .ok (.if_icmp .ge 81, 3) := by decide +kernel
theorem dX8_payWaiting_13 : decode cX8_payWaiting 13 = .ok (.iconst 0, 1) := by decide +kernel
theorem dX8_payWaiting_14 : decode cX8_payWaiting 14 = .ok (.istore_n 2, 1) := by decide +kernel
theorem dX8_payWaiting_15 : decode cX8_payWaiting 15 = .ok (.iload_n 2, 1) := by decide +kernel
theorem dX8_payWaiting_16 : decode cX8_payWaiting 16 = .ok (.aload_n 0, 1) := by decide +kernel
theorem dX8_payWaiting_17 : decode cX8_payWaiting 17 = .ok (.getfield 28, 3) := by decide +kernel
theorem dX8_payWaiting_20 : decode cX8_payWaiting 20 = .ok (.getfield 88, 3) := by decide +kernel
theorem dX8_payWaiting_23 : decode cX8_payWaiting 23 = .ok (.iload_n 1, 1) := by decide +kernel
theorem dX8_payWaiting_24 : decode cX8_payWaiting 24 = .ok (.iaload, 1) := by decide +kernel
theorem dX8_payWaiting_25 : decode cX8_payWaiting 25 = .ok (.if_icmp .ge 60, 3) := by decide +kernel
theorem dX8_payWaiting_28 : decode cX8_payWaiting 28 = .ok (.aload_n 0, 1) := by decide +kernel
theorem dX8_payWaiting_29 : decode cX8_payWaiting 29 = .ok (.getfield 28, 3) := by decide +kernel
theorem dX8_payWaiting_32 : decode cX8_payWaiting 32 = .ok (.getfield 325, 3) := by decide +kernel
theorem dX8_payWaiting_35 : decode cX8_payWaiting 35 = .ok (.iload_n 1, 1) := by decide +kernel
theorem dX8_payWaiting_36 : decode cX8_payWaiting 36 = .ok (.iaload, 1) := by decide +kernel
theorem dX8_payWaiting_37 : decode cX8_payWaiting 37 = .ok (.ifCond .le 48, 3) := by decide +kernel
theorem dX8_payWaiting_40 : decode cX8_payWaiting 40 = .ok (.aload_n 0, 1) := by decide +kernel
theorem dX8_payWaiting_41 : decode cX8_payWaiting 41 = .ok (.getfield 42, 3) := by decide +kernel
theorem dX8_payWaiting_44 : decode cX8_payWaiting 44 = .ok (.getfield 324, 3) := by decide +kernel
theorem dX8_payWaiting_47 : decode cX8_payWaiting 47 = .ok (.iload_n 1, 1) := by decide +kernel
theorem dX8_payWaiting_48 : decode cX8_payWaiting 48 = .ok (.iload_n 2, 1) := by decide +kernel
theorem dX8_payWaiting_49 : decode cX8_payWaiting 49 = .ok (.invokestatic 284, 3) := by decide +kernel
theorem dX8_payWaiting_52 : decode cX8_payWaiting 52 = .ok (.iaload, 1) := by decide +kernel
theorem dX8_payWaiting_53 : decode cX8_payWaiting 53 = .ok (.iconst 2, 1) := by decide +kernel
theorem dX8_payWaiting_54 : decode cX8_payWaiting 54 = .ok (.if_icmp .ne 25, 3) := by decide +kernel
theorem dX8_payWaiting_57 : decode cX8_payWaiting 57 = .ok (.aload_n 0, 1) := by decide +kernel
theorem dX8_payWaiting_58 : decode cX8_payWaiting 58 = .ok (.iload_n 1, 1) := by decide +kernel
theorem dX8_payWaiting_59 : decode cX8_payWaiting 59 = .ok (.iload_n 2, 1) := by decide +kernel
theorem dX8_payWaiting_60 : decode cX8_payWaiting 60 = .ok (.invokevirtual 321, 3) := by decide +kernel
theorem dX8_payWaiting_63 : decode cX8_payWaiting 63 = .ok (.ifCond .eq 16, 3) := by decide +kernel
theorem dX8_payWaiting_66 : decode cX8_payWaiting 66 = .ok (.aload_n 0, 1) := by decide +kernel
theorem dX8_payWaiting_67 : decode cX8_payWaiting 67 = .ok (.getfield 28, 3) := by decide +kernel
theorem dX8_payWaiting_70 : decode cX8_payWaiting 70 = .ok (.getfield 325, 3) := by decide +kernel
theorem dX8_payWaiting_73 : decode cX8_payWaiting 73 = .ok (.iload_n 1, 1) := by decide +kernel
theorem dX8_payWaiting_74 : decode cX8_payWaiting 74 = .ok (.dup2, 1) := by decide +kernel
theorem dX8_payWaiting_75 : decode cX8_payWaiting 75 = .ok (.iaload, 1) := by decide +kernel
theorem dX8_payWaiting_76 : decode cX8_payWaiting 76 = .ok (.iconst 1, 1) := by decide +kernel
theorem dX8_payWaiting_77 : decode cX8_payWaiting 77 = .ok (.isub, 1) := by decide +kernel
theorem dX8_payWaiting_78 : decode cX8_payWaiting 78 = .ok (.iastore, 1) := by decide +kernel
theorem dX8_payWaiting_79 : decode cX8_payWaiting 79 = .ok (.iinc 2 1, 3) := by decide +kernel
theorem dX8_payWaiting_82 : decode cX8_payWaiting 82 = .ok (.goto (-67), 3) := by decide +kernel
theorem dX8_payWaiting_85 : decode cX8_payWaiting 85 = .ok (.iinc 1 1, 3) := by decide +kernel
theorem dX8_payWaiting_88 : decode cX8_payWaiting 88 = .ok (.goto (-86), 3) := by decide +kernel
theorem dX8_payWaiting_91 : decode cX8_payWaiting 91 = .ok (.return_, 1) := by decide +kernel
def fX8_payWaiting_L85 (n : Nat) (k2 : Nat → Int32 → Mm → Option (Unit × Mm)) (r0 : Nat) (v1 : Int32) (X : Mm) : Option (Unit × Mm) :=
nm (v1 + (1 : Int32)) fun v1_85 =>
k2 r0 v1_85 X
def fX8_payWaiting_L79 (n : Nat) (k2 : Nat → Int32 → Mm → Option (Unit × Mm)) (k15 : Nat → Int32 → Int32 → Mm → Option (Unit × Mm)) (r0 : Nat) (v1 : Int32) (v2 : Int32) (X : Mm) : Option (Unit × Mm) :=
nm (v2 + (1 : Int32)) fun v2_79 =>
k15 r0 v1 v2_79 X
def fX8_payWaiting_L15 (n : Nat) (k2 : Nat → Int32 → Mm → Option (Unit × Mm)) : Nat → Nat → Int32 → Int32 → Mm → Option (Unit × Mm)
| 0, _, _, _, _ => none
| j + 1, r0, v1, v2, X =>
if mT X r0 = 8 then
if mR X r0 3 ≠ 0 then
if mT X (mR X r0 3) = 3 then
if mR X (mR X r0 3) 12 ≠ 0 then
if mT X (mR X (mR X r0 3) 12) = 14 then
if q_b X (mR X (mR X r0 3) 12) v1 then
if (mI X (mR X (mR X r0 3) 12) (v1).toNatClampNeg) ≤ v2 then (
fX8_payWaiting_L85 n k2 r0 v1 X
) else (
if mR X (mR X r0 3) 13 ≠ 0 then
if mT X (mR X (mR X r0 3) 13) = 14 then
if q_b X (mR X (mR X r0 3) 13) v1 then
if (mI X (mR X (mR X r0 3) 13) (v1).toNatClampNeg) ≤ 0 then (
fX8_payWaiting_L85 n k2 r0 v1 X
) else (
if mR X r0 5 ≠ 0 then
if mT X (mR X r0 5) = 1 then
if mR X (mR X r0 5) 4 ≠ 0 then
bd (fX1_at v1 v2 X) fun w16 X49_17 =>
if mT X49_17 (mR X (mR X r0 5) 4) = 14 then
if q_b X49_17 (mR X (mR X r0 5) 4) w16 then
if (mI X49_17 (mR X (mR X r0 5) 4) (w16).toNatClampNeg) = (2 : Int32) then (
if mT X49_17 r0 = 8 then
bd (fX8_paysClaim r0 v1 v2 X49_17) fun w20 X60_21 =>
if w20 = 0 then (
fX8_payWaiting_L79 n k2 (fX8_payWaiting_L15 n k2 j) r0 v1 v2 X60_21
) else (
if mT X60_21 r0 = 8 then
if mR X60_21 r0 3 ≠ 0 then
if mT X60_21 (mR X60_21 r0 3) = 3 then
if mR X60_21 (mR X60_21 r0 3) 13 ≠ 0 then
if mT X60_21 (mR X60_21 (mR X60_21 r0 3) 13) = 14 then
if q_b X60_21 (mR X60_21 (mR X60_21 r0 3) 13) v1 then
nm (sI X60_21 (mR X60_21 (mR X60_21 r0 3) 13) (v1).toNatClampNeg ((mI X60_21 (mR X60_21 (mR X60_21 r0 3) 13) (v1).toNatClampNeg) - (1 : Int32))) fun X78_29 =>
fX8_payWaiting_L79 n k2 (fX8_payWaiting_L15 n k2 j) r0 v1 v2 X78_29
else none
else none
else none
else none
else none
else none
)
else none
) else (
fX8_payWaiting_L79 n k2 (fX8_payWaiting_L15 n k2 j) r0 v1 v2 X49_17
)
else none
else none
else none
else none
else none
)
else none
else none
else none
)
else none
else none
else none
else none
else none
else none
def fX8_payWaiting_L2 (n : Nat) : Nat → Nat → Int32 → Mm → Option (Unit × Mm)
| 0, _, _, _ => none
| j + 1, r0, v1, X =>
if mT X r0 = 8 then
if mR X r0 3 ≠ 0 then
if mT X (mR X r0 3) = 3 then
if (mI X (mR X r0 3) 16) ≤ v1 then (
some ((), X)
) else (
fX8_payWaiting_L15 n (fX8_payWaiting_L2 n j) n r0 v1 (0 : Int32) X
)
else none
else none
else none
def fX8_payWaiting (n : Nat) (r0 : Nat) (X : Mm) : Option (Unit × Mm) :=
fX8_payWaiting_L2 n n r0 (0 : Int32) X
theorem gX8_payWaiting_L85 {E : q_E} {X0 : Mm} (C : Cx E cX8_payWaiting RX8 3 none (q_rm 2 52 0 0) X0) (n : Nat) (k2 : Nat → Int32 → Mm → Option (Unit × Mm)) (hk2 : ∀ (r0 : Nat) (v1 : Int32) (X : Mm), Sm E (q_fin E q_eV X0 0 0) 0 0 2 [(0, .ref (q_P E + r0)), (1, .int v1)] [] X (k2 r0 v1 X)) (r0 : Nat) (v1 : Int32) (X : Mm) : Sm E (q_fin E q_eV X0 0 0) 0 0 85 [(0, .ref (q_P E + r0)), (1, .int v1)] [] X (fX8_payWaiting_L85 n k2 r0 v1 X) := by
  unfold fX8_payWaiting_L85
  refine q_iincN C (1 : Int32) 1 (fun v1_85 => [(1, .int v1_85), (0, .ref (q_P E + r0))]) dX8_payWaiting_85 rfl rfl (Nat.le_of_ble_eq_true rfl) (fun _ => rfl) (fun v1_85 => ?_)
  refine q_goto C 2 dX8_payWaiting_88 (by decide) ?_
  refine q_sub C [(0, .ref (q_P E + r0)), (1, .int v1_85)] [1, 0] rfl ?_
  exact hk2 r0 v1_85 X
theorem gX8_payWaiting_L79 {E : q_E} {X0 : Mm} (C : Cx E cX8_payWaiting RX8 3 none (q_rm 2 52 0 0) X0) (n : Nat) (k2 : Nat → Int32 → Mm → Option (Unit × Mm)) (hk2 : ∀ (r0 : Nat) (v1 : Int32) (X : Mm), Sm E (q_fin E q_eV X0 0 0) 0 0 2 [(0, .ref (q_P E + r0)), (1, .int v1)] [] X (k2 r0 v1 X)) (k15 : Nat → Int32 → Int32 → Mm → Option (Unit × Mm)) (hk15 : ∀ (r0 : Nat) (v1 : Int32) (v2 : Int32) (X : Mm), Sm E (q_fin E q_eV X0 0 0) 0 0 15 [(0, .ref (q_P E + r0)), (1, .int v1), (2, .int v2)] [] X (k15 r0 v1 v2 X)) (r0 : Nat) (v1 : Int32) (v2 : Int32) (X : Mm) : Sm E (q_fin E q_eV X0 0 0) 0 0 79 [(0, .ref (q_P E + r0)), (1, .int v1), (2, .int v2)] [] X (fX8_payWaiting_L79 n k2 k15 r0 v1 v2 X) := by
  unfold fX8_payWaiting_L79
  refine q_iincN C (1 : Int32) 2 (fun v2_79 => [(2, .int v2_79), (0, .ref (q_P E + r0)), (1, .int v1)]) dX8_payWaiting_79 rfl rfl (Nat.le_of_ble_eq_true rfl) (fun _ => rfl) (fun v2_79 => ?_)
  refine q_goto C 15 dX8_payWaiting_82 (by decide) ?_
  refine q_sub C [(0, .ref (q_P E + r0)), (1, .int v1), (2, .int v2_79)] [1, 2, 0] rfl ?_
  exact hk15 r0 v1 v2_79 X
theorem gX8_payWaiting_L15 {E : q_E} {X0 : Mm} (C : Cx E cX8_payWaiting RX8 3 none (q_rm 2 52 0 0) X0) (n : Nat) (k2 : Nat → Int32 → Mm → Option (Unit × Mm)) (hk2 : ∀ (r0 : Nat) (v1 : Int32) (X : Mm), Sm E (q_fin E q_eV X0 0 0) 0 0 2 [(0, .ref (q_P E + r0)), (1, .int v1)] [] X (k2 r0 v1 X)) : ∀ (j : Nat) (r0 : Nat) (v1 : Int32) (v2 : Int32) (X : Mm), Sm E (q_fin E q_eV X0 0 0) 0 0 15 [(0, .ref (q_P E + r0)), (1, .int v1), (2, .int v2)] [] X (fX8_payWaiting_L15 n k2 j r0 v1 v2 X) := by
  intro j
  induction j with
  | zero => intros; exact Sm.none
  | succ j ih =>
    intro r0 v1 v2 X
    rw [fX8_payWaiting_L15]
    refine q_iload_n C 2 dX8_payWaiting_15 rfl rfl ?_
    refine q_aload_n C 0 dX8_payWaiting_16 rfl rfl ?_
    refine q_chk (fun h4 => ?_)
    refine q_chk (fun h5 => ?_)
    refine p_getR C fgX8_28 rfl dX8_payWaiting_17 h4 h5 ?_
    refine q_chk (fun h6 => ?_)
    refine q_chk (fun h7 => ?_)
    refine p_getR C fgX8_88 rfl dX8_payWaiting_20 h6 h7 ?_
    refine q_iload_n C 1 dX8_payWaiting_23 rfl rfl ?_
    refine q_chk (fun h8 => ?_)
    refine q_chk (fun h9 => ?_)
    refine p_iald C dX8_payWaiting_24 h8 h9 ?_
    refine q_icmp_ge C 85 dX8_payWaiting_25 (by decide) (fun _ => ?_) (fun _ => ?_)
    · refine q_sub C [(0, .ref (q_P E + r0)), (1, .int v1)] [0, 1] rfl ?_
      exact gX8_payWaiting_L85 C n k2 hk2 r0 v1 X
    · refine q_aload_n C 0 dX8_payWaiting_28 rfl rfl ?_
      refine p_getR C fgX8_28 rfl dX8_payWaiting_29 h4 h5 ?_
      refine q_chk (fun h10 => ?_)
      refine p_getR C fgX8_325 rfl dX8_payWaiting_32 h6 h10 ?_
      refine q_iload_n C 1 dX8_payWaiting_35 rfl rfl ?_
      refine q_chk (fun h11 => ?_)
      refine q_chk (fun h12 => ?_)
      refine p_iald C dX8_payWaiting_36 h11 h12 ?_
      refine q_if_le C 85 dX8_payWaiting_37 (by decide) (fun _ => ?_) (fun _ => ?_)
      · refine q_sub C [(0, .ref (q_P E + r0)), (1, .int v1)] [0, 1] rfl ?_
        exact gX8_payWaiting_L85 C n k2 hk2 r0 v1 X
      · refine q_aload_n C 0 dX8_payWaiting_40 rfl rfl ?_
        refine q_chk (fun h13 => ?_)
        refine p_getR C fgX8_42 rfl dX8_payWaiting_41 h4 h13 ?_
        refine q_chk (fun h14 => ?_)
        refine q_chk (fun h15 => ?_)
        refine p_getR C fgX8_324 rfl dX8_payWaiting_44 h14 h15 ?_
        refine q_iload_n C 1 dX8_payWaiting_47 rfl rfl ?_
        refine q_iload_n C 2 dX8_payWaiting_48 rfl rfl ?_
        refine q_cSI (As := (fun P => [.int v1, .int v2])) C [.ref (q_P E + (mR X (mR X r0 5) 4))] (sX1_at v1 v2) fcX8_284 rfl (fun _ => rfl) ⟨Nat.le_of_ble_eq_true rfl, Nat.le_of_ble_eq_true rfl⟩ ⟨Nat.le_of_ble_eq_true rfl, Nat.le_of_ble_eq_true rfl⟩ (Nat.le_of_ble_eq_true rfl) dX8_payWaiting_49 (fun w16 X49_17 => ?_)
        refine q_chk (fun h18 => ?_)
        refine q_chk (fun h19 => ?_)
        refine p_iald C dX8_payWaiting_52 h18 h19 ?_
        refine q_iconst C (2 : Int32) dX8_payWaiting_53 rfl ?_
        refine q_icmp_ne C 79 dX8_payWaiting_54 (by decide) (fun _ => ?_) (fun _ => ?_)
        · refine q_aload_n C 0 dX8_payWaiting_57 rfl rfl ?_
          refine q_iload_n C 1 dX8_payWaiting_58 rfl rfl ?_
          refine q_iload_n C 2 dX8_payWaiting_59 rfl rfl ?_
          refine q_chk (fun h22 => ?_)
          refine q_cVI (As := (fun P => [.int v1, .int v2])) C [] (sX8_paysClaim r0 v1 v2) fcX8_321 rfl (fun _ => rfl) ⟨Nat.le_of_ble_eq_true rfl, Nat.le_of_ble_eq_true rfl⟩ ⟨Nat.le_of_ble_eq_true rfl, Nat.le_of_ble_eq_true rfl⟩ (Nat.le_of_ble_eq_true rfl) dX8_payWaiting_60 h22 (fun w20 X60_21 => ?_)
          refine q_if_eq C 79 dX8_payWaiting_63 (by decide) (fun _ => ?_) (fun _ => ?_)
          · exact gX8_payWaiting_L79 C n k2 hk2 (fX8_payWaiting_L15 n k2 j) ih r0 v1 v2 X60_21
          · refine q_aload_n C 0 dX8_payWaiting_66 rfl rfl ?_
            refine q_chk (fun h23 => ?_)
            refine q_chk (fun h24 => ?_)
            refine p_getR C fgX8_28 rfl dX8_payWaiting_67 h23 h24 ?_
            refine q_chk (fun h25 => ?_)
            refine q_chk (fun h26 => ?_)
            refine p_getR C fgX8_325 rfl dX8_payWaiting_70 h25 h26 ?_
            refine q_iload_n C 1 dX8_payWaiting_73 rfl rfl ?_
            refine q_dup2_11 C dX8_payWaiting_74 rfl rfl ?_
            refine q_chk (fun h27 => ?_)
            refine q_chk (fun h28 => ?_)
            refine p_iald C dX8_payWaiting_75 h27 h28 ?_
            refine q_iconst C (1 : Int32) dX8_payWaiting_76 rfl ?_
            refine q_isub C dX8_payWaiting_77 ?_
            refine p_iast C dX8_payWaiting_78 h27 h28 ?_
            refine q_nmX (fun X78_29 => ?_)
            exact gX8_payWaiting_L79 C n k2 hk2 (fX8_payWaiting_L15 n k2 j) ih r0 v1 v2 X78_29
        · exact gX8_payWaiting_L79 C n k2 hk2 (fX8_payWaiting_L15 n k2 j) ih r0 v1 v2 X49_17
theorem gX8_payWaiting_L2 {E : q_E} {X0 : Mm} (C : Cx E cX8_payWaiting RX8 3 none (q_rm 2 52 0 0) X0) (n : Nat) : ∀ (j : Nat) (r0 : Nat) (v1 : Int32) (X : Mm), Sm E (q_fin E q_eV X0 0 0) 0 0 2 [(0, .ref (q_P E + r0)), (1, .int v1)] [] X (fX8_payWaiting_L2 n j r0 v1 X) := by
  intro j
  induction j with
  | zero => intros; exact Sm.none
  | succ j ih =>
    intro r0 v1 X
    rw [fX8_payWaiting_L2]
    refine q_iload_n C 1 dX8_payWaiting_2 rfl rfl ?_
    refine q_aload_n C 0 dX8_payWaiting_3 rfl rfl ?_
    refine q_chk (fun h1 => ?_)
    refine q_chk (fun h2 => ?_)
    refine p_getR C fgX8_28 rfl dX8_payWaiting_4 h1 h2 ?_
    refine q_chk (fun h3 => ?_)
    refine p_getI C fgX8_59 rfl dX8_payWaiting_7 h3 ?_
    refine q_icmp_ge C 91 dX8_payWaiting_10 (by decide) (fun _ => ?_) (fun _ => ?_)
    · exact q_vret C dX8_payWaiting_91
    · refine q_iconst C (0 : Int32) dX8_payWaiting_13 rfl ?_
      refine q_istore_n C [(2, .int (0 : Int32)), (0, .ref (q_P E + r0)), (1, .int v1)] dX8_payWaiting_14 rfl (Nat.le_of_ble_eq_true rfl) rfl ?_
      refine q_sub C [(0, .ref (q_P E + r0)), (1, .int v1), (2, .int (0 : Int32))] [1, 2, 0] rfl ?_
      exact gX8_payWaiting_L15 C n (fX8_payWaiting_L2 n j) ih n r0 v1 (0 : Int32) X
theorem sX8_payWaiting (n : Nat) (r0 : Nat) : q_Ct yX8_payWaiting cX8_payWaiting 3 none 2 52 0 0 q_eV (fun P => [.ref (P + r0)]) (fX8_payWaiting n r0) := by
  refine q_meth (by decide +kernel) (fun P => Nat.le_of_ble_eq_true rfl) (fun E X C hn => ?_)
  show Sm E (q_fin E q_eV X 0 0) 0 0 0 [(0, .ref (q_P E + r0))] [] X _
  unfold fX8_payWaiting
  refine q_iconst C (0 : Int32) dX8_payWaiting_0 rfl ?_
  refine q_istore_n C [(1, .int (0 : Int32)), (0, .ref (q_P E + r0))] dX8_payWaiting_1 rfl (Nat.le_of_ble_eq_true rfl) rfl ?_
  refine q_sub C [(0, .ref (q_P E + r0)), (1, .int (0 : Int32))] [1, 0] rfl ?_
  exact gX8_payWaiting_L2 C n n r0 (0 : Int32) X
/-! RecordClaims$State.passDays(I)I -/
abbrev cX8_passDays : ByteArray := prog_10_method_18_code
def yX8_passDays : MethodName := ⟨RX8, "passDays", "(I)I"⟩
theorem dX8_passDays_0 : decode cX8_passDays 0 = .ok (.iconst 0, 1) := by decide +kernel
theorem dX8_passDays_1 : decode cX8_passDays 1 = .ok (.istore_n 2, 1) := by decide +kernel
theorem dX8_passDays_2 : decode cX8_passDays 2 = .ok (.iload_n 2, 1) := by decide +kernel
theorem dX8_passDays_3 : decode cX8_passDays 3 = .ok (.iload_n 1, 1) := by decide +kernel
theorem dX8_passDays_4 : decode cX8_passDays 4 = .ok (.if_icmp .ge 35, 3) := by decide +kernel
theorem dX8_passDays_7 : decode cX8_passDays 7 = .ok (.aload_n 0, 1) := by decide +kernel
theorem dX8_passDays_8 : decode cX8_passDays 8 = .ok (.dup, 1) := by decide +kernel
theorem dX8_passDays_9 : decode cX8_passDays 9 = .ok (.getfield 68, 3) := by decide +kernel
theorem dX8_passDays_12 : decode cX8_passDays 12 = .ok (.iconst 1, 1) := by decide +kernel
theorem dX8_passDays_13 : decode cX8_passDays 13 = .ok (.iadd, 1) := by decide +kernel
theorem dX8_passDays_14 : decode cX8_passDays 14 = .ok (.putfield 68, 3) := by decide +kernel
theorem dX8_passDays_17 : decode cX8_passDays 17 = .ok (.aload_n 0, 1) := by decide +kernel
theorem dX8_passDays_18 : decode cX8_passDays 18 = .ok (.invokevirtual 214, 3) := by decide +kernel
theorem dX8_passDays_21 : decode cX8_passDays 21 = .ok (.aload_n 0, 1) := by decide +kernel
theorem dX8_passDays_22 : decode cX8_passDays 22 = .ok (.invokevirtual 217, 3) := by decide +kernel
theorem dX8_passDays_25 : decode cX8_passDays 25 = .ok (.aload_n 0, 1) := by decide +kernel
theorem dX8_passDays_26 : decode cX8_passDays 26 = .ok (.invokevirtual 220, 3) := by decide +kernel
theorem dX8_passDays_29 : decode cX8_passDays 29 = .ok (.aload_n 0, 1) := by decide +kernel
theorem dX8_passDays_30 : decode cX8_passDays 30 = .ok (.invokevirtual 223, 3) := by decide +kernel
theorem dX8_passDays_33 : decode cX8_passDays 33 = .ok (.iinc 2 1, 3) := by decide +kernel
theorem dX8_passDays_36 : decode cX8_passDays 36 = .ok (.goto (-34), 3) := by decide +kernel
theorem dX8_passDays_39 : decode cX8_passDays 39 = .ok (.aload_n 0, 1) := by decide +kernel
theorem dX8_passDays_40 : decode cX8_passDays 40 = .ok (.getfield 68, 3) := by decide +kernel
theorem dX8_passDays_43 : decode cX8_passDays 43 = .ok (.ireturn, 1) := by decide +kernel
theorem fcX8_214 : q_LV RX8 214 yX8_settleTrades cX8_settleTrades 3 none 0 8 := ⟨q_tb 841 (by decide +kernel) rfl, q_tb 843 (by decide +kernel) rfl, q_tbs (q := (yX8_settleTrades, 9)) 22 (by decide +kernel) rfl, q_tb 5 (by decide +kernel) rfl, q_tb 844 (by decide +kernel) rfl, ⟨by decide +kernel, by decide +kernel, by decide +kernel⟩, TX8, 9, rfl⟩
theorem fcX8_217 : q_LV RX8 217 yX8_writeEvents cX8_writeEvents 2 none 0 8 := ⟨q_tb 861 (by decide +kernel) rfl, q_tb 863 (by decide +kernel) rfl, q_tbs (q := (yX8_writeEvents, 9)) 25 (by decide +kernel) rfl, q_tb 5 (by decide +kernel) rfl, q_tb 864 (by decide +kernel) rfl, ⟨by decide +kernel, by decide +kernel, by decide +kernel⟩, TX8, 9, rfl⟩
theorem fcX8_220 : q_LV RX8 220 yX8_payEvents cX8_payEvents 2 none 0 8 := ⟨q_tb 912 (by decide +kernel) rfl, q_tb 914 (by decide +kernel) rfl, q_tbs (q := (yX8_payEvents, 9)) 32 (by decide +kernel) rfl, q_tb 5 (by decide +kernel) rfl, q_tb 915 (by decide +kernel) rfl, ⟨by decide +kernel, by decide +kernel, by decide +kernel⟩, TX8, 9, rfl⟩
theorem fcX8_223 : q_LV RX8 223 yX8_payWaiting cX8_payWaiting 3 none 0 8 := ⟨q_tb 943 (by decide +kernel) rfl, q_tb 945 (by decide +kernel) rfl, q_tbs (q := (yX8_payWaiting, 9)) 39 (by decide +kernel) rfl, q_tb 5 (by decide +kernel) rfl, q_tb 946 (by decide +kernel) rfl, ⟨by decide +kernel, by decide +kernel, by decide +kernel⟩, TX8, 9, rfl⟩
def fX8_passDays_L2 (n : Nat) : Nat → Nat → Int32 → Int32 → Mm → Option (Int32 × Mm)
| 0, _, _, _, _ => none
| j + 1, r0, v1, v2, X =>
if v1 ≤ v2 then (
if mT X r0 = 8 then
some ((mI X r0 8), X)
else none
) else (
if mT X r0 = 8 then
nm (sI X r0 8 ((mI X r0 8) + (1 : Int32))) fun X14_3 =>
if mT X14_3 r0 = 8 then
bd (fX8_settleTrades n r0 X14_3) fun _ X18_5 =>
if mT X18_5 r0 = 8 then
bd (fX8_writeEvents n r0 X18_5) fun _ X22_8 =>
if mT X22_8 r0 = 8 then
bd (fX8_payEvents n r0 X22_8) fun _ X26_11 =>
if mT X26_11 r0 = 8 then
bd (fX8_payWaiting n r0 X26_11) fun _ X30_14 =>
nm (v2 + (1 : Int32)) fun v2_33 =>
(fX8_passDays_L2 n j) r0 v1 v2_33 X30_14
else none
else none
else none
else none
else none
)
def fX8_passDays (n : Nat) (r0 : Nat) (v1 : Int32) (X : Mm) : Option (Int32 × Mm) :=
fX8_passDays_L2 n n r0 v1 (0 : Int32) X
theorem gX8_passDays_L2 {E : q_E} {X0 : Mm} (C : Cx E cX8_passDays RX8 3 (some .int) (q_rm 4 101 0 0) X0) (n : Nat) : ∀ (j : Nat) (r0 : Nat) (v1 : Int32) (v2 : Int32) (X : Mm), Sm E (q_fin E q_eI X0 0 0) 0 0 2 [(0, .ref (q_P E + r0)), (1, .int v1), (2, .int v2)] [] X (fX8_passDays_L2 n j r0 v1 v2 X) := by
  intro j
  induction j with
  | zero => intros; exact Sm.none
  | succ j ih =>
    intro r0 v1 v2 X
    rw [fX8_passDays_L2]
    refine q_iload_n C 2 dX8_passDays_2 rfl rfl ?_
    refine q_iload_n C 1 dX8_passDays_3 rfl rfl ?_
    refine q_icmp_ge C 39 dX8_passDays_4 (by decide) (fun _ => ?_) (fun _ => ?_)
    · refine q_aload_n C 0 dX8_passDays_39 rfl rfl ?_
      refine q_chk (fun h1 => ?_)
      refine p_getI C fgX8_68 rfl dX8_passDays_40 h1 ?_
      exact q_iret C dX8_passDays_43
    · refine q_aload_n C 0 dX8_passDays_7 rfl rfl ?_
      refine q_dup C dX8_passDays_8 rfl ?_
      refine q_chk (fun h2 => ?_)
      refine p_getI C fgX8_68 rfl dX8_passDays_9 h2 ?_
      refine q_iconst C (1 : Int32) dX8_passDays_12 rfl ?_
      refine q_iadd C dX8_passDays_13 ?_
      refine p_putI C fpX8_68 rfl dX8_passDays_14 h2 ?_
      refine q_nmX (fun X14_3 => ?_)
      refine q_aload_n C 0 dX8_passDays_17 rfl rfl ?_
      refine q_chk (fun h6 => ?_)
      refine q_cVV (As := (fun P => [])) C [] (sX8_settleTrades n r0) fcX8_214 rfl (fun _ => rfl) ⟨Nat.le_of_ble_eq_true rfl, Nat.le_of_ble_eq_true rfl⟩ ⟨Nat.le_of_ble_eq_true rfl, Nat.le_of_ble_eq_true rfl⟩ (Nat.le_of_ble_eq_true rfl) dX8_passDays_18 h6 (fun _ X18_5 => ?_)
      refine q_aload_n C 0 dX8_passDays_21 rfl rfl ?_
      refine q_chk (fun h9 => ?_)
      refine q_cVV (As := (fun P => [])) C [] (sX8_writeEvents n r0) fcX8_217 rfl (fun _ => rfl) ⟨Nat.le_of_ble_eq_true rfl, Nat.le_of_ble_eq_true rfl⟩ ⟨Nat.le_of_ble_eq_true rfl, Nat.le_of_ble_eq_true rfl⟩ (Nat.le_of_ble_eq_true rfl) dX8_passDays_22 h9 (fun _ X22_8 => ?_)
      refine q_aload_n C 0 dX8_passDays_25 rfl rfl ?_
      refine q_chk (fun h12 => ?_)
      refine q_cVV (As := (fun P => [])) C [] (sX8_payEvents n r0) fcX8_220 rfl (fun _ => rfl) ⟨Nat.le_of_ble_eq_true rfl, Nat.le_of_ble_eq_true rfl⟩ ⟨Nat.le_of_ble_eq_true rfl, Nat.le_of_ble_eq_true rfl⟩ (Nat.le_of_ble_eq_true rfl) dX8_passDays_26 h12 (fun _ X26_11 => ?_)
      refine q_aload_n C 0 dX8_passDays_29 rfl rfl ?_
      refine q_chk (fun h15 => ?_)
      refine q_cVV (As := (fun P => [])) C [] (sX8_payWaiting n r0) fcX8_223 rfl (fun _ => rfl) ⟨Nat.le_of_ble_eq_true rfl, Nat.le_of_ble_eq_true rfl⟩ ⟨Nat.le_of_ble_eq_true rfl, Nat.le_of_ble_eq_true rfl⟩ (Nat.le_of_ble_eq_true rfl) dX8_passDays_30 h15 (fun _ X30_14 => ?_)
      refine q_iincN C (1 : Int32) 2 (fun v2_33 => [(2, .int v2_33), (0, .ref (q_P E + r0)), (1, .int v1)]) dX8_passDays_33 rfl rfl (Nat.le_of_ble_eq_true rfl) (fun _ => rfl) (fun v2_33 => ?_)
      refine q_goto C 2 dX8_passDays_36 (by decide) ?_
      refine q_sub C [(0, .ref (q_P E + r0)), (1, .int v1), (2, .int v2_33)] [1, 2, 0] rfl ?_
      exact ih r0 v1 v2_33 X30_14
theorem sX8_passDays (n : Nat) (r0 : Nat) (v1 : Int32) : q_Ct yX8_passDays cX8_passDays 3 (some .int) 4 101 0 0 q_eI (fun P => [.ref (P + r0), .int v1]) (fX8_passDays n r0 v1) := by
  refine q_meth (by decide +kernel) (fun P => Nat.le_of_ble_eq_true rfl) (fun E X C hn => ?_)
  show Sm E (q_fin E q_eI X 0 0) 0 0 0 [(0, .ref (q_P E + r0)), (1, .int v1)] [] X _
  unfold fX8_passDays
  refine q_iconst C (0 : Int32) dX8_passDays_0 rfl ?_
  refine q_istore_n C [(2, .int (0 : Int32)), (0, .ref (q_P E + r0)), (1, .int v1)] dX8_passDays_1 rfl (Nat.le_of_ble_eq_true rfl) rfl ?_
  refine q_sub C [(0, .ref (q_P E + r0)), (1, .int v1), (2, .int (0 : Int32))] [1, 2, 0] rfl ?_
  exact gX8_passDays_L2 C n n r0 v1 (0 : Int32) X
