/-! RecordClaimsModel.paysAll(I)V -/
abbrev cX12_paysAll : ByteArray := prog_14_method_40_code
def yX12_paysAll : MethodName := ⟨RX12, "paysAll", "(I)V"⟩
theorem dX12_paysAll_0 : decode cX12_paysAll 0 = .ok (.aload_n 0, 1) := by decide +kernel
theorem dX12_paysAll_1 : decode cX12_paysAll 1 = .ok (.getfield 11, 3) := by decide +kernel
theorem dX12_paysAll_4 : decode cX12_paysAll 4 = .ok (.aload_n 0, 1) := by decide +kernel
theorem dX12_paysAll_5 : decode cX12_paysAll 5 = .ok (.iload_n 1, 1) := by decide +kernel
theorem dX12_paysAll_6 : decode cX12_paysAll 6 = .ok (.iconst 5, 1) := by decide +kernel
theorem dX12_paysAll_7 : decode cX12_paysAll 7 = .ok (.invokevirtual 66, 3) := by decide +kernel
theorem dX12_paysAll_10 : decode cX12_paysAll 10 = .ok (.ldc2_w 136, 3) := by decide +kernel
theorem dX12_paysAll_13 : decode cX12_paysAll 13 = .ok (.lastore, 1) := by decide +kernel
theorem dX12_paysAll_14 : decode cX12_paysAll 14 = .ok (.aload_n 0, 1) := by decide +kernel
theorem dX12_paysAll_15 : decode cX12_paysAll 15 = .ok (.getfield 11, 3) := by decide +kernel
theorem dX12_paysAll_18 : decode cX12_paysAll 18 = .ok (.aload_n 0, 1) := by decide +kernel
theorem dX12_paysAll_19 : decode cX12_paysAll 19 = .ok (.iload_n 1, 1) := by decide +kernel
theorem dX12_paysAll_20 : decode cX12_paysAll 20 = .ok (.iconst 0, 1) := by decide +kernel
theorem dX12_paysAll_21 : decode cX12_paysAll 21 = .ok (.invokevirtual 66, 3) := by decide +kernel
theorem dX12_paysAll_24 : decode cX12_paysAll 24 = .ok (.laload, 1) := by decide +kernel
theorem dX12_paysAll_25 : decode cX12_paysAll 25 = .ok (.ldc2_w 136, 3) := by decide +kernel
theorem dX12_paysAll_28 : decode cX12_paysAll 28 = .ok (.lcmp, 1) := by decide +kernel
theorem dX12_paysAll_29 : decode cX12_paysAll 29 = .ok (.ifCond .ne 65, 3) := by decide +kernel
theorem dX12_paysAll_32 : decode cX12_paysAll 32 = .ok (.iconst 0, 1) := by decide +kernel
theorem dX12_paysAll_33 : decode cX12_paysAll 33 = .ok (.istore_n 2, 1) := by decide +kernel
theorem dX12_paysAll_34 : decode cX12_paysAll 34 = .ok (.iload_n 2, 1) := by decide +kernel
theorem dX12_paysAll_35 : decode cX12_paysAll 35 = .ok (.aload_n 0, 1) := by decide +kernel
theorem dX12_paysAll_36 : decode cX12_paysAll 36 = .ok (.getfield 77, 3) := by decide +kernel
theorem dX12_paysAll_39 : decode cX12_paysAll 39 = .ok (.if_icmp .ge 15, 3) := by decide +kernel
theorem dX12_paysAll_42 : decode cX12_paysAll 42 = .ok (.aload_n 0, 1) := by decide +kernel
theorem dX12_paysAll_43 : decode cX12_paysAll 43 = .ok (.iload_n 1, 1) := by decide +kernel
theorem dX12_paysAll_44 : decode cX12_paysAll 44 = .ok (.iload_n 2, 1) := by decide +kernel
theorem dX12_paysAll_45 : decode cX12_paysAll 45 = .ok (.invokevirtual 205, 3) := by decide +kernel
theorem dX12_paysAll_48 : decode cX12_paysAll 48 = .ok (.iinc 2 1, 3) := by decide +kernel
theorem dX12_paysAll_51 : decode cX12_paysAll 51 = .ok (.goto (-17), 3) := by decide +kernel
theorem dX12_paysAll_54 : decode cX12_paysAll 54 = .ok (.iconst 0, 1) := by decide +kernel
theorem dX12_paysAll_55 : decode cX12_paysAll 55 = .ok (.istore_n 2, 1) := by decide +kernel
theorem dX12_paysAll_56 : decode cX12_paysAll 56 = .ok (.iload_n 2, 1) := by decide +kernel
theorem dX12_paysAll_57 : decode cX12_paysAll 57 = .ok (.i2l, 1) := by decide +kernel
theorem dX12_paysAll_58 : decode cX12_paysAll 58 = .ok (.aload_n 0, 1) := by decide +kernel
theorem dX12_paysAll_59 : decode cX12_paysAll 59 = .ok (.getfield 11, 3) := by decide +kernel
theorem dX12_paysAll_62 : decode cX12_paysAll 62 = .ok (.aload_n 0, 1) := by decide +kernel
theorem dX12_paysAll_63 : decode cX12_paysAll 63 = .ok (.iload_n 1, 1) := by decide +kernel
theorem dX12_paysAll_64 : decode cX12_paysAll 64 = .ok (.bipush 6, 2) := by decide +kernel
theorem dX12_paysAll_66 : decode cX12_paysAll 66 = .ok (.invokevirtual 66, 3) := by decide +kernel
theorem dX12_paysAll_69 : decode cX12_paysAll 69 = .ok (.laload, 1) := by decide +kernel
theorem dX12_paysAll_70 : decode cX12_paysAll 70 = .ok (.lcmp, 1) := by decide +kernel
theorem dX12_paysAll_71 : decode cX12_paysAll 71 = .ok (.ifCond .ge 22, 3) := by decide +kernel
theorem dX12_paysAll_74 : decode cX12_paysAll 74 = .ok (.aload_n 0, 1) := by decide +kernel
theorem dX12_paysAll_75 : decode cX12_paysAll 75 = .ok (.getfield 11, 3) := by decide +kernel
theorem dX12_paysAll_78 : decode cX12_paysAll 78 = .ok (.aload_n 0, 1) := by decide +kernel
theorem dX12_paysAll_79 : decode cX12_paysAll 79 = .ok (.iload_n 1, 1) := by decide +kernel
theorem dX12_paysAll_80 : decode cX12_paysAll 80 = .ok (.iload_n 2, 1) := by decide +kernel
theorem dX12_paysAll_81 : decode cX12_paysAll 81 = .ok (.iconst 4, 1) := by decide +kernel
theorem dX12_paysAll_82 : decode cX12_paysAll 82 = .ok (.invokevirtual 164, 3) := by decide +kernel
theorem dX12_paysAll_85 : decode cX12_paysAll 85 = .ok (.lconst 1, 1) := by decide +kernel
theorem dX12_paysAll_86 : decode cX12_paysAll 86 = .ok (.lastore, 1) := by decide +kernel
theorem dX12_paysAll_87 : decode cX12_paysAll 87 = .ok (.iinc 2 1, 3) := by decide +kernel
theorem dX12_paysAll_90 : decode cX12_paysAll 90 = .ok (.goto (-34), 3) := by decide +kernel
theorem dX12_paysAll_93 : decode cX12_paysAll 93 = .ok (.return_, 1) := by decide +kernel
theorem dX12_paysAll_94 : decode cX12_paysAll 94 = .ok (.iconst 0, 1) := by decide +kernel
theorem dX12_paysAll_95 : decode cX12_paysAll 95 = .ok (.istore_n 2, 1) := by decide +kernel
theorem dX12_paysAll_96 : decode cX12_paysAll 96 = .ok (.iload_n 2, 1) := by decide +kernel
theorem dX12_paysAll_97 : decode cX12_paysAll 97 = .ok (.aload_n 0, 1) := by decide +kernel
theorem dX12_paysAll_98 : decode cX12_paysAll 98 = .ok (.getfield 77, 3) := by decide +kernel
theorem dX12_paysAll_101 : decode cX12_paysAll 101 = .ok (.if_icmp .ge 74, 3) := by decide +kernel
theorem dX12_paysAll_104 : decode cX12_paysAll 104 = .ok (.aload_n 0, 1) := by decide +kernel
theorem dX12_paysAll_105 : decode cX12_paysAll 105 = .ok (.getfield 11, 3) := by decide +kernel
theorem dX12_paysAll_108 : decode cX12_paysAll 108 = .ok (.aload_n 0, 1) := by decide +kernel
theorem dX12_paysAll_109 : decode cX12_paysAll 109 = .ok (.iload_n 1, 1) := by decide +kernel
theorem dX12_paysAll_110 : decode cX12_paysAll 110 = .ok (.iload_n 2, 1) := by decide +kernel
theorem dX12_paysAll_111 : decode cX12_paysAll 111 = .ok (.iconst 0, 1) := by decide +kernel
theorem dX12_paysAll_112 : decode cX12_paysAll 112 = .ok (.invokevirtual 140, 3) := by decide +kernel
theorem dX12_paysAll_115 : decode cX12_paysAll 115 = .ok (.laload, 1) := by decide +kernel
theorem dX12_paysAll_116 : decode cX12_paysAll 116 = .ok (.lstore_n 3, 1) := by decide +kernel
theorem dX12_paysAll_117 : decode cX12_paysAll 117 = .ok (.aload_n 0, 1) := by decide +kernel
theorem dX12_paysAll_118 : decode cX12_paysAll 118 = .ok (.iload_n 2, 1) := by decide +kernel
theorem dX12_paysAll_119 : decode cX12_paysAll 119 = .ok (.i2l, 1) := by decide +kernel
theorem dX12_paysAll_120 : decode cX12_paysAll 120 = .ok (.aload_n 0, 1) := by decide +kernel
theorem dX12_paysAll_121 : decode cX12_paysAll 121 = .ok (.getfield 11, 3) := by decide +kernel
theorem dX12_paysAll_124 : decode cX12_paysAll 124 = .ok (.aload_n 0, 1) := by decide +kernel
theorem dX12_paysAll_125 : decode cX12_paysAll 125 = .ok (.iload_n 1, 1) := by decide +kernel
theorem dX12_paysAll_126 : decode cX12_paysAll 126 = .ok (.iconst 1, 1) := by decide +kernel
theorem dX12_paysAll_127 : decode cX12_paysAll 127 = .ok (.invokevirtual 66, 3) := by decide +kernel
theorem dX12_paysAll_130 : decode cX12_paysAll 130 = .ok (.laload, 1) := by decide +kernel
theorem dX12_paysAll_131 : decode cX12_paysAll 131 = .ok (.aload_n 0, 1) := by decide +kernel
theorem dX12_paysAll_132 : decode cX12_paysAll 132 = .ok (.iload_n 1, 1) := by decide +kernel
theorem dX12_paysAll_133 : decode cX12_paysAll 133 = .ok (.lload_n 3, 1) := by decide +kernel
theorem dX12_paysAll_134 : decode cX12_paysAll 134 = .ok (.invokevirtual 194, 3) := by decide +kernel
theorem dX12_paysAll_137 : decode cX12_paysAll 137 = .ok (.invokevirtual 175, 3) := by decide +kernel
theorem dX12_paysAll_140 : decode cX12_paysAll 140 = .ok (.aload_n 0, 1) := by decide +kernel
theorem dX12_paysAll_141 : decode cX12_paysAll 141 = .ok (.iload_n 2, 1) := by decide +kernel
theorem dX12_paysAll_142 : decode cX12_paysAll 142 = .ok (.i2l, 1) := by decide +kernel
theorem dX12_paysAll_143 : decode cX12_paysAll 143 = .ok (.aload_n 0, 1) := by decide +kernel
theorem dX12_paysAll_144 : decode cX12_paysAll 144 = .ok (.iload_n 1, 1) := by decide +kernel
theorem dX12_paysAll_145 : decode cX12_paysAll 145 = .ok (.lload_n 3, 1) := by decide +kernel
theorem dX12_paysAll_146 : decode cX12_paysAll 146 = .ok (.invokevirtual 208, 3) := by decide +kernel
theorem dX12_paysAll_149 : decode cX12_paysAll 149 = .ok (.invokevirtual 182, 3) := by decide +kernel
theorem dX12_paysAll_152 : decode cX12_paysAll 152 = .ok (.aload_n 0, 1) := by decide +kernel
theorem dX12_paysAll_153 : decode cX12_paysAll 153 = .ok (.iload_n 1, 1) := by decide +kernel
theorem dX12_paysAll_154 : decode cX12_paysAll 154 = .ok (.aload_n 0, 1) := by decide +kernel
theorem dX12_paysAll_155 : decode cX12_paysAll 155 = .ok (.iload_n 1, 1) := by decide +kernel
theorem dX12_paysAll_156 : decode cX12_paysAll 156 = .ok (.lload_n 3, 1) := by decide +kernel
theorem dX12_paysAll_157 : decode cX12_paysAll 157 = .ok (.invokevirtual 194, 3) := by decide +kernel
theorem dX12_paysAll_160 : decode cX12_paysAll 160 = .ok (.aload_n 0, 1) := by decide +kernel
theorem dX12_paysAll_161 : decode cX12_paysAll 161 = .ok (.iload_n 1, 1) := by decide +kernel
theorem dX12_paysAll_162 : decode cX12_paysAll 162 = .ok (.lload_n 3, 1) := by decide +kernel
theorem dX12_paysAll_163 : decode cX12_paysAll 163 = .ok (.invokevirtual 208, 3) := by decide +kernel
theorem dX12_paysAll_166 : decode cX12_paysAll 166 = .ok (.invokevirtual 197, 3) := by decide +kernel
theorem dX12_paysAll_169 : decode cX12_paysAll 169 = .ok (.iinc 2 1, 3) := by decide +kernel
theorem dX12_paysAll_172 : decode cX12_paysAll 172 = .ok (.goto (-76), 3) := by decide +kernel
theorem dX12_paysAll_175 : decode cX12_paysAll 175 = .ok (.iconst 0, 1) := by decide +kernel
theorem dX12_paysAll_176 : decode cX12_paysAll 176 = .ok (.istore_n 2, 1) := by decide +kernel
theorem dX12_paysAll_177 : decode cX12_paysAll 177 = .ok (.iload_n 2, 1) := by decide +kernel
theorem dX12_paysAll_178 : decode cX12_paysAll 178 = .ok (.i2l, 1) := by decide +kernel
theorem dX12_paysAll_179 : decode cX12_paysAll 179 = .ok (.aload_n 0, 1) := by decide +kernel
theorem dX12_paysAll_180 : decode cX12_paysAll 180 = .ok (.getfield 11, 3) := by decide +kernel
theorem dX12_paysAll_183 : decode cX12_paysAll 183 = .ok (.aload_n 0, 1) := by decide +kernel
theorem dX12_paysAll_184 : decode cX12_paysAll 184 = .ok (.iload_n 1, 1) := by decide +kernel
theorem dX12_paysAll_185 : decode cX12_paysAll 185 = .ok (.bipush 6, 2) := by decide +kernel
theorem dX12_paysAll_187 : decode cX12_paysAll 187 = .ok (.invokevirtual 66, 3) := by decide +kernel
theorem dX12_paysAll_190 : decode cX12_paysAll 190 = .ok (.laload, 1) := by decide +kernel
theorem dX12_paysAll_191 : decode cX12_paysAll 191 = .ok (.lcmp, 1) := by decide +kernel
theorem dX12_paysAll_192 : decode cX12_paysAll 192 = .ok (.ifCond .ge 15, 3) := by decide +kernel
theorem dX12_paysAll_195 : decode cX12_paysAll 195 = .ok (.aload_n 0, 1) := by decide +kernel
theorem dX12_paysAll_196 : decode cX12_paysAll 196 = .ok (.iload_n 1, 1) := by decide +kernel
theorem dX12_paysAll_197 : decode cX12_paysAll 197 = .ok (.iload_n 2, 1) := by decide +kernel
theorem dX12_paysAll_198 : decode cX12_paysAll 198 = .ok (.invokevirtual 167, 3) := by decide +kernel
theorem dX12_paysAll_201 : decode cX12_paysAll 201 = .ok (.iinc 2 1, 3) := by decide +kernel
theorem dX12_paysAll_204 : decode cX12_paysAll 204 = .ok (.goto (-27), 3) := by decide +kernel
theorem dX12_paysAll_207 : decode cX12_paysAll 207 = .ok (.return_, 1) := by decide +kernel
theorem fcX12_205 : q_LV RX12 205 yX12_paysRights cX12_paysRights 13 none 2 12 := ⟨q_tb 1642 (by decide +kernel) rfl, q_tb 1644 (by decide +kernel) rfl, q_tbs (q := (yX12_paysRights, 35)) 113 (by decide +kernel) rfl, q_tb 13 (by decide +kernel) rfl, q_tb 1645 (by decide +kernel) rfl, ⟨by decide +kernel, by decide +kernel, by decide +kernel⟩, TX12, 35, rfl⟩
theorem fcX12_167 : q_LV RX12 167 yX12_goesOver cX12_goesOver 9 none 2 12 := ⟨q_tb 1650 (by decide +kernel) rfl, q_tb 1652 (by decide +kernel) rfl, q_tbs (q := (yX12_goesOver, 35)) 115 (by decide +kernel) rfl, q_tb 13 (by decide +kernel) rfl, q_tb 1653 (by decide +kernel) rfl, ⟨by decide +kernel, by decide +kernel, by decide +kernel⟩, TX12, 35, rfl⟩
def fX12_paysAll_L56 (n : Nat) : Nat → Nat → Int32 → Int32 → Mm → Option (Unit × Mm)
| 0, _, _, _, _ => none
| j + 1, r0, v1, v2, X =>
if mT X r0 = 12 then
if mR X r0 1 ≠ 0 then
bd (fX12_of r0 v1 (6 : Int32) X) fun w17 X66_18 =>
if mT X66_18 (mR X r0 1) = 15 then
if q_b X66_18 (mR X r0 1) w17 then
if 0 ≤ (lg_cmp ((v2).toInt64) (mJ X66_18 (mR X r0 1) (w17).toNatClampNeg)) then (
some ((), X66_18)
) else (
if mT X66_18 r0 = 12 then
if mR X66_18 r0 1 ≠ 0 then
bd (fX12_ofClaim r0 v1 v2 (4 : Int32) X66_18) fun w23 X82_24 =>
if mT X82_24 (mR X66_18 r0 1) = 15 then
if q_b X82_24 (mR X66_18 r0 1) w23 then
nm (sJ X82_24 (mR X66_18 r0 1) (w23).toNatClampNeg (1 : Int64)) fun X86_25 =>
nm (v2 + (1 : Int32)) fun v2_87 =>
(fX12_paysAll_L56 n j) r0 v1 v2_87 X86_25
else none
else none
else none
else none
)
else none
else none
else none
else none
def fX12_paysAll_L34 (n : Nat) : Nat → Nat → Int32 → Int32 → Mm → Option (Unit × Mm)
| 0, _, _, _, _ => none
| j + 1, r0, v1, v2, X =>
if mT X r0 = 12 then
if (mI X r0 6) ≤ v2 then (
fX12_paysAll_L56 n n r0 v1 (0 : Int32) X
) else (
bd (fX12_paysRights n r0 v1 v2 X) fun _ X45_29 =>
nm (v2 + (1 : Int32)) fun v2_48 =>
(fX12_paysAll_L34 n j) r0 v1 v2_48 X45_29
)
else none
def fX12_paysAll_L177 (n : Nat) : Nat → Nat → Int32 → Int32 → Mm → Option (Unit × Mm)
| 0, _, _, _, _ => none
| j + 1, r0, v1, v2, X =>
if mT X r0 = 12 then
if mR X r0 1 ≠ 0 then
bd (fX12_of r0 v1 (6 : Int32) X) fun w33 X187_34 =>
if mT X187_34 (mR X r0 1) = 15 then
if q_b X187_34 (mR X r0 1) w33 then
if 0 ≤ (lg_cmp ((v2).toInt64) (mJ X187_34 (mR X r0 1) (w33).toNatClampNeg)) then (
some ((), X187_34)
) else (
if mT X187_34 r0 = 12 then
bd (fX12_goesOver r0 v1 v2 X187_34) fun _ X198_38 =>
nm (v2 + (1 : Int32)) fun v2_201 =>
(fX12_paysAll_L177 n j) r0 v1 v2_201 X198_38
else none
)
else none
else none
else none
else none
def fX12_paysAll_L96 (n : Nat) : Nat → Nat → Int32 → Int32 → Mm → Option (Unit × Mm)
| 0, _, _, _, _ => none
| j + 1, r0, v1, v2, X =>
if mT X r0 = 12 then
if (mI X r0 6) ≤ v2 then (
fX12_paysAll_L177 n n r0 v1 (0 : Int32) X
) else (
if mR X r0 1 ≠ 0 then
bd (fX12_ofHolder r0 v1 v2 (0 : Int32) X) fun w41 X112_42 =>
if mT X112_42 (mR X r0 1) = 15 then
if q_b X112_42 (mR X r0 1) w41 then
nm ((mJ X112_42 (mR X r0 1) (w41).toNatClampNeg)) fun v3_116 =>
if mT X112_42 r0 = 12 then
if mR X112_42 r0 1 ≠ 0 then
bd (fX12_of r0 v1 (1 : Int32) X112_42) fun w48 X127_49 =>
if mT X127_49 (mR X112_42 r0 1) = 15 then
if q_b X127_49 (mR X112_42 r0 1) w48 then
if mT X127_49 r0 = 12 then
bd (fX12_wholeOf r0 v1 v3_116 X127_49) fun w52 X134_53 =>
if mT X134_53 r0 = 12 then
bd (fX12_givesShares r0 (((v2).toInt64)) ((mJ X127_49 (mR X112_42 r0 1) (w48).toNatClampNeg)) w52 X134_53) fun _ X137_56 =>
if mT X137_56 r0 = 12 then
bd (fX12_moneyOf r0 v1 v3_116 X137_56) fun w58 X146_59 =>
if mT X146_59 r0 = 12 then
bd (fX12_givesMoney r0 (((v2).toInt64)) w58 X146_59) fun _ X149_62 =>
if mT X149_62 r0 = 12 then
bd (fX12_wholeOf r0 v1 v3_116 X149_62) fun w64 X157_65 =>
if mT X157_65 r0 = 12 then
bd (fX12_moneyOf r0 v1 v3_116 X157_65) fun w67 X163_68 =>
if mT X163_68 r0 = 12 then
bd (fX12_issues r0 v1 w64 w67 X163_68) fun _ X166_71 =>
nm (v2 + (1 : Int32)) fun v2_169 =>
(fX12_paysAll_L96 n j) r0 v1 v2_169 X166_71
else none
else none
else none
else none
else none
else none
else none
else none
else none
else none
else none
else none
else none
else none
)
else none
def fX12_paysAll (n : Nat) (r0 : Nat) (v1 : Int32) (X : Mm) : Option (Unit × Mm) :=
if mT X r0 = 12 then
if mR X r0 1 ≠ 0 then
bd (fX12_of r0 v1 (5 : Int32) X) fun w3 X7_4 =>
if mT X7_4 (mR X r0 1) = 15 then
if q_b X7_4 (mR X r0 1) w3 then
nm (sJ X7_4 (mR X r0 1) (w3).toNatClampNeg (2 : Int64)) fun X13_5 =>
if mT X13_5 r0 = 12 then
if mR X13_5 r0 1 ≠ 0 then
bd (fX12_of r0 v1 (0 : Int32) X13_5) fun w10 X21_11 =>
if mT X21_11 (mR X13_5 r0 1) = 15 then
if q_b X21_11 (mR X13_5 r0 1) w10 then
if (lg_cmp (mJ X21_11 (mR X13_5 r0 1) (w10).toNatClampNeg) (2 : Int64)) = 0 then (
fX12_paysAll_L34 n n r0 v1 (0 : Int32) X21_11
) else (
fX12_paysAll_L96 n n r0 v1 (0 : Int32) X21_11
)
else none
else none
else none
else none
else none
else none
else none
else none
theorem gX12_paysAll_L56 {E : q_E} {X0 : Mm} (C : Cx E cX12_paysAll RX12 5 none (q_rm 4 96 0 0) X0) (n : Nat) : ∀ (j : Nat) (r0 : Nat) (v1 : Int32) (v2 : Int32) (X : Mm), Sm E (q_fin E q_eV X0 0 0) 0 0 56 [(0, .ref (q_P E + r0)), (1, .int v1), (2, .int v2)] [] X (fX12_paysAll_L56 n j r0 v1 v2 X) := by
  intro j
  induction j with
  | zero => intros; exact Sm.none
  | succ j ih =>
    intro r0 v1 v2 X
    rw [fX12_paysAll_L56]
    refine q_iload_n C 2 dX12_paysAll_56 rfl rfl ?_
    refine q_i2l C dX12_paysAll_57 ?_
    refine q_aload_n C 0 dX12_paysAll_58 rfl rfl ?_
    refine q_chk (fun h15 => ?_)
    refine q_chk (fun h16 => ?_)
    refine p_getR C fgX12_11 rfl dX12_paysAll_59 h15 h16 ?_
    refine q_aload_n C 0 dX12_paysAll_62 rfl rfl ?_
    refine q_iload_n C 1 dX12_paysAll_63 rfl rfl ?_
    refine q_bipush C (6 : Int32) dX12_paysAll_64 rfl ?_
    refine q_cVI (As := (fun P => [.int v1, .int (6 : Int32)])) C [.ref (q_P E + (mR X r0 1)), .long ((v2).toInt64)] (sX12_of r0 v1 (6 : Int32)) fcX12_66 rfl (fun _ => rfl) ⟨Nat.le_of_ble_eq_true rfl, Nat.le_of_ble_eq_true rfl⟩ ⟨Nat.le_of_ble_eq_true rfl, Nat.le_of_ble_eq_true rfl⟩ (Nat.le_of_ble_eq_true rfl) dX12_paysAll_66 h15 (fun w17 X66_18 => ?_)
    refine q_chk (fun h19 => ?_)
    refine q_chk (fun h20 => ?_)
    refine p_lald C dX12_paysAll_69 h19 h20 ?_
    refine q_lcmp C dX12_paysAll_70 ?_
    refine q_if_ge C 93 dX12_paysAll_71 (by decide) (fun _ => ?_) (fun _ => ?_)
    · exact q_vret C dX12_paysAll_93
    · refine q_aload_n C 0 dX12_paysAll_74 rfl rfl ?_
      refine q_chk (fun h21 => ?_)
      refine q_chk (fun h22 => ?_)
      refine p_getR C fgX12_11 rfl dX12_paysAll_75 h21 h22 ?_
      refine q_aload_n C 0 dX12_paysAll_78 rfl rfl ?_
      refine q_iload_n C 1 dX12_paysAll_79 rfl rfl ?_
      refine q_iload_n C 2 dX12_paysAll_80 rfl rfl ?_
      refine q_iconst C (4 : Int32) dX12_paysAll_81 rfl ?_
      refine q_cVI (As := (fun P => [.int v1, .int v2, .int (4 : Int32)])) C [.ref (q_P E + (mR X66_18 r0 1))] (sX12_ofClaim r0 v1 v2 (4 : Int32)) fcX12_164 rfl (fun _ => rfl) ⟨Nat.le_of_ble_eq_true rfl, Nat.le_of_ble_eq_true rfl⟩ ⟨Nat.le_of_ble_eq_true rfl, Nat.le_of_ble_eq_true rfl⟩ (Nat.le_of_ble_eq_true rfl) dX12_paysAll_82 h21 (fun w23 X82_24 => ?_)
      refine q_lconst C (1 : Int64) dX12_paysAll_85 rfl ?_
      refine q_chk (fun h26 => ?_)
      refine q_chk (fun h27 => ?_)
      refine p_last C dX12_paysAll_86 h26 h27 ?_
      refine q_nmX (fun X86_25 => ?_)
      refine q_iincN C (1 : Int32) 2 (fun v2_87 => [(2, .int v2_87), (0, .ref (q_P E + r0)), (1, .int v1)]) dX12_paysAll_87 rfl rfl (Nat.le_of_ble_eq_true rfl) (fun _ => rfl) (fun v2_87 => ?_)
      refine q_goto C 56 dX12_paysAll_90 (by decide) ?_
      refine q_sub C [(0, .ref (q_P E + r0)), (1, .int v1), (2, .int v2_87)] [1, 2, 0] rfl ?_
      exact ih r0 v1 v2_87 X86_25
theorem gX12_paysAll_L34 {E : q_E} {X0 : Mm} (C : Cx E cX12_paysAll RX12 5 none (q_rm 4 96 0 0) X0) (n : Nat) : ∀ (j : Nat) (r0 : Nat) (v1 : Int32) (v2 : Int32) (X : Mm), Sm E (q_fin E q_eV X0 0 0) 0 0 34 [(0, .ref (q_P E + r0)), (1, .int v1), (2, .int v2)] [] X (fX12_paysAll_L34 n j r0 v1 v2 X) := by
  intro j
  induction j with
  | zero => intros; exact Sm.none
  | succ j ih =>
    intro r0 v1 v2 X
    rw [fX12_paysAll_L34]
    refine q_iload_n C 2 dX12_paysAll_34 rfl rfl ?_
    refine q_aload_n C 0 dX12_paysAll_35 rfl rfl ?_
    refine q_chk (fun h14 => ?_)
    refine p_getI C fgX12_77 rfl dX12_paysAll_36 h14 ?_
    refine q_icmp_ge C 54 dX12_paysAll_39 (by decide) (fun _ => ?_) (fun _ => ?_)
    · refine q_iconst C (0 : Int32) dX12_paysAll_54 rfl ?_
      refine q_istore_n C [(2, .int (0 : Int32)), (0, .ref (q_P E + r0)), (1, .int v1)] dX12_paysAll_55 rfl (Nat.le_of_ble_eq_true rfl) rfl ?_
      refine q_sub C [(0, .ref (q_P E + r0)), (1, .int v1), (2, .int (0 : Int32))] [1, 2, 0] rfl ?_
      exact gX12_paysAll_L56 C n n r0 v1 (0 : Int32) X
    · refine q_aload_n C 0 dX12_paysAll_42 rfl rfl ?_
      refine q_iload_n C 1 dX12_paysAll_43 rfl rfl ?_
      refine q_iload_n C 2 dX12_paysAll_44 rfl rfl ?_
      refine q_cVV (As := (fun P => [.int v1, .int v2])) C [] (sX12_paysRights n r0 v1 v2) fcX12_205 rfl (fun _ => rfl) ⟨Nat.le_of_ble_eq_true rfl, Nat.le_of_ble_eq_true rfl⟩ ⟨Nat.le_of_ble_eq_true rfl, Nat.le_of_ble_eq_true rfl⟩ (Nat.le_of_ble_eq_true rfl) dX12_paysAll_45 h14 (fun _ X45_29 => ?_)
      refine q_iincN C (1 : Int32) 2 (fun v2_48 => [(2, .int v2_48), (0, .ref (q_P E + r0)), (1, .int v1)]) dX12_paysAll_48 rfl rfl (Nat.le_of_ble_eq_true rfl) (fun _ => rfl) (fun v2_48 => ?_)
      refine q_goto C 34 dX12_paysAll_51 (by decide) ?_
      refine q_sub C [(0, .ref (q_P E + r0)), (1, .int v1), (2, .int v2_48)] [1, 2, 0] rfl ?_
      exact ih r0 v1 v2_48 X45_29
theorem gX12_paysAll_L177 {E : q_E} {X0 : Mm} (C : Cx E cX12_paysAll RX12 5 none (q_rm 4 96 0 0) X0) (n : Nat) : ∀ (j : Nat) (r0 : Nat) (v1 : Int32) (v2 : Int32) (X : Mm), Sm E (q_fin E q_eV X0 0 0) 0 0 177 [(0, .ref (q_P E + r0)), (1, .int v1), (2, .int v2)] [] X (fX12_paysAll_L177 n j r0 v1 v2 X) := by
  intro j
  induction j with
  | zero => intros; exact Sm.none
  | succ j ih =>
    intro r0 v1 v2 X
    rw [fX12_paysAll_L177]
    refine q_iload_n C 2 dX12_paysAll_177 rfl rfl ?_
    refine q_i2l C dX12_paysAll_178 ?_
    refine q_aload_n C 0 dX12_paysAll_179 rfl rfl ?_
    refine q_chk (fun h31 => ?_)
    refine q_chk (fun h32 => ?_)
    refine p_getR C fgX12_11 rfl dX12_paysAll_180 h31 h32 ?_
    refine q_aload_n C 0 dX12_paysAll_183 rfl rfl ?_
    refine q_iload_n C 1 dX12_paysAll_184 rfl rfl ?_
    refine q_bipush C (6 : Int32) dX12_paysAll_185 rfl ?_
    refine q_cVI (As := (fun P => [.int v1, .int (6 : Int32)])) C [.ref (q_P E + (mR X r0 1)), .long ((v2).toInt64)] (sX12_of r0 v1 (6 : Int32)) fcX12_66 rfl (fun _ => rfl) ⟨Nat.le_of_ble_eq_true rfl, Nat.le_of_ble_eq_true rfl⟩ ⟨Nat.le_of_ble_eq_true rfl, Nat.le_of_ble_eq_true rfl⟩ (Nat.le_of_ble_eq_true rfl) dX12_paysAll_187 h31 (fun w33 X187_34 => ?_)
    refine q_chk (fun h35 => ?_)
    refine q_chk (fun h36 => ?_)
    refine p_lald C dX12_paysAll_190 h35 h36 ?_
    refine q_lcmp C dX12_paysAll_191 ?_
    refine q_if_ge C 207 dX12_paysAll_192 (by decide) (fun _ => ?_) (fun _ => ?_)
    · exact q_vret C dX12_paysAll_207
    · refine q_aload_n C 0 dX12_paysAll_195 rfl rfl ?_
      refine q_iload_n C 1 dX12_paysAll_196 rfl rfl ?_
      refine q_iload_n C 2 dX12_paysAll_197 rfl rfl ?_
      refine q_chk (fun h39 => ?_)
      refine q_cVV (As := (fun P => [.int v1, .int v2])) C [] (sX12_goesOver r0 v1 v2) fcX12_167 rfl (fun _ => rfl) ⟨Nat.le_of_ble_eq_true rfl, Nat.le_of_ble_eq_true rfl⟩ ⟨Nat.le_of_ble_eq_true rfl, Nat.le_of_ble_eq_true rfl⟩ (Nat.le_of_ble_eq_true rfl) dX12_paysAll_198 h39 (fun _ X198_38 => ?_)
      refine q_iincN C (1 : Int32) 2 (fun v2_201 => [(2, .int v2_201), (0, .ref (q_P E + r0)), (1, .int v1)]) dX12_paysAll_201 rfl rfl (Nat.le_of_ble_eq_true rfl) (fun _ => rfl) (fun v2_201 => ?_)
      refine q_goto C 177 dX12_paysAll_204 (by decide) ?_
      refine q_sub C [(0, .ref (q_P E + r0)), (1, .int v1), (2, .int v2_201)] [1, 2, 0] rfl ?_
      exact ih r0 v1 v2_201 X198_38
theorem gX12_paysAll_L96 {E : q_E} {X0 : Mm} (C : Cx E cX12_paysAll RX12 5 none (q_rm 4 96 0 0) X0) (n : Nat) : ∀ (j : Nat) (r0 : Nat) (v1 : Int32) (v2 : Int32) (X : Mm), Sm E (q_fin E q_eV X0 0 0) 0 0 96 [(0, .ref (q_P E + r0)), (1, .int v1), (2, .int v2)] [] X (fX12_paysAll_L96 n j r0 v1 v2 X) := by
  intro j
  induction j with
  | zero => intros; exact Sm.none
  | succ j ih =>
    intro r0 v1 v2 X
    rw [fX12_paysAll_L96]
    refine q_iload_n C 2 dX12_paysAll_96 rfl rfl ?_
    refine q_aload_n C 0 dX12_paysAll_97 rfl rfl ?_
    refine q_chk (fun h30 => ?_)
    refine p_getI C fgX12_77 rfl dX12_paysAll_98 h30 ?_
    refine q_icmp_ge C 175 dX12_paysAll_101 (by decide) (fun _ => ?_) (fun _ => ?_)
    · refine q_iconst C (0 : Int32) dX12_paysAll_175 rfl ?_
      refine q_istore_n C [(2, .int (0 : Int32)), (0, .ref (q_P E + r0)), (1, .int v1)] dX12_paysAll_176 rfl (Nat.le_of_ble_eq_true rfl) rfl ?_
      refine q_sub C [(0, .ref (q_P E + r0)), (1, .int v1), (2, .int (0 : Int32))] [1, 2, 0] rfl ?_
      exact gX12_paysAll_L177 C n n r0 v1 (0 : Int32) X
    · refine q_aload_n C 0 dX12_paysAll_104 rfl rfl ?_
      refine q_chk (fun h40 => ?_)
      refine p_getR C fgX12_11 rfl dX12_paysAll_105 h30 h40 ?_
      refine q_aload_n C 0 dX12_paysAll_108 rfl rfl ?_
      refine q_iload_n C 1 dX12_paysAll_109 rfl rfl ?_
      refine q_iload_n C 2 dX12_paysAll_110 rfl rfl ?_
      refine q_iconst C (0 : Int32) dX12_paysAll_111 rfl ?_
      refine q_cVI (As := (fun P => [.int v1, .int v2, .int (0 : Int32)])) C [.ref (q_P E + (mR X r0 1))] (sX12_ofHolder r0 v1 v2 (0 : Int32)) fcX12_140 rfl (fun _ => rfl) ⟨Nat.le_of_ble_eq_true rfl, Nat.le_of_ble_eq_true rfl⟩ ⟨Nat.le_of_ble_eq_true rfl, Nat.le_of_ble_eq_true rfl⟩ (Nat.le_of_ble_eq_true rfl) dX12_paysAll_112 h30 (fun w41 X112_42 => ?_)
      refine q_chk (fun h43 => ?_)
      refine q_chk (fun h44 => ?_)
      refine p_lald C dX12_paysAll_115 h43 h44 ?_
      refine q_nml (fun v3_116 => ?_)
      refine q_lstore_n C [(3, .long v3_116), (0, .ref (q_P E + r0)), (1, .int v1), (2, .int v2)] dX12_paysAll_116 rfl (Nat.le_of_ble_eq_true rfl) rfl ?_
      refine q_aload_n C 1 dX12_paysAll_117 rfl rfl ?_
      refine q_iload_n C 3 dX12_paysAll_118 rfl rfl ?_
      refine q_i2l C dX12_paysAll_119 ?_
      refine q_aload_n C 1 dX12_paysAll_120 rfl rfl ?_
      refine q_chk (fun h46 => ?_)
      refine q_chk (fun h47 => ?_)
      refine p_getR C fgX12_11 rfl dX12_paysAll_121 h46 h47 ?_
      refine q_aload_n C 1 dX12_paysAll_124 rfl rfl ?_
      refine q_iload_n C 2 dX12_paysAll_125 rfl rfl ?_
      refine q_iconst C (1 : Int32) dX12_paysAll_126 rfl ?_
      refine q_cVI (As := (fun P => [.int v1, .int (1 : Int32)])) C [.ref (q_P E + (mR X112_42 r0 1)), .long ((v2).toInt64), .ref (q_P E + r0)] (sX12_of r0 v1 (1 : Int32)) fcX12_66 rfl (fun _ => rfl) ⟨Nat.le_of_ble_eq_true rfl, Nat.le_of_ble_eq_true rfl⟩ ⟨Nat.le_of_ble_eq_true rfl, Nat.le_of_ble_eq_true rfl⟩ (Nat.le_of_ble_eq_true rfl) dX12_paysAll_127 h46 (fun w48 X127_49 => ?_)
      refine q_chk (fun h50 => ?_)
      refine q_chk (fun h51 => ?_)
      refine p_lald C dX12_paysAll_130 h50 h51 ?_
      refine q_aload_n C 1 dX12_paysAll_131 rfl rfl ?_
      refine q_iload_n C 2 dX12_paysAll_132 rfl rfl ?_
      refine q_lload_n C 0 dX12_paysAll_133 rfl rfl ?_
      refine q_chk (fun h54 => ?_)
      refine q_cVL (As := (fun P => [.int v1, .long v3_116])) C [.long (mJ X127_49 (mR X112_42 r0 1) (w48).toNatClampNeg), .long ((v2).toInt64), .ref (q_P E + r0)] (sX12_wholeOf r0 v1 v3_116) fcX12_194 rfl (fun _ => rfl) ⟨Nat.le_of_ble_eq_true rfl, Nat.le_of_ble_eq_true rfl⟩ ⟨Nat.le_of_ble_eq_true rfl, Nat.le_of_ble_eq_true rfl⟩ (Nat.le_of_ble_eq_true rfl) dX12_paysAll_134 h54 (fun w52 X134_53 => ?_)
      refine q_chk (fun h57 => ?_)
      refine q_cVV (As := (fun P => [.long ((v2).toInt64), .long (mJ X127_49 (mR X112_42 r0 1) (w48).toNatClampNeg), .long w52])) C [] (sX12_givesShares r0 (((v2).toInt64)) ((mJ X127_49 (mR X112_42 r0 1) (w48).toNatClampNeg)) w52) fcX12_175 rfl (fun _ => rfl) ⟨Nat.le_of_ble_eq_true rfl, Nat.le_of_ble_eq_true rfl⟩ ⟨Nat.le_of_ble_eq_true rfl, Nat.le_of_ble_eq_true rfl⟩ (Nat.le_of_ble_eq_true rfl) dX12_paysAll_137 h57 (fun _ X137_56 => ?_)
      refine q_aload_n C 1 dX12_paysAll_140 rfl rfl ?_
      refine q_iload_n C 3 dX12_paysAll_141 rfl rfl ?_
      refine q_i2l C dX12_paysAll_142 ?_
      refine q_aload_n C 1 dX12_paysAll_143 rfl rfl ?_
      refine q_iload_n C 2 dX12_paysAll_144 rfl rfl ?_
      refine q_lload_n C 0 dX12_paysAll_145 rfl rfl ?_
      refine q_chk (fun h60 => ?_)
      refine q_cVL (As := (fun P => [.int v1, .long v3_116])) C [.long ((v2).toInt64), .ref (q_P E + r0)] (sX12_moneyOf r0 v1 v3_116) fcX12_208 rfl (fun _ => rfl) ⟨Nat.le_of_ble_eq_true rfl, Nat.le_of_ble_eq_true rfl⟩ ⟨Nat.le_of_ble_eq_true rfl, Nat.le_of_ble_eq_true rfl⟩ (Nat.le_of_ble_eq_true rfl) dX12_paysAll_146 h60 (fun w58 X146_59 => ?_)
      refine q_chk (fun h63 => ?_)
      refine q_cVV (As := (fun P => [.long ((v2).toInt64), .long w58])) C [] (sX12_givesMoney r0 (((v2).toInt64)) w58) fcX12_182 rfl (fun _ => rfl) ⟨Nat.le_of_ble_eq_true rfl, Nat.le_of_ble_eq_true rfl⟩ ⟨Nat.le_of_ble_eq_true rfl, Nat.le_of_ble_eq_true rfl⟩ (Nat.le_of_ble_eq_true rfl) dX12_paysAll_149 h63 (fun _ X149_62 => ?_)
      refine q_aload_n C 1 dX12_paysAll_152 rfl rfl ?_
      refine q_iload_n C 2 dX12_paysAll_153 rfl rfl ?_
      refine q_aload_n C 1 dX12_paysAll_154 rfl rfl ?_
      refine q_iload_n C 2 dX12_paysAll_155 rfl rfl ?_
      refine q_lload_n C 0 dX12_paysAll_156 rfl rfl ?_
      refine q_chk (fun h66 => ?_)
      refine q_cVL (As := (fun P => [.int v1, .long v3_116])) C [.int v1, .ref (q_P E + r0)] (sX12_wholeOf r0 v1 v3_116) fcX12_194 rfl (fun _ => rfl) ⟨Nat.le_of_ble_eq_true rfl, Nat.le_of_ble_eq_true rfl⟩ ⟨Nat.le_of_ble_eq_true rfl, Nat.le_of_ble_eq_true rfl⟩ (Nat.le_of_ble_eq_true rfl) dX12_paysAll_157 h66 (fun w64 X157_65 => ?_)
      refine q_aload_n C 1 dX12_paysAll_160 rfl rfl ?_
      refine q_iload_n C 2 dX12_paysAll_161 rfl rfl ?_
      refine q_lload_n C 0 dX12_paysAll_162 rfl rfl ?_
      refine q_chk (fun h69 => ?_)
      refine q_cVL (As := (fun P => [.int v1, .long v3_116])) C [.long w64, .int v1, .ref (q_P E + r0)] (sX12_moneyOf r0 v1 v3_116) fcX12_208 rfl (fun _ => rfl) ⟨Nat.le_of_ble_eq_true rfl, Nat.le_of_ble_eq_true rfl⟩ ⟨Nat.le_of_ble_eq_true rfl, Nat.le_of_ble_eq_true rfl⟩ (Nat.le_of_ble_eq_true rfl) dX12_paysAll_163 h69 (fun w67 X163_68 => ?_)
      refine q_chk (fun h72 => ?_)
      refine q_cVV (As := (fun P => [.int v1, .long w64, .long w67])) C [] (sX12_issues r0 v1 w64 w67) fcX12_197 rfl (fun _ => rfl) ⟨Nat.le_of_ble_eq_true rfl, Nat.le_of_ble_eq_true rfl⟩ ⟨Nat.le_of_ble_eq_true rfl, Nat.le_of_ble_eq_true rfl⟩ (Nat.le_of_ble_eq_true rfl) dX12_paysAll_166 h72 (fun _ X166_71 => ?_)
      refine q_iincN C (1 : Int32) 3 (fun v2_169 => [(2, .int v2_169), (3, .long v3_116), (0, .ref (q_P E + r0)), (1, .int v1)]) dX12_paysAll_169 rfl rfl (Nat.le_of_ble_eq_true rfl) (fun _ => rfl) (fun v2_169 => ?_)
      refine q_goto C 96 dX12_paysAll_172 (by decide) ?_
      refine q_sub C [(0, .ref (q_P E + r0)), (1, .int v1), (2, .int v2_169)] [2, 3, 0] rfl ?_
      exact ih r0 v1 v2_169 X166_71
theorem sX12_paysAll (n : Nat) (r0 : Nat) (v1 : Int32) : q_Ct yX12_paysAll cX12_paysAll 5 none 4 96 0 0 q_eV (fun P => [.ref (P + r0), .int v1]) (fX12_paysAll n r0 v1) := by
  refine q_meth (by decide +kernel) (fun P => Nat.le_of_ble_eq_true rfl) (fun E X C hn => ?_)
  show Sm E (q_fin E q_eV X 0 0) 0 0 0 [(0, .ref (q_P E + r0)), (1, .int v1)] [] X _
  unfold fX12_paysAll
  refine q_aload_n C 0 dX12_paysAll_0 rfl rfl ?_
  refine q_chk (fun h1 => ?_)
  refine q_chk (fun h2 => ?_)
  refine p_getR C fgX12_11 rfl dX12_paysAll_1 h1 h2 ?_
  refine q_aload_n C 0 dX12_paysAll_4 rfl rfl ?_
  refine q_iload_n C 1 dX12_paysAll_5 rfl rfl ?_
  refine q_iconst C (5 : Int32) dX12_paysAll_6 rfl ?_
  refine q_cVI (As := (fun P => [.int v1, .int (5 : Int32)])) C [.ref (q_P E + (mR X r0 1))] (sX12_of r0 v1 (5 : Int32)) fcX12_66 rfl (fun _ => rfl) ⟨Nat.le_of_ble_eq_true rfl, Nat.le_of_ble_eq_true rfl⟩ ⟨Nat.le_of_ble_eq_true rfl, Nat.le_of_ble_eq_true rfl⟩ (Nat.le_of_ble_eq_true rfl) dX12_paysAll_7 h1 (fun w3 X7_4 => ?_)
  refine q_ldc2 C dX12_paysAll_10 fkX12_136 ?_
  refine q_chk (fun h6 => ?_)
  refine q_chk (fun h7 => ?_)
  refine p_last C dX12_paysAll_13 h6 h7 ?_
  refine q_nmX (fun X13_5 => ?_)
  refine q_aload_n C 0 dX12_paysAll_14 rfl rfl ?_
  refine q_chk (fun h8 => ?_)
  refine q_chk (fun h9 => ?_)
  refine p_getR C fgX12_11 rfl dX12_paysAll_15 h8 h9 ?_
  refine q_aload_n C 0 dX12_paysAll_18 rfl rfl ?_
  refine q_iload_n C 1 dX12_paysAll_19 rfl rfl ?_
  refine q_iconst C (0 : Int32) dX12_paysAll_20 rfl ?_
  refine q_cVI (As := (fun P => [.int v1, .int (0 : Int32)])) C [.ref (q_P E + (mR X13_5 r0 1))] (sX12_of r0 v1 (0 : Int32)) fcX12_66 rfl (fun _ => rfl) ⟨Nat.le_of_ble_eq_true rfl, Nat.le_of_ble_eq_true rfl⟩ ⟨Nat.le_of_ble_eq_true rfl, Nat.le_of_ble_eq_true rfl⟩ (Nat.le_of_ble_eq_true rfl) dX12_paysAll_21 h8 (fun w10 X21_11 => ?_)
  refine q_chk (fun h12 => ?_)
  refine q_chk (fun h13 => ?_)
  refine p_lald C dX12_paysAll_24 h12 h13 ?_
  refine q_ldc2 C dX12_paysAll_25 fkX12_136 ?_
  refine q_lcmp C dX12_paysAll_28 ?_
  refine q_if_ne C 94 dX12_paysAll_29 (by decide) (fun _ => ?_) (fun _ => ?_)
  · refine q_iconst C (0 : Int32) dX12_paysAll_32 rfl ?_
    refine q_istore_n C [(2, .int (0 : Int32)), (0, .ref (q_P E + r0)), (1, .int v1)] dX12_paysAll_33 rfl (Nat.le_of_ble_eq_true rfl) rfl ?_
    refine q_sub C [(0, .ref (q_P E + r0)), (1, .int v1), (2, .int (0 : Int32))] [1, 2, 0] rfl ?_
    exact gX12_paysAll_L34 C n n r0 v1 (0 : Int32) X21_11
  · refine q_iconst C (0 : Int32) dX12_paysAll_94 rfl ?_
    refine q_istore_n C [(2, .int (0 : Int32)), (0, .ref (q_P E + r0)), (1, .int v1)] dX12_paysAll_95 rfl (Nat.le_of_ble_eq_true rfl) rfl ?_
    refine q_sub C [(0, .ref (q_P E + r0)), (1, .int v1), (2, .int (0 : Int32))] [1, 2, 0] rfl ?_
    exact gX12_paysAll_L96 C n n r0 v1 (0 : Int32) X21_11
/-! RecordClaimsModel.oneDay()V -/
abbrev cX12_oneDay : ByteArray := prog_14_method_30_code
def yX12_oneDay : MethodName := ⟨RX12, "oneDay", "()V"⟩
theorem dX12_oneDay_0 : decode cX12_oneDay 0 = .ok (.aload_n 0, 1) := by decide +kernel
theorem dX12_oneDay_1 : decode cX12_oneDay 1 = .ok (.getfield 11, 3) := by decide +kernel
theorem dX12_oneDay_4 : decode cX12_oneDay 4 = .ok (.bipush 62, 2) := by decide +kernel
theorem dX12_oneDay_6 : decode cX12_oneDay 6 = .ok (.aload_n 0, 1) := by decide +kernel
theorem dX12_oneDay_7 : decode cX12_oneDay 7 = .ok (.getfield 11, 3) := by decide +kernel
theorem dX12_oneDay_10 : decode cX12_oneDay 10 = .ok (.bipush 62, 2) := by decide +kernel
theorem dX12_oneDay_12 : decode cX12_oneDay 12 = .ok (.laload, 1) := by decide +kernel
theorem dX12_oneDay_13 : decode cX12_oneDay 13 = .ok (.lconst 1, 1) := by decide +kernel
theorem dX12_oneDay_14 : decode cX12_oneDay 14 = .ok (.ladd, 1) := by decide +kernel
theorem dX12_oneDay_15 : decode cX12_oneDay 15 = .ok (.lastore, 1) := by decide +kernel
theorem dX12_oneDay_16 : decode cX12_oneDay 16 = .ok (.iconst 0, 1) := by decide +kernel
theorem dX12_oneDay_17 : decode cX12_oneDay 17 = .ok (.istore_n 1, 1) := by decide +kernel
theorem dX12_oneDay_18 : decode cX12_oneDay 18 = .ok (.iload_n 1, 1) := by decide +kernel
theorem dX12_oneDay_19 : decode cX12_oneDay 19 = .ok (.aload_n 0, 1) := by decide +kernel
theorem dX12_oneDay_20 : decode cX12_oneDay 20 = .ok (.invokevirtual 87, 3) := by decide +kernel
theorem dX12_oneDay_23 : decode cX12_oneDay 23 = .ok (.if_icmp .ge 54, 3) := by decide +kernel
theorem dX12_oneDay_26 : decode cX12_oneDay 26 = .ok (.aload_n 0, 1) := by decide +kernel
theorem dX12_oneDay_27 : decode cX12_oneDay 27 = .ok (.getfield 11, 3) := by decide +kernel
theorem dX12_oneDay_30 : decode cX12_oneDay 30 = .ok (.aload_n 0, 1) := by decide +kernel
theorem dX12_oneDay_31 : decode cX12_oneDay 31 = .ok (.iload_n 1, 1) := by decide +kernel
theorem dX12_oneDay_32 : decode cX12_oneDay 32 = .ok (.bipush 7, 2) := by decide +kernel
theorem dX12_oneDay_34 : decode cX12_oneDay 34 = .ok (.invokevirtual 111, 3) := by decide +kernel
theorem dX12_oneDay_37 : decode cX12_oneDay 37 = .ok (.laload, 1) := by decide +kernel
theorem dX12_oneDay_38 : decode cX12_oneDay 38 = .ok (.lconst 0, 1) := by decide +kernel
theorem dX12_oneDay_39 : decode cX12_oneDay 39 = .ok (.lcmp, 1) := by decide +kernel
theorem dX12_oneDay_40 : decode cX12_oneDay 40 = .ok (.ifCond .ne 31, 3) := by decide +kernel
theorem dX12_oneDay_43 : decode cX12_oneDay 43 = .ok (.aload_n 0, 1) := by decide +kernel
theorem dX12_oneDay_44 : decode cX12_oneDay 44 = .ok (.getfield 11, 3) := by decide +kernel
theorem dX12_oneDay_47 : decode cX12_oneDay 47 = .ok (.aload_n 0, 1) := by decide +kernel
theorem dX12_oneDay_48 : decode cX12_oneDay 48 = .ok (.iload_n 1, 1) := by decide +kernel
theorem dX12_oneDay_49 : decode cX12_oneDay 49 = .ok (.bipush 6, 2) := by decide +kernel
theorem dX12_oneDay_51 : decode cX12_oneDay 51 = .ok (.invokevirtual 111, 3) := by decide +kernel
theorem dX12_oneDay_54 : decode cX12_oneDay 54 = .ok (.laload, 1) := by decide +kernel
theorem dX12_oneDay_55 : decode cX12_oneDay 55 = .ok (.aload_n 0, 1) := by decide +kernel
theorem dX12_oneDay_56 : decode cX12_oneDay 56 = .ok (.getfield 11, 3) := by decide +kernel
theorem dX12_oneDay_59 : decode cX12_oneDay 59 = .ok (.bipush 62, 2) := by decide +kernel
theorem dX12_oneDay_61 : decode cX12_oneDay 61 = .ok (.laload, 1) := by decide +kernel
theorem dX12_oneDay_62 : decode cX12_oneDay 62 = .ok (.lcmp, 1) := by decide +kernel
theorem dX12_oneDay_63 : decode cX12_oneDay 63 = .ok (.ifCond .gt 8, 3) := by decide +kernel
theorem dX12_oneDay_66 : decode cX12_oneDay 66 = .ok (.aload_n 0, 1) := by decide +kernel
theorem dX12_oneDay_67 : decode cX12_oneDay 67 = .ok (.iload_n 1, 1) := by decide +kernel
theorem dX12_oneDay_68 : decode cX12_oneDay 68 = .ok (.invokevirtual 149, 3) := by decide +kernel
theorem dX12_oneDay_71 : decode cX12_oneDay 71 = .ok (.iinc 1 1, 3) := by decide +kernel
theorem dX12_oneDay_74 : decode cX12_oneDay 74 = .ok (.goto (-56), 3) := by decide +kernel
theorem dX12_oneDay_77 : decode cX12_oneDay 77 = .ok (.iconst 0, 1) := by decide +kernel
theorem dX12_oneDay_78 : decode cX12_oneDay 78 = .ok (.istore_n 1, 1) := by decide +kernel
theorem dX12_oneDay_79 : decode cX12_oneDay 79 = .ok (.iload_n 1, 1) := by decide +kernel
theorem dX12_oneDay_80 : decode cX12_oneDay 80 = .ok (.aload_n 0, 1) := by decide +kernel
theorem dX12_oneDay_81 : decode cX12_oneDay 81 = .ok (.invokevirtual 91, 3) := by decide +kernel
theorem dX12_oneDay_84 : decode cX12_oneDay 84 = .ok (.if_icmp .ge 81, 3) := by decide +kernel
theorem dX12_oneDay_87 : decode cX12_oneDay 87 = .ok (.aload_n 0, 1) := by decide +kernel
theorem dX12_oneDay_88 : decode cX12_oneDay 88 = .ok (.getfield 11, 3) := by decide +kernel
theorem dX12_oneDay_91 : decode cX12_oneDay 91 = .ok (.aload_n 0, 1) := by decide +kernel
theorem dX12_oneDay_92 : decode cX12_oneDay 92 = .ok (.iload_n 1, 1) := by decide +kernel
theorem dX12_oneDay_93 : decode cX12_oneDay 93 = .ok (.iconst 5, 1) := by decide +kernel
theorem dX12_oneDay_94 : decode cX12_oneDay 94 = .ok (.invokevirtual 66, 3) := by decide +kernel
theorem dX12_oneDay_97 : decode cX12_oneDay 97 = .ok (.laload, 1) := by decide +kernel
theorem dX12_oneDay_98 : decode cX12_oneDay 98 = .ok (.lconst 0, 1) := by decide +kernel
theorem dX12_oneDay_99 : decode cX12_oneDay 99 = .ok (.lcmp, 1) := by decide +kernel
theorem dX12_oneDay_100 : decode cX12_oneDay 100 = .ok (.ifCond .ne 59, 3) := by decide +kernel
theorem dX12_oneDay_103 : decode cX12_oneDay 103 = .ok (.aload_n 0, 1) := by decide +kernel
theorem dX12_oneDay_104 : decode cX12_oneDay 104 = .ok (.getfield 11, 3) := by decide +kernel
theorem dX12_oneDay_107 : decode cX12_oneDay 107 = .ok (.aload_n 0, 1) := by decide +kernel
theorem dX12_oneDay_108 : decode cX12_oneDay 108 = .ok (.iload_n 1, 1) := by decide +kernel
theorem dX12_oneDay_109 : decode cX12_oneDay 109 = .ok (.iconst 3, 1) := by decide +kernel
theorem dX12_oneDay_110 : decode cX12_oneDay 110 = .ok (.invokevirtual 66, 3) := by decide +kernel
theorem dX12_oneDay_113 : decode cX12_oneDay 113 = .ok (.laload, 1) := by decide +kernel
theorem dX12_oneDay_114 : decode cX12_oneDay 114 = .ok (.aload_n 0, 1) := by decide +kernel
theorem dX12_oneDay_115 : decode cX12_oneDay 115 = .ok (.getfield 11, 3) := by decide +kernel
theorem dX12_oneDay_118 : decode cX12_oneDay 118 = .ok (.bipush 62, 2) := by decide +kernel
theorem dX12_oneDay_120 : decode cX12_oneDay 120 = .ok (.laload, 1) := by decide +kernel
theorem dX12_oneDay_121 : decode cX12_oneDay 121 = .ok (.lcmp, 1) := by decide +kernel
theorem dX12_oneDay_122 : decode cX12_oneDay 122 = .ok (.ifCond .eq 6, 3) := by decide +kernel
theorem dX12_oneDay_125 : decode cX12_oneDay 125 = .ok (.goto 34, 3) := by decide +kernel
theorem dX12_oneDay_128 : decode cX12_oneDay 128 = .ok (.aload_n 0, 1) := by decide +kernel
theorem dX12_oneDay_129 : decode cX12_oneDay 129 = .ok (.getfield 11, 3) := by decide +kernel
theorem dX12_oneDay_132 : decode cX12_oneDay 132 = .ok (.aload_n 0, 1) := by decide +kernel
theorem dX12_oneDay_133 : decode cX12_oneDay 133 = .ok (.iload_n 1, 1) := by decide +kernel
theorem dX12_oneDay_134 : decode cX12_oneDay 134 = .ok (.iconst 0, 1) := by decide +kernel
theorem dX12_oneDay_135 : decode cX12_oneDay 135 = .ok (.invokevirtual 66, 3) := by decide +kernel
theorem dX12_oneDay_138 : decode cX12_oneDay 138 = .ok (.laload, 1) := by decide +kernel
theorem dX12_oneDay_139 : decode cX12_oneDay 139 = .ok (.ldc2_w 153, 3) := by decide +kernel
theorem dX12_oneDay_142 : decode cX12_oneDay 142 = .ok (.lcmp, 1) := by decide +kernel
theorem dX12_oneDay_143 : decode cX12_oneDay 143 = .ok (.ifCond .ne 11, 3) := by decide +kernel
theorem dX12_oneDay_146 : decode cX12_oneDay 146 = .ok (.aload_n 0, 1) := by decide +kernel
theorem dX12_oneDay_147 : decode cX12_oneDay 147 = .ok (.iload_n 1, 1) := by decide +kernel
theorem dX12_oneDay_148 : decode cX12_oneDay 148 = .ok (.invokevirtual 155, 3) := by decide +kernel
theorem dX12_oneDay_151 : decode cX12_oneDay 151 = .ok (.goto 8, 3) := by decide +kernel
theorem dX12_oneDay_154 : decode cX12_oneDay 154 = .ok (.aload_n 0, 1) := by decide +kernel
theorem dX12_oneDay_155 : decode cX12_oneDay 155 = .ok (.iload_n 1, 1) := by decide +kernel
theorem dX12_oneDay_156 : decode cX12_oneDay 156 = .ok (.invokevirtual 158, 3) := by decide +kernel
theorem dX12_oneDay_159 : decode cX12_oneDay 159 = .ok (.iinc 1 1, 3) := by decide +kernel
theorem dX12_oneDay_162 : decode cX12_oneDay 162 = .ok (.goto (-83), 3) := by decide +kernel
theorem dX12_oneDay_165 : decode cX12_oneDay 165 = .ok (.iconst 0, 1) := by decide +kernel
theorem dX12_oneDay_166 : decode cX12_oneDay 166 = .ok (.istore_n 1, 1) := by decide +kernel
theorem dX12_oneDay_167 : decode cX12_oneDay 167 = .ok (.iload_n 1, 1) := by decide +kernel
theorem dX12_oneDay_168 : decode cX12_oneDay 168 = .ok (.aload_n 0, 1) := by decide +kernel
theorem dX12_oneDay_169 : decode cX12_oneDay 169 = .ok (.invokevirtual 91, 3) := by decide +kernel
theorem dX12_oneDay_172 : decode cX12_oneDay 172 = .ok (.if_icmp .ge 52, 3) := by decide +kernel
theorem dX12_oneDay_175 : decode cX12_oneDay 175 = .ok (.aload_n 0, 1) := by decide +kernel
theorem dX12_oneDay_176 : decode cX12_oneDay 176 = .ok (.getfield 11, 3) := by decide +kernel
theorem dX12_oneDay_179 : decode cX12_oneDay 179 = .ok (.aload_n 0, 1) := by decide +kernel
theorem dX12_oneDay_180 : decode cX12_oneDay 180 = .ok (.iload_n 1, 1) := by decide +kernel
theorem dX12_oneDay_181 : decode cX12_oneDay 181 = .ok (.iconst 5, 1) := by decide +kernel
theorem dX12_oneDay_182 : decode cX12_oneDay 182 = .ok (.invokevirtual 66, 3) := by decide +kernel
theorem dX12_oneDay_185 : decode cX12_oneDay 185 = .ok (.laload, 1) := by decide +kernel
theorem dX12_oneDay_186 : decode cX12_oneDay 186 = .ok (.lconst 1, 1) := by decide +kernel
theorem dX12_oneDay_187 : decode cX12_oneDay 187 = .ok (.lcmp, 1) := by decide +kernel
theorem dX12_oneDay_188 : decode cX12_oneDay 188 = .ok (.ifCond .ne 30, 3) := by decide +kernel
theorem dX12_oneDay_191 : decode cX12_oneDay 191 = .ok (.aload_n 0, 1) := by decide +kernel
theorem dX12_oneDay_192 : decode cX12_oneDay 192 = .ok (.getfield 11, 3) := by decide +kernel
theorem dX12_oneDay_195 : decode cX12_oneDay 195 = .ok (.aload_n 0, 1) := by decide +kernel
theorem dX12_oneDay_196 : decode cX12_oneDay 196 = .ok (.iload_n 1, 1) := by decide +kernel
theorem dX12_oneDay_197 : decode cX12_oneDay 197 = .ok (.iconst 4, 1) := by decide +kernel
theorem dX12_oneDay_198 : decode cX12_oneDay 198 = .ok (.invokevirtual 66, 3) := by decide +kernel
theorem dX12_oneDay_201 : decode cX12_oneDay 201 = .ok (.laload, 1) := by decide +kernel
theorem dX12_oneDay_202 : decode cX12_oneDay 202 = .ok (.aload_n 0, 1) := by decide +kernel
theorem dX12_oneDay_203 : decode cX12_oneDay 203 = .ok (.getfield 11, 3) := by decide +kernel
theorem dX12_oneDay_206 : decode cX12_oneDay 206 = .ok (.bipush 62, 2) := by decide +kernel
theorem dX12_oneDay_208 : decode cX12_oneDay 208 = .ok (.laload, 1) := by decide +kernel
theorem dX12_oneDay_209 : decode cX12_oneDay 209 = .ok (.lcmp, 1) := by decide +kernel
theorem dX12_oneDay_210 : decode cX12_oneDay 210 = .ok (.ifCond .ne 8, 3) := by decide +kernel
theorem dX12_oneDay_213 : decode cX12_oneDay 213 = .ok (.aload_n 0, 1) := by decide +kernel
theorem dX12_oneDay_214 : decode cX12_oneDay 214 = .ok (.iload_n 1, 1) := by decide +kernel
theorem dX12_oneDay_215 : decode cX12_oneDay 215 = .ok (.invokevirtual 161, 3) := by decide +kernel
theorem dX12_oneDay_218 : decode cX12_oneDay 218 = .ok (.iinc 1 1, 3) := by decide +kernel
theorem dX12_oneDay_221 : decode cX12_oneDay 221 = .ok (.goto (-54), 3) := by decide +kernel
theorem dX12_oneDay_224 : decode cX12_oneDay 224 = .ok (.iconst 0, 1) := by decide +kernel
theorem dX12_oneDay_225 : decode cX12_oneDay 225 = .ok (.istore_n 1, 1) := by decide +kernel
theorem dX12_oneDay_226 : decode cX12_oneDay 226 = .ok (.iload_n 1, 1) := by decide +kernel
theorem dX12_oneDay_227 : decode cX12_oneDay 227 = .ok (.aload_n 0, 1) := by decide +kernel
theorem dX12_oneDay_228 : decode cX12_oneDay 228 = .ok (.invokevirtual 91, 3) := by decide +kernel
theorem dX12_oneDay_231 : decode cX12_oneDay 231 = .ok (.if_icmp .ge 60, 3) := by decide +kernel
theorem dX12_oneDay_234 : decode cX12_oneDay 234 = .ok (.iconst 0, 1) := by decide +kernel
theorem dX12_oneDay_235 : decode cX12_oneDay 235 = .ok (.istore_n 2, 1) := by decide +kernel
theorem dX12_oneDay_236 : decode cX12_oneDay 236 = .ok (.iload_n 2, 1) := by decide +kernel
theorem dX12_oneDay_237 : decode cX12_oneDay 237 = .ok (.i2l, 1) := by decide +kernel
theorem dX12_oneDay_238 : decode cX12_oneDay 238 = .ok (.aload_n 0, 1) := by decide +kernel
theorem dX12_oneDay_239 : decode cX12_oneDay 239 = .ok (.getfield 11, 3) := by decide +kernel
theorem dX12_oneDay_242 : decode cX12_oneDay 242 = .ok (.aload_n 0, 1) := by decide +kernel
theorem dX12_oneDay_243 : decode cX12_oneDay 243 = .ok (.iload_n 1, 1) := by decide +kernel
theorem dX12_oneDay_244 : decode cX12_oneDay 244 = .ok (.bipush 6, 2) := by decide +kernel
theorem dX12_oneDay_246 : decode cX12_oneDay 246 = .ok (.invokevirtual 66, 3) := by decide +kernel
theorem dX12_oneDay_249 : decode cX12_oneDay 249 = .ok (.laload, 1) := by decide +kernel
theorem dX12_oneDay_250 : decode cX12_oneDay 250 = .ok (.lcmp, 1) := by decide +kernel
theorem dX12_oneDay_251 : decode cX12_oneDay 251 = .ok (.ifCond .ge 34, 3) := by decide +kernel
theorem dX12_oneDay_254 : decode cX12_oneDay 254 = .ok (.aload_n 0, 1) := by decide +kernel
theorem dX12_oneDay_255 : decode cX12_oneDay 255 = .ok (.getfield 11, 3) := by decide +kernel
theorem dX12_oneDay_258 : decode cX12_oneDay 258 = .ok (.aload_n 0, 1) := by decide +kernel
theorem dX12_oneDay_259 : decode cX12_oneDay 259 = .ok (.iload_n 1, 1) := by decide +kernel
theorem dX12_oneDay_260 : decode cX12_oneDay 260 = .ok (.iload_n 2, 1) := by decide +kernel
theorem dX12_oneDay_261 : decode cX12_oneDay 261 = .ok (.iconst 4, 1) := by decide +kernel
theorem dX12_oneDay_262 : decode cX12_oneDay 262 = .ok (.invokevirtual 164, 3) := by decide +kernel
theorem dX12_oneDay_265 : decode cX12_oneDay 265 = .ok (.laload, 1) := by decide +kernel
theorem dX12_oneDay_266 : decode cX12_oneDay 266 = .ok (.ldc2_w 136, 3) := by decide +kernel
theorem dX12_oneDay_269 : decode cX12_oneDay 269 = .ok (.lcmp, 1) := by decide +kernel
theorem dX12_oneDay_270 : decode cX12_oneDay 270 = .ok (.ifCond .ne 9, 3) := by decide +kernel
theorem dX12_oneDay_273 : decode cX12_oneDay 273 = .ok (.aload_n 0, 1) := by decide +kernel
theorem dX12_oneDay_274 : decode cX12_oneDay 274 = .ok (.iload_n 1, 1) := by decide +kernel
theorem dX12_oneDay_275 : decode cX12_oneDay 275 = .ok (.iload_n 2, 1) := by decide +kernel
theorem dX12_oneDay_276 : decode cX12_oneDay 276 = .ok (.invokevirtual 167, 3) := by decide +kernel
theorem dX12_oneDay_279 : decode cX12_oneDay 279 = .ok (.iinc 2 1, 3) := by decide +kernel
theorem dX12_oneDay_282 : decode cX12_oneDay 282 = .ok (.goto (-46), 3) := by decide +kernel
theorem dX12_oneDay_285 : decode cX12_oneDay 285 = .ok (.iinc 1 1, 3) := by decide +kernel
theorem dX12_oneDay_288 : decode cX12_oneDay 288 = .ok (.goto (-62), 3) := by decide +kernel
theorem dX12_oneDay_291 : decode cX12_oneDay 291 = .ok (.return_, 1) := by decide +kernel
theorem fcX12_161 : q_LV RX12 161 yX12_paysAll cX12_paysAll 5 none 1 12 := ⟨q_tb 1638 (by decide +kernel) rfl, q_tb 1640 (by decide +kernel) rfl, q_tbs (q := (yX12_paysAll, 35)) 112 (by decide +kernel) rfl, q_tb 13 (by decide +kernel) rfl, q_tb 1641 (by decide +kernel) rfl, ⟨by decide +kernel, by decide +kernel, by decide +kernel⟩, TX12, 35, rfl⟩
theorem fcX12_155 : q_LV RX12 155 yX12_turnsAll cX12_turnsAll 11 none 1 12 := ⟨q_tb 1606 (by decide +kernel) rfl, q_tb 1608 (by decide +kernel) rfl, q_tbs (q := (yX12_turnsAll, 35)) 104 (by decide +kernel) rfl, q_tb 13 (by decide +kernel) rfl, q_tb 1609 (by decide +kernel) rfl, ⟨by decide +kernel, by decide +kernel, by decide +kernel⟩, TX12, 35, rfl⟩
theorem fcX12_158 : q_LV RX12 158 yX12_writes cX12_writes 4 none 1 12 := ⟨q_tb 1626 (by decide +kernel) rfl, q_tb 1628 (by decide +kernel) rfl, q_tbs (q := (yX12_writes, 35)) 109 (by decide +kernel) rfl, q_tb 13 (by decide +kernel) rfl, q_tb 1629 (by decide +kernel) rfl, ⟨by decide +kernel, by decide +kernel, by decide +kernel⟩, TX12, 35, rfl⟩
theorem fcX12_149 : q_LV RX12 149 yX12_settles cX12_settles 4 none 1 12 := ⟨q_tb 1583 (by decide +kernel) rfl, q_tb 1585 (by decide +kernel) rfl, q_tbs (q := (yX12_settles, 35)) 99 (by decide +kernel) rfl, q_tb 13 (by decide +kernel) rfl, q_tb 1586 (by decide +kernel) rfl, ⟨by decide +kernel, by decide +kernel, by decide +kernel⟩, TX12, 35, rfl⟩
def fX12_oneDay_L279 (n : Nat) (k226 : Nat → Int32 → Mm → Option (Unit × Mm)) (k236 : Nat → Int32 → Int32 → Mm → Option (Unit × Mm)) (r0 : Nat) (v1 : Int32) (v2 : Int32) (X : Mm) : Option (Unit × Mm) :=
nm (v2 + (1 : Int32)) fun v2_279 =>
k236 r0 v1 v2_279 X
def fX12_oneDay_L236 (n : Nat) (k226 : Nat → Int32 → Mm → Option (Unit × Mm)) : Nat → Nat → Int32 → Int32 → Mm → Option (Unit × Mm)
| 0, _, _, _, _ => none
| j + 1, r0, v1, v2, X =>
if mT X r0 = 12 then
if mR X r0 1 ≠ 0 then
bd (fX12_of r0 v1 (6 : Int32) X) fun w20 X246_21 =>
if mT X246_21 (mR X r0 1) = 15 then
if q_b X246_21 (mR X r0 1) w20 then
if 0 ≤ (lg_cmp ((v2).toInt64) (mJ X246_21 (mR X r0 1) (w20).toNatClampNeg)) then (
nm (v1 + (1 : Int32)) fun v1_285 =>
k226 r0 v1_285 X246_21
) else (
if mT X246_21 r0 = 12 then
if mR X246_21 r0 1 ≠ 0 then
bd (fX12_ofClaim r0 v1 v2 (4 : Int32) X246_21) fun w26 X262_27 =>
if mT X262_27 (mR X246_21 r0 1) = 15 then
if q_b X262_27 (mR X246_21 r0 1) w26 then
if (lg_cmp (mJ X262_27 (mR X246_21 r0 1) (w26).toNatClampNeg) (2 : Int64)) = 0 then (
if mT X262_27 r0 = 12 then
bd (fX12_goesOver r0 v1 v2 X262_27) fun _ X276_31 =>
fX12_oneDay_L279 n k226 (fX12_oneDay_L236 n k226 j) r0 v1 v2 X276_31
else none
) else (
fX12_oneDay_L279 n k226 (fX12_oneDay_L236 n k226 j) r0 v1 v2 X262_27
)
else none
else none
else none
else none
)
else none
else none
else none
else none
def fX12_oneDay_L226 (n : Nat) : Nat → Nat → Int32 → Mm → Option (Unit × Mm)
| 0, _, _, _ => none
| j + 1, r0, v1, X =>
if mT X r0 = 12 then
bd (fX12_eventMany r0 X) fun w15 X228_16 =>
if w15 ≤ v1 then (
some ((), X228_16)
) else (
fX12_oneDay_L236 n (fX12_oneDay_L226 n j) n r0 v1 (0 : Int32) X228_16
)
else none
def fX12_oneDay_L218 (n : Nat) (k167 : Nat → Int32 → Mm → Option (Unit × Mm)) (r0 : Nat) (v1 : Int32) (X : Mm) : Option (Unit × Mm) :=
nm (v1 + (1 : Int32)) fun v1_218 =>
k167 r0 v1_218 X
def fX12_oneDay_L167 (n : Nat) : Nat → Nat → Int32 → Mm → Option (Unit × Mm)
| 0, _, _, _ => none
| j + 1, r0, v1, X =>
if mT X r0 = 12 then
bd (fX12_eventMany r0 X) fun w12 X169_13 =>
if w12 ≤ v1 then (
fX12_oneDay_L226 n n r0 (0 : Int32) X169_13
) else (
if mT X169_13 r0 = 12 then
if mR X169_13 r0 1 ≠ 0 then
bd (fX12_of r0 v1 (5 : Int32) X169_13) fun w35 X182_36 =>
if mT X182_36 (mR X169_13 r0 1) = 15 then
if q_b X182_36 (mR X169_13 r0 1) w35 then
if (lg_cmp (mJ X182_36 (mR X169_13 r0 1) (w35).toNatClampNeg) (1 : Int64)) = 0 then (
if mT X182_36 r0 = 12 then
if mR X182_36 r0 1 ≠ 0 then
bd (fX12_of r0 v1 (4 : Int32) X182_36) fun w41 X198_42 =>
if mT X198_42 (mR X182_36 r0 1) = 15 then
if q_b X198_42 (mR X182_36 r0 1) w41 then
if mT X198_42 r0 = 12 then
if mR X198_42 r0 1 ≠ 0 then
if mT X198_42 (mR X198_42 r0 1) = 15 then
if q_b X198_42 (mR X198_42 r0 1) (62 : Int32) then
if (lg_cmp (mJ X198_42 (mR X182_36 r0 1) (w41).toNatClampNeg) (mJ X198_42 (mR X198_42 r0 1) ((62 : Int32)).toNatClampNeg)) = 0 then (
bd (fX12_paysAll n r0 v1 X198_42) fun _ X215_50 =>
fX12_oneDay_L218 n (fX12_oneDay_L167 n j) r0 v1 X215_50
) else (
fX12_oneDay_L218 n (fX12_oneDay_L167 n j) r0 v1 X198_42
)
else none
else none
else none
else none
else none
else none
else none
else none
) else (
fX12_oneDay_L218 n (fX12_oneDay_L167 n j) r0 v1 X182_36
)
else none
else none
else none
else none
)
else none
def fX12_oneDay_L159 (n : Nat) (k79 : Nat → Int32 → Mm → Option (Unit × Mm)) (r0 : Nat) (v1 : Int32) (X : Mm) : Option (Unit × Mm) :=
nm (v1 + (1 : Int32)) fun v1_159 =>
k79 r0 v1_159 X
def fX12_oneDay_L79 (n : Nat) : Nat → Nat → Int32 → Mm → Option (Unit × Mm)
| 0, _, _, _ => none
| j + 1, r0, v1, X =>
if mT X r0 = 12 then
bd (fX12_eventMany r0 X) fun w9 X81_10 =>
if w9 ≤ v1 then (
fX12_oneDay_L167 n n r0 (0 : Int32) X81_10
) else (
if mT X81_10 r0 = 12 then
if mR X81_10 r0 1 ≠ 0 then
bd (fX12_of r0 v1 (5 : Int32) X81_10) fun w53 X94_54 =>
if mT X94_54 (mR X81_10 r0 1) = 15 then
if q_b X94_54 (mR X81_10 r0 1) w53 then
if (lg_cmp (mJ X94_54 (mR X81_10 r0 1) (w53).toNatClampNeg) (0 : Int64)) = 0 then (
if mT X94_54 r0 = 12 then
if mR X94_54 r0 1 ≠ 0 then
bd (fX12_of r0 v1 (3 : Int32) X94_54) fun w59 X110_60 =>
if mT X110_60 (mR X94_54 r0 1) = 15 then
if q_b X110_60 (mR X94_54 r0 1) w59 then
if mT X110_60 r0 = 12 then
if mR X110_60 r0 1 ≠ 0 then
if mT X110_60 (mR X110_60 r0 1) = 15 then
if q_b X110_60 (mR X110_60 r0 1) (62 : Int32) then
if (lg_cmp (mJ X110_60 (mR X94_54 r0 1) (w59).toNatClampNeg) (mJ X110_60 (mR X110_60 r0 1) ((62 : Int32)).toNatClampNeg)) = 0 then (
bd (fX12_of r0 v1 (0 : Int32) X110_60) fun w67 X135_68 =>
if mT X135_68 (mR X110_60 r0 1) = 15 then
if q_b X135_68 (mR X110_60 r0 1) w67 then
if (lg_cmp (mJ X135_68 (mR X110_60 r0 1) (w67).toNatClampNeg) (3 : Int64)) = 0 then (
if mT X135_68 r0 = 12 then
bd (fX12_turnsAll n r0 v1 X135_68) fun _ X148_72 =>
fX12_oneDay_L159 n (fX12_oneDay_L79 n j) r0 v1 X148_72
else none
) else (
if mT X135_68 r0 = 12 then
bd (fX12_writes n r0 v1 X135_68) fun _ X156_75 =>
fX12_oneDay_L159 n (fX12_oneDay_L79 n j) r0 v1 X156_75
else none
)
else none
else none
) else (
fX12_oneDay_L159 n (fX12_oneDay_L79 n j) r0 v1 X110_60
)
else none
else none
else none
else none
else none
else none
else none
else none
) else (
fX12_oneDay_L159 n (fX12_oneDay_L79 n j) r0 v1 X94_54
)
else none
else none
else none
else none
)
else none
def fX12_oneDay_L71 (n : Nat) (k18 : Nat → Int32 → Mm → Option (Unit × Mm)) (r0 : Nat) (v1 : Int32) (X : Mm) : Option (Unit × Mm) :=
nm (v1 + (1 : Int32)) fun v1_71 =>
k18 r0 v1_71 X
def fX12_oneDay_L18 (n : Nat) : Nat → Nat → Int32 → Mm → Option (Unit × Mm)
| 0, _, _, _ => none
| j + 1, r0, v1, X =>
if mT X r0 = 12 then
bd (fX12_tradeMany r0 X) fun w6 X20_7 =>
if w6 ≤ v1 then (
fX12_oneDay_L79 n n r0 (0 : Int32) X20_7
) else (
if mT X20_7 r0 = 12 then
if mR X20_7 r0 1 ≠ 0 then
bd (fX12_at r0 v1 (7 : Int32) X20_7) fun w79 X34_80 =>
if mT X34_80 (mR X20_7 r0 1) = 15 then
if q_b X34_80 (mR X20_7 r0 1) w79 then
if (lg_cmp (mJ X34_80 (mR X20_7 r0 1) (w79).toNatClampNeg) (0 : Int64)) = 0 then (
if mT X34_80 r0 = 12 then
if mR X34_80 r0 1 ≠ 0 then
bd (fX12_at r0 v1 (6 : Int32) X34_80) fun w85 X51_86 =>
if mT X51_86 (mR X34_80 r0 1) = 15 then
if q_b X51_86 (mR X34_80 r0 1) w85 then
if mT X51_86 r0 = 12 then
if mR X51_86 r0 1 ≠ 0 then
if mT X51_86 (mR X51_86 r0 1) = 15 then
if q_b X51_86 (mR X51_86 r0 1) (62 : Int32) then
if 0 < (lg_cmp (mJ X51_86 (mR X34_80 r0 1) (w85).toNatClampNeg) (mJ X51_86 (mR X51_86 r0 1) ((62 : Int32)).toNatClampNeg)) then (
fX12_oneDay_L71 n (fX12_oneDay_L18 n j) r0 v1 X51_86
) else (
bd (fX12_settles r0 v1 X51_86) fun _ X68_94 =>
fX12_oneDay_L71 n (fX12_oneDay_L18 n j) r0 v1 X68_94
)
else none
else none
else none
else none
else none
else none
else none
else none
) else (
fX12_oneDay_L71 n (fX12_oneDay_L18 n j) r0 v1 X34_80
)
else none
else none
else none
else none
)
else none
def fX12_oneDay (n : Nat) (r0 : Nat) (X : Mm) : Option (Unit × Mm) :=
if mT X r0 = 12 then
if mR X r0 1 ≠ 0 then
if mT X (mR X r0 1) = 15 then
if q_b X (mR X r0 1) (62 : Int32) then
nm (sJ X (mR X r0 1) ((62 : Int32)).toNatClampNeg ((mJ X (mR X r0 1) ((62 : Int32)).toNatClampNeg) + (1 : Int64))) fun X15_5 =>
fX12_oneDay_L18 n n r0 (0 : Int32) X15_5
else none
else none
else none
else none
theorem gX12_oneDay_L279 {E : q_E} {X0 : Mm} (C : Cx E cX12_oneDay RX12 3 none (q_rm 5 120 0 0) X0) (n : Nat) (k226 : Nat → Int32 → Mm → Option (Unit × Mm)) (hk226 : ∀ (r0 : Nat) (v1 : Int32) (X : Mm), Sm E (q_fin E q_eV X0 0 0) 0 0 226 [(0, .ref (q_P E + r0)), (1, .int v1)] [] X (k226 r0 v1 X)) (k236 : Nat → Int32 → Int32 → Mm → Option (Unit × Mm)) (hk236 : ∀ (r0 : Nat) (v1 : Int32) (v2 : Int32) (X : Mm), Sm E (q_fin E q_eV X0 0 0) 0 0 236 [(0, .ref (q_P E + r0)), (1, .int v1), (2, .int v2)] [] X (k236 r0 v1 v2 X)) (r0 : Nat) (v1 : Int32) (v2 : Int32) (X : Mm) : Sm E (q_fin E q_eV X0 0 0) 0 0 279 [(0, .ref (q_P E + r0)), (1, .int v1), (2, .int v2)] [] X (fX12_oneDay_L279 n k226 k236 r0 v1 v2 X) := by
  unfold fX12_oneDay_L279
  refine q_iincN C (1 : Int32) 2 (fun v2_279 => [(2, .int v2_279), (0, .ref (q_P E + r0)), (1, .int v1)]) dX12_oneDay_279 rfl rfl (Nat.le_of_ble_eq_true rfl) (fun _ => rfl) (fun v2_279 => ?_)
  refine q_goto C 236 dX12_oneDay_282 (by decide) ?_
  refine q_sub C [(0, .ref (q_P E + r0)), (1, .int v1), (2, .int v2_279)] [1, 2, 0] rfl ?_
  exact hk236 r0 v1 v2_279 X
theorem gX12_oneDay_L236 {E : q_E} {X0 : Mm} (C : Cx E cX12_oneDay RX12 3 none (q_rm 5 120 0 0) X0) (n : Nat) (k226 : Nat → Int32 → Mm → Option (Unit × Mm)) (hk226 : ∀ (r0 : Nat) (v1 : Int32) (X : Mm), Sm E (q_fin E q_eV X0 0 0) 0 0 226 [(0, .ref (q_P E + r0)), (1, .int v1)] [] X (k226 r0 v1 X)) : ∀ (j : Nat) (r0 : Nat) (v1 : Int32) (v2 : Int32) (X : Mm), Sm E (q_fin E q_eV X0 0 0) 0 0 236 [(0, .ref (q_P E + r0)), (1, .int v1), (2, .int v2)] [] X (fX12_oneDay_L236 n k226 j r0 v1 v2 X) := by
  intro j
  induction j with
  | zero => intros; exact Sm.none
  | succ j ih =>
    intro r0 v1 v2 X
    rw [fX12_oneDay_L236]
    refine q_iload_n C 2 dX12_oneDay_236 rfl rfl ?_
    refine q_i2l C dX12_oneDay_237 ?_
    refine q_aload_n C 0 dX12_oneDay_238 rfl rfl ?_
    refine q_chk (fun h18 => ?_)
    refine q_chk (fun h19 => ?_)
    refine p_getR C fgX12_11 rfl dX12_oneDay_239 h18 h19 ?_
    refine q_aload_n C 0 dX12_oneDay_242 rfl rfl ?_
    refine q_iload_n C 1 dX12_oneDay_243 rfl rfl ?_
    refine q_bipush C (6 : Int32) dX12_oneDay_244 rfl ?_
    refine q_cVI (As := (fun P => [.int v1, .int (6 : Int32)])) C [.ref (q_P E + (mR X r0 1)), .long ((v2).toInt64)] (sX12_of r0 v1 (6 : Int32)) fcX12_66 rfl (fun _ => rfl) ⟨Nat.le_of_ble_eq_true rfl, Nat.le_of_ble_eq_true rfl⟩ ⟨Nat.le_of_ble_eq_true rfl, Nat.le_of_ble_eq_true rfl⟩ (Nat.le_of_ble_eq_true rfl) dX12_oneDay_246 h18 (fun w20 X246_21 => ?_)
    refine q_chk (fun h22 => ?_)
    refine q_chk (fun h23 => ?_)
    refine p_lald C dX12_oneDay_249 h22 h23 ?_
    refine q_lcmp C dX12_oneDay_250 ?_
    refine q_if_ge C 285 dX12_oneDay_251 (by decide) (fun _ => ?_) (fun _ => ?_)
    · refine q_iincN C (1 : Int32) 1 (fun v1_285 => [(1, .int v1_285), (0, .ref (q_P E + r0)), (2, .int v2)]) dX12_oneDay_285 rfl rfl (Nat.le_of_ble_eq_true rfl) (fun _ => rfl) (fun v1_285 => ?_)
      refine q_goto C 226 dX12_oneDay_288 (by decide) ?_
      refine q_sub C [(0, .ref (q_P E + r0)), (1, .int v1_285)] [1, 0] rfl ?_
      exact hk226 r0 v1_285 X246_21
    · refine q_aload_n C 0 dX12_oneDay_254 rfl rfl ?_
      refine q_chk (fun h24 => ?_)
      refine q_chk (fun h25 => ?_)
      refine p_getR C fgX12_11 rfl dX12_oneDay_255 h24 h25 ?_
      refine q_aload_n C 0 dX12_oneDay_258 rfl rfl ?_
      refine q_iload_n C 1 dX12_oneDay_259 rfl rfl ?_
      refine q_iload_n C 2 dX12_oneDay_260 rfl rfl ?_
      refine q_iconst C (4 : Int32) dX12_oneDay_261 rfl ?_
      refine q_cVI (As := (fun P => [.int v1, .int v2, .int (4 : Int32)])) C [.ref (q_P E + (mR X246_21 r0 1))] (sX12_ofClaim r0 v1 v2 (4 : Int32)) fcX12_164 rfl (fun _ => rfl) ⟨Nat.le_of_ble_eq_true rfl, Nat.le_of_ble_eq_true rfl⟩ ⟨Nat.le_of_ble_eq_true rfl, Nat.le_of_ble_eq_true rfl⟩ (Nat.le_of_ble_eq_true rfl) dX12_oneDay_262 h24 (fun w26 X262_27 => ?_)
      refine q_chk (fun h28 => ?_)
      refine q_chk (fun h29 => ?_)
      refine p_lald C dX12_oneDay_265 h28 h29 ?_
      refine q_ldc2 C dX12_oneDay_266 fkX12_136 ?_
      refine q_lcmp C dX12_oneDay_269 ?_
      refine q_if_ne C 279 dX12_oneDay_270 (by decide) (fun _ => ?_) (fun _ => ?_)
      · refine q_aload_n C 0 dX12_oneDay_273 rfl rfl ?_
        refine q_iload_n C 1 dX12_oneDay_274 rfl rfl ?_
        refine q_iload_n C 2 dX12_oneDay_275 rfl rfl ?_
        refine q_chk (fun h32 => ?_)
        refine q_cVV (As := (fun P => [.int v1, .int v2])) C [] (sX12_goesOver r0 v1 v2) fcX12_167 rfl (fun _ => rfl) ⟨Nat.le_of_ble_eq_true rfl, Nat.le_of_ble_eq_true rfl⟩ ⟨Nat.le_of_ble_eq_true rfl, Nat.le_of_ble_eq_true rfl⟩ (Nat.le_of_ble_eq_true rfl) dX12_oneDay_276 h32 (fun _ X276_31 => ?_)
        exact gX12_oneDay_L279 C n k226 hk226 (fX12_oneDay_L236 n k226 j) ih r0 v1 v2 X276_31
      · exact gX12_oneDay_L279 C n k226 hk226 (fX12_oneDay_L236 n k226 j) ih r0 v1 v2 X262_27
theorem gX12_oneDay_L226 {E : q_E} {X0 : Mm} (C : Cx E cX12_oneDay RX12 3 none (q_rm 5 120 0 0) X0) (n : Nat) : ∀ (j : Nat) (r0 : Nat) (v1 : Int32) (X : Mm), Sm E (q_fin E q_eV X0 0 0) 0 0 226 [(0, .ref (q_P E + r0)), (1, .int v1)] [] X (fX12_oneDay_L226 n j r0 v1 X) := by
  intro j
  induction j with
  | zero => intros; exact Sm.none
  | succ j ih =>
    intro r0 v1 X
    rw [fX12_oneDay_L226]
    refine q_iload_n C 1 dX12_oneDay_226 rfl rfl ?_
    refine q_aload_n C 0 dX12_oneDay_227 rfl rfl ?_
    refine q_chk (fun h17 => ?_)
    refine q_cVI (As := (fun P => [])) C [.int v1] (sX12_eventMany r0) fcX12_91 rfl (fun _ => rfl) ⟨Nat.le_of_ble_eq_true rfl, Nat.le_of_ble_eq_true rfl⟩ ⟨Nat.le_of_ble_eq_true rfl, Nat.le_of_ble_eq_true rfl⟩ (Nat.le_of_ble_eq_true rfl) dX12_oneDay_228 h17 (fun w15 X228_16 => ?_)
    refine q_icmp_ge C 291 dX12_oneDay_231 (by decide) (fun _ => ?_) (fun _ => ?_)
    · exact q_vret C dX12_oneDay_291
    · refine q_iconst C (0 : Int32) dX12_oneDay_234 rfl ?_
      refine q_istore_n C [(2, .int (0 : Int32)), (0, .ref (q_P E + r0)), (1, .int v1)] dX12_oneDay_235 rfl (Nat.le_of_ble_eq_true rfl) rfl ?_
      refine q_sub C [(0, .ref (q_P E + r0)), (1, .int v1), (2, .int (0 : Int32))] [1, 2, 0] rfl ?_
      exact gX12_oneDay_L236 C n (fX12_oneDay_L226 n j) ih n r0 v1 (0 : Int32) X228_16
theorem gX12_oneDay_L218 {E : q_E} {X0 : Mm} (C : Cx E cX12_oneDay RX12 3 none (q_rm 5 120 0 0) X0) (n : Nat) (k167 : Nat → Int32 → Mm → Option (Unit × Mm)) (hk167 : ∀ (r0 : Nat) (v1 : Int32) (X : Mm), Sm E (q_fin E q_eV X0 0 0) 0 0 167 [(0, .ref (q_P E + r0)), (1, .int v1)] [] X (k167 r0 v1 X)) (r0 : Nat) (v1 : Int32) (X : Mm) : Sm E (q_fin E q_eV X0 0 0) 0 0 218 [(0, .ref (q_P E + r0)), (1, .int v1)] [] X (fX12_oneDay_L218 n k167 r0 v1 X) := by
  unfold fX12_oneDay_L218
  refine q_iincN C (1 : Int32) 1 (fun v1_218 => [(1, .int v1_218), (0, .ref (q_P E + r0))]) dX12_oneDay_218 rfl rfl (Nat.le_of_ble_eq_true rfl) (fun _ => rfl) (fun v1_218 => ?_)
  refine q_goto C 167 dX12_oneDay_221 (by decide) ?_
  refine q_sub C [(0, .ref (q_P E + r0)), (1, .int v1_218)] [1, 0] rfl ?_
  exact hk167 r0 v1_218 X
theorem gX12_oneDay_L167 {E : q_E} {X0 : Mm} (C : Cx E cX12_oneDay RX12 3 none (q_rm 5 120 0 0) X0) (n : Nat) : ∀ (j : Nat) (r0 : Nat) (v1 : Int32) (X : Mm), Sm E (q_fin E q_eV X0 0 0) 0 0 167 [(0, .ref (q_P E + r0)), (1, .int v1)] [] X (fX12_oneDay_L167 n j r0 v1 X) := by
  intro j
  induction j with
  | zero => intros; exact Sm.none
  | succ j ih =>
    intro r0 v1 X
    rw [fX12_oneDay_L167]
    refine q_iload_n C 1 dX12_oneDay_167 rfl rfl ?_
    refine q_aload_n C 0 dX12_oneDay_168 rfl rfl ?_
    refine q_chk (fun h14 => ?_)
    refine q_cVI (As := (fun P => [])) C [.int v1] (sX12_eventMany r0) fcX12_91 rfl (fun _ => rfl) ⟨Nat.le_of_ble_eq_true rfl, Nat.le_of_ble_eq_true rfl⟩ ⟨Nat.le_of_ble_eq_true rfl, Nat.le_of_ble_eq_true rfl⟩ (Nat.le_of_ble_eq_true rfl) dX12_oneDay_169 h14 (fun w12 X169_13 => ?_)
    refine q_icmp_ge C 224 dX12_oneDay_172 (by decide) (fun _ => ?_) (fun _ => ?_)
    · refine q_iconst C (0 : Int32) dX12_oneDay_224 rfl ?_
      refine q_istore_n C [(1, .int (0 : Int32)), (0, .ref (q_P E + r0))] dX12_oneDay_225 rfl (Nat.le_of_ble_eq_true rfl) rfl ?_
      refine q_sub C [(0, .ref (q_P E + r0)), (1, .int (0 : Int32))] [1, 0] rfl ?_
      exact gX12_oneDay_L226 C n n r0 (0 : Int32) X169_13
    · refine q_aload_n C 0 dX12_oneDay_175 rfl rfl ?_
      refine q_chk (fun h33 => ?_)
      refine q_chk (fun h34 => ?_)
      refine p_getR C fgX12_11 rfl dX12_oneDay_176 h33 h34 ?_
      refine q_aload_n C 0 dX12_oneDay_179 rfl rfl ?_
      refine q_iload_n C 1 dX12_oneDay_180 rfl rfl ?_
      refine q_iconst C (5 : Int32) dX12_oneDay_181 rfl ?_
      refine q_cVI (As := (fun P => [.int v1, .int (5 : Int32)])) C [.ref (q_P E + (mR X169_13 r0 1))] (sX12_of r0 v1 (5 : Int32)) fcX12_66 rfl (fun _ => rfl) ⟨Nat.le_of_ble_eq_true rfl, Nat.le_of_ble_eq_true rfl⟩ ⟨Nat.le_of_ble_eq_true rfl, Nat.le_of_ble_eq_true rfl⟩ (Nat.le_of_ble_eq_true rfl) dX12_oneDay_182 h33 (fun w35 X182_36 => ?_)
      refine q_chk (fun h37 => ?_)
      refine q_chk (fun h38 => ?_)
      refine p_lald C dX12_oneDay_185 h37 h38 ?_
      refine q_lconst C (1 : Int64) dX12_oneDay_186 rfl ?_
      refine q_lcmp C dX12_oneDay_187 ?_
      refine q_if_ne C 218 dX12_oneDay_188 (by decide) (fun _ => ?_) (fun _ => ?_)
      · refine q_aload_n C 0 dX12_oneDay_191 rfl rfl ?_
        refine q_chk (fun h39 => ?_)
        refine q_chk (fun h40 => ?_)
        refine p_getR C fgX12_11 rfl dX12_oneDay_192 h39 h40 ?_
        refine q_aload_n C 0 dX12_oneDay_195 rfl rfl ?_
        refine q_iload_n C 1 dX12_oneDay_196 rfl rfl ?_
        refine q_iconst C (4 : Int32) dX12_oneDay_197 rfl ?_
        refine q_cVI (As := (fun P => [.int v1, .int (4 : Int32)])) C [.ref (q_P E + (mR X182_36 r0 1))] (sX12_of r0 v1 (4 : Int32)) fcX12_66 rfl (fun _ => rfl) ⟨Nat.le_of_ble_eq_true rfl, Nat.le_of_ble_eq_true rfl⟩ ⟨Nat.le_of_ble_eq_true rfl, Nat.le_of_ble_eq_true rfl⟩ (Nat.le_of_ble_eq_true rfl) dX12_oneDay_198 h39 (fun w41 X198_42 => ?_)
        refine q_chk (fun h43 => ?_)
        refine q_chk (fun h44 => ?_)
        refine p_lald C dX12_oneDay_201 h43 h44 ?_
        refine q_aload_n C 0 dX12_oneDay_202 rfl rfl ?_
        refine q_chk (fun h45 => ?_)
        refine q_chk (fun h46 => ?_)
        refine p_getR C fgX12_11 rfl dX12_oneDay_203 h45 h46 ?_
        refine q_bipush C (62 : Int32) dX12_oneDay_206 rfl ?_
        refine q_chk (fun h47 => ?_)
        refine q_chk (fun h48 => ?_)
        refine p_lald C dX12_oneDay_208 h47 h48 ?_
        refine q_lcmp C dX12_oneDay_209 ?_
        refine q_if_ne C 218 dX12_oneDay_210 (by decide) (fun _ => ?_) (fun _ => ?_)
        · refine q_aload_n C 0 dX12_oneDay_213 rfl rfl ?_
          refine q_iload_n C 1 dX12_oneDay_214 rfl rfl ?_
          refine q_cVV (As := (fun P => [.int v1])) C [] (sX12_paysAll n r0 v1) fcX12_161 rfl (fun _ => rfl) ⟨Nat.le_of_ble_eq_true rfl, Nat.le_of_ble_eq_true rfl⟩ ⟨Nat.le_of_ble_eq_true rfl, Nat.le_of_ble_eq_true rfl⟩ (Nat.le_of_ble_eq_true rfl) dX12_oneDay_215 h45 (fun _ X215_50 => ?_)
          exact gX12_oneDay_L218 C n (fX12_oneDay_L167 n j) ih r0 v1 X215_50
        · exact gX12_oneDay_L218 C n (fX12_oneDay_L167 n j) ih r0 v1 X198_42
      · exact gX12_oneDay_L218 C n (fX12_oneDay_L167 n j) ih r0 v1 X182_36
theorem gX12_oneDay_L159 {E : q_E} {X0 : Mm} (C : Cx E cX12_oneDay RX12 3 none (q_rm 5 120 0 0) X0) (n : Nat) (k79 : Nat → Int32 → Mm → Option (Unit × Mm)) (hk79 : ∀ (r0 : Nat) (v1 : Int32) (X : Mm), Sm E (q_fin E q_eV X0 0 0) 0 0 79 [(0, .ref (q_P E + r0)), (1, .int v1)] [] X (k79 r0 v1 X)) (r0 : Nat) (v1 : Int32) (X : Mm) : Sm E (q_fin E q_eV X0 0 0) 0 0 159 [(0, .ref (q_P E + r0)), (1, .int v1)] [] X (fX12_oneDay_L159 n k79 r0 v1 X) := by
  unfold fX12_oneDay_L159
  refine q_iincN C (1 : Int32) 1 (fun v1_159 => [(1, .int v1_159), (0, .ref (q_P E + r0))]) dX12_oneDay_159 rfl rfl (Nat.le_of_ble_eq_true rfl) (fun _ => rfl) (fun v1_159 => ?_)
  refine q_goto C 79 dX12_oneDay_162 (by decide) ?_
  refine q_sub C [(0, .ref (q_P E + r0)), (1, .int v1_159)] [1, 0] rfl ?_
  exact hk79 r0 v1_159 X
theorem gX12_oneDay_L79 {E : q_E} {X0 : Mm} (C : Cx E cX12_oneDay RX12 3 none (q_rm 5 120 0 0) X0) (n : Nat) : ∀ (j : Nat) (r0 : Nat) (v1 : Int32) (X : Mm), Sm E (q_fin E q_eV X0 0 0) 0 0 79 [(0, .ref (q_P E + r0)), (1, .int v1)] [] X (fX12_oneDay_L79 n j r0 v1 X) := by
  intro j
  induction j with
  | zero => intros; exact Sm.none
  | succ j ih =>
    intro r0 v1 X
    rw [fX12_oneDay_L79]
    refine q_iload_n C 1 dX12_oneDay_79 rfl rfl ?_
    refine q_aload_n C 0 dX12_oneDay_80 rfl rfl ?_
    refine q_chk (fun h11 => ?_)
    refine q_cVI (As := (fun P => [])) C [.int v1] (sX12_eventMany r0) fcX12_91 rfl (fun _ => rfl) ⟨Nat.le_of_ble_eq_true rfl, Nat.le_of_ble_eq_true rfl⟩ ⟨Nat.le_of_ble_eq_true rfl, Nat.le_of_ble_eq_true rfl⟩ (Nat.le_of_ble_eq_true rfl) dX12_oneDay_81 h11 (fun w9 X81_10 => ?_)
    refine q_icmp_ge C 165 dX12_oneDay_84 (by decide) (fun _ => ?_) (fun _ => ?_)
    · refine q_iconst C (0 : Int32) dX12_oneDay_165 rfl ?_
      refine q_istore_n C [(1, .int (0 : Int32)), (0, .ref (q_P E + r0))] dX12_oneDay_166 rfl (Nat.le_of_ble_eq_true rfl) rfl ?_
      refine q_sub C [(0, .ref (q_P E + r0)), (1, .int (0 : Int32))] [1, 0] rfl ?_
      exact gX12_oneDay_L167 C n n r0 (0 : Int32) X81_10
    · refine q_aload_n C 0 dX12_oneDay_87 rfl rfl ?_
      refine q_chk (fun h51 => ?_)
      refine q_chk (fun h52 => ?_)
      refine p_getR C fgX12_11 rfl dX12_oneDay_88 h51 h52 ?_
      refine q_aload_n C 0 dX12_oneDay_91 rfl rfl ?_
      refine q_iload_n C 1 dX12_oneDay_92 rfl rfl ?_
      refine q_iconst C (5 : Int32) dX12_oneDay_93 rfl ?_
      refine q_cVI (As := (fun P => [.int v1, .int (5 : Int32)])) C [.ref (q_P E + (mR X81_10 r0 1))] (sX12_of r0 v1 (5 : Int32)) fcX12_66 rfl (fun _ => rfl) ⟨Nat.le_of_ble_eq_true rfl, Nat.le_of_ble_eq_true rfl⟩ ⟨Nat.le_of_ble_eq_true rfl, Nat.le_of_ble_eq_true rfl⟩ (Nat.le_of_ble_eq_true rfl) dX12_oneDay_94 h51 (fun w53 X94_54 => ?_)
      refine q_chk (fun h55 => ?_)
      refine q_chk (fun h56 => ?_)
      refine p_lald C dX12_oneDay_97 h55 h56 ?_
      refine q_lconst C (0 : Int64) dX12_oneDay_98 rfl ?_
      refine q_lcmp C dX12_oneDay_99 ?_
      refine q_if_ne C 159 dX12_oneDay_100 (by decide) (fun _ => ?_) (fun _ => ?_)
      · refine q_aload_n C 0 dX12_oneDay_103 rfl rfl ?_
        refine q_chk (fun h57 => ?_)
        refine q_chk (fun h58 => ?_)
        refine p_getR C fgX12_11 rfl dX12_oneDay_104 h57 h58 ?_
        refine q_aload_n C 0 dX12_oneDay_107 rfl rfl ?_
        refine q_iload_n C 1 dX12_oneDay_108 rfl rfl ?_
        refine q_iconst C (3 : Int32) dX12_oneDay_109 rfl ?_
        refine q_cVI (As := (fun P => [.int v1, .int (3 : Int32)])) C [.ref (q_P E + (mR X94_54 r0 1))] (sX12_of r0 v1 (3 : Int32)) fcX12_66 rfl (fun _ => rfl) ⟨Nat.le_of_ble_eq_true rfl, Nat.le_of_ble_eq_true rfl⟩ ⟨Nat.le_of_ble_eq_true rfl, Nat.le_of_ble_eq_true rfl⟩ (Nat.le_of_ble_eq_true rfl) dX12_oneDay_110 h57 (fun w59 X110_60 => ?_)
        refine q_chk (fun h61 => ?_)
        refine q_chk (fun h62 => ?_)
        refine p_lald C dX12_oneDay_113 h61 h62 ?_
        refine q_aload_n C 0 dX12_oneDay_114 rfl rfl ?_
        refine q_chk (fun h63 => ?_)
        refine q_chk (fun h64 => ?_)
        refine p_getR C fgX12_11 rfl dX12_oneDay_115 h63 h64 ?_
        refine q_bipush C (62 : Int32) dX12_oneDay_118 rfl ?_
        refine q_chk (fun h65 => ?_)
        refine q_chk (fun h66 => ?_)
        refine p_lald C dX12_oneDay_120 h65 h66 ?_
        refine q_lcmp C dX12_oneDay_121 ?_
        refine q_if_eq C 128 dX12_oneDay_122 (by decide) (fun _ => ?_) (fun _ => ?_)
        · refine q_aload_n C 0 dX12_oneDay_128 rfl rfl ?_
          refine p_getR C fgX12_11 rfl dX12_oneDay_129 h63 h64 ?_
          refine q_aload_n C 0 dX12_oneDay_132 rfl rfl ?_
          refine q_iload_n C 1 dX12_oneDay_133 rfl rfl ?_
          refine q_iconst C (0 : Int32) dX12_oneDay_134 rfl ?_
          refine q_cVI (As := (fun P => [.int v1, .int (0 : Int32)])) C [.ref (q_P E + (mR X110_60 r0 1))] (sX12_of r0 v1 (0 : Int32)) fcX12_66 rfl (fun _ => rfl) ⟨Nat.le_of_ble_eq_true rfl, Nat.le_of_ble_eq_true rfl⟩ ⟨Nat.le_of_ble_eq_true rfl, Nat.le_of_ble_eq_true rfl⟩ (Nat.le_of_ble_eq_true rfl) dX12_oneDay_135 h63 (fun w67 X135_68 => ?_)
          refine q_chk (fun h69 => ?_)
          refine q_chk (fun h70 => ?_)
          refine p_lald C dX12_oneDay_138 h69 h70 ?_
          refine q_ldc2 C dX12_oneDay_139 fkX12_153 ?_
          refine q_lcmp C dX12_oneDay_142 ?_
          refine q_if_ne C 154 dX12_oneDay_143 (by decide) (fun _ => ?_) (fun _ => ?_)
          · refine q_aload_n C 0 dX12_oneDay_146 rfl rfl ?_
            refine q_iload_n C 1 dX12_oneDay_147 rfl rfl ?_
            refine q_chk (fun h73 => ?_)
            refine q_cVV (As := (fun P => [.int v1])) C [] (sX12_turnsAll n r0 v1) fcX12_155 rfl (fun _ => rfl) ⟨Nat.le_of_ble_eq_true rfl, Nat.le_of_ble_eq_true rfl⟩ ⟨Nat.le_of_ble_eq_true rfl, Nat.le_of_ble_eq_true rfl⟩ (Nat.le_of_ble_eq_true rfl) dX12_oneDay_148 h73 (fun _ X148_72 => ?_)
            refine q_goto C 159 dX12_oneDay_151 (by decide) ?_
            exact gX12_oneDay_L159 C n (fX12_oneDay_L79 n j) ih r0 v1 X148_72
          · refine q_aload_n C 0 dX12_oneDay_154 rfl rfl ?_
            refine q_iload_n C 1 dX12_oneDay_155 rfl rfl ?_
            refine q_chk (fun h76 => ?_)
            refine q_cVV (As := (fun P => [.int v1])) C [] (sX12_writes n r0 v1) fcX12_158 rfl (fun _ => rfl) ⟨Nat.le_of_ble_eq_true rfl, Nat.le_of_ble_eq_true rfl⟩ ⟨Nat.le_of_ble_eq_true rfl, Nat.le_of_ble_eq_true rfl⟩ (Nat.le_of_ble_eq_true rfl) dX12_oneDay_156 h76 (fun _ X156_75 => ?_)
            exact gX12_oneDay_L159 C n (fX12_oneDay_L79 n j) ih r0 v1 X156_75
        · refine q_goto C 159 dX12_oneDay_125 (by decide) ?_
          exact gX12_oneDay_L159 C n (fX12_oneDay_L79 n j) ih r0 v1 X110_60
      · exact gX12_oneDay_L159 C n (fX12_oneDay_L79 n j) ih r0 v1 X94_54
theorem gX12_oneDay_L71 {E : q_E} {X0 : Mm} (C : Cx E cX12_oneDay RX12 3 none (q_rm 5 120 0 0) X0) (n : Nat) (k18 : Nat → Int32 → Mm → Option (Unit × Mm)) (hk18 : ∀ (r0 : Nat) (v1 : Int32) (X : Mm), Sm E (q_fin E q_eV X0 0 0) 0 0 18 [(0, .ref (q_P E + r0)), (1, .int v1)] [] X (k18 r0 v1 X)) (r0 : Nat) (v1 : Int32) (X : Mm) : Sm E (q_fin E q_eV X0 0 0) 0 0 71 [(0, .ref (q_P E + r0)), (1, .int v1)] [] X (fX12_oneDay_L71 n k18 r0 v1 X) := by
  unfold fX12_oneDay_L71
  refine q_iincN C (1 : Int32) 1 (fun v1_71 => [(1, .int v1_71), (0, .ref (q_P E + r0))]) dX12_oneDay_71 rfl rfl (Nat.le_of_ble_eq_true rfl) (fun _ => rfl) (fun v1_71 => ?_)
  refine q_goto C 18 dX12_oneDay_74 (by decide) ?_
  refine q_sub C [(0, .ref (q_P E + r0)), (1, .int v1_71)] [1, 0] rfl ?_
  exact hk18 r0 v1_71 X
theorem gX12_oneDay_L18 {E : q_E} {X0 : Mm} (C : Cx E cX12_oneDay RX12 3 none (q_rm 5 120 0 0) X0) (n : Nat) : ∀ (j : Nat) (r0 : Nat) (v1 : Int32) (X : Mm), Sm E (q_fin E q_eV X0 0 0) 0 0 18 [(0, .ref (q_P E + r0)), (1, .int v1)] [] X (fX12_oneDay_L18 n j r0 v1 X) := by
  intro j
  induction j with
  | zero => intros; exact Sm.none
  | succ j ih =>
    intro r0 v1 X
    rw [fX12_oneDay_L18]
    refine q_iload_n C 1 dX12_oneDay_18 rfl rfl ?_
    refine q_aload_n C 0 dX12_oneDay_19 rfl rfl ?_
    refine q_chk (fun h8 => ?_)
    refine q_cVI (As := (fun P => [])) C [.int v1] (sX12_tradeMany r0) fcX12_87 rfl (fun _ => rfl) ⟨Nat.le_of_ble_eq_true rfl, Nat.le_of_ble_eq_true rfl⟩ ⟨Nat.le_of_ble_eq_true rfl, Nat.le_of_ble_eq_true rfl⟩ (Nat.le_of_ble_eq_true rfl) dX12_oneDay_20 h8 (fun w6 X20_7 => ?_)
    refine q_icmp_ge C 77 dX12_oneDay_23 (by decide) (fun _ => ?_) (fun _ => ?_)
    · refine q_iconst C (0 : Int32) dX12_oneDay_77 rfl ?_
      refine q_istore_n C [(1, .int (0 : Int32)), (0, .ref (q_P E + r0))] dX12_oneDay_78 rfl (Nat.le_of_ble_eq_true rfl) rfl ?_
      refine q_sub C [(0, .ref (q_P E + r0)), (1, .int (0 : Int32))] [1, 0] rfl ?_
      exact gX12_oneDay_L79 C n n r0 (0 : Int32) X20_7
    · refine q_aload_n C 0 dX12_oneDay_26 rfl rfl ?_
      refine q_chk (fun h77 => ?_)
      refine q_chk (fun h78 => ?_)
      refine p_getR C fgX12_11 rfl dX12_oneDay_27 h77 h78 ?_
      refine q_aload_n C 0 dX12_oneDay_30 rfl rfl ?_
      refine q_iload_n C 1 dX12_oneDay_31 rfl rfl ?_
      refine q_bipush C (7 : Int32) dX12_oneDay_32 rfl ?_
      refine q_cVI (As := (fun P => [.int v1, .int (7 : Int32)])) C [.ref (q_P E + (mR X20_7 r0 1))] (sX12_at r0 v1 (7 : Int32)) fcX12_111 rfl (fun _ => rfl) ⟨Nat.le_of_ble_eq_true rfl, Nat.le_of_ble_eq_true rfl⟩ ⟨Nat.le_of_ble_eq_true rfl, Nat.le_of_ble_eq_true rfl⟩ (Nat.le_of_ble_eq_true rfl) dX12_oneDay_34 h77 (fun w79 X34_80 => ?_)
      refine q_chk (fun h81 => ?_)
      refine q_chk (fun h82 => ?_)
      refine p_lald C dX12_oneDay_37 h81 h82 ?_
      refine q_lconst C (0 : Int64) dX12_oneDay_38 rfl ?_
      refine q_lcmp C dX12_oneDay_39 ?_
      refine q_if_ne C 71 dX12_oneDay_40 (by decide) (fun _ => ?_) (fun _ => ?_)
      · refine q_aload_n C 0 dX12_oneDay_43 rfl rfl ?_
        refine q_chk (fun h83 => ?_)
        refine q_chk (fun h84 => ?_)
        refine p_getR C fgX12_11 rfl dX12_oneDay_44 h83 h84 ?_
        refine q_aload_n C 0 dX12_oneDay_47 rfl rfl ?_
        refine q_iload_n C 1 dX12_oneDay_48 rfl rfl ?_
        refine q_bipush C (6 : Int32) dX12_oneDay_49 rfl ?_
        refine q_cVI (As := (fun P => [.int v1, .int (6 : Int32)])) C [.ref (q_P E + (mR X34_80 r0 1))] (sX12_at r0 v1 (6 : Int32)) fcX12_111 rfl (fun _ => rfl) ⟨Nat.le_of_ble_eq_true rfl, Nat.le_of_ble_eq_true rfl⟩ ⟨Nat.le_of_ble_eq_true rfl, Nat.le_of_ble_eq_true rfl⟩ (Nat.le_of_ble_eq_true rfl) dX12_oneDay_51 h83 (fun w85 X51_86 => ?_)
        refine q_chk (fun h87 => ?_)
        refine q_chk (fun h88 => ?_)
        refine p_lald C dX12_oneDay_54 h87 h88 ?_
        refine q_aload_n C 0 dX12_oneDay_55 rfl rfl ?_
        refine q_chk (fun h89 => ?_)
        refine q_chk (fun h90 => ?_)
        refine p_getR C fgX12_11 rfl dX12_oneDay_56 h89 h90 ?_
        refine q_bipush C (62 : Int32) dX12_oneDay_59 rfl ?_
        refine q_chk (fun h91 => ?_)
        refine q_chk (fun h92 => ?_)
        refine p_lald C dX12_oneDay_61 h91 h92 ?_
        refine q_lcmp C dX12_oneDay_62 ?_
        refine q_if_gt C 71 dX12_oneDay_63 (by decide) (fun _ => ?_) (fun _ => ?_)
        · exact gX12_oneDay_L71 C n (fX12_oneDay_L18 n j) ih r0 v1 X51_86
        · refine q_aload_n C 0 dX12_oneDay_66 rfl rfl ?_
          refine q_iload_n C 1 dX12_oneDay_67 rfl rfl ?_
          refine q_cVV (As := (fun P => [.int v1])) C [] (sX12_settles r0 v1) fcX12_149 rfl (fun _ => rfl) ⟨Nat.le_of_ble_eq_true rfl, Nat.le_of_ble_eq_true rfl⟩ ⟨Nat.le_of_ble_eq_true rfl, Nat.le_of_ble_eq_true rfl⟩ (Nat.le_of_ble_eq_true rfl) dX12_oneDay_68 h89 (fun _ X68_94 => ?_)
          exact gX12_oneDay_L71 C n (fX12_oneDay_L18 n j) ih r0 v1 X68_94
      · exact gX12_oneDay_L71 C n (fX12_oneDay_L18 n j) ih r0 v1 X34_80
theorem sX12_oneDay (n : Nat) (r0 : Nat) : q_Ct yX12_oneDay cX12_oneDay 3 none 5 120 0 0 q_eV (fun P => [.ref (P + r0)]) (fX12_oneDay n r0) := by
  refine q_meth (by decide +kernel) (fun P => Nat.le_of_ble_eq_true rfl) (fun E X C hn => ?_)
  show Sm E (q_fin E q_eV X 0 0) 0 0 0 [(0, .ref (q_P E + r0))] [] X _
  unfold fX12_oneDay
  refine q_aload_n C 0 dX12_oneDay_0 rfl rfl ?_
  refine q_chk (fun h1 => ?_)
  refine q_chk (fun h2 => ?_)
  refine p_getR C fgX12_11 rfl dX12_oneDay_1 h1 h2 ?_
  refine q_bipush C (62 : Int32) dX12_oneDay_4 rfl ?_
  refine q_aload_n C 0 dX12_oneDay_6 rfl rfl ?_
  refine p_getR C fgX12_11 rfl dX12_oneDay_7 h1 h2 ?_
  refine q_bipush C (62 : Int32) dX12_oneDay_10 rfl ?_
  refine q_chk (fun h3 => ?_)
  refine q_chk (fun h4 => ?_)
  refine p_lald C dX12_oneDay_12 h3 h4 ?_
  refine q_lconst C (1 : Int64) dX12_oneDay_13 rfl ?_
  refine q_ladd C dX12_oneDay_14 ?_
  refine p_last C dX12_oneDay_15 h3 h4 ?_
  refine q_nmX (fun X15_5 => ?_)
  refine q_iconst C (0 : Int32) dX12_oneDay_16 rfl ?_
  refine q_istore_n C [(1, .int (0 : Int32)), (0, .ref (q_P E + r0))] dX12_oneDay_17 rfl (Nat.le_of_ble_eq_true rfl) rfl ?_
  refine q_sub C [(0, .ref (q_P E + r0)), (1, .int (0 : Int32))] [1, 0] rfl ?_
  exact gX12_oneDay_L18 C n n r0 (0 : Int32) X15_5
/-! RecordClaimsModel.pass(I)Z -/
abbrev cX12_pass : ByteArray := prog_14_method_29_code
def yX12_pass : MethodName := ⟨RX12, "pass", "(I)Z"⟩
theorem dX12_pass_0 : decode cX12_pass 0 = .ok (.aload_n 0, 1) := by decide +kernel
theorem dX12_pass_1 : decode cX12_pass 1 = .ok (.iload_n 1, 1) := by decide +kernel
theorem dX12_pass_2 : decode cX12_pass 2 = .ok (.i2l, 1) := by decide +kernel
theorem dX12_pass_3 : decode cX12_pass 3 = .ok (.lconst 1, 1) := by decide +kernel
theorem dX12_pass_4 : decode cX12_pass 4 = .ok (.ldc2_w 144, 3) := by decide +kernel
theorem dX12_pass_7 : decode cX12_pass 7 = .ok (.invokevirtual 80, 3) := by decide +kernel
theorem dX12_pass_10 : decode cX12_pass 10 = .ok (.ifCond .eq 15, 3) := by decide +kernel
theorem dX12_pass_13 : decode cX12_pass 13 = .ok (.aload_n 0, 1) := by decide +kernel
theorem dX12_pass_14 : decode cX12_pass 14 = .ok (.invokevirtual 114, 3) := by decide +kernel
theorem dX12_pass_17 : decode cX12_pass 17 = .ok (.iload_n 1, 1) := by decide +kernel
theorem dX12_pass_18 : decode cX12_pass 18 = .ok (.iadd, 1) := by decide +kernel
theorem dX12_pass_19 : decode cX12_pass 19 = .ok (.sipush 999, 3) := by decide +kernel
theorem dX12_pass_22 : decode cX12_pass 22 = .ok (.if_icmp .le 5, 3) := by decide +kernel
theorem dX12_pass_25 : decode cX12_pass 25 = .ok (.iconst 0, 1) := by decide +kernel
theorem dX12_pass_26 : decode cX12_pass 26 = .ok (.ireturn, 1) := by decide +kernel
theorem dX12_pass_27 : decode cX12_pass 27 = .ok (.iconst 0, 1) := by decide +kernel
theorem dX12_pass_28 : decode cX12_pass 28 = .ok (.istore_n 2, 1) := by decide +kernel
theorem dX12_pass_29 : decode cX12_pass 29 = .ok (.iload_n 2, 1) := by decide +kernel
theorem dX12_pass_30 : decode cX12_pass 30 = .ok (.iload_n 1, 1) := by decide +kernel
theorem dX12_pass_31 : decode cX12_pass 31 = .ok (.if_icmp .ge 13, 3) := by decide +kernel
theorem dX12_pass_34 : decode cX12_pass 34 = .ok (.aload_n 0, 1) := by decide +kernel
theorem dX12_pass_35 : decode cX12_pass 35 = .ok (.invokevirtual 146, 3) := by decide +kernel
theorem dX12_pass_38 : decode cX12_pass 38 = .ok (.iinc 2 1, 3) := by decide +kernel
theorem dX12_pass_41 : decode cX12_pass 41 = .ok (.goto (-12), 3) := by decide +kernel
theorem dX12_pass_44 : decode cX12_pass 44 = .ok (.iconst 1, 1) := by decide +kernel
theorem dX12_pass_45 : decode cX12_pass 45 = .ok (.ireturn, 1) := by decide +kernel
theorem fkX12_144 : Cond.constantLong RX12 144 (99 : Int64) ∈ q_tbl := q_tb 1578 (by decide +kernel) rfl
theorem fcX12_146 : q_LV RX12 146 yX12_oneDay cX12_oneDay 3 none 0 12 := ⟨q_tb 1579 (by decide +kernel) rfl, q_tb 1581 (by decide +kernel) rfl, q_tbs (q := (yX12_oneDay, 35)) 98 (by decide +kernel) rfl, q_tb 13 (by decide +kernel) rfl, q_tb 1582 (by decide +kernel) rfl, ⟨by decide +kernel, by decide +kernel, by decide +kernel⟩, TX12, 35, rfl⟩
def fX12_pass_L25 (n : Nat) (X : Mm) : Option (Int32 × Mm) :=
some (0, X)
def fX12_pass_L29 (n : Nat) : Nat → Nat → Int32 → Int32 → Mm → Option (Int32 × Mm)
| 0, _, _, _, _ => none
| j + 1, r0, v1, v2, X =>
if v1 ≤ v2 then (
some (1, X)
) else (
if mT X r0 = 12 then
bd (fX12_oneDay n r0 X) fun _ X35_8 =>
nm (v2 + (1 : Int32)) fun v2_38 =>
(fX12_pass_L29 n j) r0 v1 v2_38 X35_8
else none
)
def fX12_pass (n : Nat) (r0 : Nat) (v1 : Int32) (X : Mm) : Option (Int32 × Mm) :=
if mT X r0 = 12 then
bd (fX12_isIn r0 (((v1).toInt64)) (1 : Int64) (99 : Int64) X) fun w1 X7_2 =>
if w1 = 0 then (
fX12_pass_L25 n X7_2
) else (
if mT X7_2 r0 = 12 then
bd (fX12_today r0 X7_2) fun w4 X14_5 =>
if (w4 + v1) ≤ (999 : Int32) then (
fX12_pass_L29 n n r0 v1 (0 : Int32) X14_5
) else (
fX12_pass_L25 n X14_5
)
else none
)
else none
theorem gX12_pass_L25 {E : q_E} {X0 : Mm} (C : Cx E cX12_pass RX12 3 (some .boolean) (q_rm 6 142 0 0) X0) (n : Nat) (X : Mm) : Sm E (q_fin E q_eI X0 0 0) 0 0 25 [] [] X (fX12_pass_L25 n  X) := by
  unfold fX12_pass_L25
  refine q_iconst C (0 : Int32) dX12_pass_25 rfl ?_
  exact q_zret0 C dX12_pass_26
theorem gX12_pass_L29 {E : q_E} {X0 : Mm} (C : Cx E cX12_pass RX12 3 (some .boolean) (q_rm 6 142 0 0) X0) (n : Nat) : ∀ (j : Nat) (r0 : Nat) (v1 : Int32) (v2 : Int32) (X : Mm), Sm E (q_fin E q_eI X0 0 0) 0 0 29 [(0, .ref (q_P E + r0)), (1, .int v1), (2, .int v2)] [] X (fX12_pass_L29 n j r0 v1 v2 X) := by
  intro j
  induction j with
  | zero => intros; exact Sm.none
  | succ j ih =>
    intro r0 v1 v2 X
    rw [fX12_pass_L29]
    refine q_iload_n C 2 dX12_pass_29 rfl rfl ?_
    refine q_iload_n C 1 dX12_pass_30 rfl rfl ?_
    refine q_icmp_ge C 44 dX12_pass_31 (by decide) (fun _ => ?_) (fun _ => ?_)
    · refine q_iconst C (1 : Int32) dX12_pass_44 rfl ?_
      exact q_zret1 C dX12_pass_45
    · refine q_aload_n C 0 dX12_pass_34 rfl rfl ?_
      refine q_chk (fun h9 => ?_)
      refine q_cVV (As := (fun P => [])) C [] (sX12_oneDay n r0) fcX12_146 rfl (fun _ => rfl) ⟨Nat.le_of_ble_eq_true rfl, Nat.le_of_ble_eq_true rfl⟩ ⟨Nat.le_of_ble_eq_true rfl, Nat.le_of_ble_eq_true rfl⟩ (Nat.le_of_ble_eq_true rfl) dX12_pass_35 h9 (fun _ X35_8 => ?_)
      refine q_iincN C (1 : Int32) 2 (fun v2_38 => [(2, .int v2_38), (0, .ref (q_P E + r0)), (1, .int v1)]) dX12_pass_38 rfl rfl (Nat.le_of_ble_eq_true rfl) (fun _ => rfl) (fun v2_38 => ?_)
      refine q_goto C 29 dX12_pass_41 (by decide) ?_
      refine q_sub C [(0, .ref (q_P E + r0)), (1, .int v1), (2, .int v2_38)] [1, 2, 0] rfl ?_
      exact ih r0 v1 v2_38 X35_8
theorem sX12_pass (n : Nat) (r0 : Nat) (v1 : Int32) : q_Ct yX12_pass cX12_pass 3 (some .boolean) 6 142 0 0 q_eI (fun P => [.ref (P + r0), .int v1]) (fX12_pass n r0 v1) := by
  refine q_meth (by decide +kernel) (fun P => Nat.le_of_ble_eq_true rfl) (fun E X C hn => ?_)
  show Sm E (q_fin E q_eI X 0 0) 0 0 0 [(0, .ref (q_P E + r0)), (1, .int v1)] [] X _
  unfold fX12_pass
  refine q_aload_n C 0 dX12_pass_0 rfl rfl ?_
  refine q_iload_n C 1 dX12_pass_1 rfl rfl ?_
  refine q_i2l C dX12_pass_2 ?_
  refine q_lconst C (1 : Int64) dX12_pass_3 rfl ?_
  refine q_ldc2 C dX12_pass_4 fkX12_144 ?_
  refine q_chk (fun h3 => ?_)
  refine q_cVI (As := (fun P => [.long ((v1).toInt64), .long (1 : Int64), .long (99 : Int64)])) C [] (sX12_isIn r0 (((v1).toInt64)) (1 : Int64) (99 : Int64)) fcX12_80 rfl (fun _ => rfl) ⟨Nat.le_of_ble_eq_true rfl, Nat.le_of_ble_eq_true rfl⟩ ⟨Nat.le_of_ble_eq_true rfl, Nat.le_of_ble_eq_true rfl⟩ (Nat.le_of_ble_eq_true rfl) dX12_pass_7 h3 (fun w1 X7_2 => ?_)
  refine q_if_eq C 25 dX12_pass_10 (by decide) (fun _ => ?_) (fun _ => ?_)
  · refine q_sub C [] [] rfl ?_
    exact gX12_pass_L25 C n X7_2
  · refine q_aload_n C 0 dX12_pass_13 rfl rfl ?_
    refine q_chk (fun h6 => ?_)
    refine q_cVI (As := (fun P => [])) C [] (sX12_today r0) fcX12_114 rfl (fun _ => rfl) ⟨Nat.le_of_ble_eq_true rfl, Nat.le_of_ble_eq_true rfl⟩ ⟨Nat.le_of_ble_eq_true rfl, Nat.le_of_ble_eq_true rfl⟩ (Nat.le_of_ble_eq_true rfl) dX12_pass_14 h6 (fun w4 X14_5 => ?_)
    refine q_iload_n C 1 dX12_pass_17 rfl rfl ?_
    refine q_iadd C dX12_pass_18 ?_
    refine q_sipush C (999 : Int32) dX12_pass_19 rfl ?_
    refine q_icmp_le C 27 dX12_pass_22 (by decide) (fun _ => ?_) (fun _ => ?_)
    · refine q_iconst C (0 : Int32) dX12_pass_27 rfl ?_
      refine q_istore_n C [(2, .int (0 : Int32)), (0, .ref (q_P E + r0)), (1, .int v1)] dX12_pass_28 rfl (Nat.le_of_ble_eq_true rfl) rfl ?_
      refine q_sub C [(0, .ref (q_P E + r0)), (1, .int v1), (2, .int (0 : Int32))] [1, 2, 0] rfl ?_
      exact gX12_pass_L29 C n n r0 v1 (0 : Int32) X14_5
    · refine q_sub C [] [] rfl ?_
      exact gX12_pass_L25 C n X14_5
/-! RecordClaimsModel.feed(IIIII)I -/
abbrev cX12_feed : ByteArray := prog_14_method_44_code
def yX12_feed : MethodName := ⟨RX12, "feed", "(IIIII)I"⟩
theorem dX12_feed_0 : decode cX12_feed 0 = .ok (.aload_n 0, 1) := by decide +kernel
theorem dX12_feed_1 : decode cX12_feed 1 = .ok (.iconst 0, 1) := by decide +kernel
theorem dX12_feed_2 : decode cX12_feed 2 = .ok (.putfield 63, 3) := by decide +kernel
theorem dX12_feed_5 : decode cX12_feed 5 = .ok (.aload_n 0, 1) := by decide +kernel
theorem dX12_feed_6 : decode cX12_feed 6 = .ok (.getfield 211, 3) := by decide +kernel
theorem dX12_feed_9 : decode cX12_feed 9 = .ok (.bipush 20, 2) := by decide +kernel
theorem dX12_feed_11 : decode cX12_feed 11 = .ok (.iadd, 1) := by decide +kernel
theorem dX12_feed_12 : decode cX12_feed 12 = .ok (.sipush 700, 3) := by decide +kernel
theorem dX12_feed_15 : decode cX12_feed 15 = .ok (.if_icmp .le 5, 3) := by decide +kernel
theorem dX12_feed_18 : decode cX12_feed 18 = .ok (.iconst (-1), 1) := by decide +kernel
theorem dX12_feed_19 : decode cX12_feed 19 = .ok (.ireturn, 1) := by decide +kernel
theorem dX12_feed_20 : decode cX12_feed 20 = .ok (.iconst 0, 1) := by decide +kernel
theorem dX12_feed_21 : decode cX12_feed 21 = .ok (.istore 6, 2) := by decide +kernel
theorem dX12_feed_23 : decode cX12_feed 23 = .ok (.iload 6, 2) := by decide +kernel
theorem dX12_feed_25 : decode cX12_feed 25 = .ok (.bipush 20, 2) := by decide +kernel
theorem dX12_feed_27 : decode cX12_feed 27 = .ok (.if_icmp .ge 90, 3) := by decide +kernel
theorem dX12_feed_30 : decode cX12_feed 30 = .ok (.iload 6, 2) := by decide +kernel
theorem dX12_feed_32 : decode cX12_feed 32 = .ok (.iconst 4, 1) := by decide +kernel
theorem dX12_feed_33 : decode cX12_feed 33 = .ok (.if_icmp .ge 7, 3) := by decide +kernel
theorem dX12_feed_36 : decode cX12_feed 36 = .ok (.iload_n 1, 1) := by decide +kernel
theorem dX12_feed_37 : decode cX12_feed 37 = .ok (.goto 39, 3) := by decide +kernel
theorem dX12_feed_40 : decode cX12_feed 40 = .ok (.iload 6, 2) := by decide +kernel
theorem dX12_feed_42 : decode cX12_feed 42 = .ok (.bipush 8, 2) := by decide +kernel
theorem dX12_feed_44 : decode cX12_feed 44 = .ok (.if_icmp .ge 7, 3) := by decide +kernel
theorem dX12_feed_47 : decode cX12_feed 47 = .ok (.iload_n 2, 1) := by decide +kernel
theorem dX12_feed_48 : decode cX12_feed 48 = .ok (.goto 28, 3) := by decide +kernel
theorem dX12_feed_51 : decode cX12_feed 51 = .ok (.iload 6, 2) := by decide +kernel
theorem dX12_feed_53 : decode cX12_feed 53 = .ok (.bipush 12, 2) := by decide +kernel
theorem dX12_feed_55 : decode cX12_feed 55 = .ok (.if_icmp .ge 7, 3) := by decide +kernel
theorem dX12_feed_58 : decode cX12_feed 58 = .ok (.iload_n 3, 1) := by decide +kernel
theorem dX12_feed_59 : decode cX12_feed 59 = .ok (.goto 17, 3) := by decide +kernel
theorem dX12_feed_62 : decode cX12_feed 62 = .ok (.iload 6, 2) := by decide +kernel
theorem dX12_feed_64 : decode cX12_feed 64 = .ok (.bipush 16, 2) := by decide +kernel
theorem dX12_feed_66 : decode cX12_feed 66 = .ok (.if_icmp .ge 8, 3) := by decide +kernel
theorem dX12_feed_69 : decode cX12_feed 69 = .ok (.iload 4, 2) := by decide +kernel
theorem dX12_feed_71 : decode cX12_feed 71 = .ok (.goto 5, 3) := by decide +kernel
theorem dX12_feed_74 : decode cX12_feed 74 = .ok (.iload 5, 2) := by decide +kernel
theorem dX12_feed_76 : decode cX12_feed 76 = .ok (.istore 7, 2) := by decide +kernel
theorem dX12_feed_78 : decode cX12_feed 78 = .ok (.aload_n 0, 1) := by decide +kernel
theorem dX12_feed_79 : decode cX12_feed 79 = .ok (.getfield 34, 3) := by decide +kernel
theorem dX12_feed_82 : decode cX12_feed 82 = .ok (.aload_n 0, 1) := by decide +kernel
theorem dX12_feed_83 : decode cX12_feed 83 = .ok (.getfield 211, 3) := by decide +kernel
theorem dX12_feed_86 : decode cX12_feed 86 = .ok (.iload 7, 2) := by decide +kernel
theorem dX12_feed_88 : decode cX12_feed 88 = .ok (.bipush 24, 2) := by decide +kernel
theorem dX12_feed_90 : decode cX12_feed 90 = .ok (.bipush 8, 2) := by decide +kernel
theorem dX12_feed_92 : decode cX12_feed 92 = .ok (.iload 6, 2) := by decide +kernel
theorem dX12_feed_94 : decode cX12_feed 94 = .ok (.iconst 4, 1) := by decide +kernel
theorem dX12_feed_95 : decode cX12_feed 95 = .ok (.irem, 1) := by decide +kernel
theorem dX12_feed_96 : decode cX12_feed 96 = .ok (.imul, 1) := by decide +kernel
theorem dX12_feed_97 : decode cX12_feed 97 = .ok (.isub, 1) := by decide +kernel
theorem dX12_feed_98 : decode cX12_feed 98 = .ok (.ishr, 1) := by decide +kernel
theorem dX12_feed_99 : decode cX12_feed 99 = .ok (.i2b, 1) := by decide +kernel
theorem dX12_feed_100 : decode cX12_feed 100 = .ok (.bastore, 1) := by decide +kernel
theorem dX12_feed_101 : decode cX12_feed 101 = .ok (.aload_n 0, 1) := by decide +kernel
theorem dX12_feed_102 : decode cX12_feed 102 = .ok (.aload_n 0, 1) := by decide +kernel
theorem dX12_feed_103 : decode cX12_feed 103 = .ok (.getfield 211, 3) := by decide +kernel
theorem dX12_feed_106 : decode cX12_feed 106 = .ok (.iconst 1, 1) := by decide +kernel
theorem dX12_feed_107 : decode cX12_feed 107 = .ok (.iadd, 1) := by decide +kernel
theorem dX12_feed_108 : decode cX12_feed 108 = .ok (.putfield 211, 3) := by decide +kernel
theorem dX12_feed_111 : decode cX12_feed 111 = .ok (.iinc 6 1, 3) := by decide +kernel
theorem dX12_feed_114 : decode cX12_feed 114 = .ok (.goto (-91), 3) := by decide +kernel
theorem dX12_feed_117 : decode cX12_feed 117 = .ok (.aload_n 0, 1) := by decide +kernel
theorem dX12_feed_118 : decode cX12_feed 118 = .ok (.getfield 211, 3) := by decide +kernel
theorem dX12_feed_121 : decode cX12_feed 121 = .ok (.ireturn, 1) := by decide +kernel
theorem fpX12_63 : q_Fp RX12 63 12 0 .int false := ⟨RX12, TX12, 35, tyX12, rfl, by decide, inX12, q_tb 1251 (by decide +kernel) rfl, tyX12_ok, nmX12, rfl, rfl, fun h => by first | rfl | cases h⟩
theorem fgX12_211 : q_Fg RX12 211 12 12 := q_Fg.of (C := RX12) (T := TX12) (N := 35) rfl (by decide) inX12 1263 (by decide +kernel) rfl rfl
theorem fgX12_34 : q_Fg RX12 34 12 11 := q_Fg.of (C := RX12) (T := TX12) (N := 35) rfl (by decide) inX12 1262 (by decide +kernel) rfl rfl
theorem fpX12_211 : q_Fp RX12 211 12 12 .int false := ⟨RX12, TX12, 35, tyX12, rfl, by decide, inX12, q_tb 1263 (by decide +kernel) rfl, tyX12_ok, nmX12, rfl, rfl, fun h => by first | rfl | cases h⟩
def fX12_feed_L76 (n : Nat) (k23 : Nat → Int32 → Int32 → Int32 → Int32 → Int32 → Int32 → Mm → Option (Int32 × Mm)) (r0 : Nat) (v1 : Int32) (v2 : Int32) (v3 : Int32) (v4 : Int32) (v5 : Int32) (v6 : Int32) (s0 : Int32) (X : Mm) : Option (Int32 × Mm) :=
if mT X r0 = 12 then
if mR X r0 11 ≠ 0 then
if (4 : Int32) = 0 then none else
if mT X (mR X r0 11) = 16 then
if q_b X (mR X r0 11) (mI X r0 12) then
nm (sI X (mR X r0 11) ((mI X r0 12)).toNatClampNeg ((((s0 >>> (((24 : Int32) - ((8 : Int32) * (v6 - v6 / (4 : Int32) * (4 : Int32)))) &&& 31))).toInt8.toInt32)).toInt8.toInt32) fun X100_7 =>
if mT X100_7 r0 = 12 then
nm (sI X100_7 r0 12 ((mI X100_7 r0 12) + (1 : Int32))) fun X108_11 =>
nm (v6 + (1 : Int32)) fun v6_111 =>
k23 r0 v1 v2 v3 v4 v5 v6_111 X108_11
else none
else none
else none
else none
else none
def fX12_feed_L23 (n : Nat) : Nat → Nat → Int32 → Int32 → Int32 → Int32 → Int32 → Int32 → Mm → Option (Int32 × Mm)
| 0, _, _, _, _, _, _, _, _ => none
| j + 1, r0, v1, v2, v3, v4, v5, v6, X =>
if (20 : Int32) ≤ v6 then (
if mT X r0 = 12 then
some ((mI X r0 12), X)
else none
) else (
if (4 : Int32) ≤ v6 then (
if (8 : Int32) ≤ v6 then (
if (12 : Int32) ≤ v6 then (
if (16 : Int32) ≤ v6 then (
fX12_feed_L76 n (fX12_feed_L23 n j) r0 v1 v2 v3 v4 v5 v6 v5 X
) else (
fX12_feed_L76 n (fX12_feed_L23 n j) r0 v1 v2 v3 v4 v5 v6 v4 X
)
) else (
fX12_feed_L76 n (fX12_feed_L23 n j) r0 v1 v2 v3 v4 v5 v6 v3 X
)
) else (
fX12_feed_L76 n (fX12_feed_L23 n j) r0 v1 v2 v3 v4 v5 v6 v2 X
)
) else (
fX12_feed_L76 n (fX12_feed_L23 n j) r0 v1 v2 v3 v4 v5 v6 v1 X
)
)
def fX12_feed (n : Nat) (r0 : Nat) (v1 : Int32) (v2 : Int32) (v3 : Int32) (v4 : Int32) (v5 : Int32) (X : Mm) : Option (Int32 × Mm) :=
if mT X r0 = 12 then
nm (sI X r0 0 (0 : Int32)) fun X2_1 =>
if mT X2_1 r0 = 12 then
if ((mI X2_1 r0 12) + (20 : Int32)) ≤ (700 : Int32) then (
fX12_feed_L23 n n r0 v1 v2 v3 v4 v5 (0 : Int32) X2_1
) else (
some ((-1 : Int32), X2_1)
)
else none
else none
theorem gX12_feed_L76 {E : q_E} {X0 : Mm} (C : Cx E cX12_feed RX12 8 (some .int) (q_rm 0 0 0 0) X0) (n : Nat) (k23 : Nat → Int32 → Int32 → Int32 → Int32 → Int32 → Int32 → Mm → Option (Int32 × Mm)) (hk23 : ∀ (r0 : Nat) (v1 : Int32) (v2 : Int32) (v3 : Int32) (v4 : Int32) (v5 : Int32) (v6 : Int32) (X : Mm), Sm E (q_fin E q_eI X0 0 0) 0 0 23 [(0, .ref (q_P E + r0)), (1, .int v1), (2, .int v2), (3, .int v3), (4, .int v4), (5, .int v5), (6, .int v6)] [] X (k23 r0 v1 v2 v3 v4 v5 v6 X)) (r0 : Nat) (v1 : Int32) (v2 : Int32) (v3 : Int32) (v4 : Int32) (v5 : Int32) (v6 : Int32) (s0 : Int32) (X : Mm) : Sm E (q_fin E q_eI X0 0 0) 0 0 76 [(0, .ref (q_P E + r0)), (1, .int v1), (2, .int v2), (3, .int v3), (4, .int v4), (5, .int v5), (6, .int v6)] [.int s0] X (fX12_feed_L76 n k23 r0 v1 v2 v3 v4 v5 v6 s0 X) := by
  unfold fX12_feed_L76
  refine q_istore C [(7, .int s0), (0, .ref (q_P E + r0)), (1, .int v1), (2, .int v2), (3, .int v3), (4, .int v4), (5, .int v5), (6, .int v6)] dX12_feed_76 (Nat.le_of_ble_eq_true rfl) rfl ?_
  refine q_aload_n C 1 dX12_feed_78 rfl rfl ?_
  refine q_chk (fun h5 => ?_)
  refine q_chk (fun h6 => ?_)
  refine p_getR C fgX12_34 rfl dX12_feed_79 h5 h6 ?_
  refine q_aload_n C 1 dX12_feed_82 rfl rfl ?_
  refine p_getI C fgX12_211 rfl dX12_feed_83 h5 ?_
  refine q_iload C 0 dX12_feed_86 rfl ?_
  refine q_bipush C (24 : Int32) dX12_feed_88 rfl ?_
  refine q_bipush C (8 : Int32) dX12_feed_90 rfl ?_
  refine q_iload C 7 dX12_feed_92 rfl ?_
  refine q_iconst C (4 : Int32) dX12_feed_94 rfl ?_
  refine q_irem C dX12_feed_95 ?_
  refine q_imul C dX12_feed_96 ?_
  refine q_isub C dX12_feed_97 ?_
  refine q_ishr C dX12_feed_98 ?_
  refine q_i2b C dX12_feed_99 ?_
  refine q_chk (fun h8 => ?_)
  refine q_chk (fun h9 => ?_)
  refine p_bast C dX12_feed_100 h8 h9 ?_
  refine q_nmX (fun X100_7 => ?_)
  refine q_aload_n C 1 dX12_feed_101 rfl rfl ?_
  refine q_aload_n C 1 dX12_feed_102 rfl rfl ?_
  refine q_chk (fun h10 => ?_)
  refine p_getI C fgX12_211 rfl dX12_feed_103 h10 ?_
  refine q_iconst C (1 : Int32) dX12_feed_106 rfl ?_
  refine q_iadd C dX12_feed_107 ?_
  refine p_putI C fpX12_211 rfl dX12_feed_108 h10 ?_
  refine q_nmX (fun X108_11 => ?_)
  refine q_iincN C (1 : Int32) 7 (fun v6_111 => [(6, .int v6_111), (7, .int s0), (0, .ref (q_P E + r0)), (1, .int v1), (2, .int v2), (3, .int v3), (4, .int v4), (5, .int v5)]) dX12_feed_111 rfl rfl (Nat.le_of_ble_eq_true rfl) (fun _ => rfl) (fun v6_111 => ?_)
  refine q_goto C 23 dX12_feed_114 (by decide) ?_
  refine q_sub C [(0, .ref (q_P E + r0)), (1, .int v1), (2, .int v2), (3, .int v3), (4, .int v4), (5, .int v5), (6, .int v6_111)] [2, 3, 4, 5, 6, 7, 0] rfl ?_
  exact hk23 r0 v1 v2 v3 v4 v5 v6_111 X108_11
theorem gX12_feed_L23 {E : q_E} {X0 : Mm} (C : Cx E cX12_feed RX12 8 (some .int) (q_rm 0 0 0 0) X0) (n : Nat) : ∀ (j : Nat) (r0 : Nat) (v1 : Int32) (v2 : Int32) (v3 : Int32) (v4 : Int32) (v5 : Int32) (v6 : Int32) (X : Mm), Sm E (q_fin E q_eI X0 0 0) 0 0 23 [(0, .ref (q_P E + r0)), (1, .int v1), (2, .int v2), (3, .int v3), (4, .int v4), (5, .int v5), (6, .int v6)] [] X (fX12_feed_L23 n j r0 v1 v2 v3 v4 v5 v6 X) := by
  intro j
  induction j with
  | zero => intros; exact Sm.none
  | succ j ih =>
    intro r0 v1 v2 v3 v4 v5 v6 X
    rw [fX12_feed_L23]
    refine q_iload C 6 dX12_feed_23 rfl ?_
    refine q_bipush C (20 : Int32) dX12_feed_25 rfl ?_
    refine q_icmp_ge C 117 dX12_feed_27 (by decide) (fun _ => ?_) (fun _ => ?_)
    · refine q_aload_n C 0 dX12_feed_117 rfl rfl ?_
      refine q_chk (fun h4 => ?_)
      refine p_getI C fgX12_211 rfl dX12_feed_118 h4 ?_
      exact q_iret C dX12_feed_121
    · refine q_iload C 6 dX12_feed_30 rfl ?_
      refine q_iconst C (4 : Int32) dX12_feed_32 rfl ?_
      refine q_icmp_ge C 40 dX12_feed_33 (by decide) (fun _ => ?_) (fun _ => ?_)
      · refine q_iload C 6 dX12_feed_40 rfl ?_
        refine q_bipush C (8 : Int32) dX12_feed_42 rfl ?_
        refine q_icmp_ge C 51 dX12_feed_44 (by decide) (fun _ => ?_) (fun _ => ?_)
        · refine q_iload C 6 dX12_feed_51 rfl ?_
          refine q_bipush C (12 : Int32) dX12_feed_53 rfl ?_
          refine q_icmp_ge C 62 dX12_feed_55 (by decide) (fun _ => ?_) (fun _ => ?_)
          · refine q_iload C 6 dX12_feed_62 rfl ?_
            refine q_bipush C (16 : Int32) dX12_feed_64 rfl ?_
            refine q_icmp_ge C 74 dX12_feed_66 (by decide) (fun _ => ?_) (fun _ => ?_)
            · refine q_iload C 5 dX12_feed_74 rfl ?_
              exact gX12_feed_L76 C n (fX12_feed_L23 n j) ih r0 v1 v2 v3 v4 v5 v6 v5 X
            · refine q_iload C 4 dX12_feed_69 rfl ?_
              refine q_goto C 76 dX12_feed_71 (by decide) ?_
              exact gX12_feed_L76 C n (fX12_feed_L23 n j) ih r0 v1 v2 v3 v4 v5 v6 v4 X
          · refine q_iload_n C 3 dX12_feed_58 rfl rfl ?_
            refine q_goto C 76 dX12_feed_59 (by decide) ?_
            exact gX12_feed_L76 C n (fX12_feed_L23 n j) ih r0 v1 v2 v3 v4 v5 v6 v3 X
        · refine q_iload_n C 2 dX12_feed_47 rfl rfl ?_
          refine q_goto C 76 dX12_feed_48 (by decide) ?_
          exact gX12_feed_L76 C n (fX12_feed_L23 n j) ih r0 v1 v2 v3 v4 v5 v6 v2 X
      · refine q_iload_n C 1 dX12_feed_36 rfl rfl ?_
        refine q_goto C 76 dX12_feed_37 (by decide) ?_
        exact gX12_feed_L76 C n (fX12_feed_L23 n j) ih r0 v1 v2 v3 v4 v5 v6 v1 X
theorem sX12_feed (n : Nat) (r0 : Nat) (v1 : Int32) (v2 : Int32) (v3 : Int32) (v4 : Int32) (v5 : Int32) : q_Ct yX12_feed cX12_feed 8 (some .int) 0 0 0 0 q_eI (fun P => [.ref (P + r0), .int v1, .int v2, .int v3, .int v4, .int v5]) (fX12_feed n r0 v1 v2 v3 v4 v5) := by
  refine q_meth (by decide +kernel) (fun P => Nat.le_of_ble_eq_true rfl) (fun E X C hn => ?_)
  show Sm E (q_fin E q_eI X 0 0) 0 0 0 [(0, .ref (q_P E + r0)), (1, .int v1), (2, .int v2), (3, .int v3), (4, .int v4), (5, .int v5)] [] X _
  unfold fX12_feed
  refine q_aload_n C 0 dX12_feed_0 rfl rfl ?_
  refine q_iconst C (0 : Int32) dX12_feed_1 rfl ?_
  refine q_chk (fun h2 => ?_)
  refine p_putI C fpX12_63 rfl dX12_feed_2 h2 ?_
  refine q_nmX (fun X2_1 => ?_)
  refine q_aload_n C 0 dX12_feed_5 rfl rfl ?_
  refine q_chk (fun h3 => ?_)
  refine p_getI C fgX12_211 rfl dX12_feed_6 h3 ?_
  refine q_bipush C (20 : Int32) dX12_feed_9 rfl ?_
  refine q_iadd C dX12_feed_11 ?_
  refine q_sipush C (700 : Int32) dX12_feed_12 rfl ?_
  refine q_icmp_le C 20 dX12_feed_15 (by decide) (fun _ => ?_) (fun _ => ?_)
  · refine q_iconst C (0 : Int32) dX12_feed_20 rfl ?_
    refine q_istore C [(6, .int (0 : Int32)), (0, .ref (q_P E + r0)), (1, .int v1), (2, .int v2), (3, .int v3), (4, .int v4), (5, .int v5)] dX12_feed_21 (Nat.le_of_ble_eq_true rfl) rfl ?_
    refine q_sub C [(0, .ref (q_P E + r0)), (1, .int v1), (2, .int v2), (3, .int v3), (4, .int v4), (5, .int v5), (6, .int (0 : Int32))] [1, 2, 3, 4, 5, 6, 0] rfl ?_
    exact gX12_feed_L23 C n n r0 v1 v2 v3 v4 v5 (0 : Int32) X2_1
  · refine q_iconst C (-1 : Int32) dX12_feed_18 rfl ?_
    exact q_iret C dX12_feed_19
/-! RecordClaimsModel.end(I)Z -/
abbrev cX12_end : ByteArray := prog_14_method_45_code
def yX12_end : MethodName := ⟨RX12, "end", "(I)Z"⟩
theorem dX12_end_0 : decode cX12_end 0 = .ok (.aload_n 0, 1) := by decide +kernel
theorem dX12_end_1 : decode cX12_end 1 = .ok (.iconst 0, 1) := by decide +kernel
theorem dX12_end_2 : decode cX12_end 2 = .ok (.putfield 63, 3) := by decide +kernel
theorem dX12_end_5 : decode cX12_end 5 = .ok (.aload_n 0, 1) := by decide +kernel
theorem dX12_end_6 : decode cX12_end 6 = .ok (.iload_n 1, 1) := by decide +kernel
theorem dX12_end_7 : decode cX12_end 7 = .ok (.i2l, 1) := by decide +kernel
theorem dX12_end_8 : decode cX12_end 8 = .ok (.lconst 0, 1) := by decide +kernel
theorem dX12_end_9 : decode cX12_end 9 = .ok (.aload_n 0, 1) := by decide +kernel
theorem dX12_end_10 : decode cX12_end 10 = .ok (.getfield 211, 3) := by decide +kernel
theorem dX12_end_13 : decode cX12_end 13 = .ok (.i2l, 1) := by decide +kernel
theorem dX12_end_14 : decode cX12_end 14 = .ok (.invokevirtual 80, 3) := by decide +kernel
theorem dX12_end_17 : decode cX12_end 17 = .ok (.ifCond .ne 5, 3) := by decide +kernel
theorem dX12_end_20 : decode cX12_end 20 = .ok (.iconst 0, 1) := by decide +kernel
theorem dX12_end_21 : decode cX12_end 21 = .ok (.ireturn, 1) := by decide +kernel
theorem dX12_end_22 : decode cX12_end 22 = .ok (.aload_n 0, 1) := by decide +kernel
theorem dX12_end_23 : decode cX12_end 23 = .ok (.iload_n 1, 1) := by decide +kernel
theorem dX12_end_24 : decode cX12_end 24 = .ok (.putfield 211, 3) := by decide +kernel
theorem dX12_end_27 : decode cX12_end 27 = .ok (.iconst 1, 1) := by decide +kernel
theorem dX12_end_28 : decode cX12_end 28 = .ok (.ireturn, 1) := by decide +kernel
def fX12_end (r0 : Nat) (v1 : Int32) (X : Mm) : Option (Int32 × Mm) :=
if mT X r0 = 12 then
nm (sI X r0 0 (0 : Int32)) fun X2_1 =>
if mT X2_1 r0 = 12 then
bd (fX12_isIn r0 (((v1).toInt64)) (0 : Int64) ((((mI X2_1 r0 12)).toInt64)) X2_1) fun w4 X14_5 =>
if w4 = 0 then (
some (0, X14_5)
) else (
if mT X14_5 r0 = 12 then
nm (sI X14_5 r0 12 v1) fun X24_6 =>
some (1, X24_6)
else none
)
else none
else none
theorem sX12_end (r0 : Nat) (v1 : Int32) : q_Ct yX12_end cX12_end 2 (some .boolean) 1 26 0 0 q_eI (fun P => [.ref (P + r0), .int v1]) (fX12_end r0 v1) := by
  refine q_meth (by decide +kernel) (fun P => Nat.le_of_ble_eq_true rfl) (fun E X C hn => ?_)
  show Sm E (q_fin E q_eI X 0 0) 0 0 0 [(0, .ref (q_P E + r0)), (1, .int v1)] [] X _
  unfold fX12_end
  refine q_aload_n C 0 dX12_end_0 rfl rfl ?_
  refine q_iconst C (0 : Int32) dX12_end_1 rfl ?_
  refine q_chk (fun h2 => ?_)
  refine p_putI C fpX12_63 rfl dX12_end_2 h2 ?_
  refine q_nmX (fun X2_1 => ?_)
  refine q_aload_n C 0 dX12_end_5 rfl rfl ?_
  refine q_iload_n C 1 dX12_end_6 rfl rfl ?_
  refine q_i2l C dX12_end_7 ?_
  refine q_lconst C (0 : Int64) dX12_end_8 rfl ?_
  refine q_aload_n C 0 dX12_end_9 rfl rfl ?_
  refine q_chk (fun h3 => ?_)
  refine p_getI C fgX12_211 rfl dX12_end_10 h3 ?_
  refine q_i2l C dX12_end_13 ?_
  refine q_cVI (As := (fun P => [.long ((v1).toInt64), .long (0 : Int64), .long (((mI X2_1 r0 12)).toInt64)])) C [] (sX12_isIn r0 (((v1).toInt64)) (0 : Int64) ((((mI X2_1 r0 12)).toInt64))) fcX12_80 rfl (fun _ => rfl) ⟨Nat.le_of_ble_eq_true rfl, Nat.le_of_ble_eq_true rfl⟩ ⟨Nat.le_of_ble_eq_true rfl, Nat.le_of_ble_eq_true rfl⟩ (Nat.le_of_ble_eq_true rfl) dX12_end_14 h3 (fun w4 X14_5 => ?_)
  refine q_if_ne C 22 dX12_end_17 (by decide) (fun _ => ?_) (fun _ => ?_)
  · refine q_iconst C (0 : Int32) dX12_end_20 rfl ?_
    exact q_zret0 C dX12_end_21
  · refine q_aload_n C 0 dX12_end_22 rfl rfl ?_
    refine q_iload_n C 1 dX12_end_23 rfl rfl ?_
    refine q_chk (fun h7 => ?_)
    refine p_putI C fpX12_211 rfl dX12_end_24 h7 ?_
    refine q_nmX (fun X24_6 => ?_)
    refine q_iconst C (1 : Int32) dX12_end_27 rfl ?_
    exact q_zret1 C dX12_end_28
/-! RecordClaimsModel.see(I)I -/
abbrev cX12_see : ByteArray := prog_14_method_46_code
def yX12_see : MethodName := ⟨RX12, "see", "(I)I"⟩
theorem dX12_see_0 : decode cX12_see 0 = .ok (.iload_n 1, 1) := by decide +kernel
theorem dX12_see_1 : decode cX12_see 1 = .ok (.aload_n 0, 1) := by decide +kernel
theorem dX12_see_2 : decode cX12_see 2 = .ok (.getfield 214, 3) := by decide +kernel
theorem dX12_see_5 : decode cX12_see 5 = .ok (.if_icmp .ge 16, 3) := by decide +kernel
theorem dX12_see_8 : decode cX12_see 8 = .ok (.aload_n 0, 1) := by decide +kernel
theorem dX12_see_9 : decode cX12_see 9 = .ok (.getfield 34, 3) := by decide +kernel
theorem dX12_see_12 : decode cX12_see 12 = .ok (.iload_n 1, 1) := by decide +kernel
theorem dX12_see_13 : decode cX12_see 13 = .ok (.baload, 1) := by decide +kernel
theorem dX12_see_14 : decode cX12_see 14 = .ok (.sipush 255, 3) := by decide +kernel
theorem dX12_see_17 : decode cX12_see 17 = .ok (.iand, 1) := by decide +kernel
theorem dX12_see_18 : decode cX12_see 18 = .ok (.goto 4, 3) := by decide +kernel
theorem dX12_see_21 : decode cX12_see 21 = .ok (.iconst (-1), 1) := by decide +kernel
theorem dX12_see_22 : decode cX12_see 22 = .ok (.ireturn, 1) := by decide +kernel
theorem fgX12_214 : q_Fg RX12 214 12 13 := q_Fg.of (C := RX12) (T := TX12) (N := 35) rfl (by decide) inX12 1264 (by decide +kernel) rfl rfl
def fX12_see (r0 : Nat) (v1 : Int32) (X : Mm) : Option (Int32 × Mm) :=
if mT X r0 = 12 then
if (mI X r0 13) ≤ v1 then (
some ((-1 : Int32), X)
) else (
if mR X r0 11 ≠ 0 then
if mT X (mR X r0 11) = 16 then
if q_b X (mR X r0 11) v1 then
some (((mI X (mR X r0 11) (v1).toNatClampNeg) &&& (255 : Int32)), X)
else none
else none
else none
)
else none
theorem sX12_see (r0 : Nat) (v1 : Int32) : q_Ct yX12_see cX12_see 2 (some .int) 0 0 0 0 q_eI (fun P => [.ref (P + r0), .int v1]) (fX12_see r0 v1) := by
  refine q_meth (by decide +kernel) (fun P => Nat.le_of_ble_eq_true rfl) (fun E X C hn => ?_)
  show Sm E (q_fin E q_eI X 0 0) 0 0 0 [(0, .ref (q_P E + r0)), (1, .int v1)] [] X _
  unfold fX12_see
  refine q_iload_n C 1 dX12_see_0 rfl rfl ?_
  refine q_aload_n C 0 dX12_see_1 rfl rfl ?_
  refine q_chk (fun h1 => ?_)
  refine p_getI C fgX12_214 rfl dX12_see_2 h1 ?_
  refine q_icmp_ge C 21 dX12_see_5 (by decide) (fun _ => ?_) (fun _ => ?_)
  · refine q_iconst C (-1 : Int32) dX12_see_21 rfl ?_
    exact q_iret C dX12_see_22
  · refine q_aload_n C 0 dX12_see_8 rfl rfl ?_
    refine q_chk (fun h2 => ?_)
    refine p_getR C fgX12_34 rfl dX12_see_9 h1 h2 ?_
    refine q_iload_n C 1 dX12_see_12 rfl rfl ?_
    refine q_chk (fun h3 => ?_)
    refine q_chk (fun h4 => ?_)
    refine p_bald C dX12_see_13 h3 h4 ?_
    refine q_sipush C (255 : Int32) dX12_see_14 rfl ?_
    refine q_iand C dX12_see_17 ?_
    refine q_goto C 22 dX12_see_18 (by decide) ?_
    exact q_iret C dX12_see_22
/-! RecordClaimsModel.isLetter(I)Z -/
abbrev cX12_isLetter : ByteArray := prog_14_method_47_code
def yX12_isLetter : MethodName := ⟨RX12, "isLetter", "(I)Z"⟩
theorem dX12_isLetter_0 : decode cX12_isLetter 0 = .ok (.aload_n 0, 1) := by decide +kernel
theorem dX12_isLetter_1 : decode cX12_isLetter 1 = .ok (.iload_n 1, 1) := by decide +kernel
theorem dX12_isLetter_2 : decode cX12_isLetter 2 = .ok (.i2l, 1) := by decide +kernel
theorem dX12_isLetter_3 : decode cX12_isLetter 3 = .ok (.ldc2_w 217, 3) := by decide +kernel
theorem dX12_isLetter_6 : decode cX12_isLetter 6 = .ok (.ldc2_w 219, 3) := by decide +kernel
theorem dX12_isLetter_9 : decode cX12_isLetter 9 = .ok (.invokevirtual 80, 3) := by decide +kernel
theorem dX12_isLetter_12 : decode cX12_isLetter 12 = .ok (.ireturn, 1) := by decide +kernel
theorem fkX12_217 : Cond.constantLong RX12 217 (97 : Int64) ∈ q_tbl := q_tb 1393 (by decide +kernel) rfl
theorem fkX12_219 : Cond.constantLong RX12 219 (122 : Int64) ∈ q_tbl := q_tb 1394 (by decide +kernel) rfl
def fX12_isLetter (r0 : Nat) (v1 : Int32) (X : Mm) : Option (Int32 × Mm) :=
if mT X r0 = 12 then
bd (fX12_isIn r0 (((v1).toInt64)) (97 : Int64) (122 : Int64) X) fun w1 X9_2 =>
if w1 = 0 ∨ w1 = 1 then some (w1, X9_2) else none
else none
theorem sX12_isLetter (r0 : Nat) (v1 : Int32) : q_Ct yX12_isLetter cX12_isLetter 2 (some .boolean) 1 26 0 0 q_eI (fun P => [.ref (P + r0), .int v1]) (fX12_isLetter r0 v1) := by
  refine q_meth (by decide +kernel) (fun P => Nat.le_of_ble_eq_true rfl) (fun E X C hn => ?_)
  show Sm E (q_fin E q_eI X 0 0) 0 0 0 [(0, .ref (q_P E + r0)), (1, .int v1)] [] X _
  unfold fX12_isLetter
  refine q_aload_n C 0 dX12_isLetter_0 rfl rfl ?_
  refine q_iload_n C 1 dX12_isLetter_1 rfl rfl ?_
  refine q_i2l C dX12_isLetter_2 ?_
  refine q_ldc2 C dX12_isLetter_3 fkX12_217 ?_
  refine q_ldc2 C dX12_isLetter_6 fkX12_219 ?_
  refine q_chk (fun h3 => ?_)
  refine q_cVI (As := (fun P => [.long ((v1).toInt64), .long (97 : Int64), .long (122 : Int64)])) C [] (sX12_isIn r0 (((v1).toInt64)) (97 : Int64) (122 : Int64)) fcX12_80 rfl (fun _ => rfl) ⟨Nat.le_of_ble_eq_true rfl, Nat.le_of_ble_eq_true rfl⟩ ⟨Nat.le_of_ble_eq_true rfl, Nat.le_of_ble_eq_true rfl⟩ (Nat.le_of_ble_eq_true rfl) dX12_isLetter_9 h3 (fun w1 X9_2 => ?_)
  exact q_zret C dX12_isLetter_12
/-! RecordClaimsModel.isDigit(I)Z -/
abbrev cX12_isDigit : ByteArray := prog_14_method_48_code
def yX12_isDigit : MethodName := ⟨RX12, "isDigit", "(I)Z"⟩
theorem dX12_isDigit_0 : decode cX12_isDigit 0 = .ok (.aload_n 0, 1) := by decide +kernel
theorem dX12_isDigit_1 : decode cX12_isDigit 1 = .ok (.iload_n 1, 1) := by decide +kernel
theorem dX12_isDigit_2 : decode cX12_isDigit 2 = .ok (.i2l, 1) := by decide +kernel
theorem dX12_isDigit_3 : decode cX12_isDigit 3 = .ok (.ldc2_w 221, 3) := by decide +kernel
theorem dX12_isDigit_6 : decode cX12_isDigit 6 = .ok (.ldc2_w 223, 3) := by decide +kernel
theorem dX12_isDigit_9 : decode cX12_isDigit 9 = .ok (.invokevirtual 80, 3) := by decide +kernel
theorem dX12_isDigit_12 : decode cX12_isDigit 12 = .ok (.ireturn, 1) := by decide +kernel
theorem fkX12_221 : Cond.constantLong RX12 221 (48 : Int64) ∈ q_tbl := q_tb 1399 (by decide +kernel) rfl
theorem fkX12_223 : Cond.constantLong RX12 223 (57 : Int64) ∈ q_tbl := q_tb 1400 (by decide +kernel) rfl
def fX12_isDigit (r0 : Nat) (v1 : Int32) (X : Mm) : Option (Int32 × Mm) :=
if mT X r0 = 12 then
bd (fX12_isIn r0 (((v1).toInt64)) (48 : Int64) (57 : Int64) X) fun w1 X9_2 =>
if w1 = 0 ∨ w1 = 1 then some (w1, X9_2) else none
else none
theorem sX12_isDigit (r0 : Nat) (v1 : Int32) : q_Ct yX12_isDigit cX12_isDigit 2 (some .boolean) 1 26 0 0 q_eI (fun P => [.ref (P + r0), .int v1]) (fX12_isDigit r0 v1) := by
  refine q_meth (by decide +kernel) (fun P => Nat.le_of_ble_eq_true rfl) (fun E X C hn => ?_)
  show Sm E (q_fin E q_eI X 0 0) 0 0 0 [(0, .ref (q_P E + r0)), (1, .int v1)] [] X _
  unfold fX12_isDigit
  refine q_aload_n C 0 dX12_isDigit_0 rfl rfl ?_
  refine q_iload_n C 1 dX12_isDigit_1 rfl rfl ?_
  refine q_i2l C dX12_isDigit_2 ?_
  refine q_ldc2 C dX12_isDigit_3 fkX12_221 ?_
  refine q_ldc2 C dX12_isDigit_6 fkX12_223 ?_
  refine q_chk (fun h3 => ?_)
  refine q_cVI (As := (fun P => [.long ((v1).toInt64), .long (48 : Int64), .long (57 : Int64)])) C [] (sX12_isIn r0 (((v1).toInt64)) (48 : Int64) (57 : Int64)) fcX12_80 rfl (fun _ => rfl) ⟨Nat.le_of_ble_eq_true rfl, Nat.le_of_ble_eq_true rfl⟩ ⟨Nat.le_of_ble_eq_true rfl, Nat.le_of_ble_eq_true rfl⟩ (Nat.le_of_ble_eq_true rfl) dX12_isDigit_9 h3 (fun w1 X9_2 => ?_)
  exact q_zret C dX12_isDigit_12
/-! RecordClaimsModel.wordAt(II)I -/
abbrev cX12_wordAt : ByteArray := prog_14_method_53_code
def yX12_wordAt : MethodName := ⟨RX12, "wordAt", "(II)I"⟩
theorem dX12_wordAt_0 : decode cX12_wordAt 0 = .ok (.iconst 0, 1) := by decide +kernel
theorem dX12_wordAt_1 : decode cX12_wordAt 1 = .ok (.istore_n 3, 1) := by decide +kernel
theorem dX12_wordAt_2 : decode cX12_wordAt 2 = .ok (.iconst 0, 1) := by decide +kernel
theorem dX12_wordAt_3 : decode cX12_wordAt 3 = .ok (.istore 4, 2) := by decide +kernel
theorem dX12_wordAt_5 : decode cX12_wordAt 5 = .ok (.iload 4, 2) := by decide +kernel
theorem dX12_wordAt_7 : decode cX12_wordAt 7 = .ok (.bipush 21, 2) := by decide +kernel
theorem dX12_wordAt_9 : decode cX12_wordAt 9 = .ok (.if_icmp .ge 112, 3) := by decide +kernel
theorem dX12_wordAt_12 : decode cX12_wordAt 12 = .ok (.iconst 0, 1) := by decide +kernel
theorem dX12_wordAt_13 : decode cX12_wordAt 13 = .ok (.istore 5, 2) := by decide +kernel
theorem dX12_wordAt_15 : decode cX12_wordAt 15 = .ok (.aload_n 0, 1) := by decide +kernel
theorem dX12_wordAt_16 : decode cX12_wordAt 16 = .ok (.getfield 30, 3) := by decide +kernel
theorem dX12_wordAt_19 : decode cX12_wordAt 19 = .ok (.iload_n 3, 1) := by decide +kernel
theorem dX12_wordAt_20 : decode cX12_wordAt 20 = .ok (.iload 5, 2) := by decide +kernel
theorem dX12_wordAt_22 : decode cX12_wordAt 22 = .ok (.iadd, 1) := by decide +kernel
theorem dX12_wordAt_23 : decode cX12_wordAt 23 = .ok (.baload, 1) := by decide +kernel
theorem dX12_wordAt_24 : decode cX12_wordAt 24 = .ok (.bipush 32, 2) := by decide +kernel
theorem dX12_wordAt_26 : decode cX12_wordAt 26 = .ok (.if_icmp .eq 12, 3) := by decide +kernel
theorem dX12_wordAt_29 : decode cX12_wordAt 29 = .ok (.iload 5, 2) := by decide +kernel
theorem dX12_wordAt_31 : decode cX12_wordAt 31 = .ok (.iconst 1, 1) := by decide +kernel
theorem dX12_wordAt_32 : decode cX12_wordAt 32 = .ok (.iadd, 1) := by decide +kernel
theorem dX12_wordAt_33 : decode cX12_wordAt 33 = .ok (.istore 5, 2) := by decide +kernel
theorem dX12_wordAt_35 : decode cX12_wordAt 35 = .ok (.goto (-20), 3) := by decide +kernel
theorem dX12_wordAt_38 : decode cX12_wordAt 38 = .ok (.iload 5, 2) := by decide +kernel
theorem dX12_wordAt_40 : decode cX12_wordAt 40 = .ok (.iload_n 2, 1) := by decide +kernel
theorem dX12_wordAt_41 : decode cX12_wordAt 41 = .ok (.if_icmp .ne 7, 3) := by decide +kernel
theorem dX12_wordAt_44 : decode cX12_wordAt 44 = .ok (.iconst 1, 1) := by decide +kernel
theorem dX12_wordAt_45 : decode cX12_wordAt 45 = .ok (.goto 4, 3) := by decide +kernel
theorem dX12_wordAt_48 : decode cX12_wordAt 48 = .ok (.iconst 0, 1) := by decide +kernel
theorem dX12_wordAt_49 : decode cX12_wordAt 49 = .ok (.istore 6, 2) := by decide +kernel
theorem dX12_wordAt_51 : decode cX12_wordAt 51 = .ok (.iconst 0, 1) := by decide +kernel
theorem dX12_wordAt_52 : decode cX12_wordAt 52 = .ok (.istore 7, 2) := by decide +kernel
theorem dX12_wordAt_54 : decode cX12_wordAt 54 = .ok (.iload 7, 2) := by decide +kernel
theorem dX12_wordAt_56 : decode cX12_wordAt 56 = .ok (.iload 5, 2) := by decide +kernel
theorem dX12_wordAt_58 : decode cX12_wordAt 58 = .ok (.if_icmp .ge 42, 3) := by decide +kernel
theorem dX12_wordAt_61 : decode cX12_wordAt 61 = .ok (.iload 6, 2) := by decide +kernel
theorem dX12_wordAt_63 : decode cX12_wordAt 63 = .ok (.ifCond .eq 37, 3) := by decide +kernel
theorem dX12_wordAt_66 : decode cX12_wordAt 66 = .ok (.aload_n 0, 1) := by decide +kernel
theorem dX12_wordAt_67 : decode cX12_wordAt 67 = .ok (.getfield 34, 3) := by decide +kernel
theorem dX12_wordAt_70 : decode cX12_wordAt 70 = .ok (.iload_n 1, 1) := by decide +kernel
theorem dX12_wordAt_71 : decode cX12_wordAt 71 = .ok (.iload 7, 2) := by decide +kernel
theorem dX12_wordAt_73 : decode cX12_wordAt 73 = .ok (.iadd, 1) := by decide +kernel
theorem dX12_wordAt_74 : decode cX12_wordAt 74 = .ok (.baload, 1) := by decide +kernel
theorem dX12_wordAt_75 : decode cX12_wordAt 75 = .ok (.aload_n 0, 1) := by decide +kernel
theorem dX12_wordAt_76 : decode cX12_wordAt 76 = .ok (.getfield 30, 3) := by decide +kernel
theorem dX12_wordAt_79 : decode cX12_wordAt 79 = .ok (.iload_n 3, 1) := by decide +kernel
theorem dX12_wordAt_80 : decode cX12_wordAt 80 = .ok (.iload 7, 2) := by decide +kernel
theorem dX12_wordAt_82 : decode cX12_wordAt 82 = .ok (.iadd, 1) := by decide +kernel
theorem dX12_wordAt_83 : decode cX12_wordAt 83 = .ok (.baload, 1) := by decide +kernel
theorem dX12_wordAt_84 : decode cX12_wordAt 84 = .ok (.if_icmp .ne 7, 3) := by decide +kernel
theorem dX12_wordAt_87 : decode cX12_wordAt 87 = .ok (.iconst 1, 1) := by decide +kernel
theorem dX12_wordAt_88 : decode cX12_wordAt 88 = .ok (.goto 4, 3) := by decide +kernel
theorem dX12_wordAt_91 : decode cX12_wordAt 91 = .ok (.iconst 0, 1) := by decide +kernel
theorem dX12_wordAt_92 : decode cX12_wordAt 92 = .ok (.istore 6, 2) := by decide +kernel
theorem dX12_wordAt_94 : decode cX12_wordAt 94 = .ok (.iinc 7 1, 3) := by decide +kernel
theorem dX12_wordAt_97 : decode cX12_wordAt 97 = .ok (.goto (-43), 3) := by decide +kernel
theorem dX12_wordAt_100 : decode cX12_wordAt 100 = .ok (.iload 6, 2) := by decide +kernel
theorem dX12_wordAt_102 : decode cX12_wordAt 102 = .ok (.ifCond .eq 6, 3) := by decide +kernel
theorem dX12_wordAt_105 : decode cX12_wordAt 105 = .ok (.iload 4, 2) := by decide +kernel
theorem dX12_wordAt_107 : decode cX12_wordAt 107 = .ok (.ireturn, 1) := by decide +kernel
theorem dX12_wordAt_108 : decode cX12_wordAt 108 = .ok (.iload_n 3, 1) := by decide +kernel
theorem dX12_wordAt_109 : decode cX12_wordAt 109 = .ok (.iload 5, 2) := by decide +kernel
theorem dX12_wordAt_111 : decode cX12_wordAt 111 = .ok (.iadd, 1) := by decide +kernel
theorem dX12_wordAt_112 : decode cX12_wordAt 112 = .ok (.iconst 1, 1) := by decide +kernel
theorem dX12_wordAt_113 : decode cX12_wordAt 113 = .ok (.iadd, 1) := by decide +kernel
theorem dX12_wordAt_114 : decode cX12_wordAt 114 = .ok (.istore_n 3, 1) := by decide +kernel
theorem dX12_wordAt_115 : decode cX12_wordAt 115 = .ok (.iinc 4 1, 3) := by decide +kernel
theorem dX12_wordAt_118 : decode cX12_wordAt 118 = .ok (.goto (-113), 3) := by decide +kernel
theorem dX12_wordAt_121 : decode cX12_wordAt 121 = .ok (.iconst (-1), 1) := by decide +kernel
theorem dX12_wordAt_122 : decode cX12_wordAt 122 = .ok (.ireturn, 1) := by decide +kernel
theorem fgX12_30 : q_Fg RX12 30 12 10 := q_Fg.of (C := RX12) (T := TX12) (N := 35) rfl (by decide) inX12 1261 (by decide +kernel) rfl rfl
def fX12_wordAt_L100 (n : Nat) (k5 : Nat → Int32 → Int32 → Int32 → Int32 → Mm → Option (Int32 × Mm)) (r0 : Nat) (v1 : Int32) (v2 : Int32) (v3 : Int32) (v4 : Int32) (v5 : Int32) (v6 : Int32) (X : Mm) : Option (Int32 × Mm) :=
if v6 = 0 then (
nm (((v3 + v5) + (1 : Int32))) fun v3_114 =>
nm (v4 + (1 : Int32)) fun v4_115 =>
k5 r0 v1 v2 v3_114 v4_115 X
) else (
some (v4, X)
)
def fX12_wordAt_L92 (n : Nat) (k5 : Nat → Int32 → Int32 → Int32 → Int32 → Mm → Option (Int32 × Mm)) (k54 : Nat → Int32 → Int32 → Int32 → Int32 → Int32 → Int32 → Int32 → Mm → Option (Int32 × Mm)) (r0 : Nat) (v1 : Int32) (v2 : Int32) (v3 : Int32) (v4 : Int32) (v5 : Int32) (v7 : Int32) (s0 : Int32) (X : Mm) : Option (Int32 × Mm) :=
nm (v7 + (1 : Int32)) fun v7_94 =>
k54 r0 v1 v2 v3 v4 v5 s0 v7_94 X
def fX12_wordAt_L54 (n : Nat) (k5 : Nat → Int32 → Int32 → Int32 → Int32 → Mm → Option (Int32 × Mm)) : Nat → Nat → Int32 → Int32 → Int32 → Int32 → Int32 → Int32 → Int32 → Mm → Option (Int32 × Mm)
| 0, _, _, _, _, _, _, _, _, _ => none
| j + 1, r0, v1, v2, v3, v4, v5, v6, v7, X =>
if v5 ≤ v7 then (
fX12_wordAt_L100 n k5 r0 v1 v2 v3 v4 v5 v6 X
) else (
if v6 = 0 then (
fX12_wordAt_L100 n k5 r0 v1 v2 v3 v4 v5 v6 X
) else (
if mT X r0 = 12 then
if mR X r0 11 ≠ 0 then
if mT X (mR X r0 11) = 16 then
if q_b X (mR X r0 11) (v1 + v7) then
if mR X r0 10 ≠ 0 then
if mT X (mR X r0 10) = 16 then
if q_b X (mR X r0 10) (v3 + v7) then
if (mI X (mR X r0 11) ((v1 + v7)).toNatClampNeg) = (mI X (mR X r0 10) ((v3 + v7)).toNatClampNeg) then (
fX12_wordAt_L92 n k5 (fX12_wordAt_L54 n k5 j) r0 v1 v2 v3 v4 v5 v7 (1 : Int32) X
) else (
fX12_wordAt_L92 n k5 (fX12_wordAt_L54 n k5 j) r0 v1 v2 v3 v4 v5 v7 (0 : Int32) X
)
else none
else none
else none
else none
else none
else none
else none
)
)
def fX12_wordAt_L49 (n : Nat) (k5 : Nat → Int32 → Int32 → Int32 → Int32 → Mm → Option (Int32 × Mm)) (r0 : Nat) (v1 : Int32) (v2 : Int32) (v3 : Int32) (v4 : Int32) (v5 : Int32) (s0 : Int32) (X : Mm) : Option (Int32 × Mm) :=
fX12_wordAt_L54 n k5 n r0 v1 v2 v3 v4 v5 s0 (0 : Int32) X
def fX12_wordAt_L15 (n : Nat) (k5 : Nat → Int32 → Int32 → Int32 → Int32 → Mm → Option (Int32 × Mm)) : Nat → Nat → Int32 → Int32 → Int32 → Int32 → Int32 → Mm → Option (Int32 × Mm)
| 0, _, _, _, _, _, _, _ => none
| j + 1, r0, v1, v2, v3, v4, v5, X =>
if mT X r0 = 12 then
if mR X r0 10 ≠ 0 then
if mT X (mR X r0 10) = 16 then
if q_b X (mR X r0 10) (v3 + v5) then
if (mI X (mR X r0 10) ((v3 + v5)).toNatClampNeg) = (32 : Int32) then (
if v5 = v2 then (
fX12_wordAt_L49 n k5 r0 v1 v2 v3 v4 v5 (1 : Int32) X
) else (
fX12_wordAt_L49 n k5 r0 v1 v2 v3 v4 v5 (0 : Int32) X
)
) else (
nm ((v5 + (1 : Int32))) fun v5_33 =>
(fX12_wordAt_L15 n k5 j) r0 v1 v2 v3 v4 v5_33 X
)
else none
else none
else none
else none
def fX12_wordAt_L5 (n : Nat) : Nat → Nat → Int32 → Int32 → Int32 → Int32 → Mm → Option (Int32 × Mm)
| 0, _, _, _, _, _, _ => none
| j + 1, r0, v1, v2, v3, v4, X =>
if (21 : Int32) ≤ v4 then (
some ((-1 : Int32), X)
) else (
fX12_wordAt_L15 n (fX12_wordAt_L5 n j) n r0 v1 v2 v3 v4 (0 : Int32) X
)
def fX12_wordAt (n : Nat) (r0 : Nat) (v1 : Int32) (v2 : Int32) (X : Mm) : Option (Int32 × Mm) :=
fX12_wordAt_L5 n n r0 v1 v2 (0 : Int32) (0 : Int32) X
theorem gX12_wordAt_L100 {E : q_E} {X0 : Mm} (C : Cx E cX12_wordAt RX12 8 (some .int) (q_rm 0 0 0 0) X0) (n : Nat) (k5 : Nat → Int32 → Int32 → Int32 → Int32 → Mm → Option (Int32 × Mm)) (hk5 : ∀ (r0 : Nat) (v1 : Int32) (v2 : Int32) (v3 : Int32) (v4 : Int32) (X : Mm), Sm E (q_fin E q_eI X0 0 0) 0 0 5 [(0, .ref (q_P E + r0)), (1, .int v1), (2, .int v2), (3, .int v3), (4, .int v4)] [] X (k5 r0 v1 v2 v3 v4 X)) (r0 : Nat) (v1 : Int32) (v2 : Int32) (v3 : Int32) (v4 : Int32) (v5 : Int32) (v6 : Int32) (X : Mm) : Sm E (q_fin E q_eI X0 0 0) 0 0 100 [(0, .ref (q_P E + r0)), (1, .int v1), (2, .int v2), (3, .int v3), (4, .int v4), (5, .int v5), (6, .int v6)] [] X (fX12_wordAt_L100 n k5 r0 v1 v2 v3 v4 v5 v6 X) := by
  unfold fX12_wordAt_L100
  refine q_iload C 6 dX12_wordAt_100 rfl ?_
  refine q_if_eq C 108 dX12_wordAt_102 (by decide) (fun _ => ?_) (fun _ => ?_)
  · refine q_iload_n C 3 dX12_wordAt_108 rfl rfl ?_
    refine q_iload C 5 dX12_wordAt_109 rfl ?_
    refine q_iadd C dX12_wordAt_111 ?_
    refine q_iconst C (1 : Int32) dX12_wordAt_112 rfl ?_
    refine q_iadd C dX12_wordAt_113 ?_
    refine q_nmi (fun v3_114 => ?_)
    refine q_istore_n C [(3, .int v3_114), (0, .ref (q_P E + r0)), (1, .int v1), (2, .int v2), (4, .int v4), (5, .int v5), (6, .int v6)] dX12_wordAt_114 rfl (Nat.le_of_ble_eq_true rfl) rfl ?_
    refine q_iincN C (1 : Int32) 4 (fun v4_115 => [(4, .int v4_115), (3, .int v3_114), (0, .ref (q_P E + r0)), (1, .int v1), (2, .int v2), (5, .int v5), (6, .int v6)]) dX12_wordAt_115 rfl rfl (Nat.le_of_ble_eq_true rfl) (fun _ => rfl) (fun v4_115 => ?_)
    refine q_goto C 5 dX12_wordAt_118 (by decide) ?_
    refine q_sub C [(0, .ref (q_P E + r0)), (1, .int v1), (2, .int v2), (3, .int v3_114), (4, .int v4_115)] [2, 3, 4, 1, 0] rfl ?_
    exact hk5 r0 v1 v2 v3_114 v4_115 X
  · refine q_iload C 4 dX12_wordAt_105 rfl ?_
    exact q_iret C dX12_wordAt_107
theorem gX12_wordAt_L92 {E : q_E} {X0 : Mm} (C : Cx E cX12_wordAt RX12 8 (some .int) (q_rm 0 0 0 0) X0) (n : Nat) (k5 : Nat → Int32 → Int32 → Int32 → Int32 → Mm → Option (Int32 × Mm)) (hk5 : ∀ (r0 : Nat) (v1 : Int32) (v2 : Int32) (v3 : Int32) (v4 : Int32) (X : Mm), Sm E (q_fin E q_eI X0 0 0) 0 0 5 [(0, .ref (q_P E + r0)), (1, .int v1), (2, .int v2), (3, .int v3), (4, .int v4)] [] X (k5 r0 v1 v2 v3 v4 X)) (k54 : Nat → Int32 → Int32 → Int32 → Int32 → Int32 → Int32 → Int32 → Mm → Option (Int32 × Mm)) (hk54 : ∀ (r0 : Nat) (v1 : Int32) (v2 : Int32) (v3 : Int32) (v4 : Int32) (v5 : Int32) (v6 : Int32) (v7 : Int32) (X : Mm), Sm E (q_fin E q_eI X0 0 0) 0 0 54 [(0, .ref (q_P E + r0)), (1, .int v1), (2, .int v2), (3, .int v3), (4, .int v4), (5, .int v5), (6, .int v6), (7, .int v7)] [] X (k54 r0 v1 v2 v3 v4 v5 v6 v7 X)) (r0 : Nat) (v1 : Int32) (v2 : Int32) (v3 : Int32) (v4 : Int32) (v5 : Int32) (v7 : Int32) (s0 : Int32) (X : Mm) : Sm E (q_fin E q_eI X0 0 0) 0 0 92 [(0, .ref (q_P E + r0)), (1, .int v1), (2, .int v2), (3, .int v3), (4, .int v4), (5, .int v5), (7, .int v7)] [.int s0] X (fX12_wordAt_L92 n k5 k54 r0 v1 v2 v3 v4 v5 v7 s0 X) := by
  unfold fX12_wordAt_L92
  refine q_istore C [(6, .int s0), (0, .ref (q_P E + r0)), (1, .int v1), (2, .int v2), (3, .int v3), (4, .int v4), (5, .int v5), (7, .int v7)] dX12_wordAt_92 (Nat.le_of_ble_eq_true rfl) rfl ?_
  refine q_iincN C (1 : Int32) 7 (fun v7_94 => [(7, .int v7_94), (6, .int s0), (0, .ref (q_P E + r0)), (1, .int v1), (2, .int v2), (3, .int v3), (4, .int v4), (5, .int v5)]) dX12_wordAt_94 rfl rfl (Nat.le_of_ble_eq_true rfl) (fun _ => rfl) (fun v7_94 => ?_)
  refine q_goto C 54 dX12_wordAt_97 (by decide) ?_
  refine q_sub C [(0, .ref (q_P E + r0)), (1, .int v1), (2, .int v2), (3, .int v3), (4, .int v4), (5, .int v5), (6, .int s0), (7, .int v7_94)] [2, 3, 4, 5, 6, 7, 1, 0] rfl ?_
  exact hk54 r0 v1 v2 v3 v4 v5 s0 v7_94 X
theorem gX12_wordAt_L54 {E : q_E} {X0 : Mm} (C : Cx E cX12_wordAt RX12 8 (some .int) (q_rm 0 0 0 0) X0) (n : Nat) (k5 : Nat → Int32 → Int32 → Int32 → Int32 → Mm → Option (Int32 × Mm)) (hk5 : ∀ (r0 : Nat) (v1 : Int32) (v2 : Int32) (v3 : Int32) (v4 : Int32) (X : Mm), Sm E (q_fin E q_eI X0 0 0) 0 0 5 [(0, .ref (q_P E + r0)), (1, .int v1), (2, .int v2), (3, .int v3), (4, .int v4)] [] X (k5 r0 v1 v2 v3 v4 X)) : ∀ (j : Nat) (r0 : Nat) (v1 : Int32) (v2 : Int32) (v3 : Int32) (v4 : Int32) (v5 : Int32) (v6 : Int32) (v7 : Int32) (X : Mm), Sm E (q_fin E q_eI X0 0 0) 0 0 54 [(0, .ref (q_P E + r0)), (1, .int v1), (2, .int v2), (3, .int v3), (4, .int v4), (5, .int v5), (6, .int v6), (7, .int v7)] [] X (fX12_wordAt_L54 n k5 j r0 v1 v2 v3 v4 v5 v6 v7 X) := by
  intro j
  induction j with
  | zero => intros; exact Sm.none
  | succ j ih =>
    intro r0 v1 v2 v3 v4 v5 v6 v7 X
    rw [fX12_wordAt_L54]
    refine q_iload C 7 dX12_wordAt_54 rfl ?_
    refine q_iload C 5 dX12_wordAt_56 rfl ?_
    refine q_icmp_ge C 100 dX12_wordAt_58 (by decide) (fun _ => ?_) (fun _ => ?_)
    · refine q_sub C [(0, .ref (q_P E + r0)), (1, .int v1), (2, .int v2), (3, .int v3), (4, .int v4), (5, .int v5), (6, .int v6)] [0, 1, 2, 3, 4, 5, 6] rfl ?_
      exact gX12_wordAt_L100 C n k5 hk5 r0 v1 v2 v3 v4 v5 v6 X
    · refine q_iload C 6 dX12_wordAt_61 rfl ?_
      refine q_if_eq C 100 dX12_wordAt_63 (by decide) (fun _ => ?_) (fun _ => ?_)
      · refine q_sub C [(0, .ref (q_P E + r0)), (1, .int v1), (2, .int v2), (3, .int v3), (4, .int v4), (5, .int v5), (6, .int v6)] [0, 1, 2, 3, 4, 5, 6] rfl ?_
        exact gX12_wordAt_L100 C n k5 hk5 r0 v1 v2 v3 v4 v5 v6 X
      · refine q_aload_n C 0 dX12_wordAt_66 rfl rfl ?_
        refine q_chk (fun h6 => ?_)
        refine q_chk (fun h7 => ?_)
        refine p_getR C fgX12_34 rfl dX12_wordAt_67 h6 h7 ?_
        refine q_iload_n C 1 dX12_wordAt_70 rfl rfl ?_
        refine q_iload C 7 dX12_wordAt_71 rfl ?_
        refine q_iadd C dX12_wordAt_73 ?_
        refine q_chk (fun h8 => ?_)
        refine q_chk (fun h9 => ?_)
        refine p_bald C dX12_wordAt_74 h8 h9 ?_
        refine q_aload_n C 0 dX12_wordAt_75 rfl rfl ?_
        refine q_chk (fun h10 => ?_)
        refine p_getR C fgX12_30 rfl dX12_wordAt_76 h6 h10 ?_
        refine q_iload_n C 3 dX12_wordAt_79 rfl rfl ?_
        refine q_iload C 7 dX12_wordAt_80 rfl ?_
        refine q_iadd C dX12_wordAt_82 ?_
        refine q_chk (fun h11 => ?_)
        refine q_chk (fun h12 => ?_)
        refine p_bald C dX12_wordAt_83 h11 h12 ?_
        refine q_icmp_ne C 91 dX12_wordAt_84 (by decide) (fun _ => ?_) (fun _ => ?_)
        · refine q_iconst C (1 : Int32) dX12_wordAt_87 rfl ?_
          refine q_goto C 92 dX12_wordAt_88 (by decide) ?_
          refine q_sub C [(0, .ref (q_P E + r0)), (1, .int v1), (2, .int v2), (3, .int v3), (4, .int v4), (5, .int v5), (7, .int v7)] [0, 1, 2, 3, 4, 5, 7] rfl ?_
          exact gX12_wordAt_L92 C n k5 hk5 (fX12_wordAt_L54 n k5 j) ih r0 v1 v2 v3 v4 v5 v7 (1 : Int32) X
        · refine q_iconst C (0 : Int32) dX12_wordAt_91 rfl ?_
          refine q_sub C [(0, .ref (q_P E + r0)), (1, .int v1), (2, .int v2), (3, .int v3), (4, .int v4), (5, .int v5), (7, .int v7)] [0, 1, 2, 3, 4, 5, 7] rfl ?_
          exact gX12_wordAt_L92 C n k5 hk5 (fX12_wordAt_L54 n k5 j) ih r0 v1 v2 v3 v4 v5 v7 (0 : Int32) X
theorem gX12_wordAt_L49 {E : q_E} {X0 : Mm} (C : Cx E cX12_wordAt RX12 8 (some .int) (q_rm 0 0 0 0) X0) (n : Nat) (k5 : Nat → Int32 → Int32 → Int32 → Int32 → Mm → Option (Int32 × Mm)) (hk5 : ∀ (r0 : Nat) (v1 : Int32) (v2 : Int32) (v3 : Int32) (v4 : Int32) (X : Mm), Sm E (q_fin E q_eI X0 0 0) 0 0 5 [(0, .ref (q_P E + r0)), (1, .int v1), (2, .int v2), (3, .int v3), (4, .int v4)] [] X (k5 r0 v1 v2 v3 v4 X)) (r0 : Nat) (v1 : Int32) (v2 : Int32) (v3 : Int32) (v4 : Int32) (v5 : Int32) (s0 : Int32) (X : Mm) : Sm E (q_fin E q_eI X0 0 0) 0 0 49 [(0, .ref (q_P E + r0)), (1, .int v1), (2, .int v2), (3, .int v3), (4, .int v4), (5, .int v5)] [.int s0] X (fX12_wordAt_L49 n k5 r0 v1 v2 v3 v4 v5 s0 X) := by
  unfold fX12_wordAt_L49
  refine q_istore C [(6, .int s0), (0, .ref (q_P E + r0)), (1, .int v1), (2, .int v2), (3, .int v3), (4, .int v4), (5, .int v5)] dX12_wordAt_49 (Nat.le_of_ble_eq_true rfl) rfl ?_
  refine q_iconst C (0 : Int32) dX12_wordAt_51 rfl ?_
  refine q_istore C [(7, .int (0 : Int32)), (6, .int s0), (0, .ref (q_P E + r0)), (1, .int v1), (2, .int v2), (3, .int v3), (4, .int v4), (5, .int v5)] dX12_wordAt_52 (Nat.le_of_ble_eq_true rfl) rfl ?_
  refine q_sub C [(0, .ref (q_P E + r0)), (1, .int v1), (2, .int v2), (3, .int v3), (4, .int v4), (5, .int v5), (6, .int s0), (7, .int (0 : Int32))] [2, 3, 4, 5, 6, 7, 1, 0] rfl ?_
  exact gX12_wordAt_L54 C n k5 hk5 n r0 v1 v2 v3 v4 v5 s0 (0 : Int32) X
theorem gX12_wordAt_L15 {E : q_E} {X0 : Mm} (C : Cx E cX12_wordAt RX12 8 (some .int) (q_rm 0 0 0 0) X0) (n : Nat) (k5 : Nat → Int32 → Int32 → Int32 → Int32 → Mm → Option (Int32 × Mm)) (hk5 : ∀ (r0 : Nat) (v1 : Int32) (v2 : Int32) (v3 : Int32) (v4 : Int32) (X : Mm), Sm E (q_fin E q_eI X0 0 0) 0 0 5 [(0, .ref (q_P E + r0)), (1, .int v1), (2, .int v2), (3, .int v3), (4, .int v4)] [] X (k5 r0 v1 v2 v3 v4 X)) : ∀ (j : Nat) (r0 : Nat) (v1 : Int32) (v2 : Int32) (v3 : Int32) (v4 : Int32) (v5 : Int32) (X : Mm), Sm E (q_fin E q_eI X0 0 0) 0 0 15 [(0, .ref (q_P E + r0)), (1, .int v1), (2, .int v2), (3, .int v3), (4, .int v4), (5, .int v5)] [] X (fX12_wordAt_L15 n k5 j r0 v1 v2 v3 v4 v5 X) := by
  intro j
  induction j with
  | zero => intros; exact Sm.none
  | succ j ih =>
    intro r0 v1 v2 v3 v4 v5 X
    rw [fX12_wordAt_L15]
    refine q_aload_n C 0 dX12_wordAt_15 rfl rfl ?_
    refine q_chk (fun h1 => ?_)
    refine q_chk (fun h2 => ?_)
    refine p_getR C fgX12_30 rfl dX12_wordAt_16 h1 h2 ?_
    refine q_iload_n C 3 dX12_wordAt_19 rfl rfl ?_
    refine q_iload C 5 dX12_wordAt_20 rfl ?_
    refine q_iadd C dX12_wordAt_22 ?_
    refine q_chk (fun h3 => ?_)
    refine q_chk (fun h4 => ?_)
    refine p_bald C dX12_wordAt_23 h3 h4 ?_
    refine q_bipush C (32 : Int32) dX12_wordAt_24 rfl ?_
    refine q_icmp_eq C 38 dX12_wordAt_26 (by decide) (fun _ => ?_) (fun _ => ?_)
    · refine q_iload C 5 dX12_wordAt_38 rfl ?_
      refine q_iload_n C 2 dX12_wordAt_40 rfl rfl ?_
      refine q_icmp_ne C 48 dX12_wordAt_41 (by decide) (fun _ => ?_) (fun _ => ?_)
      · refine q_iconst C (1 : Int32) dX12_wordAt_44 rfl ?_
        refine q_goto C 49 dX12_wordAt_45 (by decide) ?_
        exact gX12_wordAt_L49 C n k5 hk5 r0 v1 v2 v3 v4 v5 (1 : Int32) X
      · refine q_iconst C (0 : Int32) dX12_wordAt_48 rfl ?_
        exact gX12_wordAt_L49 C n k5 hk5 r0 v1 v2 v3 v4 v5 (0 : Int32) X
    · refine q_iload C 5 dX12_wordAt_29 rfl ?_
      refine q_iconst C (1 : Int32) dX12_wordAt_31 rfl ?_
      refine q_iadd C dX12_wordAt_32 ?_
      refine q_nmi (fun v5_33 => ?_)
      refine q_istore C [(5, .int v5_33), (0, .ref (q_P E + r0)), (1, .int v1), (2, .int v2), (3, .int v3), (4, .int v4)] dX12_wordAt_33 (Nat.le_of_ble_eq_true rfl) rfl ?_
      refine q_goto C 15 dX12_wordAt_35 (by decide) ?_
      refine q_sub C [(0, .ref (q_P E + r0)), (1, .int v1), (2, .int v2), (3, .int v3), (4, .int v4), (5, .int v5_33)] [1, 2, 3, 4, 5, 0] rfl ?_
      exact ih r0 v1 v2 v3 v4 v5_33 X
theorem gX12_wordAt_L5 {E : q_E} {X0 : Mm} (C : Cx E cX12_wordAt RX12 8 (some .int) (q_rm 0 0 0 0) X0) (n : Nat) : ∀ (j : Nat) (r0 : Nat) (v1 : Int32) (v2 : Int32) (v3 : Int32) (v4 : Int32) (X : Mm), Sm E (q_fin E q_eI X0 0 0) 0 0 5 [(0, .ref (q_P E + r0)), (1, .int v1), (2, .int v2), (3, .int v3), (4, .int v4)] [] X (fX12_wordAt_L5 n j r0 v1 v2 v3 v4 X) := by
  intro j
  induction j with
  | zero => intros; exact Sm.none
  | succ j ih =>
    intro r0 v1 v2 v3 v4 X
    rw [fX12_wordAt_L5]
    refine q_iload C 4 dX12_wordAt_5 rfl ?_
    refine q_bipush C (21 : Int32) dX12_wordAt_7 rfl ?_
    refine q_icmp_ge C 121 dX12_wordAt_9 (by decide) (fun _ => ?_) (fun _ => ?_)
    · refine q_iconst C (-1 : Int32) dX12_wordAt_121 rfl ?_
      exact q_iret C dX12_wordAt_122
    · refine q_iconst C (0 : Int32) dX12_wordAt_12 rfl ?_
      refine q_istore C [(5, .int (0 : Int32)), (0, .ref (q_P E + r0)), (1, .int v1), (2, .int v2), (3, .int v3), (4, .int v4)] dX12_wordAt_13 (Nat.le_of_ble_eq_true rfl) rfl ?_
      refine q_sub C [(0, .ref (q_P E + r0)), (1, .int v1), (2, .int v2), (3, .int v3), (4, .int v4), (5, .int (0 : Int32))] [1, 2, 3, 4, 5, 0] rfl ?_
      exact gX12_wordAt_L15 C n (fX12_wordAt_L5 n j) ih n r0 v1 v2 v3 v4 (0 : Int32) X
theorem sX12_wordAt (n : Nat) (r0 : Nat) (v1 : Int32) (v2 : Int32) : q_Ct yX12_wordAt cX12_wordAt 8 (some .int) 0 0 0 0 q_eI (fun P => [.ref (P + r0), .int v1, .int v2]) (fX12_wordAt n r0 v1 v2) := by
  refine q_meth (by decide +kernel) (fun P => Nat.le_of_ble_eq_true rfl) (fun E X C hn => ?_)
  show Sm E (q_fin E q_eI X 0 0) 0 0 0 [(0, .ref (q_P E + r0)), (1, .int v1), (2, .int v2)] [] X _
  unfold fX12_wordAt
  refine q_iconst C (0 : Int32) dX12_wordAt_0 rfl ?_
  refine q_istore_n C [(3, .int (0 : Int32)), (0, .ref (q_P E + r0)), (1, .int v1), (2, .int v2)] dX12_wordAt_1 rfl (Nat.le_of_ble_eq_true rfl) rfl ?_
  refine q_iconst C (0 : Int32) dX12_wordAt_2 rfl ?_
  refine q_istore C [(4, .int (0 : Int32)), (3, .int (0 : Int32)), (0, .ref (q_P E + r0)), (1, .int v1), (2, .int v2)] dX12_wordAt_3 (Nat.le_of_ble_eq_true rfl) rfl ?_
  refine q_sub C [(0, .ref (q_P E + r0)), (1, .int v1), (2, .int v2), (3, .int (0 : Int32)), (4, .int (0 : Int32))] [2, 3, 4, 1, 0] rfl ?_
  exact gX12_wordAt_L5 C n n r0 v1 v2 (0 : Int32) (0 : Int32) X
/-! RecordClaimsModel.next()V -/
abbrev cX12_next : ByteArray := prog_14_method_54_code
def yX12_next : MethodName := ⟨RX12, "next", "()V"⟩
theorem dX12_next_0 : decode cX12_next 0 = .ok (.aload_n 0, 1) := by decide +kernel
theorem dX12_next_1 : decode cX12_next 1 = .ok (.aload_n 0, 1) := by decide +kernel
theorem dX12_next_2 : decode cX12_next 2 = .ok (.getfield 225, 3) := by decide +kernel
theorem dX12_next_5 : decode cX12_next 5 = .ok (.invokevirtual 240, 3) := by decide +kernel
theorem dX12_next_8 : decode cX12_next 8 = .ok (.bipush 32, 2) := by decide +kernel
theorem dX12_next_10 : decode cX12_next 10 = .ok (.if_icmp .eq 16, 3) := by decide +kernel
theorem dX12_next_13 : decode cX12_next 13 = .ok (.aload_n 0, 1) := by decide +kernel
theorem dX12_next_14 : decode cX12_next 14 = .ok (.aload_n 0, 1) := by decide +kernel
theorem dX12_next_15 : decode cX12_next 15 = .ok (.getfield 225, 3) := by decide +kernel
theorem dX12_next_18 : decode cX12_next 18 = .ok (.invokevirtual 240, 3) := by decide +kernel
theorem dX12_next_21 : decode cX12_next 21 = .ok (.bipush 10, 2) := by decide +kernel
theorem dX12_next_23 : decode cX12_next 23 = .ok (.if_icmp .ne 16, 3) := by decide +kernel
theorem dX12_next_26 : decode cX12_next 26 = .ok (.aload_n 0, 1) := by decide +kernel
theorem dX12_next_27 : decode cX12_next 27 = .ok (.aload_n 0, 1) := by decide +kernel
theorem dX12_next_28 : decode cX12_next 28 = .ok (.getfield 225, 3) := by decide +kernel
theorem dX12_next_31 : decode cX12_next 31 = .ok (.iconst 1, 1) := by decide +kernel
theorem dX12_next_32 : decode cX12_next 32 = .ok (.iadd, 1) := by decide +kernel
theorem dX12_next_33 : decode cX12_next 33 = .ok (.putfield 225, 3) := by decide +kernel
theorem dX12_next_36 : decode cX12_next 36 = .ok (.goto (-36), 3) := by decide +kernel
theorem dX12_next_39 : decode cX12_next 39 = .ok (.aload_n 0, 1) := by decide +kernel
theorem dX12_next_40 : decode cX12_next 40 = .ok (.aload_n 0, 1) := by decide +kernel
theorem dX12_next_41 : decode cX12_next 41 = .ok (.getfield 225, 3) := by decide +kernel
theorem dX12_next_44 : decode cX12_next 44 = .ok (.putfield 237, 3) := by decide +kernel
theorem dX12_next_47 : decode cX12_next 47 = .ok (.aload_n 0, 1) := by decide +kernel
theorem dX12_next_48 : decode cX12_next 48 = .ok (.iconst (-1), 1) := by decide +kernel
theorem dX12_next_49 : decode cX12_next 49 = .ok (.putfield 244, 3) := by decide +kernel
theorem dX12_next_52 : decode cX12_next 52 = .ok (.aload_n 0, 1) := by decide +kernel
theorem dX12_next_53 : decode cX12_next 53 = .ok (.aload_n 0, 1) := by decide +kernel
theorem dX12_next_54 : decode cX12_next 54 = .ok (.getfield 225, 3) := by decide +kernel
theorem dX12_next_57 : decode cX12_next 57 = .ok (.invokevirtual 240, 3) := by decide +kernel
theorem dX12_next_60 : decode cX12_next 60 = .ok (.istore_n 1, 1) := by decide +kernel
theorem dX12_next_61 : decode cX12_next 61 = .ok (.aload_n 0, 1) := by decide +kernel
theorem dX12_next_62 : decode cX12_next 62 = .ok (.iload_n 1, 1) := by decide +kernel
theorem dX12_next_63 : decode cX12_next 63 = .ok (.iconst (-1), 1) := by decide +kernel
theorem dX12_next_64 : decode cX12_next 64 = .ok (.if_icmp .ne 7, 3) := by decide +kernel
theorem dX12_next_67 : decode cX12_next 67 = .ok (.iconst 0, 1) := by decide +kernel
theorem dX12_next_68 : decode cX12_next 68 = .ok (.goto 28, 3) := by decide +kernel
theorem dX12_next_71 : decode cX12_next 71 = .ok (.aload_n 0, 1) := by decide +kernel
theorem dX12_next_72 : decode cX12_next 72 = .ok (.iload_n 1, 1) := by decide +kernel
theorem dX12_next_73 : decode cX12_next 73 = .ok (.invokevirtual 247, 3) := by decide +kernel
theorem dX12_next_76 : decode cX12_next 76 = .ok (.ifCond .eq 7, 3) := by decide +kernel
theorem dX12_next_79 : decode cX12_next 79 = .ok (.iconst 1, 1) := by decide +kernel
theorem dX12_next_80 : decode cX12_next 80 = .ok (.goto 16, 3) := by decide +kernel
theorem dX12_next_83 : decode cX12_next 83 = .ok (.aload_n 0, 1) := by decide +kernel
theorem dX12_next_84 : decode cX12_next 84 = .ok (.iload_n 1, 1) := by decide +kernel
theorem dX12_next_85 : decode cX12_next 85 = .ok (.invokevirtual 250, 3) := by decide +kernel
theorem dX12_next_88 : decode cX12_next 88 = .ok (.ifCond .eq 7, 3) := by decide +kernel
theorem dX12_next_91 : decode cX12_next 91 = .ok (.iconst 2, 1) := by decide +kernel
theorem dX12_next_92 : decode cX12_next 92 = .ok (.goto 4, 3) := by decide +kernel
theorem dX12_next_95 : decode cX12_next 95 = .ok (.iconst 3, 1) := by decide +kernel
theorem dX12_next_96 : decode cX12_next 96 = .ok (.putfield 253, 3) := by decide +kernel
theorem dX12_next_99 : decode cX12_next 99 = .ok (.aload_n 0, 1) := by decide +kernel
theorem dX12_next_100 : decode cX12_next 100 = .ok (.lconst 0, 1) := by decide +kernel
theorem dX12_next_101 : decode cX12_next 101 = .ok (.putfield 256, 3) := by decide +kernel
theorem dX12_next_104 : decode cX12_next 104 = .ok (.aload_n 0, 1) := by decide +kernel
theorem dX12_next_105 : decode cX12_next 105 = .ok (.iconst 0, 1) := by decide +kernel
theorem dX12_next_106 : decode cX12_next 106 = .ok (.putfield 260, 3) := by decide +kernel
theorem dX12_next_109 : decode cX12_next 109 = .ok (.aload_n 0, 1) := by decide +kernel
theorem dX12_next_110 : decode cX12_next 110 = .ok (.aload_n 0, 1) := by decide +kernel
theorem dX12_next_111 : decode cX12_next 111 = .ok (.getfield 253, 3) := by decide +kernel
theorem dX12_next_114 : decode cX12_next 114 = .ok (.iconst 3, 1) := by decide +kernel
theorem dX12_next_115 : decode cX12_next 115 = .ok (.if_icmp .ne 7, 3) := by decide +kernel
theorem dX12_next_118 : decode cX12_next 118 = .ok (.iload_n 1, 1) := by decide +kernel
theorem dX12_next_119 : decode cX12_next 119 = .ok (.goto 4, 3) := by decide +kernel
theorem dX12_next_122 : decode cX12_next 122 = .ok (.iconst 0, 1) := by decide +kernel
theorem dX12_next_123 : decode cX12_next 123 = .ok (.putfield 263, 3) := by decide +kernel
theorem dX12_next_126 : decode cX12_next 126 = .ok (.aload_n 0, 1) := by decide +kernel
theorem dX12_next_127 : decode cX12_next 127 = .ok (.getfield 253, 3) := by decide +kernel
theorem dX12_next_130 : decode cX12_next 130 = .ok (.iconst 3, 1) := by decide +kernel
theorem dX12_next_131 : decode cX12_next 131 = .ok (.if_icmp .ne 13, 3) := by decide +kernel
theorem dX12_next_134 : decode cX12_next 134 = .ok (.aload_n 0, 1) := by decide +kernel
theorem dX12_next_135 : decode cX12_next 135 = .ok (.aload_n 0, 1) := by decide +kernel
theorem dX12_next_136 : decode cX12_next 136 = .ok (.getfield 225, 3) := by decide +kernel
theorem dX12_next_139 : decode cX12_next 139 = .ok (.iconst 1, 1) := by decide +kernel
theorem dX12_next_140 : decode cX12_next 140 = .ok (.iadd, 1) := by decide +kernel
theorem dX12_next_141 : decode cX12_next 141 = .ok (.putfield 225, 3) := by decide +kernel
theorem dX12_next_144 : decode cX12_next 144 = .ok (.aload_n 0, 1) := by decide +kernel
theorem dX12_next_145 : decode cX12_next 145 = .ok (.getfield 253, 3) := by decide +kernel
theorem dX12_next_148 : decode cX12_next 148 = .ok (.iconst 1, 1) := by decide +kernel
theorem dX12_next_149 : decode cX12_next 149 = .ok (.if_icmp .ne 73, 3) := by decide +kernel
theorem dX12_next_152 : decode cX12_next 152 = .ok (.aload_n 0, 1) := by decide +kernel
theorem dX12_next_153 : decode cX12_next 153 = .ok (.aload_n 0, 1) := by decide +kernel
theorem dX12_next_154 : decode cX12_next 154 = .ok (.aload_n 0, 1) := by decide +kernel
theorem dX12_next_155 : decode cX12_next 155 = .ok (.getfield 225, 3) := by decide +kernel
theorem dX12_next_158 : decode cX12_next 158 = .ok (.invokevirtual 240, 3) := by decide +kernel
theorem dX12_next_161 : decode cX12_next 161 = .ok (.invokevirtual 247, 3) := by decide +kernel
theorem dX12_next_164 : decode cX12_next 164 = .ok (.ifCond .eq 58, 3) := by decide +kernel
theorem dX12_next_167 : decode cX12_next 167 = .ok (.aload_n 0, 1) := by decide +kernel
theorem dX12_next_168 : decode cX12_next 168 = .ok (.getfield 225, 3) := by decide +kernel
theorem dX12_next_171 : decode cX12_next 171 = .ok (.aload_n 0, 1) := by decide +kernel
theorem dX12_next_172 : decode cX12_next 172 = .ok (.getfield 237, 3) := by decide +kernel
theorem dX12_next_175 : decode cX12_next 175 = .ok (.isub, 1) := by decide +kernel
theorem dX12_next_176 : decode cX12_next 176 = .ok (.bipush 6, 2) := by decide +kernel
theorem dX12_next_178 : decode cX12_next 178 = .ok (.if_icmp .ge 31, 3) := by decide +kernel
theorem dX12_next_181 : decode cX12_next 181 = .ok (.aload_n 0, 1) := by decide +kernel
theorem dX12_next_182 : decode cX12_next 182 = .ok (.ldc2_w 266, 3) := by decide +kernel
theorem dX12_next_185 : decode cX12_next 185 = .ok (.aload_n 0, 1) := by decide +kernel
theorem dX12_next_186 : decode cX12_next 186 = .ok (.getfield 256, 3) := by decide +kernel
theorem dX12_next_189 : decode cX12_next 189 = .ok (.lmul, 1) := by decide +kernel
theorem dX12_next_190 : decode cX12_next 190 = .ok (.aload_n 0, 1) := by decide +kernel
theorem dX12_next_191 : decode cX12_next 191 = .ok (.aload_n 0, 1) := by decide +kernel
theorem dX12_next_192 : decode cX12_next 192 = .ok (.getfield 225, 3) := by decide +kernel
theorem dX12_next_195 : decode cX12_next 195 = .ok (.invokevirtual 240, 3) := by decide +kernel
theorem dX12_next_198 : decode cX12_next 198 = .ok (.i2l, 1) := by decide +kernel
theorem dX12_next_199 : decode cX12_next 199 = .ok (.ladd, 1) := by decide +kernel
theorem dX12_next_200 : decode cX12_next 200 = .ok (.ldc2_w 217, 3) := by decide +kernel
theorem dX12_next_203 : decode cX12_next 203 = .ok (.lsub, 1) := by decide +kernel
theorem dX12_next_204 : decode cX12_next 204 = .ok (.lconst 1, 1) := by decide +kernel
theorem dX12_next_205 : decode cX12_next 205 = .ok (.ladd, 1) := by decide +kernel
theorem dX12_next_206 : decode cX12_next 206 = .ok (.putfield 256, 3) := by decide +kernel
theorem dX12_next_209 : decode cX12_next 209 = .ok (.aload_n 0, 1) := by decide +kernel
theorem dX12_next_210 : decode cX12_next 210 = .ok (.aload_n 0, 1) := by decide +kernel
theorem dX12_next_211 : decode cX12_next 211 = .ok (.getfield 225, 3) := by decide +kernel
theorem dX12_next_214 : decode cX12_next 214 = .ok (.iconst 1, 1) := by decide +kernel
theorem dX12_next_215 : decode cX12_next 215 = .ok (.iadd, 1) := by decide +kernel
theorem dX12_next_216 : decode cX12_next 216 = .ok (.putfield 225, 3) := by decide +kernel
theorem dX12_next_219 : decode cX12_next 219 = .ok (.goto (-75), 3) := by decide +kernel
theorem dX12_next_222 : decode cX12_next 222 = .ok (.aload_n 0, 1) := by decide +kernel
theorem dX12_next_223 : decode cX12_next 223 = .ok (.getfield 253, 3) := by decide +kernel
theorem dX12_next_226 : decode cX12_next 226 = .ok (.iconst 2, 1) := by decide +kernel
theorem dX12_next_227 : decode cX12_next 227 = .ok (.if_icmp .ne 68, 3) := by decide +kernel
theorem dX12_next_230 : decode cX12_next 230 = .ok (.aload_n 0, 1) := by decide +kernel
theorem dX12_next_231 : decode cX12_next 231 = .ok (.aload_n 0, 1) := by decide +kernel
theorem dX12_next_232 : decode cX12_next 232 = .ok (.aload_n 0, 1) := by decide +kernel
theorem dX12_next_233 : decode cX12_next 233 = .ok (.getfield 225, 3) := by decide +kernel
theorem dX12_next_236 : decode cX12_next 236 = .ok (.invokevirtual 240, 3) := by decide +kernel
theorem dX12_next_239 : decode cX12_next 239 = .ok (.invokevirtual 250, 3) := by decide +kernel
theorem dX12_next_242 : decode cX12_next 242 = .ok (.ifCond .eq 53, 3) := by decide +kernel
theorem dX12_next_245 : decode cX12_next 245 = .ok (.aload_n 0, 1) := by decide +kernel
theorem dX12_next_246 : decode cX12_next 246 = .ok (.getfield 225, 3) := by decide +kernel
theorem dX12_next_249 : decode cX12_next 249 = .ok (.aload_n 0, 1) := by decide +kernel
theorem dX12_next_250 : decode cX12_next 250 = .ok (.getfield 237, 3) := by decide +kernel
theorem dX12_next_253 : decode cX12_next 253 = .ok (.isub, 1) := by decide +kernel
theorem dX12_next_254 : decode cX12_next 254 = .ok (.bipush 9, 2) := by decide +kernel
theorem dX12_next_256 : decode cX12_next 256 = .ok (.if_icmp .ge 26, 3) := by decide +kernel
theorem dX12_next_259 : decode cX12_next 259 = .ok (.aload_n 0, 1) := by decide +kernel
theorem dX12_next_260 : decode cX12_next 260 = .ok (.bipush 10, 2) := by decide +kernel
theorem dX12_next_262 : decode cX12_next 262 = .ok (.aload_n 0, 1) := by decide +kernel
theorem dX12_next_263 : decode cX12_next 263 = .ok (.getfield 260, 3) := by decide +kernel
theorem dX12_next_266 : decode cX12_next 266 = .ok (.imul, 1) := by decide +kernel
theorem dX12_next_267 : decode cX12_next 267 = .ok (.aload_n 0, 1) := by decide +kernel
theorem dX12_next_268 : decode cX12_next 268 = .ok (.aload_n 0, 1) := by decide +kernel
theorem dX12_next_269 : decode cX12_next 269 = .ok (.getfield 225, 3) := by decide +kernel
theorem dX12_next_272 : decode cX12_next 272 = .ok (.invokevirtual 240, 3) := by decide +kernel
theorem dX12_next_275 : decode cX12_next 275 = .ok (.iadd, 1) := by decide +kernel
theorem dX12_next_276 : decode cX12_next 276 = .ok (.bipush 48, 2) := by decide +kernel
theorem dX12_next_278 : decode cX12_next 278 = .ok (.isub, 1) := by decide +kernel
theorem dX12_next_279 : decode cX12_next 279 = .ok (.putfield 260, 3) := by decide +kernel
theorem dX12_next_282 : decode cX12_next 282 = .ok (.aload_n 0, 1) := by decide +kernel
theorem dX12_next_283 : decode cX12_next 283 = .ok (.aload_n 0, 1) := by decide +kernel
theorem dX12_next_284 : decode cX12_next 284 = .ok (.getfield 225, 3) := by decide +kernel
theorem dX12_next_287 : decode cX12_next 287 = .ok (.iconst 1, 1) := by decide +kernel
theorem dX12_next_288 : decode cX12_next 288 = .ok (.iadd, 1) := by decide +kernel
theorem dX12_next_289 : decode cX12_next 289 = .ok (.putfield 225, 3) := by decide +kernel
theorem dX12_next_292 : decode cX12_next 292 = .ok (.goto (-70), 3) := by decide +kernel
theorem dX12_next_295 : decode cX12_next 295 = .ok (.aload_n 0, 1) := by decide +kernel
theorem dX12_next_296 : decode cX12_next 296 = .ok (.aload_n 0, 1) := by decide +kernel
theorem dX12_next_297 : decode cX12_next 297 = .ok (.getfield 225, 3) := by decide +kernel
theorem dX12_next_300 : decode cX12_next 300 = .ok (.aload_n 0, 1) := by decide +kernel
theorem dX12_next_301 : decode cX12_next 301 = .ok (.getfield 237, 3) := by decide +kernel
theorem dX12_next_304 : decode cX12_next 304 = .ok (.isub, 1) := by decide +kernel
theorem dX12_next_305 : decode cX12_next 305 = .ok (.putfield 268, 3) := by decide +kernel
theorem dX12_next_308 : decode cX12_next 308 = .ok (.aload_n 0, 1) := by decide +kernel
theorem dX12_next_309 : decode cX12_next 309 = .ok (.getfield 253, 3) := by decide +kernel
theorem dX12_next_312 : decode cX12_next 312 = .ok (.iconst 1, 1) := by decide +kernel
theorem dX12_next_313 : decode cX12_next 313 = .ok (.if_icmp .ne 19, 3) := by decide +kernel
theorem dX12_next_316 : decode cX12_next 316 = .ok (.aload_n 0, 1) := by decide +kernel
theorem dX12_next_317 : decode cX12_next 317 = .ok (.aload_n 0, 1) := by decide +kernel
theorem dX12_next_318 : decode cX12_next 318 = .ok (.aload_n 0, 1) := by decide +kernel
theorem dX12_next_319 : decode cX12_next 319 = .ok (.getfield 237, 3) := by decide +kernel
theorem dX12_next_322 : decode cX12_next 322 = .ok (.aload_n 0, 1) := by decide +kernel
theorem dX12_next_323 : decode cX12_next 323 = .ok (.getfield 268, 3) := by decide +kernel
theorem dX12_next_326 : decode cX12_next 326 = .ok (.invokevirtual 271, 3) := by decide +kernel
theorem dX12_next_329 : decode cX12_next 329 = .ok (.putfield 244, 3) := by decide +kernel
theorem dX12_next_332 : decode cX12_next 332 = .ok (.return_, 1) := by decide +kernel
theorem fgX12_225 : q_Fg RX12 225 12 14 := q_Fg.of (C := RX12) (T := TX12) (N := 35) rfl (by decide) inX12 1265 (by decide +kernel) rfl rfl
theorem fcX12_240 : q_LV RX12 240 yX12_see cX12_see 2 (some .int) 1 12 := ⟨q_tb 1385 (by decide +kernel) rfl, q_tb 1387 (by decide +kernel) rfl, q_tbs (q := (yX12_see, 35)) 54 (by decide +kernel) rfl, q_tb 13 (by decide +kernel) rfl, q_tb 1388 (by decide +kernel) rfl, ⟨by decide +kernel, by decide +kernel, by decide +kernel⟩, TX12, 35, rfl⟩
theorem fpX12_225 : q_Fp RX12 225 12 14 .int false := ⟨RX12, TX12, 35, tyX12, rfl, by decide, inX12, q_tb 1265 (by decide +kernel) rfl, tyX12_ok, nmX12, rfl, rfl, fun h => by first | rfl | cases h⟩
theorem fpX12_237 : q_Fp RX12 237 12 15 .int false := ⟨RX12, TX12, 35, tyX12, rfl, by decide, inX12, q_tb 1266 (by decide +kernel) rfl, tyX12_ok, nmX12, rfl, rfl, fun h => by first | rfl | cases h⟩
theorem fpX12_244 : q_Fp RX12 244 12 20 .int false := ⟨RX12, TX12, 35, tyX12, rfl, by decide, inX12, q_tb 1271 (by decide +kernel) rfl, tyX12_ok, nmX12, rfl, rfl, fun h => by first | rfl | cases h⟩
theorem fpX12_253 : q_Fp RX12 253 12 16 .int false := ⟨RX12, TX12, 35, tyX12, rfl, by decide, inX12, q_tb 1267 (by decide +kernel) rfl, tyX12_ok, nmX12, rfl, rfl, fun h => by first | rfl | cases h⟩
theorem fpX12_256 : q_Fp RX12 256 12 21 .long false := ⟨RX12, TX12, 35, tyX12, rfl, by decide, inX12, q_tb 1272 (by decide +kernel) rfl, tyX12_ok, nmX12, rfl, rfl, fun h => by first | rfl | cases h⟩
theorem fpX12_260 : q_Fp RX12 260 12 19 .int false := ⟨RX12, TX12, 35, tyX12, rfl, by decide, inX12, q_tb 1270 (by decide +kernel) rfl, tyX12_ok, nmX12, rfl, rfl, fun h => by first | rfl | cases h⟩
theorem fgX12_253 : q_Fg RX12 253 12 16 := q_Fg.of (C := RX12) (T := TX12) (N := 35) rfl (by decide) inX12 1267 (by decide +kernel) rfl rfl
theorem fpX12_263 : q_Fp RX12 263 12 17 .int false := ⟨RX12, TX12, 35, tyX12, rfl, by decide, inX12, q_tb 1268 (by decide +kernel) rfl, tyX12_ok, nmX12, rfl, rfl, fun h => by first | rfl | cases h⟩
theorem fcX12_247 : q_LV RX12 247 yX12_isLetter cX12_isLetter 2 (some .boolean) 1 12 := ⟨q_tb 1389 (by decide +kernel) rfl, q_tb 1391 (by decide +kernel) rfl, q_tbs (q := (yX12_isLetter, 35)) 55 (by decide +kernel) rfl, q_tb 13 (by decide +kernel) rfl, q_tb 1392 (by decide +kernel) rfl, ⟨by decide +kernel, by decide +kernel, by decide +kernel⟩, TX12, 35, rfl⟩
theorem fcX12_250 : q_LV RX12 250 yX12_isDigit cX12_isDigit 2 (some .boolean) 1 12 := ⟨q_tb 1395 (by decide +kernel) rfl, q_tb 1397 (by decide +kernel) rfl, q_tbs (q := (yX12_isDigit, 35)) 56 (by decide +kernel) rfl, q_tb 13 (by decide +kernel) rfl, q_tb 1398 (by decide +kernel) rfl, ⟨by decide +kernel, by decide +kernel, by decide +kernel⟩, TX12, 35, rfl⟩
theorem fgX12_237 : q_Fg RX12 237 12 15 := q_Fg.of (C := RX12) (T := TX12) (N := 35) rfl (by decide) inX12 1266 (by decide +kernel) rfl rfl
theorem fpX12_268 : q_Fp RX12 268 12 18 .int false := ⟨RX12, TX12, 35, tyX12, rfl, by decide, inX12, q_tb 1269 (by decide +kernel) rfl, tyX12_ok, nmX12, rfl, rfl, fun h => by first | rfl | cases h⟩
theorem fgX12_268 : q_Fg RX12 268 12 18 := q_Fg.of (C := RX12) (T := TX12) (N := 35) rfl (by decide) inX12 1269 (by decide +kernel) rfl rfl
theorem fcX12_271 : q_LV RX12 271 yX12_wordAt cX12_wordAt 8 (some .int) 2 12 := ⟨q_tb 1402 (by decide +kernel) rfl, q_tb 1404 (by decide +kernel) rfl, q_tbs (q := (yX12_wordAt, 35)) 57 (by decide +kernel) rfl, q_tb 13 (by decide +kernel) rfl, q_tb 1405 (by decide +kernel) rfl, ⟨by decide +kernel, by decide +kernel, by decide +kernel⟩, TX12, 35, rfl⟩
theorem fgX12_260 : q_Fg RX12 260 12 19 := q_Fg.of (C := RX12) (T := TX12) (N := 35) rfl (by decide) inX12 1270 (by decide +kernel) rfl rfl
theorem fkX12_266 : Cond.constantLong RX12 266 (27 : Int64) ∈ q_tbl := q_tb 1401 (by decide +kernel) rfl
theorem fgX12_256 : q_Fg RX12 256 12 21 := q_Fg.of (C := RX12) (T := TX12) (N := 35) rfl (by decide) inX12 1272 (by decide +kernel) rfl rfl
def fX12_next_L26 (n : Nat) (k0 : Nat → Mm → Option (Unit × Mm)) (r0 : Nat) (X : Mm) : Option (Unit × Mm) :=
if mT X r0 = 12 then
nm (sI X r0 14 ((mI X r0 14) + (1 : Int32))) fun X33_5 =>
k0 r0 X33_5
else none
def fX12_next_L295 (n : Nat) (r0 : Nat) (X : Mm) : Option (Unit × Mm) :=
if mT X r0 = 12 then
nm (sI X r0 18 ((mI X r0 14) - (mI X r0 15))) fun X305_40 =>
if mT X305_40 r0 = 12 then
if (mI X305_40 r0 16) = (1 : Int32) then (
bd (fX12_wordAt n r0 ((mI X305_40 r0 15)) ((mI X305_40 r0 18)) X305_40) fun w42 X326_43 =>
if mT X326_43 r0 = 12 then
nm (sI X326_43 r0 20 w42) fun X329_44 =>
some ((), X329_44)
else none
) else (
some ((), X305_40)
)
else none
else none
def fX12_next_L282 (n : Nat) (k222 : Nat → Mm → Option (Unit × Mm)) (r0 : Nat) (X : Mm) : Option (Unit × Mm) :=
if mT X r0 = 12 then
nm (sI X r0 14 ((mI X r0 14) + (1 : Int32))) fun X289_48 =>
k222 r0 X289_48
else none
def fX12_next_L222 (n : Nat) : Nat → Nat → Mm → Option (Unit × Mm)
| 0, _, _ => none
| j + 1, r0, X =>
if mT X r0 = 12 then
if (mI X r0 16) = (2 : Int32) then (
bd (fX12_see r0 ((mI X r0 14)) X) fun w34 X236_35 =>
if mT X236_35 r0 = 12 then
bd (fX12_isDigit r0 w34 X236_35) fun w36 X239_37 =>
if w36 = 0 then (
fX12_next_L295 n r0 X239_37
) else (
if mT X239_37 r0 = 12 then
if (9 : Int32) ≤ ((mI X239_37 r0 14) - (mI X239_37 r0 15)) then (
fX12_next_L282 n (fX12_next_L222 n j) r0 X239_37
) else (
bd (fX12_see r0 ((mI X239_37 r0 14)) X239_37) fun w49 X272_50 =>
if mT X272_50 r0 = 12 then
nm (sI X272_50 r0 19 ((((10 : Int32) * (mI X239_37 r0 19)) + w49) - (48 : Int32))) fun X279_51 =>
fX12_next_L282 n (fX12_next_L222 n j) r0 X279_51
else none
)
else none
)
else none
) else (
fX12_next_L295 n r0 X
)
else none
def fX12_next_L209 (n : Nat) (k144 : Nat → Mm → Option (Unit × Mm)) (r0 : Nat) (X : Mm) : Option (Unit × Mm) :=
if mT X r0 = 12 then
nm (sI X r0 14 ((mI X r0 14) + (1 : Int32))) fun X216_55 =>
k144 r0 X216_55
else none
def fX12_next_L144 (n : Nat) : Nat → Nat → Mm → Option (Unit × Mm)
| 0, _, _ => none
| j + 1, r0, X =>
if mT X r0 = 12 then
if (mI X r0 16) = (1 : Int32) then (
bd (fX12_see r0 ((mI X r0 14)) X) fun w28 X158_29 =>
if mT X158_29 r0 = 12 then
bd (fX12_isLetter r0 w28 X158_29) fun w30 X161_31 =>
if w30 = 0 then (
fX12_next_L222 n n r0 X161_31
) else (
if mT X161_31 r0 = 12 then
if (6 : Int32) ≤ ((mI X161_31 r0 14) - (mI X161_31 r0 15)) then (
fX12_next_L209 n (fX12_next_L144 n j) r0 X161_31
) else (
bd (fX12_see r0 ((mI X161_31 r0 14)) X161_31) fun w56 X195_57 =>
if mT X195_57 r0 = 12 then
nm (sJ X195_57 r0 21 (((((27 : Int64) * (mJ X161_31 r0 21)) + ((w56).toInt64)) - (97 : Int64)) + (1 : Int64))) fun X206_58 =>
fX12_next_L209 n (fX12_next_L144 n j) r0 X206_58
else none
)
else none
)
else none
) else (
fX12_next_L222 n n r0 X
)
else none
def fX12_next_L123 (n : Nat) (r0 : Nat) (s0 : Int32) (rs1 : Nat) (X : Mm) : Option (Unit × Mm) :=
if mT X rs1 = 12 then
nm (sI X rs1 17 s0) fun X123_23 =>
if mT X123_23 r0 = 12 then
if (mI X123_23 r0 16) = (3 : Int32) then (
nm (sI X123_23 r0 14 ((mI X123_23 r0 14) + (1 : Int32))) fun X141_26 =>
fX12_next_L144 n n r0 X141_26
) else (
fX12_next_L144 n n r0 X123_23
)
else none
else none
def fX12_next_L96 (n : Nat) (r0 : Nat) (v1 : Int32) (s0 : Int32) (rs1 : Nat) (X : Mm) : Option (Unit × Mm) :=
if mT X rs1 = 12 then
nm (sI X rs1 16 s0) fun X96_16 =>
if mT X96_16 r0 = 12 then
nm (sJ X96_16 r0 21 (0 : Int64)) fun X101_18 =>
if mT X101_18 r0 = 12 then
nm (sI X101_18 r0 19 (0 : Int32)) fun X106_20 =>
if mT X106_20 r0 = 12 then
if (mI X106_20 r0 16) = (3 : Int32) then (
fX12_next_L123 n r0 v1 r0 X106_20
) else (
fX12_next_L123 n r0 (0 : Int32) r0 X106_20
)
else none
else none
else none
else none
def fX12_next_L0 (n : Nat) : Nat → Nat → Mm → Option (Unit × Mm)
| 0, _, _ => none
| j + 1, r0, X =>
if mT X r0 = 12 then
bd (fX12_see r0 ((mI X r0 14)) X) fun w2 X5_3 =>
if w2 = (32 : Int32) then (
fX12_next_L26 n (fX12_next_L0 n j) r0 X5_3
) else (
if mT X5_3 r0 = 12 then
bd (fX12_see r0 ((mI X5_3 r0 14)) X5_3) fun w7 X18_8 =>
if w7 = (10 : Int32) then (
fX12_next_L26 n (fX12_next_L0 n j) r0 X18_8
) else (
if mT X18_8 r0 = 12 then
nm (sI X18_8 r0 15 (mI X18_8 r0 14)) fun X44_10 =>
if mT X44_10 r0 = 12 then
nm (sI X44_10 r0 20 (-1 : Int32)) fun X49_11 =>
if mT X49_11 r0 = 12 then
bd (fX12_see r0 ((mI X49_11 r0 14)) X49_11) fun w14 X57_15 =>
if w14 = (-1 : Int32) then (
fX12_next_L96 n r0 w14 (0 : Int32) r0 X57_15
) else (
if mT X57_15 r0 = 12 then
bd (fX12_isLetter r0 w14 X57_15) fun w60 X73_61 =>
if w60 = 0 then (
if mT X73_61 r0 = 12 then
bd (fX12_isDigit r0 w14 X73_61) fun w63 X85_64 =>
if w63 = 0 then (
fX12_next_L96 n r0 w14 (3 : Int32) r0 X85_64
) else (
fX12_next_L96 n r0 w14 (2 : Int32) r0 X85_64
)
else none
) else (
fX12_next_L96 n r0 w14 (1 : Int32) r0 X73_61
)
else none
)
else none
else none
else none
)
else none
)
else none
def fX12_next (n : Nat) (r0 : Nat) (X : Mm) : Option (Unit × Mm) :=
fX12_next_L0 n n r0 X
theorem gX12_next_L26 {E : q_E} {X0 : Mm} (C : Cx E cX12_next RX12 2 none (q_rm 2 47 0 0) X0) (n : Nat) (k0 : Nat → Mm → Option (Unit × Mm)) (hk0 : ∀ (r0 : Nat) (X : Mm), Sm E (q_fin E q_eV X0 0 0) 0 0 0 [(0, .ref (q_P E + r0))] [] X (k0 r0 X)) (r0 : Nat) (X : Mm) : Sm E (q_fin E q_eV X0 0 0) 0 0 26 [(0, .ref (q_P E + r0))] [] X (fX12_next_L26 n k0 r0 X) := by
  unfold fX12_next_L26
  refine q_aload_n C 0 dX12_next_26 rfl rfl ?_
  refine q_aload_n C 0 dX12_next_27 rfl rfl ?_
  refine q_chk (fun h4 => ?_)
  refine p_getI C fgX12_225 rfl dX12_next_28 h4 ?_
  refine q_iconst C (1 : Int32) dX12_next_31 rfl ?_
  refine q_iadd C dX12_next_32 ?_
  refine p_putI C fpX12_225 rfl dX12_next_33 h4 ?_
  refine q_nmX (fun X33_5 => ?_)
  refine q_goto C 0 dX12_next_36 (by decide) ?_
  exact hk0 r0 X33_5
theorem gX12_next_L295 {E : q_E} {X0 : Mm} (C : Cx E cX12_next RX12 2 none (q_rm 2 47 0 0) X0) (n : Nat) (r0 : Nat) (X : Mm) : Sm E (q_fin E q_eV X0 0 0) 0 0 295 [(0, .ref (q_P E + r0))] [] X (fX12_next_L295 n r0 X) := by
  unfold fX12_next_L295
  refine q_aload_n C 0 dX12_next_295 rfl rfl ?_
  refine q_aload_n C 0 dX12_next_296 rfl rfl ?_
  refine q_chk (fun h39 => ?_)
  refine p_getI C fgX12_225 rfl dX12_next_297 h39 ?_
  refine q_aload_n C 0 dX12_next_300 rfl rfl ?_
  refine p_getI C fgX12_237 rfl dX12_next_301 h39 ?_
  refine q_isub C dX12_next_304 ?_
  refine p_putI C fpX12_268 rfl dX12_next_305 h39 ?_
  refine q_nmX (fun X305_40 => ?_)
  refine q_aload_n C 0 dX12_next_308 rfl rfl ?_
  refine q_chk (fun h41 => ?_)
  refine p_getI C fgX12_253 rfl dX12_next_309 h41 ?_
  refine q_iconst C (1 : Int32) dX12_next_312 rfl ?_
  refine q_icmp_ne C 332 dX12_next_313 (by decide) (fun _ => ?_) (fun _ => ?_)
  · refine q_aload_n C 0 dX12_next_316 rfl rfl ?_
    refine q_aload_n C 0 dX12_next_317 rfl rfl ?_
    refine q_aload_n C 0 dX12_next_318 rfl rfl ?_
    refine p_getI C fgX12_237 rfl dX12_next_319 h41 ?_
    refine q_aload_n C 0 dX12_next_322 rfl rfl ?_
    refine p_getI C fgX12_268 rfl dX12_next_323 h41 ?_
    refine q_cVI (As := (fun P => [.int (mI X305_40 r0 15), .int (mI X305_40 r0 18)])) C [.ref (q_P E + r0)] (sX12_wordAt n r0 ((mI X305_40 r0 15)) ((mI X305_40 r0 18))) fcX12_271 rfl (fun _ => rfl) ⟨Nat.le_of_ble_eq_true rfl, Nat.le_of_ble_eq_true rfl⟩ ⟨Nat.le_of_ble_eq_true rfl, Nat.le_of_ble_eq_true rfl⟩ (Nat.le_of_ble_eq_true rfl) dX12_next_326 h41 (fun w42 X326_43 => ?_)
    refine q_chk (fun h45 => ?_)
    refine p_putI C fpX12_244 rfl dX12_next_329 h45 ?_
    refine q_nmX (fun X329_44 => ?_)
    exact q_vret C dX12_next_332
  · exact q_vret C dX12_next_332
theorem gX12_next_L282 {E : q_E} {X0 : Mm} (C : Cx E cX12_next RX12 2 none (q_rm 2 47 0 0) X0) (n : Nat) (k222 : Nat → Mm → Option (Unit × Mm)) (hk222 : ∀ (r0 : Nat) (X : Mm), Sm E (q_fin E q_eV X0 0 0) 0 0 222 [(0, .ref (q_P E + r0))] [] X (k222 r0 X)) (r0 : Nat) (X : Mm) : Sm E (q_fin E q_eV X0 0 0) 0 0 282 [(0, .ref (q_P E + r0))] [] X (fX12_next_L282 n k222 r0 X) := by
  unfold fX12_next_L282
  refine q_aload_n C 0 dX12_next_282 rfl rfl ?_
  refine q_aload_n C 0 dX12_next_283 rfl rfl ?_
  refine q_chk (fun h47 => ?_)
  refine p_getI C fgX12_225 rfl dX12_next_284 h47 ?_
  refine q_iconst C (1 : Int32) dX12_next_287 rfl ?_
  refine q_iadd C dX12_next_288 ?_
  refine p_putI C fpX12_225 rfl dX12_next_289 h47 ?_
  refine q_nmX (fun X289_48 => ?_)
  refine q_goto C 222 dX12_next_292 (by decide) ?_
  exact hk222 r0 X289_48
theorem gX12_next_L222 {E : q_E} {X0 : Mm} (C : Cx E cX12_next RX12 2 none (q_rm 2 47 0 0) X0) (n : Nat) : ∀ (j : Nat) (r0 : Nat) (X : Mm), Sm E (q_fin E q_eV X0 0 0) 0 0 222 [(0, .ref (q_P E + r0))] [] X (fX12_next_L222 n j r0 X) := by
  intro j
  induction j with
  | zero => intros; exact Sm.none
  | succ j ih =>
    intro r0 X
    rw [fX12_next_L222]
    refine q_aload_n C 0 dX12_next_222 rfl rfl ?_
    refine q_chk (fun h33 => ?_)
    refine p_getI C fgX12_253 rfl dX12_next_223 h33 ?_
    refine q_iconst C (2 : Int32) dX12_next_226 rfl ?_
    refine q_icmp_ne C 295 dX12_next_227 (by decide) (fun _ => ?_) (fun _ => ?_)
    · refine q_aload_n C 0 dX12_next_230 rfl rfl ?_
      refine q_aload_n C 0 dX12_next_231 rfl rfl ?_
      refine q_aload_n C 0 dX12_next_232 rfl rfl ?_
      refine p_getI C fgX12_225 rfl dX12_next_233 h33 ?_
      refine q_cVI (As := (fun P => [.int (mI X r0 14)])) C [.ref (q_P E + r0)] (sX12_see r0 ((mI X r0 14))) fcX12_240 rfl (fun _ => rfl) ⟨Nat.le_of_ble_eq_true rfl, Nat.le_of_ble_eq_true rfl⟩ ⟨Nat.le_of_ble_eq_true rfl, Nat.le_of_ble_eq_true rfl⟩ (Nat.le_of_ble_eq_true rfl) dX12_next_236 h33 (fun w34 X236_35 => ?_)
      refine q_chk (fun h38 => ?_)
      refine q_cVI (As := (fun P => [.int w34])) C [] (sX12_isDigit r0 w34) fcX12_250 rfl (fun _ => rfl) ⟨Nat.le_of_ble_eq_true rfl, Nat.le_of_ble_eq_true rfl⟩ ⟨Nat.le_of_ble_eq_true rfl, Nat.le_of_ble_eq_true rfl⟩ (Nat.le_of_ble_eq_true rfl) dX12_next_239 h38 (fun w36 X239_37 => ?_)
      refine q_if_eq C 295 dX12_next_242 (by decide) (fun _ => ?_) (fun _ => ?_)
      · exact gX12_next_L295 C n r0 X239_37
      · refine q_aload_n C 0 dX12_next_245 rfl rfl ?_
        refine q_chk (fun h46 => ?_)
        refine p_getI C fgX12_225 rfl dX12_next_246 h46 ?_
        refine q_aload_n C 0 dX12_next_249 rfl rfl ?_
        refine p_getI C fgX12_237 rfl dX12_next_250 h46 ?_
        refine q_isub C dX12_next_253 ?_
        refine q_bipush C (9 : Int32) dX12_next_254 rfl ?_
        refine q_icmp_ge C 282 dX12_next_256 (by decide) (fun _ => ?_) (fun _ => ?_)
        · exact gX12_next_L282 C n (fX12_next_L222 n j) ih r0 X239_37
        · refine q_aload_n C 0 dX12_next_259 rfl rfl ?_
          refine q_bipush C (10 : Int32) dX12_next_260 rfl ?_
          refine q_aload_n C 0 dX12_next_262 rfl rfl ?_
          refine p_getI C fgX12_260 rfl dX12_next_263 h46 ?_
          refine q_imul C dX12_next_266 ?_
          refine q_aload_n C 0 dX12_next_267 rfl rfl ?_
          refine q_aload_n C 0 dX12_next_268 rfl rfl ?_
          refine p_getI C fgX12_225 rfl dX12_next_269 h46 ?_
          refine q_cVI (As := (fun P => [.int (mI X239_37 r0 14)])) C [.int ((10 : Int32) * (mI X239_37 r0 19)), .ref (q_P E + r0)] (sX12_see r0 ((mI X239_37 r0 14))) fcX12_240 rfl (fun _ => rfl) ⟨Nat.le_of_ble_eq_true rfl, Nat.le_of_ble_eq_true rfl⟩ ⟨Nat.le_of_ble_eq_true rfl, Nat.le_of_ble_eq_true rfl⟩ (Nat.le_of_ble_eq_true rfl) dX12_next_272 h46 (fun w49 X272_50 => ?_)
          refine q_iadd C dX12_next_275 ?_
          refine q_bipush C (48 : Int32) dX12_next_276 rfl ?_
          refine q_isub C dX12_next_278 ?_
          refine q_chk (fun h52 => ?_)
          refine p_putI C fpX12_260 rfl dX12_next_279 h52 ?_
          refine q_nmX (fun X279_51 => ?_)
          exact gX12_next_L282 C n (fX12_next_L222 n j) ih r0 X279_51
    · exact gX12_next_L295 C n r0 X
theorem gX12_next_L209 {E : q_E} {X0 : Mm} (C : Cx E cX12_next RX12 2 none (q_rm 2 47 0 0) X0) (n : Nat) (k144 : Nat → Mm → Option (Unit × Mm)) (hk144 : ∀ (r0 : Nat) (X : Mm), Sm E (q_fin E q_eV X0 0 0) 0 0 144 [(0, .ref (q_P E + r0))] [] X (k144 r0 X)) (r0 : Nat) (X : Mm) : Sm E (q_fin E q_eV X0 0 0) 0 0 209 [(0, .ref (q_P E + r0))] [] X (fX12_next_L209 n k144 r0 X) := by
  unfold fX12_next_L209
  refine q_aload_n C 0 dX12_next_209 rfl rfl ?_
  refine q_aload_n C 0 dX12_next_210 rfl rfl ?_
  refine q_chk (fun h54 => ?_)
  refine p_getI C fgX12_225 rfl dX12_next_211 h54 ?_
  refine q_iconst C (1 : Int32) dX12_next_214 rfl ?_
  refine q_iadd C dX12_next_215 ?_
  refine p_putI C fpX12_225 rfl dX12_next_216 h54 ?_
  refine q_nmX (fun X216_55 => ?_)
  refine q_goto C 144 dX12_next_219 (by decide) ?_
  exact hk144 r0 X216_55
theorem gX12_next_L144 {E : q_E} {X0 : Mm} (C : Cx E cX12_next RX12 2 none (q_rm 2 47 0 0) X0) (n : Nat) : ∀ (j : Nat) (r0 : Nat) (X : Mm), Sm E (q_fin E q_eV X0 0 0) 0 0 144 [(0, .ref (q_P E + r0))] [] X (fX12_next_L144 n j r0 X) := by
  intro j
  induction j with
  | zero => intros; exact Sm.none
  | succ j ih =>
    intro r0 X
    rw [fX12_next_L144]
    refine q_aload_n C 0 dX12_next_144 rfl rfl ?_
    refine q_chk (fun h27 => ?_)
    refine p_getI C fgX12_253 rfl dX12_next_145 h27 ?_
    refine q_iconst C (1 : Int32) dX12_next_148 rfl ?_
    refine q_icmp_ne C 222 dX12_next_149 (by decide) (fun _ => ?_) (fun _ => ?_)
    · refine q_aload_n C 0 dX12_next_152 rfl rfl ?_
      refine q_aload_n C 0 dX12_next_153 rfl rfl ?_
      refine q_aload_n C 0 dX12_next_154 rfl rfl ?_
      refine p_getI C fgX12_225 rfl dX12_next_155 h27 ?_
      refine q_cVI (As := (fun P => [.int (mI X r0 14)])) C [.ref (q_P E + r0)] (sX12_see r0 ((mI X r0 14))) fcX12_240 rfl (fun _ => rfl) ⟨Nat.le_of_ble_eq_true rfl, Nat.le_of_ble_eq_true rfl⟩ ⟨Nat.le_of_ble_eq_true rfl, Nat.le_of_ble_eq_true rfl⟩ (Nat.le_of_ble_eq_true rfl) dX12_next_158 h27 (fun w28 X158_29 => ?_)
      refine q_chk (fun h32 => ?_)
      refine q_cVI (As := (fun P => [.int w28])) C [] (sX12_isLetter r0 w28) fcX12_247 rfl (fun _ => rfl) ⟨Nat.le_of_ble_eq_true rfl, Nat.le_of_ble_eq_true rfl⟩ ⟨Nat.le_of_ble_eq_true rfl, Nat.le_of_ble_eq_true rfl⟩ (Nat.le_of_ble_eq_true rfl) dX12_next_161 h32 (fun w30 X161_31 => ?_)
      refine q_if_eq C 222 dX12_next_164 (by decide) (fun _ => ?_) (fun _ => ?_)
      · exact gX12_next_L222 C n n r0 X161_31
      · refine q_aload_n C 0 dX12_next_167 rfl rfl ?_
        refine q_chk (fun h53 => ?_)
        refine p_getI C fgX12_225 rfl dX12_next_168 h53 ?_
        refine q_aload_n C 0 dX12_next_171 rfl rfl ?_
        refine p_getI C fgX12_237 rfl dX12_next_172 h53 ?_
        refine q_isub C dX12_next_175 ?_
        refine q_bipush C (6 : Int32) dX12_next_176 rfl ?_
        refine q_icmp_ge C 209 dX12_next_178 (by decide) (fun _ => ?_) (fun _ => ?_)
        · exact gX12_next_L209 C n (fX12_next_L144 n j) ih r0 X161_31
        · refine q_aload_n C 0 dX12_next_181 rfl rfl ?_
          refine q_ldc2 C dX12_next_182 fkX12_266 ?_
          refine q_aload_n C 0 dX12_next_185 rfl rfl ?_
          refine p_getJ C fgX12_256 rfl dX12_next_186 h53 ?_
          refine q_lmul C dX12_next_189 ?_
          refine q_aload_n C 0 dX12_next_190 rfl rfl ?_
          refine q_aload_n C 0 dX12_next_191 rfl rfl ?_
          refine p_getI C fgX12_225 rfl dX12_next_192 h53 ?_
          refine q_cVI (As := (fun P => [.int (mI X161_31 r0 14)])) C [.long ((27 : Int64) * (mJ X161_31 r0 21)), .ref (q_P E + r0)] (sX12_see r0 ((mI X161_31 r0 14))) fcX12_240 rfl (fun _ => rfl) ⟨Nat.le_of_ble_eq_true rfl, Nat.le_of_ble_eq_true rfl⟩ ⟨Nat.le_of_ble_eq_true rfl, Nat.le_of_ble_eq_true rfl⟩ (Nat.le_of_ble_eq_true rfl) dX12_next_195 h53 (fun w56 X195_57 => ?_)
          refine q_i2l C dX12_next_198 ?_
          refine q_ladd C dX12_next_199 ?_
          refine q_ldc2 C dX12_next_200 fkX12_217 ?_
          refine q_lsub C dX12_next_203 ?_
          refine q_lconst C (1 : Int64) dX12_next_204 rfl ?_
          refine q_ladd C dX12_next_205 ?_
          refine q_chk (fun h59 => ?_)
          refine p_putJ C fpX12_256 rfl dX12_next_206 h59 ?_
          refine q_nmX (fun X206_58 => ?_)
          exact gX12_next_L209 C n (fX12_next_L144 n j) ih r0 X206_58
    · exact gX12_next_L222 C n n r0 X
theorem gX12_next_L123 {E : q_E} {X0 : Mm} (C : Cx E cX12_next RX12 2 none (q_rm 2 47 0 0) X0) (n : Nat) (r0 : Nat) (s0 : Int32) (rs1 : Nat) (X : Mm) : Sm E (q_fin E q_eV X0 0 0) 0 0 123 [(0, .ref (q_P E + r0))] [.int s0, .ref (q_P E + rs1)] X (fX12_next_L123 n r0 s0 rs1 X) := by
  unfold fX12_next_L123
  refine q_chk (fun h24 => ?_)
  refine p_putI C fpX12_263 rfl dX12_next_123 h24 ?_
  refine q_nmX (fun X123_23 => ?_)
  refine q_aload_n C 0 dX12_next_126 rfl rfl ?_
  refine q_chk (fun h25 => ?_)
  refine p_getI C fgX12_253 rfl dX12_next_127 h25 ?_
  refine q_iconst C (3 : Int32) dX12_next_130 rfl ?_
  refine q_icmp_ne C 144 dX12_next_131 (by decide) (fun _ => ?_) (fun _ => ?_)
  · refine q_aload_n C 0 dX12_next_134 rfl rfl ?_
    refine q_aload_n C 0 dX12_next_135 rfl rfl ?_
    refine p_getI C fgX12_225 rfl dX12_next_136 h25 ?_
    refine q_iconst C (1 : Int32) dX12_next_139 rfl ?_
    refine q_iadd C dX12_next_140 ?_
    refine p_putI C fpX12_225 rfl dX12_next_141 h25 ?_
    refine q_nmX (fun X141_26 => ?_)
    exact gX12_next_L144 C n n r0 X141_26
  · exact gX12_next_L144 C n n r0 X123_23
theorem gX12_next_L96 {E : q_E} {X0 : Mm} (C : Cx E cX12_next RX12 2 none (q_rm 2 47 0 0) X0) (n : Nat) (r0 : Nat) (v1 : Int32) (s0 : Int32) (rs1 : Nat) (X : Mm) : Sm E (q_fin E q_eV X0 0 0) 0 0 96 [(0, .ref (q_P E + r0)), (1, .int v1)] [.int s0, .ref (q_P E + rs1)] X (fX12_next_L96 n r0 v1 s0 rs1 X) := by
  unfold fX12_next_L96
  refine q_chk (fun h17 => ?_)
  refine p_putI C fpX12_253 rfl dX12_next_96 h17 ?_
  refine q_nmX (fun X96_16 => ?_)
  refine q_aload_n C 0 dX12_next_99 rfl rfl ?_
  refine q_lconst C (0 : Int64) dX12_next_100 rfl ?_
  refine q_chk (fun h19 => ?_)
  refine p_putJ C fpX12_256 rfl dX12_next_101 h19 ?_
  refine q_nmX (fun X101_18 => ?_)
  refine q_aload_n C 0 dX12_next_104 rfl rfl ?_
  refine q_iconst C (0 : Int32) dX12_next_105 rfl ?_
  refine q_chk (fun h21 => ?_)
  refine p_putI C fpX12_260 rfl dX12_next_106 h21 ?_
  refine q_nmX (fun X106_20 => ?_)
  refine q_aload_n C 0 dX12_next_109 rfl rfl ?_
  refine q_aload_n C 0 dX12_next_110 rfl rfl ?_
  refine q_chk (fun h22 => ?_)
  refine p_getI C fgX12_253 rfl dX12_next_111 h22 ?_
  refine q_iconst C (3 : Int32) dX12_next_114 rfl ?_
  refine q_icmp_ne C 122 dX12_next_115 (by decide) (fun _ => ?_) (fun _ => ?_)
  · refine q_iload_n C 1 dX12_next_118 rfl rfl ?_
    refine q_goto C 123 dX12_next_119 (by decide) ?_
    refine q_sub C [(0, .ref (q_P E + r0))] [0] rfl ?_
    exact gX12_next_L123 C n r0 v1 r0 X106_20
  · refine q_iconst C (0 : Int32) dX12_next_122 rfl ?_
    refine q_sub C [(0, .ref (q_P E + r0))] [0] rfl ?_
    exact gX12_next_L123 C n r0 (0 : Int32) r0 X106_20
theorem gX12_next_L0 {E : q_E} {X0 : Mm} (C : Cx E cX12_next RX12 2 none (q_rm 2 47 0 0) X0) (n : Nat) : ∀ (j : Nat) (r0 : Nat) (X : Mm), Sm E (q_fin E q_eV X0 0 0) 0 0 0 [(0, .ref (q_P E + r0))] [] X (fX12_next_L0 n j r0 X) := by
  intro j
  induction j with
  | zero => intros; exact Sm.none
  | succ j ih =>
    intro r0 X
    rw [fX12_next_L0]
    refine q_aload_n C 0 dX12_next_0 rfl rfl ?_
    refine q_aload_n C 0 dX12_next_1 rfl rfl ?_
    refine q_chk (fun h1 => ?_)
    refine p_getI C fgX12_225 rfl dX12_next_2 h1 ?_
    refine q_cVI (As := (fun P => [.int (mI X r0 14)])) C [] (sX12_see r0 ((mI X r0 14))) fcX12_240 rfl (fun _ => rfl) ⟨Nat.le_of_ble_eq_true rfl, Nat.le_of_ble_eq_true rfl⟩ ⟨Nat.le_of_ble_eq_true rfl, Nat.le_of_ble_eq_true rfl⟩ (Nat.le_of_ble_eq_true rfl) dX12_next_5 h1 (fun w2 X5_3 => ?_)
    refine q_bipush C (32 : Int32) dX12_next_8 rfl ?_
    refine q_icmp_eq C 26 dX12_next_10 (by decide) (fun _ => ?_) (fun _ => ?_)
    · exact gX12_next_L26 C n (fX12_next_L0 n j) ih r0 X5_3
    · refine q_aload_n C 0 dX12_next_13 rfl rfl ?_
      refine q_aload_n C 0 dX12_next_14 rfl rfl ?_
      refine q_chk (fun h6 => ?_)
      refine p_getI C fgX12_225 rfl dX12_next_15 h6 ?_
      refine q_cVI (As := (fun P => [.int (mI X5_3 r0 14)])) C [] (sX12_see r0 ((mI X5_3 r0 14))) fcX12_240 rfl (fun _ => rfl) ⟨Nat.le_of_ble_eq_true rfl, Nat.le_of_ble_eq_true rfl⟩ ⟨Nat.le_of_ble_eq_true rfl, Nat.le_of_ble_eq_true rfl⟩ (Nat.le_of_ble_eq_true rfl) dX12_next_18 h6 (fun w7 X18_8 => ?_)
      refine q_bipush C (10 : Int32) dX12_next_21 rfl ?_
      refine q_icmp_ne C 39 dX12_next_23 (by decide) (fun _ => ?_) (fun _ => ?_)
      · exact gX12_next_L26 C n (fX12_next_L0 n j) ih r0 X18_8
      · refine q_aload_n C 0 dX12_next_39 rfl rfl ?_
        refine q_aload_n C 0 dX12_next_40 rfl rfl ?_
        refine q_chk (fun h9 => ?_)
        refine p_getI C fgX12_225 rfl dX12_next_41 h9 ?_
        refine p_putI C fpX12_237 rfl dX12_next_44 h9 ?_
        refine q_nmX (fun X44_10 => ?_)
        refine q_aload_n C 0 dX12_next_47 rfl rfl ?_
        refine q_iconst C (-1 : Int32) dX12_next_48 rfl ?_
        refine q_chk (fun h12 => ?_)
        refine p_putI C fpX12_244 rfl dX12_next_49 h12 ?_
        refine q_nmX (fun X49_11 => ?_)
        refine q_aload_n C 0 dX12_next_52 rfl rfl ?_
        refine q_aload_n C 0 dX12_next_53 rfl rfl ?_
        refine q_chk (fun h13 => ?_)
        refine p_getI C fgX12_225 rfl dX12_next_54 h13 ?_
        refine q_cVI (As := (fun P => [.int (mI X49_11 r0 14)])) C [] (sX12_see r0 ((mI X49_11 r0 14))) fcX12_240 rfl (fun _ => rfl) ⟨Nat.le_of_ble_eq_true rfl, Nat.le_of_ble_eq_true rfl⟩ ⟨Nat.le_of_ble_eq_true rfl, Nat.le_of_ble_eq_true rfl⟩ (Nat.le_of_ble_eq_true rfl) dX12_next_57 h13 (fun w14 X57_15 => ?_)
        refine q_istore_n C [(1, .int w14), (0, .ref (q_P E + r0))] dX12_next_60 rfl (Nat.le_of_ble_eq_true rfl) rfl ?_
        refine q_aload_n C 1 dX12_next_61 rfl rfl ?_
        refine q_iload_n C 0 dX12_next_62 rfl rfl ?_
        refine q_iconst C (-1 : Int32) dX12_next_63 rfl ?_
        refine q_icmp_ne C 71 dX12_next_64 (by decide) (fun _ => ?_) (fun _ => ?_)
        · refine q_iconst C (0 : Int32) dX12_next_67 rfl ?_
          refine q_goto C 96 dX12_next_68 (by decide) ?_
          refine q_sub C [(0, .ref (q_P E + r0)), (1, .int w14)] [1, 0] rfl ?_
          exact gX12_next_L96 C n r0 w14 (0 : Int32) r0 X57_15
        · refine q_aload_n C 1 dX12_next_71 rfl rfl ?_
          refine q_iload_n C 0 dX12_next_72 rfl rfl ?_
          refine q_chk (fun h62 => ?_)
          refine q_cVI (As := (fun P => [.int w14])) C [.ref (q_P E + r0)] (sX12_isLetter r0 w14) fcX12_247 rfl (fun _ => rfl) ⟨Nat.le_of_ble_eq_true rfl, Nat.le_of_ble_eq_true rfl⟩ ⟨Nat.le_of_ble_eq_true rfl, Nat.le_of_ble_eq_true rfl⟩ (Nat.le_of_ble_eq_true rfl) dX12_next_73 h62 (fun w60 X73_61 => ?_)
          refine q_if_eq C 83 dX12_next_76 (by decide) (fun _ => ?_) (fun _ => ?_)
          · refine q_aload_n C 1 dX12_next_83 rfl rfl ?_
            refine q_iload_n C 0 dX12_next_84 rfl rfl ?_
            refine q_chk (fun h65 => ?_)
            refine q_cVI (As := (fun P => [.int w14])) C [.ref (q_P E + r0)] (sX12_isDigit r0 w14) fcX12_250 rfl (fun _ => rfl) ⟨Nat.le_of_ble_eq_true rfl, Nat.le_of_ble_eq_true rfl⟩ ⟨Nat.le_of_ble_eq_true rfl, Nat.le_of_ble_eq_true rfl⟩ (Nat.le_of_ble_eq_true rfl) dX12_next_85 h65 (fun w63 X85_64 => ?_)
            refine q_if_eq C 95 dX12_next_88 (by decide) (fun _ => ?_) (fun _ => ?_)
            · refine q_iconst C (3 : Int32) dX12_next_95 rfl ?_
              refine q_sub C [(0, .ref (q_P E + r0)), (1, .int w14)] [1, 0] rfl ?_
              exact gX12_next_L96 C n r0 w14 (3 : Int32) r0 X85_64
            · refine q_iconst C (2 : Int32) dX12_next_91 rfl ?_
              refine q_goto C 96 dX12_next_92 (by decide) ?_
              refine q_sub C [(0, .ref (q_P E + r0)), (1, .int w14)] [1, 0] rfl ?_
              exact gX12_next_L96 C n r0 w14 (2 : Int32) r0 X85_64
          · refine q_iconst C (1 : Int32) dX12_next_79 rfl ?_
            refine q_goto C 96 dX12_next_80 (by decide) ?_
            refine q_sub C [(0, .ref (q_P E + r0)), (1, .int w14)] [1, 0] rfl ?_
            exact gX12_next_L96 C n r0 w14 (1 : Int32) r0 X73_61
theorem sX12_next (n : Nat) (r0 : Nat) : q_Ct yX12_next cX12_next 2 none 2 47 0 0 q_eV (fun P => [.ref (P + r0)]) (fX12_next n r0) := by
  refine q_meth (by decide +kernel) (fun P => Nat.le_of_ble_eq_true rfl) (fun E X C hn => ?_)
  show Sm E (q_fin E q_eV X 0 0) 0 0 0 [(0, .ref (q_P E + r0))] [] X _
  unfold fX12_next
  exact gX12_next_L0 C n n r0 X
/-! RecordClaimsModel.starts()V -/
abbrev cX12_starts : ByteArray := prog_14_method_49_code
def yX12_starts : MethodName := ⟨RX12, "starts", "()V"⟩
theorem dX12_starts_0 : decode cX12_starts 0 = .ok (.aload_n 0, 1) := by decide +kernel
theorem dX12_starts_1 : decode cX12_starts 1 = .ok (.aload_n 0, 1) := by decide +kernel
theorem dX12_starts_2 : decode cX12_starts 2 = .ok (.getfield 211, 3) := by decide +kernel
theorem dX12_starts_5 : decode cX12_starts 5 = .ok (.putfield 214, 3) := by decide +kernel
theorem dX12_starts_8 : decode cX12_starts 8 = .ok (.aload_n 0, 1) := by decide +kernel
theorem dX12_starts_9 : decode cX12_starts 9 = .ok (.iconst 0, 1) := by decide +kernel
theorem dX12_starts_10 : decode cX12_starts 10 = .ok (.putfield 211, 3) := by decide +kernel
theorem dX12_starts_13 : decode cX12_starts 13 = .ok (.aload_n 0, 1) := by decide +kernel
theorem dX12_starts_14 : decode cX12_starts 14 = .ok (.iconst 0, 1) := by decide +kernel
theorem dX12_starts_15 : decode cX12_starts 15 = .ok (.putfield 225, 3) := by decide +kernel
theorem dX12_starts_18 : decode cX12_starts 18 = .ok (.aload_n 0, 1) := by decide +kernel
theorem dX12_starts_19 : decode cX12_starts 19 = .ok (.invokevirtual 228, 3) := by decide +kernel
theorem dX12_starts_22 : decode cX12_starts 22 = .ok (.return_, 1) := by decide +kernel
theorem fpX12_214 : q_Fp RX12 214 12 13 .int false := ⟨RX12, TX12, 35, tyX12, rfl, by decide, inX12, q_tb 1264 (by decide +kernel) rfl, tyX12_ok, nmX12, rfl, rfl, fun h => by first | rfl | cases h⟩
theorem fcX12_228 : q_LV RX12 228 yX12_next cX12_next 2 none 0 12 := ⟨q_tb 1381 (by decide +kernel) rfl, q_tb 1383 (by decide +kernel) rfl, q_tbs (q := (yX12_next, 35)) 53 (by decide +kernel) rfl, q_tb 13 (by decide +kernel) rfl, q_tb 1384 (by decide +kernel) rfl, ⟨by decide +kernel, by decide +kernel, by decide +kernel⟩, TX12, 35, rfl⟩
def fX12_starts (n : Nat) (r0 : Nat) (X : Mm) : Option (Unit × Mm) :=
if mT X r0 = 12 then
nm (sI X r0 13 (mI X r0 12)) fun X5_2 =>
if mT X5_2 r0 = 12 then
nm (sI X5_2 r0 12 (0 : Int32)) fun X10_3 =>
if mT X10_3 r0 = 12 then
nm (sI X10_3 r0 14 (0 : Int32)) fun X15_5 =>
if mT X15_5 r0 = 12 then
bd (fX12_next n r0 X15_5) fun _ X19_8 =>
some ((), X19_8)
else none
else none
else none
else none
theorem sX12_starts (n : Nat) (r0 : Nat) : q_Ct yX12_starts cX12_starts 1 none 3 68 0 0 q_eV (fun P => [.ref (P + r0)]) (fX12_starts n r0) := by
  refine q_meth (by decide +kernel) (fun P => Nat.le_of_ble_eq_true rfl) (fun E X C hn => ?_)
  show Sm E (q_fin E q_eV X 0 0) 0 0 0 [(0, .ref (q_P E + r0))] [] X _
  unfold fX12_starts
  refine q_aload_n C 0 dX12_starts_0 rfl rfl ?_
  refine q_aload_n C 0 dX12_starts_1 rfl rfl ?_
  refine q_chk (fun h1 => ?_)
  refine p_getI C fgX12_211 rfl dX12_starts_2 h1 ?_
  refine p_putI C fpX12_214 rfl dX12_starts_5 h1 ?_
  refine q_nmX (fun X5_2 => ?_)
  refine q_aload_n C 0 dX12_starts_8 rfl rfl ?_
  refine q_iconst C (0 : Int32) dX12_starts_9 rfl ?_
  refine q_chk (fun h4 => ?_)
  refine p_putI C fpX12_211 rfl dX12_starts_10 h4 ?_
  refine q_nmX (fun X10_3 => ?_)
  refine q_aload_n C 0 dX12_starts_13 rfl rfl ?_
  refine q_iconst C (0 : Int32) dX12_starts_14 rfl ?_
  refine q_chk (fun h6 => ?_)
  refine p_putI C fpX12_225 rfl dX12_starts_15 h6 ?_
  refine q_nmX (fun X15_5 => ?_)
  refine q_aload_n C 0 dX12_starts_18 rfl rfl ?_
  refine q_chk (fun h9 => ?_)
  refine q_cVV (As := (fun P => [])) C [] (sX12_next n r0) fcX12_228 rfl (fun _ => rfl) ⟨Nat.le_of_ble_eq_true rfl, Nat.le_of_ble_eq_true rfl⟩ ⟨Nat.le_of_ble_eq_true rfl, Nat.le_of_ble_eq_true rfl⟩ (Nat.le_of_ble_eq_true rfl) dX12_starts_19 h9 (fun _ X19_8 => ?_)
  exact q_vret C dX12_starts_22
/-! RecordClaimsModel.begins()V -/
abbrev cX12_begins : ByteArray := prog_14_method_50_code
def yX12_begins : MethodName := ⟨RX12, "begins", "()V"⟩
theorem dX12_begins_0 : decode cX12_begins 0 = .ok (.aload_n 0, 1) := by decide +kernel
theorem dX12_begins_1 : decode cX12_begins 1 = .ok (.iconst 0, 1) := by decide +kernel
theorem dX12_begins_2 : decode cX12_begins 2 = .ok (.putfield 231, 3) := by decide +kernel
theorem dX12_begins_5 : decode cX12_begins 5 = .ok (.aload_n 0, 1) := by decide +kernel
theorem dX12_begins_6 : decode cX12_begins 6 = .ok (.iconst (-1), 1) := by decide +kernel
theorem dX12_begins_7 : decode cX12_begins 7 = .ok (.putfield 37, 3) := by decide +kernel
theorem dX12_begins_10 : decode cX12_begins 10 = .ok (.aload_n 0, 1) := by decide +kernel
theorem dX12_begins_11 : decode cX12_begins 11 = .ok (.invokevirtual 234, 3) := by decide +kernel
theorem dX12_begins_14 : decode cX12_begins 14 = .ok (.return_, 1) := by decide +kernel
theorem fpX12_231 : q_Fp RX12 231 12 22 .int false := ⟨RX12, TX12, 35, tyX12, rfl, by decide, inX12, q_tb 1273 (by decide +kernel) rfl, tyX12_ok, nmX12, rfl, rfl, fun h => by first | rfl | cases h⟩
theorem fcX12_234 : q_LV RX12 234 yX12_starts cX12_starts 1 none 0 12 := ⟨q_tb 1377 (by decide +kernel) rfl, q_tb 1379 (by decide +kernel) rfl, q_tbs (q := (yX12_starts, 35)) 52 (by decide +kernel) rfl, q_tb 13 (by decide +kernel) rfl, q_tb 1380 (by decide +kernel) rfl, ⟨by decide +kernel, by decide +kernel, by decide +kernel⟩, TX12, 35, rfl⟩
def fX12_begins (n : Nat) (r0 : Nat) (X : Mm) : Option (Unit × Mm) :=
if mT X r0 = 12 then
nm (sI X r0 22 (0 : Int32)) fun X2_1 =>
if mT X2_1 r0 = 12 then
nm (sI X2_1 r0 23 (-1 : Int32)) fun X7_3 =>
if mT X7_3 r0 = 12 then
bd (fX12_starts n r0 X7_3) fun _ X11_6 =>
some ((), X11_6)
else none
else none
else none
theorem sX12_begins (n : Nat) (r0 : Nat) : q_Ct yX12_begins cX12_begins 1 none 4 88 0 0 q_eV (fun P => [.ref (P + r0)]) (fX12_begins n r0) := by
  refine q_meth (by decide +kernel) (fun P => Nat.le_of_ble_eq_true rfl) (fun E X C hn => ?_)
  show Sm E (q_fin E q_eV X 0 0) 0 0 0 [(0, .ref (q_P E + r0))] [] X _
  unfold fX12_begins
  refine q_aload_n C 0 dX12_begins_0 rfl rfl ?_
  refine q_iconst C (0 : Int32) dX12_begins_1 rfl ?_
  refine q_chk (fun h2 => ?_)
  refine p_putI C fpX12_231 rfl dX12_begins_2 h2 ?_
  refine q_nmX (fun X2_1 => ?_)
  refine q_aload_n C 0 dX12_begins_5 rfl rfl ?_
  refine q_iconst C (-1 : Int32) dX12_begins_6 rfl ?_
  refine q_chk (fun h4 => ?_)
  refine p_putI C fpX12_37 rfl dX12_begins_7 h4 ?_
  refine q_nmX (fun X7_3 => ?_)
  refine q_aload_n C 0 dX12_begins_10 rfl rfl ?_
  refine q_chk (fun h7 => ?_)
  refine q_cVV (As := (fun P => [])) C [] (sX12_starts n r0) fcX12_234 rfl (fun _ => rfl) ⟨Nat.le_of_ble_eq_true rfl, Nat.le_of_ble_eq_true rfl⟩ ⟨Nat.le_of_ble_eq_true rfl, Nat.le_of_ble_eq_true rfl⟩ (Nat.le_of_ble_eq_true rfl) dX12_begins_11 h7 (fun _ X11_6 => ?_)
  exact q_vret C dX12_begins_14
/-! RecordClaimsModel.fine()Z -/
abbrev cX12_fine : ByteArray := prog_14_method_51_code
def yX12_fine : MethodName := ⟨RX12, "fine", "()Z"⟩
theorem dX12_fine_0 : decode cX12_fine 0 = .ok (.aload_n 0, 1) := by decide +kernel
theorem dX12_fine_1 : decode cX12_fine 1 = .ok (.getfield 231, 3) := by decide +kernel
theorem dX12_fine_4 : decode cX12_fine 4 = .ok (.ifCond .ne 7, 3) := by decide +kernel
theorem dX12_fine_7 : decode cX12_fine 7 = .ok (.iconst 1, 1) := by decide +kernel
theorem dX12_fine_8 : decode cX12_fine 8 = .ok (.goto 4, 3) := by decide +kernel
theorem dX12_fine_11 : decode cX12_fine 11 = .ok (.iconst 0, 1) := by decide +kernel
theorem dX12_fine_12 : decode cX12_fine 12 = .ok (.ireturn, 1) := by decide +kernel
theorem fgX12_231 : q_Fg RX12 231 12 22 := q_Fg.of (C := RX12) (T := TX12) (N := 35) rfl (by decide) inX12 1273 (by decide +kernel) rfl rfl
def fX12_fine (r0 : Nat) (X : Mm) : Option (Int32 × Mm) :=
if mT X r0 = 12 then
if (mI X r0 22) = 0 then (
some (1, X)
) else (
some (0, X)
)
else none
theorem sX12_fine (r0 : Nat) : q_Ct yX12_fine cX12_fine 1 (some .boolean) 0 0 0 0 q_eI (fun P => [.ref (P + r0)]) (fX12_fine r0) := by
  refine q_meth (by decide +kernel) (fun P => Nat.le_of_ble_eq_true rfl) (fun E X C hn => ?_)
  show Sm E (q_fin E q_eI X 0 0) 0 0 0 [(0, .ref (q_P E + r0))] [] X _
  unfold fX12_fine
  refine q_aload_n C 0 dX12_fine_0 rfl rfl ?_
  refine q_chk (fun h1 => ?_)
  refine p_getI C fgX12_231 rfl dX12_fine_1 h1 ?_
  refine q_if_ne C 11 dX12_fine_4 (by decide) (fun _ => ?_) (fun _ => ?_)
  · refine q_iconst C (1 : Int32) dX12_fine_7 rfl ?_
    refine q_goto C 12 dX12_fine_8 (by decide) ?_
    exact q_zret1 C dX12_fine_12
  · refine q_iconst C (0 : Int32) dX12_fine_11 rfl ?_
    exact q_zret0 C dX12_fine_12
/-! RecordClaimsModel.faulty(I)V -/
abbrev cX12_faulty : ByteArray := prog_14_method_52_code
def yX12_faulty : MethodName := ⟨RX12, "faulty", "(I)V"⟩
theorem dX12_faulty_0 : decode cX12_faulty 0 = .ok (.aload_n 0, 1) := by decide +kernel
theorem dX12_faulty_1 : decode cX12_faulty 1 = .ok (.getfield 231, 3) := by decide +kernel
theorem dX12_faulty_4 : decode cX12_faulty 4 = .ok (.ifCond .eq 4, 3) := by decide +kernel
theorem dX12_faulty_7 : decode cX12_faulty 7 = .ok (.return_, 1) := by decide +kernel
theorem dX12_faulty_8 : decode cX12_faulty 8 = .ok (.aload_n 0, 1) := by decide +kernel
theorem dX12_faulty_9 : decode cX12_faulty 9 = .ok (.iload_n 1, 1) := by decide +kernel
theorem dX12_faulty_10 : decode cX12_faulty 10 = .ok (.putfield 231, 3) := by decide +kernel
theorem dX12_faulty_13 : decode cX12_faulty 13 = .ok (.aload_n 0, 1) := by decide +kernel
theorem dX12_faulty_14 : decode cX12_faulty 14 = .ok (.aload_n 0, 1) := by decide +kernel
theorem dX12_faulty_15 : decode cX12_faulty 15 = .ok (.getfield 237, 3) := by decide +kernel
theorem dX12_faulty_18 : decode cX12_faulty 18 = .ok (.putfield 37, 3) := by decide +kernel
theorem dX12_faulty_21 : decode cX12_faulty 21 = .ok (.return_, 1) := by decide +kernel
def fX12_faulty (r0 : Nat) (v1 : Int32) (X : Mm) : Option (Unit × Mm) :=
if mT X r0 = 12 then
if (mI X r0 22) = 0 then (
nm (sI X r0 22 v1) fun X10_2 =>
if mT X10_2 r0 = 12 then
nm (sI X10_2 r0 23 (mI X10_2 r0 15)) fun X18_4 =>
some ((), X18_4)
else none
) else (
some ((), X)
)
else none
theorem sX12_faulty (r0 : Nat) (v1 : Int32) : q_Ct yX12_faulty cX12_faulty 2 none 0 0 0 0 q_eV (fun P => [.ref (P + r0), .int v1]) (fX12_faulty r0 v1) := by
  refine q_meth (by decide +kernel) (fun P => Nat.le_of_ble_eq_true rfl) (fun E X C hn => ?_)
  show Sm E (q_fin E q_eV X 0 0) 0 0 0 [(0, .ref (q_P E + r0)), (1, .int v1)] [] X _
  unfold fX12_faulty
  refine q_aload_n C 0 dX12_faulty_0 rfl rfl ?_
  refine q_chk (fun h1 => ?_)
  refine p_getI C fgX12_231 rfl dX12_faulty_1 h1 ?_
  refine q_if_eq C 8 dX12_faulty_4 (by decide) (fun _ => ?_) (fun _ => ?_)
  · refine q_aload_n C 0 dX12_faulty_8 rfl rfl ?_
    refine q_iload_n C 1 dX12_faulty_9 rfl rfl ?_
    refine p_putI C fpX12_231 rfl dX12_faulty_10 h1 ?_
    refine q_nmX (fun X10_2 => ?_)
    refine q_aload_n C 0 dX12_faulty_13 rfl rfl ?_
    refine q_aload_n C 0 dX12_faulty_14 rfl rfl ?_
    refine q_chk (fun h3 => ?_)
    refine p_getI C fgX12_237 rfl dX12_faulty_15 h3 ?_
    refine p_putI C fpX12_37 rfl dX12_faulty_18 h3 ?_
    refine q_nmX (fun X18_4 => ?_)
    exact q_vret C dX12_faulty_21
  · exact q_vret C dX12_faulty_7
/-! RecordClaimsModel.isWord(I)Z -/
abbrev cX12_isWord : ByteArray := prog_14_method_55_code
def yX12_isWord : MethodName := ⟨RX12, "isWord", "(I)Z"⟩
theorem dX12_isWord_0 : decode cX12_isWord 0 = .ok (.aload_n 0, 1) := by decide +kernel
theorem dX12_isWord_1 : decode cX12_isWord 1 = .ok (.invokevirtual 274, 3) := by decide +kernel
theorem dX12_isWord_4 : decode cX12_isWord 4 = .ok (.ifCond .eq 23, 3) := by decide +kernel
theorem dX12_isWord_7 : decode cX12_isWord 7 = .ok (.aload_n 0, 1) := by decide +kernel
theorem dX12_isWord_8 : decode cX12_isWord 8 = .ok (.getfield 253, 3) := by decide +kernel
theorem dX12_isWord_11 : decode cX12_isWord 11 = .ok (.iconst 1, 1) := by decide +kernel
theorem dX12_isWord_12 : decode cX12_isWord 12 = .ok (.if_icmp .ne 15, 3) := by decide +kernel
theorem dX12_isWord_15 : decode cX12_isWord 15 = .ok (.aload_n 0, 1) := by decide +kernel
theorem dX12_isWord_16 : decode cX12_isWord 16 = .ok (.getfield 244, 3) := by decide +kernel
theorem dX12_isWord_19 : decode cX12_isWord 19 = .ok (.iload_n 1, 1) := by decide +kernel
theorem dX12_isWord_20 : decode cX12_isWord 20 = .ok (.if_icmp .ne 7, 3) := by decide +kernel
theorem dX12_isWord_23 : decode cX12_isWord 23 = .ok (.iconst 1, 1) := by decide +kernel
theorem dX12_isWord_24 : decode cX12_isWord 24 = .ok (.goto 4, 3) := by decide +kernel
theorem dX12_isWord_27 : decode cX12_isWord 27 = .ok (.iconst 0, 1) := by decide +kernel
theorem dX12_isWord_28 : decode cX12_isWord 28 = .ok (.ireturn, 1) := by decide +kernel
theorem fcX12_274 : q_LV RX12 274 yX12_fine cX12_fine 1 (some .boolean) 0 12 := ⟨q_tb 1406 (by decide +kernel) rfl, q_tb 1408 (by decide +kernel) rfl, q_tbs (q := (yX12_fine, 35)) 58 (by decide +kernel) rfl, q_tb 13 (by decide +kernel) rfl, q_tb 1409 (by decide +kernel) rfl, ⟨by decide +kernel, by decide +kernel, by decide +kernel⟩, TX12, 35, rfl⟩
theorem fgX12_244 : q_Fg RX12 244 12 20 := q_Fg.of (C := RX12) (T := TX12) (N := 35) rfl (by decide) inX12 1271 (by decide +kernel) rfl rfl
def fX12_isWord_L27 (X : Mm) : Option (Int32 × Mm) :=
some (0, X)
def fX12_isWord (r0 : Nat) (v1 : Int32) (X : Mm) : Option (Int32 × Mm) :=
if mT X r0 = 12 then
bd (fX12_fine r0 X) fun w1 X1_2 =>
if w1 = 0 then (
fX12_isWord_L27 X1_2
) else (
if mT X1_2 r0 = 12 then
if (mI X1_2 r0 16) = (1 : Int32) then (
if (mI X1_2 r0 20) = v1 then (
some (1, X1_2)
) else (
fX12_isWord_L27 X1_2
)
) else (
fX12_isWord_L27 X1_2
)
else none
)
else none
theorem gX12_isWord_L27 {E : q_E} {X0 : Mm} (C : Cx E cX12_isWord RX12 2 (some .boolean) (q_rm 1 20 0 0) X0) (X : Mm) : Sm E (q_fin E q_eI X0 0 0) 0 0 27 [] [] X (fX12_isWord_L27  X) := by
  unfold fX12_isWord_L27
  refine q_iconst C (0 : Int32) dX12_isWord_27 rfl ?_
  exact q_zret0 C dX12_isWord_28
theorem sX12_isWord (r0 : Nat) (v1 : Int32) : q_Ct yX12_isWord cX12_isWord 2 (some .boolean) 1 20 0 0 q_eI (fun P => [.ref (P + r0), .int v1]) (fX12_isWord r0 v1) := by
  refine q_meth (by decide +kernel) (fun P => Nat.le_of_ble_eq_true rfl) (fun E X C hn => ?_)
  show Sm E (q_fin E q_eI X 0 0) 0 0 0 [(0, .ref (q_P E + r0)), (1, .int v1)] [] X _
  unfold fX12_isWord
  refine q_aload_n C 0 dX12_isWord_0 rfl rfl ?_
  refine q_chk (fun h3 => ?_)
  refine q_cVI (As := (fun P => [])) C [] (sX12_fine r0) fcX12_274 rfl (fun _ => rfl) ⟨Nat.le_of_ble_eq_true rfl, Nat.le_of_ble_eq_true rfl⟩ ⟨Nat.le_of_ble_eq_true rfl, Nat.le_of_ble_eq_true rfl⟩ (Nat.le_of_ble_eq_true rfl) dX12_isWord_1 h3 (fun w1 X1_2 => ?_)
  refine q_if_eq C 27 dX12_isWord_4 (by decide) (fun _ => ?_) (fun _ => ?_)
  · refine q_sub C [] [] rfl ?_
    exact gX12_isWord_L27 C X1_2
  · refine q_aload_n C 0 dX12_isWord_7 rfl rfl ?_
    refine q_chk (fun h4 => ?_)
    refine p_getI C fgX12_253 rfl dX12_isWord_8 h4 ?_
    refine q_iconst C (1 : Int32) dX12_isWord_11 rfl ?_
    refine q_icmp_ne C 27 dX12_isWord_12 (by decide) (fun _ => ?_) (fun _ => ?_)
    · refine q_aload_n C 0 dX12_isWord_15 rfl rfl ?_
      refine p_getI C fgX12_244 rfl dX12_isWord_16 h4 ?_
      refine q_iload_n C 1 dX12_isWord_19 rfl rfl ?_
      refine q_icmp_ne C 27 dX12_isWord_20 (by decide) (fun _ => ?_) (fun _ => ?_)
      · refine q_iconst C (1 : Int32) dX12_isWord_23 rfl ?_
        refine q_goto C 28 dX12_isWord_24 (by decide) ?_
        exact q_zret1 C dX12_isWord_28
      · refine q_sub C [] [] rfl ?_
        exact gX12_isWord_L27 C X1_2
    · refine q_sub C [] [] rfl ?_
      exact gX12_isWord_L27 C X1_2
/-! RecordClaimsModel.passesWord(I)Z -/
abbrev cX12_passesWord : ByteArray := prog_14_method_56_code
def yX12_passesWord : MethodName := ⟨RX12, "passesWord", "(I)Z"⟩
theorem dX12_passesWord_0 : decode cX12_passesWord 0 = .ok (.aload_n 0, 1) := by decide +kernel
theorem dX12_passesWord_1 : decode cX12_passesWord 1 = .ok (.iload_n 1, 1) := by decide +kernel
theorem dX12_passesWord_2 : decode cX12_passesWord 2 = .ok (.invokevirtual 278, 3) := by decide +kernel
theorem dX12_passesWord_5 : decode cX12_passesWord 5 = .ok (.ifCond .ne 5, 3) := by decide +kernel
theorem dX12_passesWord_8 : decode cX12_passesWord 8 = .ok (.iconst 0, 1) := by decide +kernel
theorem dX12_passesWord_9 : decode cX12_passesWord 9 = .ok (.ireturn, 1) := by decide +kernel
theorem dX12_passesWord_10 : decode cX12_passesWord 10 = .ok (.aload_n 0, 1) := by decide +kernel
theorem dX12_passesWord_11 : decode cX12_passesWord 11 = .ok (.invokevirtual 228, 3) := by decide +kernel
theorem dX12_passesWord_14 : decode cX12_passesWord 14 = .ok (.iconst 1, 1) := by decide +kernel
theorem dX12_passesWord_15 : decode cX12_passesWord 15 = .ok (.ireturn, 1) := by decide +kernel
theorem fcX12_278 : q_LV RX12 278 yX12_isWord cX12_isWord 2 (some .boolean) 1 12 := ⟨q_tb 1414 (by decide +kernel) rfl, q_tb 1416 (by decide +kernel) rfl, q_tbs (q := (yX12_isWord, 35)) 60 (by decide +kernel) rfl, q_tb 13 (by decide +kernel) rfl, q_tb 1417 (by decide +kernel) rfl, ⟨by decide +kernel, by decide +kernel, by decide +kernel⟩, TX12, 35, rfl⟩
def fX12_passesWord (n : Nat) (r0 : Nat) (v1 : Int32) (X : Mm) : Option (Int32 × Mm) :=
if mT X r0 = 12 then
bd (fX12_isWord r0 v1 X) fun w1 X2_2 =>
if w1 = 0 then (
some (0, X2_2)
) else (
if mT X2_2 r0 = 12 then
bd (fX12_next n r0 X2_2) fun _ X11_5 =>
some (1, X11_5)
else none
)
else none
theorem sX12_passesWord (n : Nat) (r0 : Nat) (v1 : Int32) : q_Ct yX12_passesWord cX12_passesWord 2 (some .boolean) 3 68 0 0 q_eI (fun P => [.ref (P + r0), .int v1]) (fX12_passesWord n r0 v1) := by
  refine q_meth (by decide +kernel) (fun P => Nat.le_of_ble_eq_true rfl) (fun E X C hn => ?_)
  show Sm E (q_fin E q_eI X 0 0) 0 0 0 [(0, .ref (q_P E + r0)), (1, .int v1)] [] X _
  unfold fX12_passesWord
  refine q_aload_n C 0 dX12_passesWord_0 rfl rfl ?_
  refine q_iload_n C 1 dX12_passesWord_1 rfl rfl ?_
  refine q_chk (fun h3 => ?_)
  refine q_cVI (As := (fun P => [.int v1])) C [] (sX12_isWord r0 v1) fcX12_278 rfl (fun _ => rfl) ⟨Nat.le_of_ble_eq_true rfl, Nat.le_of_ble_eq_true rfl⟩ ⟨Nat.le_of_ble_eq_true rfl, Nat.le_of_ble_eq_true rfl⟩ (Nat.le_of_ble_eq_true rfl) dX12_passesWord_2 h3 (fun w1 X2_2 => ?_)
  refine q_if_ne C 10 dX12_passesWord_5 (by decide) (fun _ => ?_) (fun _ => ?_)
  · refine q_iconst C (0 : Int32) dX12_passesWord_8 rfl ?_
    exact q_zret0 C dX12_passesWord_9
  · refine q_aload_n C 0 dX12_passesWord_10 rfl rfl ?_
    refine q_chk (fun h6 => ?_)
    refine q_cVV (As := (fun P => [])) C [] (sX12_next n r0) fcX12_228 rfl (fun _ => rfl) ⟨Nat.le_of_ble_eq_true rfl, Nat.le_of_ble_eq_true rfl⟩ ⟨Nat.le_of_ble_eq_true rfl, Nat.le_of_ble_eq_true rfl⟩ (Nat.le_of_ble_eq_true rfl) dX12_passesWord_11 h6 (fun _ X11_5 => ?_)
    refine q_iconst C (1 : Int32) dX12_passesWord_14 rfl ?_
    exact q_zret1 C dX12_passesWord_15
/-! RecordClaimsModel.asksWord(I)V -/
abbrev cX12_asksWord : ByteArray := prog_14_method_57_code
def yX12_asksWord : MethodName := ⟨RX12, "asksWord", "(I)V"⟩
theorem dX12_asksWord_0 : decode cX12_asksWord 0 = .ok (.aload_n 0, 1) := by decide +kernel
theorem dX12_asksWord_1 : decode cX12_asksWord 1 = .ok (.iload_n 1, 1) := by decide +kernel
theorem dX12_asksWord_2 : decode cX12_asksWord 2 = .ok (.invokevirtual 281, 3) := by decide +kernel
theorem dX12_asksWord_5 : decode cX12_asksWord 5 = .ok (.ifCond .ne 8, 3) := by decide +kernel
theorem dX12_asksWord_8 : decode cX12_asksWord 8 = .ok (.aload_n 0, 1) := by decide +kernel
theorem dX12_asksWord_9 : decode cX12_asksWord 9 = .ok (.iconst 1, 1) := by decide +kernel
theorem dX12_asksWord_10 : decode cX12_asksWord 10 = .ok (.invokevirtual 284, 3) := by decide +kernel
theorem dX12_asksWord_13 : decode cX12_asksWord 13 = .ok (.return_, 1) := by decide +kernel
theorem fcX12_281 : q_LV RX12 281 yX12_passesWord cX12_passesWord 2 (some .boolean) 1 12 := ⟨q_tb 1422 (by decide +kernel) rfl, q_tb 1424 (by decide +kernel) rfl, q_tbs (q := (yX12_passesWord, 35)) 62 (by decide +kernel) rfl, q_tb 13 (by decide +kernel) rfl, q_tb 1425 (by decide +kernel) rfl, ⟨by decide +kernel, by decide +kernel, by decide +kernel⟩, TX12, 35, rfl⟩
theorem fcX12_284 : q_LV RX12 284 yX12_faulty cX12_faulty 2 none 1 12 := ⟨q_tb 1418 (by decide +kernel) rfl, q_tb 1420 (by decide +kernel) rfl, q_tbs (q := (yX12_faulty, 35)) 61 (by decide +kernel) rfl, q_tb 13 (by decide +kernel) rfl, q_tb 1421 (by decide +kernel) rfl, ⟨by decide +kernel, by decide +kernel, by decide +kernel⟩, TX12, 35, rfl⟩
def fX12_asksWord (n : Nat) (r0 : Nat) (v1 : Int32) (X : Mm) : Option (Unit × Mm) :=
if mT X r0 = 12 then
bd (fX12_passesWord n r0 v1 X) fun w1 X2_2 =>
if w1 = 0 then (
if mT X2_2 r0 = 12 then
bd (fX12_faulty r0 (1 : Int32) X2_2) fun _ X10_5 =>
some ((), X10_5)
else none
) else (
some ((), X2_2)
)
else none
theorem sX12_asksWord (n : Nat) (r0 : Nat) (v1 : Int32) : q_Ct yX12_asksWord cX12_asksWord 2 none 4 89 0 0 q_eV (fun P => [.ref (P + r0), .int v1]) (fX12_asksWord n r0 v1) := by
  refine q_meth (by decide +kernel) (fun P => Nat.le_of_ble_eq_true rfl) (fun E X C hn => ?_)
  show Sm E (q_fin E q_eV X 0 0) 0 0 0 [(0, .ref (q_P E + r0)), (1, .int v1)] [] X _
  unfold fX12_asksWord
  refine q_aload_n C 0 dX12_asksWord_0 rfl rfl ?_
  refine q_iload_n C 1 dX12_asksWord_1 rfl rfl ?_
  refine q_chk (fun h3 => ?_)
  refine q_cVI (As := (fun P => [.int v1])) C [] (sX12_passesWord n r0 v1) fcX12_281 rfl (fun _ => rfl) ⟨Nat.le_of_ble_eq_true rfl, Nat.le_of_ble_eq_true rfl⟩ ⟨Nat.le_of_ble_eq_true rfl, Nat.le_of_ble_eq_true rfl⟩ (Nat.le_of_ble_eq_true rfl) dX12_asksWord_2 h3 (fun w1 X2_2 => ?_)
  refine q_if_ne C 13 dX12_asksWord_5 (by decide) (fun _ => ?_) (fun _ => ?_)
  · refine q_aload_n C 0 dX12_asksWord_8 rfl rfl ?_
    refine q_iconst C (1 : Int32) dX12_asksWord_9 rfl ?_
    refine q_chk (fun h6 => ?_)
    refine q_cVV (As := (fun P => [.int (1 : Int32)])) C [] (sX12_faulty r0 (1 : Int32)) fcX12_284 rfl (fun _ => rfl) ⟨Nat.le_of_ble_eq_true rfl, Nat.le_of_ble_eq_true rfl⟩ ⟨Nat.le_of_ble_eq_true rfl, Nat.le_of_ble_eq_true rfl⟩ (Nat.le_of_ble_eq_true rfl) dX12_asksWord_10 h6 (fun _ X10_5 => ?_)
    exact q_vret C dX12_asksWord_13
  · exact q_vret C dX12_asksWord_13
/-! RecordClaimsModel.asksEnd()V -/
abbrev cX12_asksEnd : ByteArray := prog_14_method_58_code
def yX12_asksEnd : MethodName := ⟨RX12, "asksEnd", "()V"⟩
theorem dX12_asksEnd_0 : decode cX12_asksEnd 0 = .ok (.aload_n 0, 1) := by decide +kernel
theorem dX12_asksEnd_1 : decode cX12_asksEnd 1 = .ok (.invokevirtual 274, 3) := by decide +kernel
theorem dX12_asksEnd_4 : decode cX12_asksEnd 4 = .ok (.ifCond .eq 25, 3) := by decide +kernel
theorem dX12_asksEnd_7 : decode cX12_asksEnd 7 = .ok (.aload_n 0, 1) := by decide +kernel
theorem dX12_asksEnd_8 : decode cX12_asksEnd 8 = .ok (.getfield 253, 3) := by decide +kernel
theorem dX12_asksEnd_11 : decode cX12_asksEnd 11 = .ok (.iconst 3, 1) := by decide +kernel
theorem dX12_asksEnd_12 : decode cX12_asksEnd 12 = .ok (.if_icmp .ne 12, 3) := by decide +kernel
theorem dX12_asksEnd_15 : decode cX12_asksEnd 15 = .ok (.aload_n 0, 1) := by decide +kernel
theorem dX12_asksEnd_16 : decode cX12_asksEnd 16 = .ok (.getfield 263, 3) := by decide +kernel
theorem dX12_asksEnd_19 : decode cX12_asksEnd 19 = .ok (.bipush 59, 2) := by decide +kernel
theorem dX12_asksEnd_21 : decode cX12_asksEnd 21 = .ok (.if_icmp .eq 8, 3) := by decide +kernel
theorem dX12_asksEnd_24 : decode cX12_asksEnd 24 = .ok (.aload_n 0, 1) := by decide +kernel
theorem dX12_asksEnd_25 : decode cX12_asksEnd 25 = .ok (.iconst 1, 1) := by decide +kernel
theorem dX12_asksEnd_26 : decode cX12_asksEnd 26 = .ok (.invokevirtual 284, 3) := by decide +kernel
theorem dX12_asksEnd_29 : decode cX12_asksEnd 29 = .ok (.aload_n 0, 1) := by decide +kernel
theorem dX12_asksEnd_30 : decode cX12_asksEnd 30 = .ok (.invokevirtual 274, 3) := by decide +kernel
theorem dX12_asksEnd_33 : decode cX12_asksEnd 33 = .ok (.ifCond .eq 7, 3) := by decide +kernel
theorem dX12_asksEnd_36 : decode cX12_asksEnd 36 = .ok (.aload_n 0, 1) := by decide +kernel
theorem dX12_asksEnd_37 : decode cX12_asksEnd 37 = .ok (.invokevirtual 228, 3) := by decide +kernel
theorem dX12_asksEnd_40 : decode cX12_asksEnd 40 = .ok (.return_, 1) := by decide +kernel
theorem fgX12_263 : q_Fg RX12 263 12 17 := q_Fg.of (C := RX12) (T := TX12) (N := 35) rfl (by decide) inX12 1268 (by decide +kernel) rfl rfl
def fX12_asksEnd_L29 (n : Nat) (r0 : Nat) (X : Mm) : Option (Unit × Mm) :=
if mT X r0 = 12 then
bd (fX12_fine r0 X) fun w4 X30_5 =>
if w4 = 0 then (
some ((), X30_5)
) else (
if mT X30_5 r0 = 12 then
bd (fX12_next n r0 X30_5) fun _ X37_8 =>
some ((), X37_8)
else none
)
else none
def fX12_asksEnd_L24 (n : Nat) (r0 : Nat) (X : Mm) : Option (Unit × Mm) :=
if mT X r0 = 12 then
bd (fX12_faulty r0 (1 : Int32) X) fun _ X26_12 =>
fX12_asksEnd_L29 n r0 X26_12
else none
def fX12_asksEnd (n : Nat) (r0 : Nat) (X : Mm) : Option (Unit × Mm) :=
if mT X r0 = 12 then
bd (fX12_fine r0 X) fun w1 X1_2 =>
if w1 = 0 then (
fX12_asksEnd_L29 n r0 X1_2
) else (
if mT X1_2 r0 = 12 then
if (mI X1_2 r0 16) = (3 : Int32) then (
if (mI X1_2 r0 17) = (59 : Int32) then (
fX12_asksEnd_L29 n r0 X1_2
) else (
fX12_asksEnd_L24 n r0 X1_2
)
) else (
fX12_asksEnd_L24 n r0 X1_2
)
else none
)
else none
theorem gX12_asksEnd_L29 {E : q_E} {X0 : Mm} (C : Cx E cX12_asksEnd RX12 1 none (q_rm 3 68 0 0) X0) (n : Nat) (r0 : Nat) (X : Mm) : Sm E (q_fin E q_eV X0 0 0) 0 0 29 [(0, .ref (q_P E + r0))] [] X (fX12_asksEnd_L29 n r0 X) := by
  unfold fX12_asksEnd_L29
  refine q_aload_n C 0 dX12_asksEnd_29 rfl rfl ?_
  refine q_chk (fun h6 => ?_)
  refine q_cVI (As := (fun P => [])) C [] (sX12_fine r0) fcX12_274 rfl (fun _ => rfl) ⟨Nat.le_of_ble_eq_true rfl, Nat.le_of_ble_eq_true rfl⟩ ⟨Nat.le_of_ble_eq_true rfl, Nat.le_of_ble_eq_true rfl⟩ (Nat.le_of_ble_eq_true rfl) dX12_asksEnd_30 h6 (fun w4 X30_5 => ?_)
  refine q_if_eq C 40 dX12_asksEnd_33 (by decide) (fun _ => ?_) (fun _ => ?_)
  · exact q_vret C dX12_asksEnd_40
  · refine q_aload_n C 0 dX12_asksEnd_36 rfl rfl ?_
    refine q_chk (fun h9 => ?_)
    refine q_cVV (As := (fun P => [])) C [] (sX12_next n r0) fcX12_228 rfl (fun _ => rfl) ⟨Nat.le_of_ble_eq_true rfl, Nat.le_of_ble_eq_true rfl⟩ ⟨Nat.le_of_ble_eq_true rfl, Nat.le_of_ble_eq_true rfl⟩ (Nat.le_of_ble_eq_true rfl) dX12_asksEnd_37 h9 (fun _ X37_8 => ?_)
    exact q_vret C dX12_asksEnd_40
theorem gX12_asksEnd_L24 {E : q_E} {X0 : Mm} (C : Cx E cX12_asksEnd RX12 1 none (q_rm 3 68 0 0) X0) (n : Nat) (r0 : Nat) (X : Mm) : Sm E (q_fin E q_eV X0 0 0) 0 0 24 [(0, .ref (q_P E + r0))] [] X (fX12_asksEnd_L24 n r0 X) := by
  unfold fX12_asksEnd_L24
  refine q_aload_n C 0 dX12_asksEnd_24 rfl rfl ?_
  refine q_iconst C (1 : Int32) dX12_asksEnd_25 rfl ?_
  refine q_chk (fun h13 => ?_)
  refine q_cVV (As := (fun P => [.int (1 : Int32)])) C [] (sX12_faulty r0 (1 : Int32)) fcX12_284 rfl (fun _ => rfl) ⟨Nat.le_of_ble_eq_true rfl, Nat.le_of_ble_eq_true rfl⟩ ⟨Nat.le_of_ble_eq_true rfl, Nat.le_of_ble_eq_true rfl⟩ (Nat.le_of_ble_eq_true rfl) dX12_asksEnd_26 h13 (fun _ X26_12 => ?_)
  exact gX12_asksEnd_L29 C n r0 X26_12
theorem sX12_asksEnd (n : Nat) (r0 : Nat) : q_Ct yX12_asksEnd cX12_asksEnd 1 none 3 68 0 0 q_eV (fun P => [.ref (P + r0)]) (fX12_asksEnd n r0) := by
  refine q_meth (by decide +kernel) (fun P => Nat.le_of_ble_eq_true rfl) (fun E X C hn => ?_)
  show Sm E (q_fin E q_eV X 0 0) 0 0 0 [(0, .ref (q_P E + r0))] [] X _
  unfold fX12_asksEnd
  refine q_aload_n C 0 dX12_asksEnd_0 rfl rfl ?_
  refine q_chk (fun h3 => ?_)
  refine q_cVI (As := (fun P => [])) C [] (sX12_fine r0) fcX12_274 rfl (fun _ => rfl) ⟨Nat.le_of_ble_eq_true rfl, Nat.le_of_ble_eq_true rfl⟩ ⟨Nat.le_of_ble_eq_true rfl, Nat.le_of_ble_eq_true rfl⟩ (Nat.le_of_ble_eq_true rfl) dX12_asksEnd_1 h3 (fun w1 X1_2 => ?_)
  refine q_if_eq C 29 dX12_asksEnd_4 (by decide) (fun _ => ?_) (fun _ => ?_)
  · exact gX12_asksEnd_L29 C n r0 X1_2
  · refine q_aload_n C 0 dX12_asksEnd_7 rfl rfl ?_
    refine q_chk (fun h10 => ?_)
    refine p_getI C fgX12_253 rfl dX12_asksEnd_8 h10 ?_
    refine q_iconst C (3 : Int32) dX12_asksEnd_11 rfl ?_
    refine q_icmp_ne C 24 dX12_asksEnd_12 (by decide) (fun _ => ?_) (fun _ => ?_)
    · refine q_aload_n C 0 dX12_asksEnd_15 rfl rfl ?_
      refine p_getI C fgX12_263 rfl dX12_asksEnd_16 h10 ?_
      refine q_bipush C (59 : Int32) dX12_asksEnd_19 rfl ?_
      refine q_icmp_eq C 29 dX12_asksEnd_21 (by decide) (fun _ => ?_) (fun _ => ?_)
      · exact gX12_asksEnd_L29 C n r0 X1_2
      · exact gX12_asksEnd_L24 C n r0 X1_2
    · exact gX12_asksEnd_L24 C n r0 X1_2
/-! RecordClaimsModel.isName()Z -/
abbrev cX12_isName : ByteArray := prog_14_method_59_code
def yX12_isName : MethodName := ⟨RX12, "isName", "()Z"⟩
theorem dX12_isName_0 : decode cX12_isName 0 = .ok (.aload_n 0, 1) := by decide +kernel
theorem dX12_isName_1 : decode cX12_isName 1 = .ok (.invokevirtual 274, 3) := by decide +kernel
theorem dX12_isName_4 : decode cX12_isName 4 = .ok (.ifCond .eq 32, 3) := by decide +kernel
theorem dX12_isName_7 : decode cX12_isName 7 = .ok (.aload_n 0, 1) := by decide +kernel
theorem dX12_isName_8 : decode cX12_isName 8 = .ok (.getfield 253, 3) := by decide +kernel
theorem dX12_isName_11 : decode cX12_isName 11 = .ok (.iconst 1, 1) := by decide +kernel
theorem dX12_isName_12 : decode cX12_isName 12 = .ok (.if_icmp .ne 24, 3) := by decide +kernel
theorem dX12_isName_15 : decode cX12_isName 15 = .ok (.aload_n 0, 1) := by decide +kernel
theorem dX12_isName_16 : decode cX12_isName 16 = .ok (.getfield 244, 3) := by decide +kernel
theorem dX12_isName_19 : decode cX12_isName 19 = .ok (.iconst (-1), 1) := by decide +kernel
theorem dX12_isName_20 : decode cX12_isName 20 = .ok (.if_icmp .ne 16, 3) := by decide +kernel
theorem dX12_isName_23 : decode cX12_isName 23 = .ok (.aload_n 0, 1) := by decide +kernel
theorem dX12_isName_24 : decode cX12_isName 24 = .ok (.getfield 268, 3) := by decide +kernel
theorem dX12_isName_27 : decode cX12_isName 27 = .ok (.bipush 6, 2) := by decide +kernel
theorem dX12_isName_29 : decode cX12_isName 29 = .ok (.if_icmp .gt 7, 3) := by decide +kernel
theorem dX12_isName_32 : decode cX12_isName 32 = .ok (.iconst 1, 1) := by decide +kernel
theorem dX12_isName_33 : decode cX12_isName 33 = .ok (.goto 4, 3) := by decide +kernel
theorem dX12_isName_36 : decode cX12_isName 36 = .ok (.iconst 0, 1) := by decide +kernel
theorem dX12_isName_37 : decode cX12_isName 37 = .ok (.ireturn, 1) := by decide +kernel
def fX12_isName_L36 (X : Mm) : Option (Int32 × Mm) :=
some (0, X)
def fX12_isName (r0 : Nat) (X : Mm) : Option (Int32 × Mm) :=
if mT X r0 = 12 then
bd (fX12_fine r0 X) fun w1 X1_2 =>
if w1 = 0 then (
fX12_isName_L36 X1_2
) else (
if mT X1_2 r0 = 12 then
if (mI X1_2 r0 16) = (1 : Int32) then (
if (mI X1_2 r0 20) = (-1 : Int32) then (
if (6 : Int32) < (mI X1_2 r0 18) then (
fX12_isName_L36 X1_2
) else (
some (1, X1_2)
)
) else (
fX12_isName_L36 X1_2
)
) else (
fX12_isName_L36 X1_2
)
else none
)
else none
theorem gX12_isName_L36 {E : q_E} {X0 : Mm} (C : Cx E cX12_isName RX12 1 (some .boolean) (q_rm 1 20 0 0) X0) (X : Mm) : Sm E (q_fin E q_eI X0 0 0) 0 0 36 [] [] X (fX12_isName_L36  X) := by
  unfold fX12_isName_L36
  refine q_iconst C (0 : Int32) dX12_isName_36 rfl ?_
  exact q_zret0 C dX12_isName_37
theorem sX12_isName (r0 : Nat) : q_Ct yX12_isName cX12_isName 1 (some .boolean) 1 20 0 0 q_eI (fun P => [.ref (P + r0)]) (fX12_isName r0) := by
  refine q_meth (by decide +kernel) (fun P => Nat.le_of_ble_eq_true rfl) (fun E X C hn => ?_)
  show Sm E (q_fin E q_eI X 0 0) 0 0 0 [(0, .ref (q_P E + r0))] [] X _
  unfold fX12_isName
  refine q_aload_n C 0 dX12_isName_0 rfl rfl ?_
  refine q_chk (fun h3 => ?_)
  refine q_cVI (As := (fun P => [])) C [] (sX12_fine r0) fcX12_274 rfl (fun _ => rfl) ⟨Nat.le_of_ble_eq_true rfl, Nat.le_of_ble_eq_true rfl⟩ ⟨Nat.le_of_ble_eq_true rfl, Nat.le_of_ble_eq_true rfl⟩ (Nat.le_of_ble_eq_true rfl) dX12_isName_1 h3 (fun w1 X1_2 => ?_)
  refine q_if_eq C 36 dX12_isName_4 (by decide) (fun _ => ?_) (fun _ => ?_)
  · refine q_sub C [] [] rfl ?_
    exact gX12_isName_L36 C X1_2
  · refine q_aload_n C 0 dX12_isName_7 rfl rfl ?_
    refine q_chk (fun h4 => ?_)
    refine p_getI C fgX12_253 rfl dX12_isName_8 h4 ?_
    refine q_iconst C (1 : Int32) dX12_isName_11 rfl ?_
    refine q_icmp_ne C 36 dX12_isName_12 (by decide) (fun _ => ?_) (fun _ => ?_)
    · refine q_aload_n C 0 dX12_isName_15 rfl rfl ?_
      refine p_getI C fgX12_244 rfl dX12_isName_16 h4 ?_
      refine q_iconst C (-1 : Int32) dX12_isName_19 rfl ?_
      refine q_icmp_ne C 36 dX12_isName_20 (by decide) (fun _ => ?_) (fun _ => ?_)
      · refine q_aload_n C 0 dX12_isName_23 rfl rfl ?_
        refine p_getI C fgX12_268 rfl dX12_isName_24 h4 ?_
        refine q_bipush C (6 : Int32) dX12_isName_27 rfl ?_
        refine q_icmp_gt C 36 dX12_isName_29 (by decide) (fun _ => ?_) (fun _ => ?_)
        · refine q_sub C [] [] rfl ?_
          exact gX12_isName_L36 C X1_2
        · refine q_iconst C (1 : Int32) dX12_isName_32 rfl ?_
          refine q_goto C 37 dX12_isName_33 (by decide) ?_
          exact q_zret1 C dX12_isName_37
      · refine q_sub C [] [] rfl ?_
        exact gX12_isName_L36 C X1_2
    · refine q_sub C [] [] rfl ?_
      exact gX12_isName_L36 C X1_2
/-! RecordClaimsModel.find([JIJ)I -/
abbrev cX12_find : ByteArray := prog_14_method_60_code
def yX12_find : MethodName := ⟨RX12, "find", "([JIJ)I"⟩
theorem dX12_find_0 : decode cX12_find 0 = .ok (.iconst 0, 1) := by decide +kernel
theorem dX12_find_1 : decode cX12_find 1 = .ok (.istore 5, 2) := by decide +kernel
theorem dX12_find_3 : decode cX12_find 3 = .ok (.iload 5, 2) := by decide +kernel
theorem dX12_find_5 : decode cX12_find 5 = .ok (.iload_n 2, 1) := by decide +kernel
theorem dX12_find_6 : decode cX12_find 6 = .ok (.if_icmp .ge 21, 3) := by decide +kernel
theorem dX12_find_9 : decode cX12_find 9 = .ok (.aload_n 1, 1) := by decide +kernel
theorem dX12_find_10 : decode cX12_find 10 = .ok (.iload 5, 2) := by decide +kernel
theorem dX12_find_12 : decode cX12_find 12 = .ok (.laload, 1) := by decide +kernel
theorem dX12_find_13 : decode cX12_find 13 = .ok (.lload_n 3, 1) := by decide +kernel
theorem dX12_find_14 : decode cX12_find 14 = .ok (.lcmp, 1) := by decide +kernel
theorem dX12_find_15 : decode cX12_find 15 = .ok (.ifCond .ne 6, 3) := by decide +kernel
theorem dX12_find_18 : decode cX12_find 18 = .ok (.iload 5, 2) := by decide +kernel
theorem dX12_find_20 : decode cX12_find 20 = .ok (.ireturn, 1) := by decide +kernel
theorem dX12_find_21 : decode cX12_find 21 = .ok (.iinc 5 1, 3) := by decide +kernel
theorem dX12_find_24 : decode cX12_find 24 = .ok (.goto (-21), 3) := by decide +kernel
theorem dX12_find_27 : decode cX12_find 27 = .ok (.iconst (-1), 1) := by decide +kernel
theorem dX12_find_28 : decode cX12_find 28 = .ok (.ireturn, 1) := by decide +kernel
def fX12_find_L3 (n : Nat) : Nat → Nat → Int32 → Int64 → Int32 → Mm → Option (Int32 × Mm)
| 0, _, _, _, _, _ => none
| j + 1, r1, v2, v3, v5, X =>
if v2 ≤ v5 then (
some ((-1 : Int32), X)
) else (
if mT X r1 = 15 then
if q_b X r1 v5 then
if (lg_cmp (mJ X r1 (v5).toNatClampNeg) v3) = 0 then (
some (v5, X)
) else (
nm (v5 + (1 : Int32)) fun v5_21 =>
(fX12_find_L3 n j) r1 v2 v3 v5_21 X
)
else none
else none
)
def fX12_find (n : Nat) (r0 : Nat) (r1 : Nat) (v2 : Int32) (v3 : Int64) (X : Mm) : Option (Int32 × Mm) :=
fX12_find_L3 n n r1 v2 v3 (0 : Int32) X
theorem gX12_find_L3 {E : q_E} {X0 : Mm} (C : Cx E cX12_find RX12 6 (some .int) (q_rm 0 0 0 0) X0) (n : Nat) : ∀ (j : Nat) (r1 : Nat) (v2 : Int32) (v3 : Int64) (v5 : Int32) (X : Mm), Sm E (q_fin E q_eI X0 0 0) 0 0 3 [(1, .ref (q_P E + r1)), (2, .int v2), (3, .long v3), (5, .int v5)] [] X (fX12_find_L3 n j r1 v2 v3 v5 X) := by
  intro j
  induction j with
  | zero => intros; exact Sm.none
  | succ j ih =>
    intro r1 v2 v3 v5 X
    rw [fX12_find_L3]
    refine q_iload C 3 dX12_find_3 rfl ?_
    refine q_iload_n C 1 dX12_find_5 rfl rfl ?_
    refine q_icmp_ge C 27 dX12_find_6 (by decide) (fun _ => ?_) (fun _ => ?_)
    · refine q_iconst C (-1 : Int32) dX12_find_27 rfl ?_
      exact q_iret C dX12_find_28
    · refine q_aload_n C 0 dX12_find_9 rfl rfl ?_
      refine q_iload C 3 dX12_find_10 rfl ?_
      refine q_chk (fun h1 => ?_)
      refine q_chk (fun h2 => ?_)
      refine p_lald C dX12_find_12 h1 h2 ?_
      refine q_lload_n C 2 dX12_find_13 rfl rfl ?_
      refine q_lcmp C dX12_find_14 ?_
      refine q_if_ne C 21 dX12_find_15 (by decide) (fun _ => ?_) (fun _ => ?_)
      · refine q_iload C 3 dX12_find_18 rfl ?_
        exact q_iret C dX12_find_20
      · refine q_iincN C (1 : Int32) 3 (fun v5_21 => [(5, .int v5_21), (1, .ref (q_P E + r1)), (2, .int v2), (3, .long v3)]) dX12_find_21 rfl rfl (Nat.le_of_ble_eq_true rfl) (fun _ => rfl) (fun v5_21 => ?_)
        refine q_goto C 3 dX12_find_24 (by decide) ?_
        refine q_sub C [(1, .ref (q_P E + r1)), (2, .int v2), (3, .long v3), (5, .int v5_21)] [1, 2, 3, 0] rfl ?_
        exact ih r1 v2 v3 v5_21 X
theorem sX12_find (n : Nat) (r0 : Nat) (r1 : Nat) (v2 : Int32) (v3 : Int64) : q_Ct yX12_find cX12_find 6 (some .int) 0 0 0 0 q_eI (fun P => [.ref (P + r0), .ref (P + r1), .int v2, .long v3]) (fX12_find n r0 r1 v2 v3) := by
  refine q_meth (by decide +kernel) (fun P => Nat.le_of_ble_eq_true rfl) (fun E X C hn => ?_)
  show Sm E (q_fin E q_eI X 0 0) 0 0 0 [(0, .ref (q_P E + r0)), (1, .ref (q_P E + r1)), (2, .int v2), (3, .long v3)] [] X _
  unfold fX12_find
  refine q_iconst C (0 : Int32) dX12_find_0 rfl ?_
  refine q_istore C [(5, .int (0 : Int32)), (0, .ref (q_P E + r0)), (1, .ref (q_P E + r1)), (2, .int v2), (3, .long v3)] dX12_find_1 (Nat.le_of_ble_eq_true rfl) rfl ?_
  refine q_sub C [(1, .ref (q_P E + r1)), (2, .int v2), (3, .long v3), (5, .int (0 : Int32))] [2, 3, 4, 0] rfl ?_
  exact gX12_find_L3 C n n r1 v2 v3 (0 : Int32) X
