/-! RecordClaimsModel.trades(IIIIII)I -/
abbrev cX12_trades : ByteArray := prog_14_method_20_code
def yX12_trades : MethodName := ⟨RX12, "trades", "(IIIIII)I"⟩
theorem dX12_trades_0 : decode cX12_trades 0 = .ok (.aload_n 0, 1) := by decide +kernel
theorem dX12_trades_1 : decode cX12_trades 1 = .ok (.iload_n 1, 1) := by decide +kernel
theorem dX12_trades_2 : decode cX12_trades 2 = .ok (.invokevirtual 98, 3) := by decide +kernel
theorem dX12_trades_5 : decode cX12_trades 5 = .ok (.ifCond .eq 75, 3) := by decide +kernel
theorem dX12_trades_8 : decode cX12_trades 8 = .ok (.aload_n 0, 1) := by decide +kernel
theorem dX12_trades_9 : decode cX12_trades 9 = .ok (.iload_n 2, 1) := by decide +kernel
theorem dX12_trades_10 : decode cX12_trades 10 = .ok (.invokevirtual 98, 3) := by decide +kernel
theorem dX12_trades_13 : decode cX12_trades 13 = .ok (.ifCond .eq 67, 3) := by decide +kernel
theorem dX12_trades_16 : decode cX12_trades 16 = .ok (.iload_n 1, 1) := by decide +kernel
theorem dX12_trades_17 : decode cX12_trades 17 = .ok (.iload_n 2, 1) := by decide +kernel
theorem dX12_trades_18 : decode cX12_trades 18 = .ok (.if_icmp .eq 62, 3) := by decide +kernel
theorem dX12_trades_21 : decode cX12_trades 21 = .ok (.aload_n 0, 1) := by decide +kernel
theorem dX12_trades_22 : decode cX12_trades 22 = .ok (.iload_n 3, 1) := by decide +kernel
theorem dX12_trades_23 : decode cX12_trades 23 = .ok (.invokevirtual 102, 3) := by decide +kernel
theorem dX12_trades_26 : decode cX12_trades 26 = .ok (.ifCond .eq 54, 3) := by decide +kernel
theorem dX12_trades_29 : decode cX12_trades 29 = .ok (.aload_n 0, 1) := by decide +kernel
theorem dX12_trades_30 : decode cX12_trades 30 = .ok (.iload 4, 2) := by decide +kernel
theorem dX12_trades_32 : decode cX12_trades 32 = .ok (.i2l, 1) := by decide +kernel
theorem dX12_trades_33 : decode cX12_trades 33 = .ok (.lconst 1, 1) := by decide +kernel
theorem dX12_trades_34 : decode cX12_trades 34 = .ok (.ldc2_w 105, 3) := by decide +kernel
theorem dX12_trades_37 : decode cX12_trades 37 = .ok (.invokevirtual 80, 3) := by decide +kernel
theorem dX12_trades_40 : decode cX12_trades 40 = .ok (.ifCond .eq 40, 3) := by decide +kernel
theorem dX12_trades_43 : decode cX12_trades 43 = .ok (.aload_n 0, 1) := by decide +kernel
theorem dX12_trades_44 : decode cX12_trades 44 = .ok (.iload 5, 2) := by decide +kernel
theorem dX12_trades_46 : decode cX12_trades 46 = .ok (.i2l, 1) := by decide +kernel
theorem dX12_trades_47 : decode cX12_trades 47 = .ok (.lconst 0, 1) := by decide +kernel
theorem dX12_trades_48 : decode cX12_trades 48 = .ok (.ldc2_w 107, 3) := by decide +kernel
theorem dX12_trades_51 : decode cX12_trades 51 = .ok (.invokevirtual 80, 3) := by decide +kernel
theorem dX12_trades_54 : decode cX12_trades 54 = .ok (.ifCond .eq 26, 3) := by decide +kernel
theorem dX12_trades_57 : decode cX12_trades 57 = .ok (.aload_n 0, 1) := by decide +kernel
theorem dX12_trades_58 : decode cX12_trades 58 = .ok (.iload 6, 2) := by decide +kernel
theorem dX12_trades_60 : decode cX12_trades 60 = .ok (.i2l, 1) := by decide +kernel
theorem dX12_trades_61 : decode cX12_trades 61 = .ok (.lconst 1, 1) := by decide +kernel
theorem dX12_trades_62 : decode cX12_trades 62 = .ok (.ldc2_w 109, 3) := by decide +kernel
theorem dX12_trades_65 : decode cX12_trades 65 = .ok (.invokevirtual 80, 3) := by decide +kernel
theorem dX12_trades_68 : decode cX12_trades 68 = .ok (.ifCond .eq 12, 3) := by decide +kernel
theorem dX12_trades_71 : decode cX12_trades 71 = .ok (.aload_n 0, 1) := by decide +kernel
theorem dX12_trades_72 : decode cX12_trades 72 = .ok (.invokevirtual 87, 3) := by decide +kernel
theorem dX12_trades_75 : decode cX12_trades 75 = .ok (.bipush 60, 2) := by decide +kernel
theorem dX12_trades_77 : decode cX12_trades 77 = .ok (.if_icmp .ne 5, 3) := by decide +kernel
theorem dX12_trades_80 : decode cX12_trades 80 = .ok (.iconst (-1), 1) := by decide +kernel
theorem dX12_trades_81 : decode cX12_trades 81 = .ok (.ireturn, 1) := by decide +kernel
theorem dX12_trades_82 : decode cX12_trades 82 = .ok (.aload_n 0, 1) := by decide +kernel
theorem dX12_trades_83 : decode cX12_trades 83 = .ok (.invokevirtual 87, 3) := by decide +kernel
theorem dX12_trades_86 : decode cX12_trades 86 = .ok (.istore 7, 2) := by decide +kernel
theorem dX12_trades_88 : decode cX12_trades 88 = .ok (.aload_n 0, 1) := by decide +kernel
theorem dX12_trades_89 : decode cX12_trades 89 = .ok (.getfield 11, 3) := by decide +kernel
theorem dX12_trades_92 : decode cX12_trades 92 = .ok (.aload_n 0, 1) := by decide +kernel
theorem dX12_trades_93 : decode cX12_trades 93 = .ok (.iload 7, 2) := by decide +kernel
theorem dX12_trades_95 : decode cX12_trades 95 = .ok (.iconst 0, 1) := by decide +kernel
theorem dX12_trades_96 : decode cX12_trades 96 = .ok (.invokevirtual 111, 3) := by decide +kernel
theorem dX12_trades_99 : decode cX12_trades 99 = .ok (.iload_n 1, 1) := by decide +kernel
theorem dX12_trades_100 : decode cX12_trades 100 = .ok (.i2l, 1) := by decide +kernel
theorem dX12_trades_101 : decode cX12_trades 101 = .ok (.lastore, 1) := by decide +kernel
theorem dX12_trades_102 : decode cX12_trades 102 = .ok (.aload_n 0, 1) := by decide +kernel
theorem dX12_trades_103 : decode cX12_trades 103 = .ok (.getfield 11, 3) := by decide +kernel
theorem dX12_trades_106 : decode cX12_trades 106 = .ok (.aload_n 0, 1) := by decide +kernel
theorem dX12_trades_107 : decode cX12_trades 107 = .ok (.iload 7, 2) := by decide +kernel
theorem dX12_trades_109 : decode cX12_trades 109 = .ok (.iconst 1, 1) := by decide +kernel
theorem dX12_trades_110 : decode cX12_trades 110 = .ok (.invokevirtual 111, 3) := by decide +kernel
theorem dX12_trades_113 : decode cX12_trades 113 = .ok (.iload_n 2, 1) := by decide +kernel
theorem dX12_trades_114 : decode cX12_trades 114 = .ok (.i2l, 1) := by decide +kernel
theorem dX12_trades_115 : decode cX12_trades 115 = .ok (.lastore, 1) := by decide +kernel
theorem dX12_trades_116 : decode cX12_trades 116 = .ok (.aload_n 0, 1) := by decide +kernel
theorem dX12_trades_117 : decode cX12_trades 117 = .ok (.getfield 11, 3) := by decide +kernel
theorem dX12_trades_120 : decode cX12_trades 120 = .ok (.aload_n 0, 1) := by decide +kernel
theorem dX12_trades_121 : decode cX12_trades 121 = .ok (.iload 7, 2) := by decide +kernel
theorem dX12_trades_123 : decode cX12_trades 123 = .ok (.iconst 2, 1) := by decide +kernel
theorem dX12_trades_124 : decode cX12_trades 124 = .ok (.invokevirtual 111, 3) := by decide +kernel
theorem dX12_trades_127 : decode cX12_trades 127 = .ok (.iload_n 3, 1) := by decide +kernel
theorem dX12_trades_128 : decode cX12_trades 128 = .ok (.i2l, 1) := by decide +kernel
theorem dX12_trades_129 : decode cX12_trades 129 = .ok (.lastore, 1) := by decide +kernel
theorem dX12_trades_130 : decode cX12_trades 130 = .ok (.aload_n 0, 1) := by decide +kernel
theorem dX12_trades_131 : decode cX12_trades 131 = .ok (.getfield 11, 3) := by decide +kernel
theorem dX12_trades_134 : decode cX12_trades 134 = .ok (.aload_n 0, 1) := by decide +kernel
theorem dX12_trades_135 : decode cX12_trades 135 = .ok (.iload 7, 2) := by decide +kernel
theorem dX12_trades_137 : decode cX12_trades 137 = .ok (.iconst 3, 1) := by decide +kernel
theorem dX12_trades_138 : decode cX12_trades 138 = .ok (.invokevirtual 111, 3) := by decide +kernel
theorem dX12_trades_141 : decode cX12_trades 141 = .ok (.iload 4, 2) := by decide +kernel
theorem dX12_trades_143 : decode cX12_trades 143 = .ok (.i2l, 1) := by decide +kernel
theorem dX12_trades_144 : decode cX12_trades 144 = .ok (.lastore, 1) := by decide +kernel
theorem dX12_trades_145 : decode cX12_trades 145 = .ok (.aload_n 0, 1) := by decide +kernel
theorem dX12_trades_146 : decode cX12_trades 146 = .ok (.getfield 11, 3) := by decide +kernel
theorem dX12_trades_149 : decode cX12_trades 149 = .ok (.aload_n 0, 1) := by decide +kernel
theorem dX12_trades_150 : decode cX12_trades 150 = .ok (.iload 7, 2) := by decide +kernel
theorem dX12_trades_152 : decode cX12_trades 152 = .ok (.iconst 4, 1) := by decide +kernel
theorem dX12_trades_153 : decode cX12_trades 153 = .ok (.invokevirtual 111, 3) := by decide +kernel
theorem dX12_trades_156 : decode cX12_trades 156 = .ok (.iload 5, 2) := by decide +kernel
theorem dX12_trades_158 : decode cX12_trades 158 = .ok (.i2l, 1) := by decide +kernel
theorem dX12_trades_159 : decode cX12_trades 159 = .ok (.lastore, 1) := by decide +kernel
theorem dX12_trades_160 : decode cX12_trades 160 = .ok (.aload_n 0, 1) := by decide +kernel
theorem dX12_trades_161 : decode cX12_trades 161 = .ok (.getfield 11, 3) := by decide +kernel
theorem dX12_trades_164 : decode cX12_trades 164 = .ok (.aload_n 0, 1) := by decide +kernel
theorem dX12_trades_165 : decode cX12_trades 165 = .ok (.iload 7, 2) := by decide +kernel
theorem dX12_trades_167 : decode cX12_trades 167 = .ok (.iconst 5, 1) := by decide +kernel
theorem dX12_trades_168 : decode cX12_trades 168 = .ok (.invokevirtual 111, 3) := by decide +kernel
theorem dX12_trades_171 : decode cX12_trades 171 = .ok (.aload_n 0, 1) := by decide +kernel
theorem dX12_trades_172 : decode cX12_trades 172 = .ok (.invokevirtual 114, 3) := by decide +kernel
theorem dX12_trades_175 : decode cX12_trades 175 = .ok (.i2l, 1) := by decide +kernel
theorem dX12_trades_176 : decode cX12_trades 176 = .ok (.lastore, 1) := by decide +kernel
theorem dX12_trades_177 : decode cX12_trades 177 = .ok (.aload_n 0, 1) := by decide +kernel
theorem dX12_trades_178 : decode cX12_trades 178 = .ok (.getfield 11, 3) := by decide +kernel
theorem dX12_trades_181 : decode cX12_trades 181 = .ok (.aload_n 0, 1) := by decide +kernel
theorem dX12_trades_182 : decode cX12_trades 182 = .ok (.iload 7, 2) := by decide +kernel
theorem dX12_trades_184 : decode cX12_trades 184 = .ok (.bipush 6, 2) := by decide +kernel
theorem dX12_trades_186 : decode cX12_trades 186 = .ok (.invokevirtual 111, 3) := by decide +kernel
theorem dX12_trades_189 : decode cX12_trades 189 = .ok (.aload_n 0, 1) := by decide +kernel
theorem dX12_trades_190 : decode cX12_trades 190 = .ok (.invokevirtual 114, 3) := by decide +kernel
theorem dX12_trades_193 : decode cX12_trades 193 = .ok (.iload 6, 2) := by decide +kernel
theorem dX12_trades_195 : decode cX12_trades 195 = .ok (.iadd, 1) := by decide +kernel
theorem dX12_trades_196 : decode cX12_trades 196 = .ok (.i2l, 1) := by decide +kernel
theorem dX12_trades_197 : decode cX12_trades 197 = .ok (.lastore, 1) := by decide +kernel
theorem dX12_trades_198 : decode cX12_trades 198 = .ok (.aload_n 0, 1) := by decide +kernel
theorem dX12_trades_199 : decode cX12_trades 199 = .ok (.getfield 11, 3) := by decide +kernel
theorem dX12_trades_202 : decode cX12_trades 202 = .ok (.aload_n 0, 1) := by decide +kernel
theorem dX12_trades_203 : decode cX12_trades 203 = .ok (.iload 7, 2) := by decide +kernel
theorem dX12_trades_205 : decode cX12_trades 205 = .ok (.bipush 7, 2) := by decide +kernel
theorem dX12_trades_207 : decode cX12_trades 207 = .ok (.invokevirtual 111, 3) := by decide +kernel
theorem dX12_trades_210 : decode cX12_trades 210 = .ok (.lconst 0, 1) := by decide +kernel
theorem dX12_trades_211 : decode cX12_trades 211 = .ok (.lastore, 1) := by decide +kernel
theorem dX12_trades_212 : decode cX12_trades 212 = .ok (.aload_n 0, 1) := by decide +kernel
theorem dX12_trades_213 : decode cX12_trades 213 = .ok (.getfield 11, 3) := by decide +kernel
theorem dX12_trades_216 : decode cX12_trades 216 = .ok (.aload_n 0, 1) := by decide +kernel
theorem dX12_trades_217 : decode cX12_trades 217 = .ok (.iload 7, 2) := by decide +kernel
theorem dX12_trades_219 : decode cX12_trades 219 = .ok (.bipush 8, 2) := by decide +kernel
theorem dX12_trades_221 : decode cX12_trades 221 = .ok (.invokevirtual 111, 3) := by decide +kernel
theorem dX12_trades_224 : decode cX12_trades 224 = .ok (.ldc2_w 117, 3) := by decide +kernel
theorem dX12_trades_227 : decode cX12_trades 227 = .ok (.lastore, 1) := by decide +kernel
theorem dX12_trades_228 : decode cX12_trades 228 = .ok (.aload_n 0, 1) := by decide +kernel
theorem dX12_trades_229 : decode cX12_trades 229 = .ok (.getfield 11, 3) := by decide +kernel
theorem dX12_trades_232 : decode cX12_trades 232 = .ok (.bipush 60, 2) := by decide +kernel
theorem dX12_trades_234 : decode cX12_trades 234 = .ok (.iload 7, 2) := by decide +kernel
theorem dX12_trades_236 : decode cX12_trades 236 = .ok (.iconst 1, 1) := by decide +kernel
theorem dX12_trades_237 : decode cX12_trades 237 = .ok (.iadd, 1) := by decide +kernel
theorem dX12_trades_238 : decode cX12_trades 238 = .ok (.i2l, 1) := by decide +kernel
theorem dX12_trades_239 : decode cX12_trades 239 = .ok (.lastore, 1) := by decide +kernel
theorem dX12_trades_240 : decode cX12_trades 240 = .ok (.iload 7, 2) := by decide +kernel
theorem dX12_trades_242 : decode cX12_trades 242 = .ok (.ireturn, 1) := by decide +kernel
theorem fcX12_98 : q_LV RX12 98 yX12_isHolder cX12_isHolder 2 (some .boolean) 1 12 := ⟨q_tb 1499 (by decide +kernel) rfl, q_tb 1501 (by decide +kernel) rfl, q_tbs (q := (yX12_isHolder, 35)) 80 (by decide +kernel) rfl, q_tb 13 (by decide +kernel) rfl, q_tb 1502 (by decide +kernel) rfl, ⟨by decide +kernel, by decide +kernel, by decide +kernel⟩, TX12, 35, rfl⟩
theorem fcX12_102 : q_LV RX12 102 yX12_isPaper cX12_isPaper 2 (some .boolean) 1 12 := ⟨q_tb 1503 (by decide +kernel) rfl, q_tb 1505 (by decide +kernel) rfl, q_tbs (q := (yX12_isPaper, 35)) 81 (by decide +kernel) rfl, q_tb 13 (by decide +kernel) rfl, q_tb 1506 (by decide +kernel) rfl, ⟨by decide +kernel, by decide +kernel, by decide +kernel⟩, TX12, 35, rfl⟩
theorem fkX12_105 : Cond.constantLong RX12 105 (100000 : Int64) ∈ q_tbl := q_tb 1507 (by decide +kernel) rfl
theorem fkX12_107 : Cond.constantLong RX12 107 (99999999 : Int64) ∈ q_tbl := q_tb 1508 (by decide +kernel) rfl
theorem fkX12_109 : Cond.constantLong RX12 109 (9 : Int64) ∈ q_tbl := q_tb 1509 (by decide +kernel) rfl
theorem fcX12_111 : q_LV RX12 111 yX12_at cX12_at 3 (some .int) 2 12 := ⟨q_tb 1514 (by decide +kernel) rfl, q_tb 1516 (by decide +kernel) rfl, q_tbs (q := (yX12_at, 35)) 83 (by decide +kernel) rfl, q_tb 13 (by decide +kernel) rfl, q_tb 1517 (by decide +kernel) rfl, ⟨by decide +kernel, by decide +kernel, by decide +kernel⟩, TX12, 35, rfl⟩
theorem fcX12_114 : q_LV RX12 114 yX12_today cX12_today 1 (some .int) 0 12 := ⟨q_tb 1518 (by decide +kernel) rfl, q_tb 1520 (by decide +kernel) rfl, q_tbs (q := (yX12_today, 35)) 84 (by decide +kernel) rfl, q_tb 13 (by decide +kernel) rfl, q_tb 1521 (by decide +kernel) rfl, ⟨by decide +kernel, by decide +kernel, by decide +kernel⟩, TX12, 35, rfl⟩
theorem fkX12_117 : Cond.constantLong RX12 117 (-1 : Int64) ∈ q_tbl := q_tb 1522 (by decide +kernel) rfl
def fX12_trades_L80 (X : Mm) : Option (Int32 × Mm) :=
some ((-1 : Int32), X)
def fX12_trades (r0 : Nat) (v1 : Int32) (v2 : Int32) (v3 : Int32) (v4 : Int32) (v5 : Int32) (v6 : Int32) (X : Mm) : Option (Int32 × Mm) :=
if mT X r0 = 12 then
bd (fX12_isHolder r0 v1 X) fun w1 X2_2 =>
if w1 = 0 then (
fX12_trades_L80 X2_2
) else (
if mT X2_2 r0 = 12 then
bd (fX12_isHolder r0 v2 X2_2) fun w4 X10_5 =>
if w4 = 0 then (
fX12_trades_L80 X10_5
) else (
if v1 = v2 then (
fX12_trades_L80 X10_5
) else (
if mT X10_5 r0 = 12 then
bd (fX12_isPaper r0 v3 X10_5) fun w7 X23_8 =>
if w7 = 0 then (
fX12_trades_L80 X23_8
) else (
if mT X23_8 r0 = 12 then
bd (fX12_isIn r0 (((v4).toInt64)) (1 : Int64) (100000 : Int64) X23_8) fun w10 X37_11 =>
if w10 = 0 then (
fX12_trades_L80 X37_11
) else (
if mT X37_11 r0 = 12 then
bd (fX12_isIn r0 (((v5).toInt64)) (0 : Int64) (99999999 : Int64) X37_11) fun w13 X51_14 =>
if w13 = 0 then (
fX12_trades_L80 X51_14
) else (
if mT X51_14 r0 = 12 then
bd (fX12_isIn r0 (((v6).toInt64)) (1 : Int64) (9 : Int64) X51_14) fun w16 X65_17 =>
if w16 = 0 then (
fX12_trades_L80 X65_17
) else (
if mT X65_17 r0 = 12 then
bd (fX12_tradeMany r0 X65_17) fun w19 X72_20 =>
if w19 = (60 : Int32) then (
fX12_trades_L80 X72_20
) else (
if mT X72_20 r0 = 12 then
bd (fX12_tradeMany r0 X72_20) fun w22 X83_23 =>
if mT X83_23 r0 = 12 then
if mR X83_23 r0 1 ≠ 0 then
bd (fX12_at r0 w22 (0 : Int32) X83_23) fun w27 X96_28 =>
if mT X96_28 (mR X83_23 r0 1) = 15 then
if q_b X96_28 (mR X83_23 r0 1) w27 then
nm (sJ X96_28 (mR X83_23 r0 1) (w27).toNatClampNeg ((v1).toInt64)) fun X101_29 =>
if mT X101_29 r0 = 12 then
if mR X101_29 r0 1 ≠ 0 then
bd (fX12_at r0 w22 (1 : Int32) X101_29) fun w34 X110_35 =>
if mT X110_35 (mR X101_29 r0 1) = 15 then
if q_b X110_35 (mR X101_29 r0 1) w34 then
nm (sJ X110_35 (mR X101_29 r0 1) (w34).toNatClampNeg ((v2).toInt64)) fun X115_36 =>
if mT X115_36 r0 = 12 then
if mR X115_36 r0 1 ≠ 0 then
bd (fX12_at r0 w22 (2 : Int32) X115_36) fun w41 X124_42 =>
if mT X124_42 (mR X115_36 r0 1) = 15 then
if q_b X124_42 (mR X115_36 r0 1) w41 then
nm (sJ X124_42 (mR X115_36 r0 1) (w41).toNatClampNeg ((v3).toInt64)) fun X129_43 =>
if mT X129_43 r0 = 12 then
if mR X129_43 r0 1 ≠ 0 then
bd (fX12_at r0 w22 (3 : Int32) X129_43) fun w48 X138_49 =>
if mT X138_49 (mR X129_43 r0 1) = 15 then
if q_b X138_49 (mR X129_43 r0 1) w48 then
nm (sJ X138_49 (mR X129_43 r0 1) (w48).toNatClampNeg ((v4).toInt64)) fun X144_50 =>
if mT X144_50 r0 = 12 then
if mR X144_50 r0 1 ≠ 0 then
bd (fX12_at r0 w22 (4 : Int32) X144_50) fun w55 X153_56 =>
if mT X153_56 (mR X144_50 r0 1) = 15 then
if q_b X153_56 (mR X144_50 r0 1) w55 then
nm (sJ X153_56 (mR X144_50 r0 1) (w55).toNatClampNeg ((v5).toInt64)) fun X159_57 =>
if mT X159_57 r0 = 12 then
if mR X159_57 r0 1 ≠ 0 then
bd (fX12_at r0 w22 (5 : Int32) X159_57) fun w62 X168_63 =>
if mT X168_63 r0 = 12 then
bd (fX12_today r0 X168_63) fun w64 X172_65 =>
if mT X172_65 (mR X159_57 r0 1) = 15 then
if q_b X172_65 (mR X159_57 r0 1) w62 then
nm (sJ X172_65 (mR X159_57 r0 1) (w62).toNatClampNeg ((w64).toInt64)) fun X176_67 =>
if mT X176_67 r0 = 12 then
if mR X176_67 r0 1 ≠ 0 then
bd (fX12_at r0 w22 (6 : Int32) X176_67) fun w72 X186_73 =>
if mT X186_73 r0 = 12 then
bd (fX12_today r0 X186_73) fun w74 X190_75 =>
if mT X190_75 (mR X176_67 r0 1) = 15 then
if q_b X190_75 (mR X176_67 r0 1) w72 then
nm (sJ X190_75 (mR X176_67 r0 1) (w72).toNatClampNeg (((w74 + v6)).toInt64)) fun X197_77 =>
if mT X197_77 r0 = 12 then
if mR X197_77 r0 1 ≠ 0 then
bd (fX12_at r0 w22 (7 : Int32) X197_77) fun w82 X207_83 =>
if mT X207_83 (mR X197_77 r0 1) = 15 then
if q_b X207_83 (mR X197_77 r0 1) w82 then
nm (sJ X207_83 (mR X197_77 r0 1) (w82).toNatClampNeg (0 : Int64)) fun X211_84 =>
if mT X211_84 r0 = 12 then
if mR X211_84 r0 1 ≠ 0 then
bd (fX12_at r0 w22 (8 : Int32) X211_84) fun w89 X221_90 =>
if mT X221_90 (mR X211_84 r0 1) = 15 then
if q_b X221_90 (mR X211_84 r0 1) w89 then
nm (sJ X221_90 (mR X211_84 r0 1) (w89).toNatClampNeg (-1 : Int64)) fun X227_91 =>
if mT X227_91 r0 = 12 then
if mR X227_91 r0 1 ≠ 0 then
if mT X227_91 (mR X227_91 r0 1) = 15 then
if q_b X227_91 (mR X227_91 r0 1) (60 : Int32) then
nm (sJ X227_91 (mR X227_91 r0 1) ((60 : Int32)).toNatClampNeg (((w22 + (1 : Int32))).toInt64)) fun X239_96 =>
some (w22, X239_96)
else none
else none
else none
else none
else none
else none
else none
else none
else none
else none
else none
else none
else none
else none
else none
else none
else none
else none
else none
else none
else none
else none
else none
else none
else none
else none
else none
else none
else none
else none
else none
else none
else none
else none
else none
else none
else none
else none
else none
else none
else none
else none
else none
)
else none
)
else none
)
else none
)
else none
)
else none
)
)
else none
)
else none
theorem gX12_trades_L80 {E : q_E} {X0 : Mm} (C : Cx E cX12_trades RX12 8 (some .int) (q_rm 2 47 0 0) X0) (X : Mm) : Sm E (q_fin E q_eI X0 0 0) 0 0 80 [] [] X (fX12_trades_L80  X) := by
  unfold fX12_trades_L80
  refine q_iconst C (-1 : Int32) dX12_trades_80 rfl ?_
  exact q_iret C dX12_trades_81
theorem sX12_trades (r0 : Nat) (v1 : Int32) (v2 : Int32) (v3 : Int32) (v4 : Int32) (v5 : Int32) (v6 : Int32) : q_Ct yX12_trades cX12_trades 8 (some .int) 2 47 0 0 q_eI (fun P => [.ref (P + r0), .int v1, .int v2, .int v3, .int v4, .int v5, .int v6]) (fX12_trades r0 v1 v2 v3 v4 v5 v6) := by
  refine q_meth (by decide +kernel) (fun P => Nat.le_of_ble_eq_true rfl) (fun E X C hn => ?_)
  show Sm E (q_fin E q_eI X 0 0) 0 0 0 [(0, .ref (q_P E + r0)), (1, .int v1), (2, .int v2), (3, .int v3), (4, .int v4), (5, .int v5), (6, .int v6)] [] X _
  unfold fX12_trades
  refine q_aload_n C 0 dX12_trades_0 rfl rfl ?_
  refine q_iload_n C 1 dX12_trades_1 rfl rfl ?_
  refine q_chk (fun h3 => ?_)
  refine q_cVI (As := (fun P => [.int v1])) C [] (sX12_isHolder r0 v1) fcX12_98 rfl (fun _ => rfl) ⟨Nat.le_of_ble_eq_true rfl, Nat.le_of_ble_eq_true rfl⟩ ⟨Nat.le_of_ble_eq_true rfl, Nat.le_of_ble_eq_true rfl⟩ (Nat.le_of_ble_eq_true rfl) dX12_trades_2 h3 (fun w1 X2_2 => ?_)
  refine q_if_eq C 80 dX12_trades_5 (by decide) (fun _ => ?_) (fun _ => ?_)
  · refine q_sub C [] [] rfl ?_
    exact gX12_trades_L80 C X2_2
  · refine q_aload_n C 0 dX12_trades_8 rfl rfl ?_
    refine q_iload_n C 2 dX12_trades_9 rfl rfl ?_
    refine q_chk (fun h6 => ?_)
    refine q_cVI (As := (fun P => [.int v2])) C [] (sX12_isHolder r0 v2) fcX12_98 rfl (fun _ => rfl) ⟨Nat.le_of_ble_eq_true rfl, Nat.le_of_ble_eq_true rfl⟩ ⟨Nat.le_of_ble_eq_true rfl, Nat.le_of_ble_eq_true rfl⟩ (Nat.le_of_ble_eq_true rfl) dX12_trades_10 h6 (fun w4 X10_5 => ?_)
    refine q_if_eq C 80 dX12_trades_13 (by decide) (fun _ => ?_) (fun _ => ?_)
    · refine q_sub C [] [] rfl ?_
      exact gX12_trades_L80 C X10_5
    · refine q_iload_n C 1 dX12_trades_16 rfl rfl ?_
      refine q_iload_n C 2 dX12_trades_17 rfl rfl ?_
      refine q_icmp_eq C 80 dX12_trades_18 (by decide) (fun _ => ?_) (fun _ => ?_)
      · refine q_sub C [] [] rfl ?_
        exact gX12_trades_L80 C X10_5
      · refine q_aload_n C 0 dX12_trades_21 rfl rfl ?_
        refine q_iload_n C 3 dX12_trades_22 rfl rfl ?_
        refine q_chk (fun h9 => ?_)
        refine q_cVI (As := (fun P => [.int v3])) C [] (sX12_isPaper r0 v3) fcX12_102 rfl (fun _ => rfl) ⟨Nat.le_of_ble_eq_true rfl, Nat.le_of_ble_eq_true rfl⟩ ⟨Nat.le_of_ble_eq_true rfl, Nat.le_of_ble_eq_true rfl⟩ (Nat.le_of_ble_eq_true rfl) dX12_trades_23 h9 (fun w7 X23_8 => ?_)
        refine q_if_eq C 80 dX12_trades_26 (by decide) (fun _ => ?_) (fun _ => ?_)
        · refine q_sub C [] [] rfl ?_
          exact gX12_trades_L80 C X23_8
        · refine q_aload_n C 0 dX12_trades_29 rfl rfl ?_
          refine q_iload C 4 dX12_trades_30 rfl ?_
          refine q_i2l C dX12_trades_32 ?_
          refine q_lconst C (1 : Int64) dX12_trades_33 rfl ?_
          refine q_ldc2 C dX12_trades_34 fkX12_105 ?_
          refine q_chk (fun h12 => ?_)
          refine q_cVI (As := (fun P => [.long ((v4).toInt64), .long (1 : Int64), .long (100000 : Int64)])) C [] (sX12_isIn r0 (((v4).toInt64)) (1 : Int64) (100000 : Int64)) fcX12_80 rfl (fun _ => rfl) ⟨Nat.le_of_ble_eq_true rfl, Nat.le_of_ble_eq_true rfl⟩ ⟨Nat.le_of_ble_eq_true rfl, Nat.le_of_ble_eq_true rfl⟩ (Nat.le_of_ble_eq_true rfl) dX12_trades_37 h12 (fun w10 X37_11 => ?_)
          refine q_if_eq C 80 dX12_trades_40 (by decide) (fun _ => ?_) (fun _ => ?_)
          · refine q_sub C [] [] rfl ?_
            exact gX12_trades_L80 C X37_11
          · refine q_aload_n C 0 dX12_trades_43 rfl rfl ?_
            refine q_iload C 5 dX12_trades_44 rfl ?_
            refine q_i2l C dX12_trades_46 ?_
            refine q_lconst C (0 : Int64) dX12_trades_47 rfl ?_
            refine q_ldc2 C dX12_trades_48 fkX12_107 ?_
            refine q_chk (fun h15 => ?_)
            refine q_cVI (As := (fun P => [.long ((v5).toInt64), .long (0 : Int64), .long (99999999 : Int64)])) C [] (sX12_isIn r0 (((v5).toInt64)) (0 : Int64) (99999999 : Int64)) fcX12_80 rfl (fun _ => rfl) ⟨Nat.le_of_ble_eq_true rfl, Nat.le_of_ble_eq_true rfl⟩ ⟨Nat.le_of_ble_eq_true rfl, Nat.le_of_ble_eq_true rfl⟩ (Nat.le_of_ble_eq_true rfl) dX12_trades_51 h15 (fun w13 X51_14 => ?_)
            refine q_if_eq C 80 dX12_trades_54 (by decide) (fun _ => ?_) (fun _ => ?_)
            · refine q_sub C [] [] rfl ?_
              exact gX12_trades_L80 C X51_14
            · refine q_aload_n C 0 dX12_trades_57 rfl rfl ?_
              refine q_iload C 6 dX12_trades_58 rfl ?_
              refine q_i2l C dX12_trades_60 ?_
              refine q_lconst C (1 : Int64) dX12_trades_61 rfl ?_
              refine q_ldc2 C dX12_trades_62 fkX12_109 ?_
              refine q_chk (fun h18 => ?_)
              refine q_cVI (As := (fun P => [.long ((v6).toInt64), .long (1 : Int64), .long (9 : Int64)])) C [] (sX12_isIn r0 (((v6).toInt64)) (1 : Int64) (9 : Int64)) fcX12_80 rfl (fun _ => rfl) ⟨Nat.le_of_ble_eq_true rfl, Nat.le_of_ble_eq_true rfl⟩ ⟨Nat.le_of_ble_eq_true rfl, Nat.le_of_ble_eq_true rfl⟩ (Nat.le_of_ble_eq_true rfl) dX12_trades_65 h18 (fun w16 X65_17 => ?_)
              refine q_if_eq C 80 dX12_trades_68 (by decide) (fun _ => ?_) (fun _ => ?_)
              · refine q_sub C [] [] rfl ?_
                exact gX12_trades_L80 C X65_17
              · refine q_aload_n C 0 dX12_trades_71 rfl rfl ?_
                refine q_chk (fun h21 => ?_)
                refine q_cVI (As := (fun P => [])) C [] (sX12_tradeMany r0) fcX12_87 rfl (fun _ => rfl) ⟨Nat.le_of_ble_eq_true rfl, Nat.le_of_ble_eq_true rfl⟩ ⟨Nat.le_of_ble_eq_true rfl, Nat.le_of_ble_eq_true rfl⟩ (Nat.le_of_ble_eq_true rfl) dX12_trades_72 h21 (fun w19 X72_20 => ?_)
                refine q_bipush C (60 : Int32) dX12_trades_75 rfl ?_
                refine q_icmp_ne C 82 dX12_trades_77 (by decide) (fun _ => ?_) (fun _ => ?_)
                · refine q_sub C [] [] rfl ?_
                  exact gX12_trades_L80 C X72_20
                · refine q_aload_n C 0 dX12_trades_82 rfl rfl ?_
                  refine q_chk (fun h24 => ?_)
                  refine q_cVI (As := (fun P => [])) C [] (sX12_tradeMany r0) fcX12_87 rfl (fun _ => rfl) ⟨Nat.le_of_ble_eq_true rfl, Nat.le_of_ble_eq_true rfl⟩ ⟨Nat.le_of_ble_eq_true rfl, Nat.le_of_ble_eq_true rfl⟩ (Nat.le_of_ble_eq_true rfl) dX12_trades_83 h24 (fun w22 X83_23 => ?_)
                  refine q_istore C [(7, .int w22), (0, .ref (q_P E + r0)), (1, .int v1), (2, .int v2), (3, .int v3), (4, .int v4), (5, .int v5), (6, .int v6)] dX12_trades_86 (Nat.le_of_ble_eq_true rfl) rfl ?_
                  refine q_aload_n C 1 dX12_trades_88 rfl rfl ?_
                  refine q_chk (fun h25 => ?_)
                  refine q_chk (fun h26 => ?_)
                  refine p_getR C fgX12_11 rfl dX12_trades_89 h25 h26 ?_
                  refine q_aload_n C 1 dX12_trades_92 rfl rfl ?_
                  refine q_iload C 0 dX12_trades_93 rfl ?_
                  refine q_iconst C (0 : Int32) dX12_trades_95 rfl ?_
                  refine q_cVI (As := (fun P => [.int w22, .int (0 : Int32)])) C [.ref (q_P E + (mR X83_23 r0 1))] (sX12_at r0 w22 (0 : Int32)) fcX12_111 rfl (fun _ => rfl) ⟨Nat.le_of_ble_eq_true rfl, Nat.le_of_ble_eq_true rfl⟩ ⟨Nat.le_of_ble_eq_true rfl, Nat.le_of_ble_eq_true rfl⟩ (Nat.le_of_ble_eq_true rfl) dX12_trades_96 h25 (fun w27 X96_28 => ?_)
                  refine q_iload_n C 2 dX12_trades_99 rfl rfl ?_
                  refine q_i2l C dX12_trades_100 ?_
                  refine q_chk (fun h30 => ?_)
                  refine q_chk (fun h31 => ?_)
                  refine p_last C dX12_trades_101 h30 h31 ?_
                  refine q_nmX (fun X101_29 => ?_)
                  refine q_aload_n C 1 dX12_trades_102 rfl rfl ?_
                  refine q_chk (fun h32 => ?_)
                  refine q_chk (fun h33 => ?_)
                  refine p_getR C fgX12_11 rfl dX12_trades_103 h32 h33 ?_
                  refine q_aload_n C 1 dX12_trades_106 rfl rfl ?_
                  refine q_iload C 0 dX12_trades_107 rfl ?_
                  refine q_iconst C (1 : Int32) dX12_trades_109 rfl ?_
                  refine q_cVI (As := (fun P => [.int w22, .int (1 : Int32)])) C [.ref (q_P E + (mR X101_29 r0 1))] (sX12_at r0 w22 (1 : Int32)) fcX12_111 rfl (fun _ => rfl) ⟨Nat.le_of_ble_eq_true rfl, Nat.le_of_ble_eq_true rfl⟩ ⟨Nat.le_of_ble_eq_true rfl, Nat.le_of_ble_eq_true rfl⟩ (Nat.le_of_ble_eq_true rfl) dX12_trades_110 h32 (fun w34 X110_35 => ?_)
                  refine q_iload_n C 3 dX12_trades_113 rfl rfl ?_
                  refine q_i2l C dX12_trades_114 ?_
                  refine q_chk (fun h37 => ?_)
                  refine q_chk (fun h38 => ?_)
                  refine p_last C dX12_trades_115 h37 h38 ?_
                  refine q_nmX (fun X115_36 => ?_)
                  refine q_aload_n C 1 dX12_trades_116 rfl rfl ?_
                  refine q_chk (fun h39 => ?_)
                  refine q_chk (fun h40 => ?_)
                  refine p_getR C fgX12_11 rfl dX12_trades_117 h39 h40 ?_
                  refine q_aload_n C 1 dX12_trades_120 rfl rfl ?_
                  refine q_iload C 0 dX12_trades_121 rfl ?_
                  refine q_iconst C (2 : Int32) dX12_trades_123 rfl ?_
                  refine q_cVI (As := (fun P => [.int w22, .int (2 : Int32)])) C [.ref (q_P E + (mR X115_36 r0 1))] (sX12_at r0 w22 (2 : Int32)) fcX12_111 rfl (fun _ => rfl) ⟨Nat.le_of_ble_eq_true rfl, Nat.le_of_ble_eq_true rfl⟩ ⟨Nat.le_of_ble_eq_true rfl, Nat.le_of_ble_eq_true rfl⟩ (Nat.le_of_ble_eq_true rfl) dX12_trades_124 h39 (fun w41 X124_42 => ?_)
                  refine q_iload_n C 4 dX12_trades_127 rfl rfl ?_
                  refine q_i2l C dX12_trades_128 ?_
                  refine q_chk (fun h44 => ?_)
                  refine q_chk (fun h45 => ?_)
                  refine p_last C dX12_trades_129 h44 h45 ?_
                  refine q_nmX (fun X129_43 => ?_)
                  refine q_aload_n C 1 dX12_trades_130 rfl rfl ?_
                  refine q_chk (fun h46 => ?_)
                  refine q_chk (fun h47 => ?_)
                  refine p_getR C fgX12_11 rfl dX12_trades_131 h46 h47 ?_
                  refine q_aload_n C 1 dX12_trades_134 rfl rfl ?_
                  refine q_iload C 0 dX12_trades_135 rfl ?_
                  refine q_iconst C (3 : Int32) dX12_trades_137 rfl ?_
                  refine q_cVI (As := (fun P => [.int w22, .int (3 : Int32)])) C [.ref (q_P E + (mR X129_43 r0 1))] (sX12_at r0 w22 (3 : Int32)) fcX12_111 rfl (fun _ => rfl) ⟨Nat.le_of_ble_eq_true rfl, Nat.le_of_ble_eq_true rfl⟩ ⟨Nat.le_of_ble_eq_true rfl, Nat.le_of_ble_eq_true rfl⟩ (Nat.le_of_ble_eq_true rfl) dX12_trades_138 h46 (fun w48 X138_49 => ?_)
                  refine q_iload C 5 dX12_trades_141 rfl ?_
                  refine q_i2l C dX12_trades_143 ?_
                  refine q_chk (fun h51 => ?_)
                  refine q_chk (fun h52 => ?_)
                  refine p_last C dX12_trades_144 h51 h52 ?_
                  refine q_nmX (fun X144_50 => ?_)
                  refine q_aload_n C 1 dX12_trades_145 rfl rfl ?_
                  refine q_chk (fun h53 => ?_)
                  refine q_chk (fun h54 => ?_)
                  refine p_getR C fgX12_11 rfl dX12_trades_146 h53 h54 ?_
                  refine q_aload_n C 1 dX12_trades_149 rfl rfl ?_
                  refine q_iload C 0 dX12_trades_150 rfl ?_
                  refine q_iconst C (4 : Int32) dX12_trades_152 rfl ?_
                  refine q_cVI (As := (fun P => [.int w22, .int (4 : Int32)])) C [.ref (q_P E + (mR X144_50 r0 1))] (sX12_at r0 w22 (4 : Int32)) fcX12_111 rfl (fun _ => rfl) ⟨Nat.le_of_ble_eq_true rfl, Nat.le_of_ble_eq_true rfl⟩ ⟨Nat.le_of_ble_eq_true rfl, Nat.le_of_ble_eq_true rfl⟩ (Nat.le_of_ble_eq_true rfl) dX12_trades_153 h53 (fun w55 X153_56 => ?_)
                  refine q_iload C 6 dX12_trades_156 rfl ?_
                  refine q_i2l C dX12_trades_158 ?_
                  refine q_chk (fun h58 => ?_)
                  refine q_chk (fun h59 => ?_)
                  refine p_last C dX12_trades_159 h58 h59 ?_
                  refine q_nmX (fun X159_57 => ?_)
                  refine q_aload_n C 1 dX12_trades_160 rfl rfl ?_
                  refine q_chk (fun h60 => ?_)
                  refine q_chk (fun h61 => ?_)
                  refine p_getR C fgX12_11 rfl dX12_trades_161 h60 h61 ?_
                  refine q_aload_n C 1 dX12_trades_164 rfl rfl ?_
                  refine q_iload C 0 dX12_trades_165 rfl ?_
                  refine q_iconst C (5 : Int32) dX12_trades_167 rfl ?_
                  refine q_cVI (As := (fun P => [.int w22, .int (5 : Int32)])) C [.ref (q_P E + (mR X159_57 r0 1))] (sX12_at r0 w22 (5 : Int32)) fcX12_111 rfl (fun _ => rfl) ⟨Nat.le_of_ble_eq_true rfl, Nat.le_of_ble_eq_true rfl⟩ ⟨Nat.le_of_ble_eq_true rfl, Nat.le_of_ble_eq_true rfl⟩ (Nat.le_of_ble_eq_true rfl) dX12_trades_168 h60 (fun w62 X168_63 => ?_)
                  refine q_aload_n C 1 dX12_trades_171 rfl rfl ?_
                  refine q_chk (fun h66 => ?_)
                  refine q_cVI (As := (fun P => [])) C [.int w62, .ref (q_P E + (mR X159_57 r0 1))] (sX12_today r0) fcX12_114 rfl (fun _ => rfl) ⟨Nat.le_of_ble_eq_true rfl, Nat.le_of_ble_eq_true rfl⟩ ⟨Nat.le_of_ble_eq_true rfl, Nat.le_of_ble_eq_true rfl⟩ (Nat.le_of_ble_eq_true rfl) dX12_trades_172 h66 (fun w64 X172_65 => ?_)
                  refine q_i2l C dX12_trades_175 ?_
                  refine q_chk (fun h68 => ?_)
                  refine q_chk (fun h69 => ?_)
                  refine p_last C dX12_trades_176 h68 h69 ?_
                  refine q_nmX (fun X176_67 => ?_)
                  refine q_aload_n C 1 dX12_trades_177 rfl rfl ?_
                  refine q_chk (fun h70 => ?_)
                  refine q_chk (fun h71 => ?_)
                  refine p_getR C fgX12_11 rfl dX12_trades_178 h70 h71 ?_
                  refine q_aload_n C 1 dX12_trades_181 rfl rfl ?_
                  refine q_iload C 0 dX12_trades_182 rfl ?_
                  refine q_bipush C (6 : Int32) dX12_trades_184 rfl ?_
                  refine q_cVI (As := (fun P => [.int w22, .int (6 : Int32)])) C [.ref (q_P E + (mR X176_67 r0 1))] (sX12_at r0 w22 (6 : Int32)) fcX12_111 rfl (fun _ => rfl) ⟨Nat.le_of_ble_eq_true rfl, Nat.le_of_ble_eq_true rfl⟩ ⟨Nat.le_of_ble_eq_true rfl, Nat.le_of_ble_eq_true rfl⟩ (Nat.le_of_ble_eq_true rfl) dX12_trades_186 h70 (fun w72 X186_73 => ?_)
                  refine q_aload_n C 1 dX12_trades_189 rfl rfl ?_
                  refine q_chk (fun h76 => ?_)
                  refine q_cVI (As := (fun P => [])) C [.int w72, .ref (q_P E + (mR X176_67 r0 1))] (sX12_today r0) fcX12_114 rfl (fun _ => rfl) ⟨Nat.le_of_ble_eq_true rfl, Nat.le_of_ble_eq_true rfl⟩ ⟨Nat.le_of_ble_eq_true rfl, Nat.le_of_ble_eq_true rfl⟩ (Nat.le_of_ble_eq_true rfl) dX12_trades_190 h76 (fun w74 X190_75 => ?_)
                  refine q_iload C 7 dX12_trades_193 rfl ?_
                  refine q_iadd C dX12_trades_195 ?_
                  refine q_i2l C dX12_trades_196 ?_
                  refine q_chk (fun h78 => ?_)
                  refine q_chk (fun h79 => ?_)
                  refine p_last C dX12_trades_197 h78 h79 ?_
                  refine q_nmX (fun X197_77 => ?_)
                  refine q_aload_n C 1 dX12_trades_198 rfl rfl ?_
                  refine q_chk (fun h80 => ?_)
                  refine q_chk (fun h81 => ?_)
                  refine p_getR C fgX12_11 rfl dX12_trades_199 h80 h81 ?_
                  refine q_aload_n C 1 dX12_trades_202 rfl rfl ?_
                  refine q_iload C 0 dX12_trades_203 rfl ?_
                  refine q_bipush C (7 : Int32) dX12_trades_205 rfl ?_
                  refine q_cVI (As := (fun P => [.int w22, .int (7 : Int32)])) C [.ref (q_P E + (mR X197_77 r0 1))] (sX12_at r0 w22 (7 : Int32)) fcX12_111 rfl (fun _ => rfl) ⟨Nat.le_of_ble_eq_true rfl, Nat.le_of_ble_eq_true rfl⟩ ⟨Nat.le_of_ble_eq_true rfl, Nat.le_of_ble_eq_true rfl⟩ (Nat.le_of_ble_eq_true rfl) dX12_trades_207 h80 (fun w82 X207_83 => ?_)
                  refine q_lconst C (0 : Int64) dX12_trades_210 rfl ?_
                  refine q_chk (fun h85 => ?_)
                  refine q_chk (fun h86 => ?_)
                  refine p_last C dX12_trades_211 h85 h86 ?_
                  refine q_nmX (fun X211_84 => ?_)
                  refine q_aload_n C 1 dX12_trades_212 rfl rfl ?_
                  refine q_chk (fun h87 => ?_)
                  refine q_chk (fun h88 => ?_)
                  refine p_getR C fgX12_11 rfl dX12_trades_213 h87 h88 ?_
                  refine q_aload_n C 1 dX12_trades_216 rfl rfl ?_
                  refine q_iload C 0 dX12_trades_217 rfl ?_
                  refine q_bipush C (8 : Int32) dX12_trades_219 rfl ?_
                  refine q_cVI (As := (fun P => [.int w22, .int (8 : Int32)])) C [.ref (q_P E + (mR X211_84 r0 1))] (sX12_at r0 w22 (8 : Int32)) fcX12_111 rfl (fun _ => rfl) ⟨Nat.le_of_ble_eq_true rfl, Nat.le_of_ble_eq_true rfl⟩ ⟨Nat.le_of_ble_eq_true rfl, Nat.le_of_ble_eq_true rfl⟩ (Nat.le_of_ble_eq_true rfl) dX12_trades_221 h87 (fun w89 X221_90 => ?_)
                  refine q_ldc2 C dX12_trades_224 fkX12_117 ?_
                  refine q_chk (fun h92 => ?_)
                  refine q_chk (fun h93 => ?_)
                  refine p_last C dX12_trades_227 h92 h93 ?_
                  refine q_nmX (fun X227_91 => ?_)
                  refine q_aload_n C 1 dX12_trades_228 rfl rfl ?_
                  refine q_chk (fun h94 => ?_)
                  refine q_chk (fun h95 => ?_)
                  refine p_getR C fgX12_11 rfl dX12_trades_229 h94 h95 ?_
                  refine q_bipush C (60 : Int32) dX12_trades_232 rfl ?_
                  refine q_iload C 0 dX12_trades_234 rfl ?_
                  refine q_iconst C (1 : Int32) dX12_trades_236 rfl ?_
                  refine q_iadd C dX12_trades_237 ?_
                  refine q_i2l C dX12_trades_238 ?_
                  refine q_chk (fun h97 => ?_)
                  refine q_chk (fun h98 => ?_)
                  refine p_last C dX12_trades_239 h97 h98 ?_
                  refine q_nmX (fun X239_96 => ?_)
                  refine q_iload C 0 dX12_trades_240 rfl ?_
                  exact q_iret C dX12_trades_242
/-! RecordClaimsModel.canBe(IIII)Z -/
abbrev cX12_canBe : ByteArray := prog_14_method_21_code
def yX12_canBe : MethodName := ⟨RX12, "canBe", "(IIII)Z"⟩
theorem dX12_canBe_0 : decode cX12_canBe 0 = .ok (.aload_n 0, 1) := by decide +kernel
theorem dX12_canBe_1 : decode cX12_canBe 1 = .ok (.iload_n 1, 1) := by decide +kernel
theorem dX12_canBe_2 : decode cX12_canBe 2 = .ok (.invokevirtual 102, 3) := by decide +kernel
theorem dX12_canBe_5 : decode cX12_canBe 5 = .ok (.ifCond .eq 43, 3) := by decide +kernel
theorem dX12_canBe_8 : decode cX12_canBe 8 = .ok (.aload_n 0, 1) := by decide +kernel
theorem dX12_canBe_9 : decode cX12_canBe 9 = .ok (.invokevirtual 91, 3) := by decide +kernel
theorem dX12_canBe_12 : decode cX12_canBe 12 = .ok (.bipush 8, 2) := by decide +kernel
theorem dX12_canBe_14 : decode cX12_canBe 14 = .ok (.if_icmp .ge 34, 3) := by decide +kernel
theorem dX12_canBe_17 : decode cX12_canBe 17 = .ok (.iload_n 2, 1) := by decide +kernel
theorem dX12_canBe_18 : decode cX12_canBe 18 = .ok (.aload_n 0, 1) := by decide +kernel
theorem dX12_canBe_19 : decode cX12_canBe 19 = .ok (.invokevirtual 114, 3) := by decide +kernel
theorem dX12_canBe_22 : decode cX12_canBe 22 = .ok (.if_icmp .le 26, 3) := by decide +kernel
theorem dX12_canBe_25 : decode cX12_canBe 25 = .ok (.iload_n 3, 1) := by decide +kernel
theorem dX12_canBe_26 : decode cX12_canBe 26 = .ok (.iload_n 2, 1) := by decide +kernel
theorem dX12_canBe_27 : decode cX12_canBe 27 = .ok (.if_icmp .lt 21, 3) := by decide +kernel
theorem dX12_canBe_30 : decode cX12_canBe 30 = .ok (.iload 4, 2) := by decide +kernel
theorem dX12_canBe_32 : decode cX12_canBe 32 = .ok (.iload_n 3, 1) := by decide +kernel
theorem dX12_canBe_33 : decode cX12_canBe 33 = .ok (.if_icmp .lt 15, 3) := by decide +kernel
theorem dX12_canBe_36 : decode cX12_canBe 36 = .ok (.iload 4, 2) := by decide +kernel
theorem dX12_canBe_38 : decode cX12_canBe 38 = .ok (.sipush 999, 3) := by decide +kernel
theorem dX12_canBe_41 : decode cX12_canBe 41 = .ok (.if_icmp .gt 7, 3) := by decide +kernel
theorem dX12_canBe_44 : decode cX12_canBe 44 = .ok (.iconst 1, 1) := by decide +kernel
theorem dX12_canBe_45 : decode cX12_canBe 45 = .ok (.goto 4, 3) := by decide +kernel
theorem dX12_canBe_48 : decode cX12_canBe 48 = .ok (.iconst 0, 1) := by decide +kernel
theorem dX12_canBe_49 : decode cX12_canBe 49 = .ok (.ireturn, 1) := by decide +kernel
def fX12_canBe_L48 (X : Mm) : Option (Int32 × Mm) :=
some (0, X)
def fX12_canBe (r0 : Nat) (v1 : Int32) (v2 : Int32) (v3 : Int32) (v4 : Int32) (X : Mm) : Option (Int32 × Mm) :=
if mT X r0 = 12 then
bd (fX12_isPaper r0 v1 X) fun w1 X2_2 =>
if w1 = 0 then (
fX12_canBe_L48 X2_2
) else (
if mT X2_2 r0 = 12 then
bd (fX12_eventMany r0 X2_2) fun w4 X9_5 =>
if (8 : Int32) ≤ w4 then (
fX12_canBe_L48 X9_5
) else (
if mT X9_5 r0 = 12 then
bd (fX12_today r0 X9_5) fun w7 X19_8 =>
if v2 ≤ w7 then (
fX12_canBe_L48 X19_8
) else (
if v3 < v2 then (
fX12_canBe_L48 X19_8
) else (
if v4 < v3 then (
fX12_canBe_L48 X19_8
) else (
if (999 : Int32) < v4 then (
fX12_canBe_L48 X19_8
) else (
some (1, X19_8)
)
)
)
)
else none
)
else none
)
else none
theorem gX12_canBe_L48 {E : q_E} {X0 : Mm} (C : Cx E cX12_canBe RX12 5 (some .boolean) (q_rm 2 47 0 0) X0) (X : Mm) : Sm E (q_fin E q_eI X0 0 0) 0 0 48 [] [] X (fX12_canBe_L48  X) := by
  unfold fX12_canBe_L48
  refine q_iconst C (0 : Int32) dX12_canBe_48 rfl ?_
  exact q_zret0 C dX12_canBe_49
theorem sX12_canBe (r0 : Nat) (v1 : Int32) (v2 : Int32) (v3 : Int32) (v4 : Int32) : q_Ct yX12_canBe cX12_canBe 5 (some .boolean) 2 47 0 0 q_eI (fun P => [.ref (P + r0), .int v1, .int v2, .int v3, .int v4]) (fX12_canBe r0 v1 v2 v3 v4) := by
  refine q_meth (by decide +kernel) (fun P => Nat.le_of_ble_eq_true rfl) (fun E X C hn => ?_)
  show Sm E (q_fin E q_eI X 0 0) 0 0 0 [(0, .ref (q_P E + r0)), (1, .int v1), (2, .int v2), (3, .int v3), (4, .int v4)] [] X _
  unfold fX12_canBe
  refine q_aload_n C 0 dX12_canBe_0 rfl rfl ?_
  refine q_iload_n C 1 dX12_canBe_1 rfl rfl ?_
  refine q_chk (fun h3 => ?_)
  refine q_cVI (As := (fun P => [.int v1])) C [] (sX12_isPaper r0 v1) fcX12_102 rfl (fun _ => rfl) ⟨Nat.le_of_ble_eq_true rfl, Nat.le_of_ble_eq_true rfl⟩ ⟨Nat.le_of_ble_eq_true rfl, Nat.le_of_ble_eq_true rfl⟩ (Nat.le_of_ble_eq_true rfl) dX12_canBe_2 h3 (fun w1 X2_2 => ?_)
  refine q_if_eq C 48 dX12_canBe_5 (by decide) (fun _ => ?_) (fun _ => ?_)
  · refine q_sub C [] [] rfl ?_
    exact gX12_canBe_L48 C X2_2
  · refine q_aload_n C 0 dX12_canBe_8 rfl rfl ?_
    refine q_chk (fun h6 => ?_)
    refine q_cVI (As := (fun P => [])) C [] (sX12_eventMany r0) fcX12_91 rfl (fun _ => rfl) ⟨Nat.le_of_ble_eq_true rfl, Nat.le_of_ble_eq_true rfl⟩ ⟨Nat.le_of_ble_eq_true rfl, Nat.le_of_ble_eq_true rfl⟩ (Nat.le_of_ble_eq_true rfl) dX12_canBe_9 h6 (fun w4 X9_5 => ?_)
    refine q_bipush C (8 : Int32) dX12_canBe_12 rfl ?_
    refine q_icmp_ge C 48 dX12_canBe_14 (by decide) (fun _ => ?_) (fun _ => ?_)
    · refine q_sub C [] [] rfl ?_
      exact gX12_canBe_L48 C X9_5
    · refine q_iload_n C 2 dX12_canBe_17 rfl rfl ?_
      refine q_aload_n C 0 dX12_canBe_18 rfl rfl ?_
      refine q_chk (fun h9 => ?_)
      refine q_cVI (As := (fun P => [])) C [.int v2] (sX12_today r0) fcX12_114 rfl (fun _ => rfl) ⟨Nat.le_of_ble_eq_true rfl, Nat.le_of_ble_eq_true rfl⟩ ⟨Nat.le_of_ble_eq_true rfl, Nat.le_of_ble_eq_true rfl⟩ (Nat.le_of_ble_eq_true rfl) dX12_canBe_19 h9 (fun w7 X19_8 => ?_)
      refine q_icmp_le C 48 dX12_canBe_22 (by decide) (fun _ => ?_) (fun _ => ?_)
      · refine q_sub C [] [] rfl ?_
        exact gX12_canBe_L48 C X19_8
      · refine q_iload_n C 3 dX12_canBe_25 rfl rfl ?_
        refine q_iload_n C 2 dX12_canBe_26 rfl rfl ?_
        refine q_icmp_lt C 48 dX12_canBe_27 (by decide) (fun _ => ?_) (fun _ => ?_)
        · refine q_sub C [] [] rfl ?_
          exact gX12_canBe_L48 C X19_8
        · refine q_iload C 4 dX12_canBe_30 rfl ?_
          refine q_iload_n C 3 dX12_canBe_32 rfl rfl ?_
          refine q_icmp_lt C 48 dX12_canBe_33 (by decide) (fun _ => ?_) (fun _ => ?_)
          · refine q_sub C [] [] rfl ?_
            exact gX12_canBe_L48 C X19_8
          · refine q_iload C 4 dX12_canBe_36 rfl ?_
            refine q_sipush C (999 : Int32) dX12_canBe_38 rfl ?_
            refine q_icmp_gt C 48 dX12_canBe_41 (by decide) (fun _ => ?_) (fun _ => ?_)
            · refine q_sub C [] [] rfl ?_
              exact gX12_canBe_L48 C X19_8
            · refine q_iconst C (1 : Int32) dX12_canBe_44 rfl ?_
              refine q_goto C 49 dX12_canBe_45 (by decide) ?_
              exact q_zret1 C dX12_canBe_49
/-! RecordClaimsModel.tells(IIIII)I -/
abbrev cX12_tells : ByteArray := prog_14_method_22_code
def yX12_tells : MethodName := ⟨RX12, "tells", "(IIIII)I"⟩
theorem dX12_tells_0 : decode cX12_tells 0 = .ok (.aload_n 0, 1) := by decide +kernel
theorem dX12_tells_1 : decode cX12_tells 1 = .ok (.invokevirtual 91, 3) := by decide +kernel
theorem dX12_tells_4 : decode cX12_tells 4 = .ok (.istore 6, 2) := by decide +kernel
theorem dX12_tells_6 : decode cX12_tells 6 = .ok (.iconst 0, 1) := by decide +kernel
theorem dX12_tells_7 : decode cX12_tells 7 = .ok (.istore 7, 2) := by decide +kernel
theorem dX12_tells_9 : decode cX12_tells 9 = .ok (.iload 7, 2) := by decide +kernel
theorem dX12_tells_11 : decode cX12_tells 11 = .ok (.sipush 500, 3) := by decide +kernel
theorem dX12_tells_14 : decode cX12_tells 14 = .ok (.if_icmp .ge 23, 3) := by decide +kernel
theorem dX12_tells_17 : decode cX12_tells 17 = .ok (.aload_n 0, 1) := by decide +kernel
theorem dX12_tells_18 : decode cX12_tells 18 = .ok (.getfield 11, 3) := by decide +kernel
theorem dX12_tells_21 : decode cX12_tells 21 = .ok (.aload_n 0, 1) := by decide +kernel
theorem dX12_tells_22 : decode cX12_tells 22 = .ok (.iload 6, 2) := by decide +kernel
theorem dX12_tells_24 : decode cX12_tells 24 = .ok (.iload 7, 2) := by decide +kernel
theorem dX12_tells_26 : decode cX12_tells 26 = .ok (.invokevirtual 66, 3) := by decide +kernel
theorem dX12_tells_29 : decode cX12_tells 29 = .ok (.lconst 0, 1) := by decide +kernel
theorem dX12_tells_30 : decode cX12_tells 30 = .ok (.lastore, 1) := by decide +kernel
theorem dX12_tells_31 : decode cX12_tells 31 = .ok (.iinc 7 1, 3) := by decide +kernel
theorem dX12_tells_34 : decode cX12_tells 34 = .ok (.goto (-25), 3) := by decide +kernel
theorem dX12_tells_37 : decode cX12_tells 37 = .ok (.aload_n 0, 1) := by decide +kernel
theorem dX12_tells_38 : decode cX12_tells 38 = .ok (.getfield 11, 3) := by decide +kernel
theorem dX12_tells_41 : decode cX12_tells 41 = .ok (.aload_n 0, 1) := by decide +kernel
theorem dX12_tells_42 : decode cX12_tells 42 = .ok (.iload 6, 2) := by decide +kernel
theorem dX12_tells_44 : decode cX12_tells 44 = .ok (.iconst 0, 1) := by decide +kernel
theorem dX12_tells_45 : decode cX12_tells 45 = .ok (.invokevirtual 66, 3) := by decide +kernel
theorem dX12_tells_48 : decode cX12_tells 48 = .ok (.iload_n 1, 1) := by decide +kernel
theorem dX12_tells_49 : decode cX12_tells 49 = .ok (.i2l, 1) := by decide +kernel
theorem dX12_tells_50 : decode cX12_tells 50 = .ok (.lastore, 1) := by decide +kernel
theorem dX12_tells_51 : decode cX12_tells 51 = .ok (.aload_n 0, 1) := by decide +kernel
theorem dX12_tells_52 : decode cX12_tells 52 = .ok (.getfield 11, 3) := by decide +kernel
theorem dX12_tells_55 : decode cX12_tells 55 = .ok (.aload_n 0, 1) := by decide +kernel
theorem dX12_tells_56 : decode cX12_tells 56 = .ok (.iload 6, 2) := by decide +kernel
theorem dX12_tells_58 : decode cX12_tells 58 = .ok (.iconst 1, 1) := by decide +kernel
theorem dX12_tells_59 : decode cX12_tells 59 = .ok (.invokevirtual 66, 3) := by decide +kernel
theorem dX12_tells_62 : decode cX12_tells 62 = .ok (.iload_n 2, 1) := by decide +kernel
theorem dX12_tells_63 : decode cX12_tells 63 = .ok (.i2l, 1) := by decide +kernel
theorem dX12_tells_64 : decode cX12_tells 64 = .ok (.lastore, 1) := by decide +kernel
theorem dX12_tells_65 : decode cX12_tells 65 = .ok (.aload_n 0, 1) := by decide +kernel
theorem dX12_tells_66 : decode cX12_tells 66 = .ok (.getfield 11, 3) := by decide +kernel
theorem dX12_tells_69 : decode cX12_tells 69 = .ok (.aload_n 0, 1) := by decide +kernel
theorem dX12_tells_70 : decode cX12_tells 70 = .ok (.iload 6, 2) := by decide +kernel
theorem dX12_tells_72 : decode cX12_tells 72 = .ok (.iconst 2, 1) := by decide +kernel
theorem dX12_tells_73 : decode cX12_tells 73 = .ok (.invokevirtual 66, 3) := by decide +kernel
theorem dX12_tells_76 : decode cX12_tells 76 = .ok (.iload_n 3, 1) := by decide +kernel
theorem dX12_tells_77 : decode cX12_tells 77 = .ok (.i2l, 1) := by decide +kernel
theorem dX12_tells_78 : decode cX12_tells 78 = .ok (.lastore, 1) := by decide +kernel
theorem dX12_tells_79 : decode cX12_tells 79 = .ok (.aload_n 0, 1) := by decide +kernel
theorem dX12_tells_80 : decode cX12_tells 80 = .ok (.getfield 11, 3) := by decide +kernel
theorem dX12_tells_83 : decode cX12_tells 83 = .ok (.aload_n 0, 1) := by decide +kernel
theorem dX12_tells_84 : decode cX12_tells 84 = .ok (.iload 6, 2) := by decide +kernel
theorem dX12_tells_86 : decode cX12_tells 86 = .ok (.iconst 3, 1) := by decide +kernel
theorem dX12_tells_87 : decode cX12_tells 87 = .ok (.invokevirtual 66, 3) := by decide +kernel
theorem dX12_tells_90 : decode cX12_tells 90 = .ok (.iload 4, 2) := by decide +kernel
theorem dX12_tells_92 : decode cX12_tells 92 = .ok (.i2l, 1) := by decide +kernel
theorem dX12_tells_93 : decode cX12_tells 93 = .ok (.lastore, 1) := by decide +kernel
theorem dX12_tells_94 : decode cX12_tells 94 = .ok (.aload_n 0, 1) := by decide +kernel
theorem dX12_tells_95 : decode cX12_tells 95 = .ok (.getfield 11, 3) := by decide +kernel
theorem dX12_tells_98 : decode cX12_tells 98 = .ok (.aload_n 0, 1) := by decide +kernel
theorem dX12_tells_99 : decode cX12_tells 99 = .ok (.iload 6, 2) := by decide +kernel
theorem dX12_tells_101 : decode cX12_tells 101 = .ok (.iconst 4, 1) := by decide +kernel
theorem dX12_tells_102 : decode cX12_tells 102 = .ok (.invokevirtual 66, 3) := by decide +kernel
theorem dX12_tells_105 : decode cX12_tells 105 = .ok (.iload 5, 2) := by decide +kernel
theorem dX12_tells_107 : decode cX12_tells 107 = .ok (.i2l, 1) := by decide +kernel
theorem dX12_tells_108 : decode cX12_tells 108 = .ok (.lastore, 1) := by decide +kernel
theorem dX12_tells_109 : decode cX12_tells 109 = .ok (.aload_n 0, 1) := by decide +kernel
theorem dX12_tells_110 : decode cX12_tells 110 = .ok (.getfield 11, 3) := by decide +kernel
theorem dX12_tells_113 : decode cX12_tells 113 = .ok (.bipush 61, 2) := by decide +kernel
theorem dX12_tells_115 : decode cX12_tells 115 = .ok (.iload 6, 2) := by decide +kernel
theorem dX12_tells_117 : decode cX12_tells 117 = .ok (.iconst 1, 1) := by decide +kernel
theorem dX12_tells_118 : decode cX12_tells 118 = .ok (.iadd, 1) := by decide +kernel
theorem dX12_tells_119 : decode cX12_tells 119 = .ok (.i2l, 1) := by decide +kernel
theorem dX12_tells_120 : decode cX12_tells 120 = .ok (.lastore, 1) := by decide +kernel
theorem dX12_tells_121 : decode cX12_tells 121 = .ok (.iload 6, 2) := by decide +kernel
theorem dX12_tells_123 : decode cX12_tells 123 = .ok (.ireturn, 1) := by decide +kernel
def fX12_tells_L9 (n : Nat) : Nat → Nat → Int32 → Int32 → Int32 → Int32 → Int32 → Int32 → Int32 → Mm → Option (Int32 × Mm)
| 0, _, _, _, _, _, _, _, _, _ => none
| j + 1, r0, v1, v2, v3, v4, v5, v6, v7, X =>
if (500 : Int32) ≤ v7 then (
if mT X r0 = 12 then
if mR X r0 1 ≠ 0 then
bd (fX12_of r0 v6 (0 : Int32) X) fun w6 X45_7 =>
if mT X45_7 (mR X r0 1) = 15 then
if q_b X45_7 (mR X r0 1) w6 then
nm (sJ X45_7 (mR X r0 1) (w6).toNatClampNeg ((v1).toInt64)) fun X50_8 =>
if mT X50_8 r0 = 12 then
if mR X50_8 r0 1 ≠ 0 then
bd (fX12_of r0 v6 (1 : Int32) X50_8) fun w13 X59_14 =>
if mT X59_14 (mR X50_8 r0 1) = 15 then
if q_b X59_14 (mR X50_8 r0 1) w13 then
nm (sJ X59_14 (mR X50_8 r0 1) (w13).toNatClampNeg ((v2).toInt64)) fun X64_15 =>
if mT X64_15 r0 = 12 then
if mR X64_15 r0 1 ≠ 0 then
bd (fX12_of r0 v6 (2 : Int32) X64_15) fun w20 X73_21 =>
if mT X73_21 (mR X64_15 r0 1) = 15 then
if q_b X73_21 (mR X64_15 r0 1) w20 then
nm (sJ X73_21 (mR X64_15 r0 1) (w20).toNatClampNeg ((v3).toInt64)) fun X78_22 =>
if mT X78_22 r0 = 12 then
if mR X78_22 r0 1 ≠ 0 then
bd (fX12_of r0 v6 (3 : Int32) X78_22) fun w27 X87_28 =>
if mT X87_28 (mR X78_22 r0 1) = 15 then
if q_b X87_28 (mR X78_22 r0 1) w27 then
nm (sJ X87_28 (mR X78_22 r0 1) (w27).toNatClampNeg ((v4).toInt64)) fun X93_29 =>
if mT X93_29 r0 = 12 then
if mR X93_29 r0 1 ≠ 0 then
bd (fX12_of r0 v6 (4 : Int32) X93_29) fun w34 X102_35 =>
if mT X102_35 (mR X93_29 r0 1) = 15 then
if q_b X102_35 (mR X93_29 r0 1) w34 then
nm (sJ X102_35 (mR X93_29 r0 1) (w34).toNatClampNeg ((v5).toInt64)) fun X108_36 =>
if mT X108_36 r0 = 12 then
if mR X108_36 r0 1 ≠ 0 then
if mT X108_36 (mR X108_36 r0 1) = 15 then
if q_b X108_36 (mR X108_36 r0 1) (61 : Int32) then
nm (sJ X108_36 (mR X108_36 r0 1) ((61 : Int32)).toNatClampNeg (((v6 + (1 : Int32))).toInt64)) fun X120_41 =>
some (v6, X120_41)
else none
else none
else none
else none
else none
else none
else none
else none
else none
else none
else none
else none
else none
else none
else none
else none
else none
else none
else none
else none
else none
else none
else none
else none
) else (
if mT X r0 = 12 then
if mR X r0 1 ≠ 0 then
bd (fX12_of r0 v6 v7 X) fun w46 X26_47 =>
if mT X26_47 (mR X r0 1) = 15 then
if q_b X26_47 (mR X r0 1) w46 then
nm (sJ X26_47 (mR X r0 1) (w46).toNatClampNeg (0 : Int64)) fun X30_48 =>
nm (v7 + (1 : Int32)) fun v7_31 =>
(fX12_tells_L9 n j) r0 v1 v2 v3 v4 v5 v6 v7_31 X30_48
else none
else none
else none
else none
)
def fX12_tells (n : Nat) (r0 : Nat) (v1 : Int32) (v2 : Int32) (v3 : Int32) (v4 : Int32) (v5 : Int32) (X : Mm) : Option (Int32 × Mm) :=
if mT X r0 = 12 then
bd (fX12_eventMany r0 X) fun w1 X1_2 =>
fX12_tells_L9 n n r0 v1 v2 v3 v4 v5 w1 (0 : Int32) X1_2
else none
theorem gX12_tells_L9 {E : q_E} {X0 : Mm} (C : Cx E cX12_tells RX12 8 (some .int) (q_rm 1 22 0 0) X0) (n : Nat) : ∀ (j : Nat) (r0 : Nat) (v1 : Int32) (v2 : Int32) (v3 : Int32) (v4 : Int32) (v5 : Int32) (v6 : Int32) (v7 : Int32) (X : Mm), Sm E (q_fin E q_eI X0 0 0) 0 0 9 [(0, .ref (q_P E + r0)), (1, .int v1), (2, .int v2), (3, .int v3), (4, .int v4), (5, .int v5), (6, .int v6), (7, .int v7)] [] X (fX12_tells_L9 n j r0 v1 v2 v3 v4 v5 v6 v7 X) := by
  intro j
  induction j with
  | zero => intros; exact Sm.none
  | succ j ih =>
    intro r0 v1 v2 v3 v4 v5 v6 v7 X
    rw [fX12_tells_L9]
    refine q_iload C 7 dX12_tells_9 rfl ?_
    refine q_sipush C (500 : Int32) dX12_tells_11 rfl ?_
    refine q_icmp_ge C 37 dX12_tells_14 (by decide) (fun _ => ?_) (fun _ => ?_)
    · refine q_aload_n C 0 dX12_tells_37 rfl rfl ?_
      refine q_chk (fun h4 => ?_)
      refine q_chk (fun h5 => ?_)
      refine p_getR C fgX12_11 rfl dX12_tells_38 h4 h5 ?_
      refine q_aload_n C 0 dX12_tells_41 rfl rfl ?_
      refine q_iload C 6 dX12_tells_42 rfl ?_
      refine q_iconst C (0 : Int32) dX12_tells_44 rfl ?_
      refine q_cVI (As := (fun P => [.int v6, .int (0 : Int32)])) C [.ref (q_P E + (mR X r0 1))] (sX12_of r0 v6 (0 : Int32)) fcX12_66 rfl (fun _ => rfl) ⟨Nat.le_of_ble_eq_true rfl, Nat.le_of_ble_eq_true rfl⟩ ⟨Nat.le_of_ble_eq_true rfl, Nat.le_of_ble_eq_true rfl⟩ (Nat.le_of_ble_eq_true rfl) dX12_tells_45 h4 (fun w6 X45_7 => ?_)
      refine q_iload_n C 1 dX12_tells_48 rfl rfl ?_
      refine q_i2l C dX12_tells_49 ?_
      refine q_chk (fun h9 => ?_)
      refine q_chk (fun h10 => ?_)
      refine p_last C dX12_tells_50 h9 h10 ?_
      refine q_nmX (fun X50_8 => ?_)
      refine q_aload_n C 0 dX12_tells_51 rfl rfl ?_
      refine q_chk (fun h11 => ?_)
      refine q_chk (fun h12 => ?_)
      refine p_getR C fgX12_11 rfl dX12_tells_52 h11 h12 ?_
      refine q_aload_n C 0 dX12_tells_55 rfl rfl ?_
      refine q_iload C 6 dX12_tells_56 rfl ?_
      refine q_iconst C (1 : Int32) dX12_tells_58 rfl ?_
      refine q_cVI (As := (fun P => [.int v6, .int (1 : Int32)])) C [.ref (q_P E + (mR X50_8 r0 1))] (sX12_of r0 v6 (1 : Int32)) fcX12_66 rfl (fun _ => rfl) ⟨Nat.le_of_ble_eq_true rfl, Nat.le_of_ble_eq_true rfl⟩ ⟨Nat.le_of_ble_eq_true rfl, Nat.le_of_ble_eq_true rfl⟩ (Nat.le_of_ble_eq_true rfl) dX12_tells_59 h11 (fun w13 X59_14 => ?_)
      refine q_iload_n C 2 dX12_tells_62 rfl rfl ?_
      refine q_i2l C dX12_tells_63 ?_
      refine q_chk (fun h16 => ?_)
      refine q_chk (fun h17 => ?_)
      refine p_last C dX12_tells_64 h16 h17 ?_
      refine q_nmX (fun X64_15 => ?_)
      refine q_aload_n C 0 dX12_tells_65 rfl rfl ?_
      refine q_chk (fun h18 => ?_)
      refine q_chk (fun h19 => ?_)
      refine p_getR C fgX12_11 rfl dX12_tells_66 h18 h19 ?_
      refine q_aload_n C 0 dX12_tells_69 rfl rfl ?_
      refine q_iload C 6 dX12_tells_70 rfl ?_
      refine q_iconst C (2 : Int32) dX12_tells_72 rfl ?_
      refine q_cVI (As := (fun P => [.int v6, .int (2 : Int32)])) C [.ref (q_P E + (mR X64_15 r0 1))] (sX12_of r0 v6 (2 : Int32)) fcX12_66 rfl (fun _ => rfl) ⟨Nat.le_of_ble_eq_true rfl, Nat.le_of_ble_eq_true rfl⟩ ⟨Nat.le_of_ble_eq_true rfl, Nat.le_of_ble_eq_true rfl⟩ (Nat.le_of_ble_eq_true rfl) dX12_tells_73 h18 (fun w20 X73_21 => ?_)
      refine q_iload_n C 3 dX12_tells_76 rfl rfl ?_
      refine q_i2l C dX12_tells_77 ?_
      refine q_chk (fun h23 => ?_)
      refine q_chk (fun h24 => ?_)
      refine p_last C dX12_tells_78 h23 h24 ?_
      refine q_nmX (fun X78_22 => ?_)
      refine q_aload_n C 0 dX12_tells_79 rfl rfl ?_
      refine q_chk (fun h25 => ?_)
      refine q_chk (fun h26 => ?_)
      refine p_getR C fgX12_11 rfl dX12_tells_80 h25 h26 ?_
      refine q_aload_n C 0 dX12_tells_83 rfl rfl ?_
      refine q_iload C 6 dX12_tells_84 rfl ?_
      refine q_iconst C (3 : Int32) dX12_tells_86 rfl ?_
      refine q_cVI (As := (fun P => [.int v6, .int (3 : Int32)])) C [.ref (q_P E + (mR X78_22 r0 1))] (sX12_of r0 v6 (3 : Int32)) fcX12_66 rfl (fun _ => rfl) ⟨Nat.le_of_ble_eq_true rfl, Nat.le_of_ble_eq_true rfl⟩ ⟨Nat.le_of_ble_eq_true rfl, Nat.le_of_ble_eq_true rfl⟩ (Nat.le_of_ble_eq_true rfl) dX12_tells_87 h25 (fun w27 X87_28 => ?_)
      refine q_iload C 4 dX12_tells_90 rfl ?_
      refine q_i2l C dX12_tells_92 ?_
      refine q_chk (fun h30 => ?_)
      refine q_chk (fun h31 => ?_)
      refine p_last C dX12_tells_93 h30 h31 ?_
      refine q_nmX (fun X93_29 => ?_)
      refine q_aload_n C 0 dX12_tells_94 rfl rfl ?_
      refine q_chk (fun h32 => ?_)
      refine q_chk (fun h33 => ?_)
      refine p_getR C fgX12_11 rfl dX12_tells_95 h32 h33 ?_
      refine q_aload_n C 0 dX12_tells_98 rfl rfl ?_
      refine q_iload C 6 dX12_tells_99 rfl ?_
      refine q_iconst C (4 : Int32) dX12_tells_101 rfl ?_
      refine q_cVI (As := (fun P => [.int v6, .int (4 : Int32)])) C [.ref (q_P E + (mR X93_29 r0 1))] (sX12_of r0 v6 (4 : Int32)) fcX12_66 rfl (fun _ => rfl) ⟨Nat.le_of_ble_eq_true rfl, Nat.le_of_ble_eq_true rfl⟩ ⟨Nat.le_of_ble_eq_true rfl, Nat.le_of_ble_eq_true rfl⟩ (Nat.le_of_ble_eq_true rfl) dX12_tells_102 h32 (fun w34 X102_35 => ?_)
      refine q_iload C 5 dX12_tells_105 rfl ?_
      refine q_i2l C dX12_tells_107 ?_
      refine q_chk (fun h37 => ?_)
      refine q_chk (fun h38 => ?_)
      refine p_last C dX12_tells_108 h37 h38 ?_
      refine q_nmX (fun X108_36 => ?_)
      refine q_aload_n C 0 dX12_tells_109 rfl rfl ?_
      refine q_chk (fun h39 => ?_)
      refine q_chk (fun h40 => ?_)
      refine p_getR C fgX12_11 rfl dX12_tells_110 h39 h40 ?_
      refine q_bipush C (61 : Int32) dX12_tells_113 rfl ?_
      refine q_iload C 6 dX12_tells_115 rfl ?_
      refine q_iconst C (1 : Int32) dX12_tells_117 rfl ?_
      refine q_iadd C dX12_tells_118 ?_
      refine q_i2l C dX12_tells_119 ?_
      refine q_chk (fun h42 => ?_)
      refine q_chk (fun h43 => ?_)
      refine p_last C dX12_tells_120 h42 h43 ?_
      refine q_nmX (fun X120_41 => ?_)
      refine q_iload C 6 dX12_tells_121 rfl ?_
      exact q_iret C dX12_tells_123
    · refine q_aload_n C 0 dX12_tells_17 rfl rfl ?_
      refine q_chk (fun h44 => ?_)
      refine q_chk (fun h45 => ?_)
      refine p_getR C fgX12_11 rfl dX12_tells_18 h44 h45 ?_
      refine q_aload_n C 0 dX12_tells_21 rfl rfl ?_
      refine q_iload C 6 dX12_tells_22 rfl ?_
      refine q_iload C 7 dX12_tells_24 rfl ?_
      refine q_cVI (As := (fun P => [.int v6, .int v7])) C [.ref (q_P E + (mR X r0 1))] (sX12_of r0 v6 v7) fcX12_66 rfl (fun _ => rfl) ⟨Nat.le_of_ble_eq_true rfl, Nat.le_of_ble_eq_true rfl⟩ ⟨Nat.le_of_ble_eq_true rfl, Nat.le_of_ble_eq_true rfl⟩ (Nat.le_of_ble_eq_true rfl) dX12_tells_26 h44 (fun w46 X26_47 => ?_)
      refine q_lconst C (0 : Int64) dX12_tells_29 rfl ?_
      refine q_chk (fun h49 => ?_)
      refine q_chk (fun h50 => ?_)
      refine p_last C dX12_tells_30 h49 h50 ?_
      refine q_nmX (fun X30_48 => ?_)
      refine q_iincN C (1 : Int32) 7 (fun v7_31 => [(7, .int v7_31), (0, .ref (q_P E + r0)), (1, .int v1), (2, .int v2), (3, .int v3), (4, .int v4), (5, .int v5), (6, .int v6)]) dX12_tells_31 rfl rfl (Nat.le_of_ble_eq_true rfl) (fun _ => rfl) (fun v7_31 => ?_)
      refine q_goto C 9 dX12_tells_34 (by decide) ?_
      refine q_sub C [(0, .ref (q_P E + r0)), (1, .int v1), (2, .int v2), (3, .int v3), (4, .int v4), (5, .int v5), (6, .int v6), (7, .int v7_31)] [1, 2, 3, 4, 5, 6, 7, 0] rfl ?_
      exact ih r0 v1 v2 v3 v4 v5 v6 v7_31 X30_48
theorem sX12_tells (n : Nat) (r0 : Nat) (v1 : Int32) (v2 : Int32) (v3 : Int32) (v4 : Int32) (v5 : Int32) : q_Ct yX12_tells cX12_tells 8 (some .int) 1 22 0 0 q_eI (fun P => [.ref (P + r0), .int v1, .int v2, .int v3, .int v4, .int v5]) (fX12_tells n r0 v1 v2 v3 v4 v5) := by
  refine q_meth (by decide +kernel) (fun P => Nat.le_of_ble_eq_true rfl) (fun E X C hn => ?_)
  show Sm E (q_fin E q_eI X 0 0) 0 0 0 [(0, .ref (q_P E + r0)), (1, .int v1), (2, .int v2), (3, .int v3), (4, .int v4), (5, .int v5)] [] X _
  unfold fX12_tells
  refine q_aload_n C 0 dX12_tells_0 rfl rfl ?_
  refine q_chk (fun h3 => ?_)
  refine q_cVI (As := (fun P => [])) C [] (sX12_eventMany r0) fcX12_91 rfl (fun _ => rfl) ⟨Nat.le_of_ble_eq_true rfl, Nat.le_of_ble_eq_true rfl⟩ ⟨Nat.le_of_ble_eq_true rfl, Nat.le_of_ble_eq_true rfl⟩ (Nat.le_of_ble_eq_true rfl) dX12_tells_1 h3 (fun w1 X1_2 => ?_)
  refine q_istore C [(6, .int w1), (0, .ref (q_P E + r0)), (1, .int v1), (2, .int v2), (3, .int v3), (4, .int v4), (5, .int v5)] dX12_tells_4 (Nat.le_of_ble_eq_true rfl) rfl ?_
  refine q_iconst C (0 : Int32) dX12_tells_6 rfl ?_
  refine q_istore C [(7, .int (0 : Int32)), (6, .int w1), (0, .ref (q_P E + r0)), (1, .int v1), (2, .int v2), (3, .int v3), (4, .int v4), (5, .int v5)] dX12_tells_7 (Nat.le_of_ble_eq_true rfl) rfl ?_
  refine q_sub C [(0, .ref (q_P E + r0)), (1, .int v1), (2, .int v2), (3, .int v3), (4, .int v4), (5, .int v5), (6, .int w1), (7, .int (0 : Int32))] [2, 3, 4, 5, 6, 7, 1, 0] rfl ?_
  exact gX12_tells_L9 C n n r0 v1 v2 v3 v4 v5 w1 (0 : Int32) X1_2
/-! RecordClaimsModel.terms(IIIII)V -/
abbrev cX12_terms : ByteArray := prog_14_method_23_code
def yX12_terms : MethodName := ⟨RX12, "terms", "(IIIII)V"⟩
theorem dX12_terms_0 : decode cX12_terms 0 = .ok (.aload_n 0, 1) := by decide +kernel
theorem dX12_terms_1 : decode cX12_terms 1 = .ok (.getfield 11, 3) := by decide +kernel
theorem dX12_terms_4 : decode cX12_terms 4 = .ok (.aload_n 0, 1) := by decide +kernel
theorem dX12_terms_5 : decode cX12_terms 5 = .ok (.iload_n 1, 1) := by decide +kernel
theorem dX12_terms_6 : decode cX12_terms 6 = .ok (.bipush 8, 2) := by decide +kernel
theorem dX12_terms_8 : decode cX12_terms 8 = .ok (.invokevirtual 66, 3) := by decide +kernel
theorem dX12_terms_11 : decode cX12_terms 11 = .ok (.iload_n 2, 1) := by decide +kernel
theorem dX12_terms_12 : decode cX12_terms 12 = .ok (.i2l, 1) := by decide +kernel
theorem dX12_terms_13 : decode cX12_terms 13 = .ok (.lastore, 1) := by decide +kernel
theorem dX12_terms_14 : decode cX12_terms 14 = .ok (.aload_n 0, 1) := by decide +kernel
theorem dX12_terms_15 : decode cX12_terms 15 = .ok (.getfield 11, 3) := by decide +kernel
theorem dX12_terms_18 : decode cX12_terms 18 = .ok (.aload_n 0, 1) := by decide +kernel
theorem dX12_terms_19 : decode cX12_terms 19 = .ok (.iload_n 1, 1) := by decide +kernel
theorem dX12_terms_20 : decode cX12_terms 20 = .ok (.bipush 9, 2) := by decide +kernel
theorem dX12_terms_22 : decode cX12_terms 22 = .ok (.invokevirtual 66, 3) := by decide +kernel
theorem dX12_terms_25 : decode cX12_terms 25 = .ok (.iload_n 3, 1) := by decide +kernel
theorem dX12_terms_26 : decode cX12_terms 26 = .ok (.i2l, 1) := by decide +kernel
theorem dX12_terms_27 : decode cX12_terms 27 = .ok (.lastore, 1) := by decide +kernel
theorem dX12_terms_28 : decode cX12_terms 28 = .ok (.aload_n 0, 1) := by decide +kernel
theorem dX12_terms_29 : decode cX12_terms 29 = .ok (.getfield 11, 3) := by decide +kernel
theorem dX12_terms_32 : decode cX12_terms 32 = .ok (.aload_n 0, 1) := by decide +kernel
theorem dX12_terms_33 : decode cX12_terms 33 = .ok (.iload_n 1, 1) := by decide +kernel
theorem dX12_terms_34 : decode cX12_terms 34 = .ok (.bipush 10, 2) := by decide +kernel
theorem dX12_terms_36 : decode cX12_terms 36 = .ok (.invokevirtual 66, 3) := by decide +kernel
theorem dX12_terms_39 : decode cX12_terms 39 = .ok (.iload 4, 2) := by decide +kernel
theorem dX12_terms_41 : decode cX12_terms 41 = .ok (.i2l, 1) := by decide +kernel
theorem dX12_terms_42 : decode cX12_terms 42 = .ok (.lastore, 1) := by decide +kernel
theorem dX12_terms_43 : decode cX12_terms 43 = .ok (.aload_n 0, 1) := by decide +kernel
theorem dX12_terms_44 : decode cX12_terms 44 = .ok (.getfield 11, 3) := by decide +kernel
theorem dX12_terms_47 : decode cX12_terms 47 = .ok (.aload_n 0, 1) := by decide +kernel
theorem dX12_terms_48 : decode cX12_terms 48 = .ok (.iload_n 1, 1) := by decide +kernel
theorem dX12_terms_49 : decode cX12_terms 49 = .ok (.bipush 11, 2) := by decide +kernel
theorem dX12_terms_51 : decode cX12_terms 51 = .ok (.invokevirtual 66, 3) := by decide +kernel
theorem dX12_terms_54 : decode cX12_terms 54 = .ok (.iload 5, 2) := by decide +kernel
theorem dX12_terms_56 : decode cX12_terms 56 = .ok (.i2l, 1) := by decide +kernel
theorem dX12_terms_57 : decode cX12_terms 57 = .ok (.lastore, 1) := by decide +kernel
theorem dX12_terms_58 : decode cX12_terms 58 = .ok (.return_, 1) := by decide +kernel
def fX12_terms (r0 : Nat) (v1 : Int32) (v2 : Int32) (v3 : Int32) (v4 : Int32) (v5 : Int32) (X : Mm) : Option (Unit × Mm) :=
if mT X r0 = 12 then
if mR X r0 1 ≠ 0 then
bd (fX12_of r0 v1 (8 : Int32) X) fun w3 X8_4 =>
if mT X8_4 (mR X r0 1) = 15 then
if q_b X8_4 (mR X r0 1) w3 then
nm (sJ X8_4 (mR X r0 1) (w3).toNatClampNeg ((v2).toInt64)) fun X13_5 =>
if mT X13_5 r0 = 12 then
if mR X13_5 r0 1 ≠ 0 then
bd (fX12_of r0 v1 (9 : Int32) X13_5) fun w10 X22_11 =>
if mT X22_11 (mR X13_5 r0 1) = 15 then
if q_b X22_11 (mR X13_5 r0 1) w10 then
nm (sJ X22_11 (mR X13_5 r0 1) (w10).toNatClampNeg ((v3).toInt64)) fun X27_12 =>
if mT X27_12 r0 = 12 then
if mR X27_12 r0 1 ≠ 0 then
bd (fX12_of r0 v1 (10 : Int32) X27_12) fun w17 X36_18 =>
if mT X36_18 (mR X27_12 r0 1) = 15 then
if q_b X36_18 (mR X27_12 r0 1) w17 then
nm (sJ X36_18 (mR X27_12 r0 1) (w17).toNatClampNeg ((v4).toInt64)) fun X42_19 =>
if mT X42_19 r0 = 12 then
if mR X42_19 r0 1 ≠ 0 then
bd (fX12_of r0 v1 (11 : Int32) X42_19) fun w24 X51_25 =>
if mT X51_25 (mR X42_19 r0 1) = 15 then
if q_b X51_25 (mR X42_19 r0 1) w24 then
nm (sJ X51_25 (mR X42_19 r0 1) (w24).toNatClampNeg ((v5).toInt64)) fun X57_26 =>
some ((), X57_26)
else none
else none
else none
else none
else none
else none
else none
else none
else none
else none
else none
else none
else none
else none
else none
else none
theorem sX12_terms (r0 : Nat) (v1 : Int32) (v2 : Int32) (v3 : Int32) (v4 : Int32) (v5 : Int32) : q_Ct yX12_terms cX12_terms 6 none 1 22 0 0 q_eV (fun P => [.ref (P + r0), .int v1, .int v2, .int v3, .int v4, .int v5]) (fX12_terms r0 v1 v2 v3 v4 v5) := by
  refine q_meth (by decide +kernel) (fun P => Nat.le_of_ble_eq_true rfl) (fun E X C hn => ?_)
  show Sm E (q_fin E q_eV X 0 0) 0 0 0 [(0, .ref (q_P E + r0)), (1, .int v1), (2, .int v2), (3, .int v3), (4, .int v4), (5, .int v5)] [] X _
  unfold fX12_terms
  refine q_aload_n C 0 dX12_terms_0 rfl rfl ?_
  refine q_chk (fun h1 => ?_)
  refine q_chk (fun h2 => ?_)
  refine p_getR C fgX12_11 rfl dX12_terms_1 h1 h2 ?_
  refine q_aload_n C 0 dX12_terms_4 rfl rfl ?_
  refine q_iload_n C 1 dX12_terms_5 rfl rfl ?_
  refine q_bipush C (8 : Int32) dX12_terms_6 rfl ?_
  refine q_cVI (As := (fun P => [.int v1, .int (8 : Int32)])) C [.ref (q_P E + (mR X r0 1))] (sX12_of r0 v1 (8 : Int32)) fcX12_66 rfl (fun _ => rfl) ⟨Nat.le_of_ble_eq_true rfl, Nat.le_of_ble_eq_true rfl⟩ ⟨Nat.le_of_ble_eq_true rfl, Nat.le_of_ble_eq_true rfl⟩ (Nat.le_of_ble_eq_true rfl) dX12_terms_8 h1 (fun w3 X8_4 => ?_)
  refine q_iload_n C 2 dX12_terms_11 rfl rfl ?_
  refine q_i2l C dX12_terms_12 ?_
  refine q_chk (fun h6 => ?_)
  refine q_chk (fun h7 => ?_)
  refine p_last C dX12_terms_13 h6 h7 ?_
  refine q_nmX (fun X13_5 => ?_)
  refine q_aload_n C 0 dX12_terms_14 rfl rfl ?_
  refine q_chk (fun h8 => ?_)
  refine q_chk (fun h9 => ?_)
  refine p_getR C fgX12_11 rfl dX12_terms_15 h8 h9 ?_
  refine q_aload_n C 0 dX12_terms_18 rfl rfl ?_
  refine q_iload_n C 1 dX12_terms_19 rfl rfl ?_
  refine q_bipush C (9 : Int32) dX12_terms_20 rfl ?_
  refine q_cVI (As := (fun P => [.int v1, .int (9 : Int32)])) C [.ref (q_P E + (mR X13_5 r0 1))] (sX12_of r0 v1 (9 : Int32)) fcX12_66 rfl (fun _ => rfl) ⟨Nat.le_of_ble_eq_true rfl, Nat.le_of_ble_eq_true rfl⟩ ⟨Nat.le_of_ble_eq_true rfl, Nat.le_of_ble_eq_true rfl⟩ (Nat.le_of_ble_eq_true rfl) dX12_terms_22 h8 (fun w10 X22_11 => ?_)
  refine q_iload_n C 3 dX12_terms_25 rfl rfl ?_
  refine q_i2l C dX12_terms_26 ?_
  refine q_chk (fun h13 => ?_)
  refine q_chk (fun h14 => ?_)
  refine p_last C dX12_terms_27 h13 h14 ?_
  refine q_nmX (fun X27_12 => ?_)
  refine q_aload_n C 0 dX12_terms_28 rfl rfl ?_
  refine q_chk (fun h15 => ?_)
  refine q_chk (fun h16 => ?_)
  refine p_getR C fgX12_11 rfl dX12_terms_29 h15 h16 ?_
  refine q_aload_n C 0 dX12_terms_32 rfl rfl ?_
  refine q_iload_n C 1 dX12_terms_33 rfl rfl ?_
  refine q_bipush C (10 : Int32) dX12_terms_34 rfl ?_
  refine q_cVI (As := (fun P => [.int v1, .int (10 : Int32)])) C [.ref (q_P E + (mR X27_12 r0 1))] (sX12_of r0 v1 (10 : Int32)) fcX12_66 rfl (fun _ => rfl) ⟨Nat.le_of_ble_eq_true rfl, Nat.le_of_ble_eq_true rfl⟩ ⟨Nat.le_of_ble_eq_true rfl, Nat.le_of_ble_eq_true rfl⟩ (Nat.le_of_ble_eq_true rfl) dX12_terms_36 h15 (fun w17 X36_18 => ?_)
  refine q_iload C 4 dX12_terms_39 rfl ?_
  refine q_i2l C dX12_terms_41 ?_
  refine q_chk (fun h20 => ?_)
  refine q_chk (fun h21 => ?_)
  refine p_last C dX12_terms_42 h20 h21 ?_
  refine q_nmX (fun X42_19 => ?_)
  refine q_aload_n C 0 dX12_terms_43 rfl rfl ?_
  refine q_chk (fun h22 => ?_)
  refine q_chk (fun h23 => ?_)
  refine p_getR C fgX12_11 rfl dX12_terms_44 h22 h23 ?_
  refine q_aload_n C 0 dX12_terms_47 rfl rfl ?_
  refine q_iload_n C 1 dX12_terms_48 rfl rfl ?_
  refine q_bipush C (11 : Int32) dX12_terms_49 rfl ?_
  refine q_cVI (As := (fun P => [.int v1, .int (11 : Int32)])) C [.ref (q_P E + (mR X42_19 r0 1))] (sX12_of r0 v1 (11 : Int32)) fcX12_66 rfl (fun _ => rfl) ⟨Nat.le_of_ble_eq_true rfl, Nat.le_of_ble_eq_true rfl⟩ ⟨Nat.le_of_ble_eq_true rfl, Nat.le_of_ble_eq_true rfl⟩ (Nat.le_of_ble_eq_true rfl) dX12_terms_51 h22 (fun w24 X51_25 => ?_)
  refine q_iload C 5 dX12_terms_54 rfl ?_
  refine q_i2l C dX12_terms_56 ?_
  refine q_chk (fun h27 => ?_)
  refine q_chk (fun h28 => ?_)
  refine p_last C dX12_terms_57 h27 h28 ?_
  refine q_nmX (fun X57_26 => ?_)
  exact q_vret C dX12_terms_58
/-! RecordClaimsModel.pays(IIIII)I -/
abbrev cX12_pays : ByteArray := prog_14_method_24_code
def yX12_pays : MethodName := ⟨RX12, "pays", "(IIIII)I"⟩
theorem dX12_pays_0 : decode cX12_pays 0 = .ok (.aload_n 0, 1) := by decide +kernel
theorem dX12_pays_1 : decode cX12_pays 1 = .ok (.iload_n 1, 1) := by decide +kernel
theorem dX12_pays_2 : decode cX12_pays 2 = .ok (.iload_n 3, 1) := by decide +kernel
theorem dX12_pays_3 : decode cX12_pays 3 = .ok (.iload 4, 2) := by decide +kernel
theorem dX12_pays_5 : decode cX12_pays 5 = .ok (.iload 5, 2) := by decide +kernel
theorem dX12_pays_7 : decode cX12_pays 7 = .ok (.invokevirtual 119, 3) := by decide +kernel
theorem dX12_pays_10 : decode cX12_pays 10 = .ok (.ifCond .eq 16, 3) := by decide +kernel
theorem dX12_pays_13 : decode cX12_pays 13 = .ok (.aload_n 0, 1) := by decide +kernel
theorem dX12_pays_14 : decode cX12_pays 14 = .ok (.iload_n 2, 1) := by decide +kernel
theorem dX12_pays_15 : decode cX12_pays 15 = .ok (.i2l, 1) := by decide +kernel
theorem dX12_pays_16 : decode cX12_pays 16 = .ok (.lconst 1, 1) := by decide +kernel
theorem dX12_pays_17 : decode cX12_pays 17 = .ok (.ldc2_w 123, 3) := by decide +kernel
theorem dX12_pays_20 : decode cX12_pays 20 = .ok (.invokevirtual 80, 3) := by decide +kernel
theorem dX12_pays_23 : decode cX12_pays 23 = .ok (.ifCond .ne 5, 3) := by decide +kernel
theorem dX12_pays_26 : decode cX12_pays 26 = .ok (.iconst (-1), 1) := by decide +kernel
theorem dX12_pays_27 : decode cX12_pays 27 = .ok (.ireturn, 1) := by decide +kernel
theorem dX12_pays_28 : decode cX12_pays 28 = .ok (.aload_n 0, 1) := by decide +kernel
theorem dX12_pays_29 : decode cX12_pays 29 = .ok (.iconst 0, 1) := by decide +kernel
theorem dX12_pays_30 : decode cX12_pays 30 = .ok (.iload_n 1, 1) := by decide +kernel
theorem dX12_pays_31 : decode cX12_pays 31 = .ok (.iload_n 3, 1) := by decide +kernel
theorem dX12_pays_32 : decode cX12_pays 32 = .ok (.iload 4, 2) := by decide +kernel
theorem dX12_pays_34 : decode cX12_pays 34 = .ok (.iload 5, 2) := by decide +kernel
theorem dX12_pays_36 : decode cX12_pays 36 = .ok (.invokevirtual 125, 3) := by decide +kernel
theorem dX12_pays_39 : decode cX12_pays 39 = .ok (.istore 6, 2) := by decide +kernel
theorem dX12_pays_41 : decode cX12_pays 41 = .ok (.aload_n 0, 1) := by decide +kernel
theorem dX12_pays_42 : decode cX12_pays 42 = .ok (.iload 6, 2) := by decide +kernel
theorem dX12_pays_44 : decode cX12_pays 44 = .ok (.iconst 0, 1) := by decide +kernel
theorem dX12_pays_45 : decode cX12_pays 45 = .ok (.iconst 1, 1) := by decide +kernel
theorem dX12_pays_46 : decode cX12_pays 46 = .ok (.iload_n 2, 1) := by decide +kernel
theorem dX12_pays_47 : decode cX12_pays 47 = .ok (.iconst 0, 1) := by decide +kernel
theorem dX12_pays_48 : decode cX12_pays 48 = .ok (.invokevirtual 129, 3) := by decide +kernel
theorem dX12_pays_51 : decode cX12_pays 51 = .ok (.iload 6, 2) := by decide +kernel
theorem dX12_pays_53 : decode cX12_pays 53 = .ok (.ireturn, 1) := by decide +kernel
theorem fcX12_119 : q_LV RX12 119 yX12_canBe cX12_canBe 5 (some .boolean) 4 12 := ⟨q_tb 1527 (by decide +kernel) rfl, q_tb 1529 (by decide +kernel) rfl, q_tbs (q := (yX12_canBe, 35)) 86 (by decide +kernel) rfl, q_tb 13 (by decide +kernel) rfl, q_tb 1530 (by decide +kernel) rfl, ⟨by decide +kernel, by decide +kernel, by decide +kernel⟩, TX12, 35, rfl⟩
theorem fkX12_123 : Cond.constantLong RX12 123 (999 : Int64) ∈ q_tbl := q_tb 1535 (by decide +kernel) rfl
theorem fcX12_125 : q_LV RX12 125 yX12_tells cX12_tells 8 (some .int) 5 12 := ⟨q_tb 1536 (by decide +kernel) rfl, q_tb 1538 (by decide +kernel) rfl, q_tbs (q := (yX12_tells, 35)) 88 (by decide +kernel) rfl, q_tb 13 (by decide +kernel) rfl, q_tb 1539 (by decide +kernel) rfl, ⟨by decide +kernel, by decide +kernel, by decide +kernel⟩, TX12, 35, rfl⟩
theorem fcX12_129 : q_LV RX12 129 yX12_terms cX12_terms 6 none 5 12 := ⟨q_tb 1544 (by decide +kernel) rfl, q_tb 1546 (by decide +kernel) rfl, q_tbs (q := (yX12_terms, 35)) 90 (by decide +kernel) rfl, q_tb 13 (by decide +kernel) rfl, q_tb 1547 (by decide +kernel) rfl, ⟨by decide +kernel, by decide +kernel, by decide +kernel⟩, TX12, 35, rfl⟩
def fX12_pays_L26 (n : Nat) (X : Mm) : Option (Int32 × Mm) :=
some ((-1 : Int32), X)
def fX12_pays (n : Nat) (r0 : Nat) (v1 : Int32) (v2 : Int32) (v3 : Int32) (v4 : Int32) (v5 : Int32) (X : Mm) : Option (Int32 × Mm) :=
if mT X r0 = 12 then
bd (fX12_canBe r0 v1 v3 v4 v5 X) fun w1 X7_2 =>
if w1 = 0 then (
fX12_pays_L26 n X7_2
) else (
if mT X7_2 r0 = 12 then
bd (fX12_isIn r0 (((v2).toInt64)) (1 : Int64) (999 : Int64) X7_2) fun w4 X20_5 =>
if w4 = 0 then (
fX12_pays_L26 n X20_5
) else (
if mT X20_5 r0 = 12 then
bd (fX12_tells n r0 (0 : Int32) v1 v3 v4 v5 X20_5) fun w7 X36_8 =>
if mT X36_8 r0 = 12 then
bd (fX12_terms r0 w7 (0 : Int32) (1 : Int32) v2 (0 : Int32) X36_8) fun _ X48_11 =>
some (w7, X48_11)
else none
else none
)
else none
)
else none
theorem gX12_pays_L26 {E : q_E} {X0 : Mm} (C : Cx E cX12_pays RX12 7 (some .int) (q_rm 3 71 0 0) X0) (n : Nat) (X : Mm) : Sm E (q_fin E q_eI X0 0 0) 0 0 26 [] [] X (fX12_pays_L26 n  X) := by
  unfold fX12_pays_L26
  refine q_iconst C (-1 : Int32) dX12_pays_26 rfl ?_
  exact q_iret C dX12_pays_27
theorem sX12_pays (n : Nat) (r0 : Nat) (v1 : Int32) (v2 : Int32) (v3 : Int32) (v4 : Int32) (v5 : Int32) : q_Ct yX12_pays cX12_pays 7 (some .int) 3 71 0 0 q_eI (fun P => [.ref (P + r0), .int v1, .int v2, .int v3, .int v4, .int v5]) (fX12_pays n r0 v1 v2 v3 v4 v5) := by
  refine q_meth (by decide +kernel) (fun P => Nat.le_of_ble_eq_true rfl) (fun E X C hn => ?_)
  show Sm E (q_fin E q_eI X 0 0) 0 0 0 [(0, .ref (q_P E + r0)), (1, .int v1), (2, .int v2), (3, .int v3), (4, .int v4), (5, .int v5)] [] X _
  unfold fX12_pays
  refine q_aload_n C 0 dX12_pays_0 rfl rfl ?_
  refine q_iload_n C 1 dX12_pays_1 rfl rfl ?_
  refine q_iload_n C 3 dX12_pays_2 rfl rfl ?_
  refine q_iload C 4 dX12_pays_3 rfl ?_
  refine q_iload C 5 dX12_pays_5 rfl ?_
  refine q_chk (fun h3 => ?_)
  refine q_cVI (As := (fun P => [.int v1, .int v3, .int v4, .int v5])) C [] (sX12_canBe r0 v1 v3 v4 v5) fcX12_119 rfl (fun _ => rfl) ⟨Nat.le_of_ble_eq_true rfl, Nat.le_of_ble_eq_true rfl⟩ ⟨Nat.le_of_ble_eq_true rfl, Nat.le_of_ble_eq_true rfl⟩ (Nat.le_of_ble_eq_true rfl) dX12_pays_7 h3 (fun w1 X7_2 => ?_)
  refine q_if_eq C 26 dX12_pays_10 (by decide) (fun _ => ?_) (fun _ => ?_)
  · refine q_sub C [] [] rfl ?_
    exact gX12_pays_L26 C n X7_2
  · refine q_aload_n C 0 dX12_pays_13 rfl rfl ?_
    refine q_iload_n C 2 dX12_pays_14 rfl rfl ?_
    refine q_i2l C dX12_pays_15 ?_
    refine q_lconst C (1 : Int64) dX12_pays_16 rfl ?_
    refine q_ldc2 C dX12_pays_17 fkX12_123 ?_
    refine q_chk (fun h6 => ?_)
    refine q_cVI (As := (fun P => [.long ((v2).toInt64), .long (1 : Int64), .long (999 : Int64)])) C [] (sX12_isIn r0 (((v2).toInt64)) (1 : Int64) (999 : Int64)) fcX12_80 rfl (fun _ => rfl) ⟨Nat.le_of_ble_eq_true rfl, Nat.le_of_ble_eq_true rfl⟩ ⟨Nat.le_of_ble_eq_true rfl, Nat.le_of_ble_eq_true rfl⟩ (Nat.le_of_ble_eq_true rfl) dX12_pays_20 h6 (fun w4 X20_5 => ?_)
    refine q_if_ne C 28 dX12_pays_23 (by decide) (fun _ => ?_) (fun _ => ?_)
    · refine q_sub C [] [] rfl ?_
      exact gX12_pays_L26 C n X20_5
    · refine q_aload_n C 0 dX12_pays_28 rfl rfl ?_
      refine q_iconst C (0 : Int32) dX12_pays_29 rfl ?_
      refine q_iload_n C 1 dX12_pays_30 rfl rfl ?_
      refine q_iload_n C 3 dX12_pays_31 rfl rfl ?_
      refine q_iload C 4 dX12_pays_32 rfl ?_
      refine q_iload C 5 dX12_pays_34 rfl ?_
      refine q_chk (fun h9 => ?_)
      refine q_cVI (As := (fun P => [.int (0 : Int32), .int v1, .int v3, .int v4, .int v5])) C [] (sX12_tells n r0 (0 : Int32) v1 v3 v4 v5) fcX12_125 rfl (fun _ => rfl) ⟨Nat.le_of_ble_eq_true rfl, Nat.le_of_ble_eq_true rfl⟩ ⟨Nat.le_of_ble_eq_true rfl, Nat.le_of_ble_eq_true rfl⟩ (Nat.le_of_ble_eq_true rfl) dX12_pays_36 h9 (fun w7 X36_8 => ?_)
      refine q_istore C [(6, .int w7), (0, .ref (q_P E + r0)), (1, .int v1), (2, .int v2), (3, .int v3), (4, .int v4), (5, .int v5)] dX12_pays_39 (Nat.le_of_ble_eq_true rfl) rfl ?_
      refine q_aload_n C 1 dX12_pays_41 rfl rfl ?_
      refine q_iload C 0 dX12_pays_42 rfl ?_
      refine q_iconst C (0 : Int32) dX12_pays_44 rfl ?_
      refine q_iconst C (1 : Int32) dX12_pays_45 rfl ?_
      refine q_iload_n C 3 dX12_pays_46 rfl rfl ?_
      refine q_iconst C (0 : Int32) dX12_pays_47 rfl ?_
      refine q_chk (fun h12 => ?_)
      refine q_cVV (As := (fun P => [.int w7, .int (0 : Int32), .int (1 : Int32), .int v2, .int (0 : Int32)])) C [] (sX12_terms r0 w7 (0 : Int32) (1 : Int32) v2 (0 : Int32)) fcX12_129 rfl (fun _ => rfl) ⟨Nat.le_of_ble_eq_true rfl, Nat.le_of_ble_eq_true rfl⟩ ⟨Nat.le_of_ble_eq_true rfl, Nat.le_of_ble_eq_true rfl⟩ (Nat.le_of_ble_eq_true rfl) dX12_pays_48 h12 (fun _ X48_11 => ?_)
      refine q_iload C 0 dX12_pays_51 rfl ?_
      exact q_iret C dX12_pays_53
/-! RecordClaimsModel.gives(IIIIIII)I -/
abbrev cX12_gives : ByteArray := prog_14_method_25_code
def yX12_gives : MethodName := ⟨RX12, "gives", "(IIIIIII)I"⟩
theorem dX12_gives_0 : decode cX12_gives 0 = .ok (.aload_n 0, 1) := by decide +kernel
theorem dX12_gives_1 : decode cX12_gives 1 = .ok (.iload_n 1, 1) := by decide +kernel
theorem dX12_gives_2 : decode cX12_gives 2 = .ok (.iload 5, 2) := by decide +kernel
theorem dX12_gives_4 : decode cX12_gives 4 = .ok (.iload 6, 2) := by decide +kernel
theorem dX12_gives_6 : decode cX12_gives 6 = .ok (.iload 7, 2) := by decide +kernel
theorem dX12_gives_8 : decode cX12_gives 8 = .ok (.invokevirtual 119, 3) := by decide +kernel
theorem dX12_gives_11 : decode cX12_gives 11 = .ok (.ifCond .eq 43, 3) := by decide +kernel
theorem dX12_gives_14 : decode cX12_gives 14 = .ok (.aload_n 0, 1) := by decide +kernel
theorem dX12_gives_15 : decode cX12_gives 15 = .ok (.iload_n 2, 1) := by decide +kernel
theorem dX12_gives_16 : decode cX12_gives 16 = .ok (.i2l, 1) := by decide +kernel
theorem dX12_gives_17 : decode cX12_gives 17 = .ok (.lconst 1, 1) := by decide +kernel
theorem dX12_gives_18 : decode cX12_gives 18 = .ok (.ldc2_w 109, 3) := by decide +kernel
theorem dX12_gives_21 : decode cX12_gives 21 = .ok (.invokevirtual 80, 3) := by decide +kernel
theorem dX12_gives_24 : decode cX12_gives 24 = .ok (.ifCond .eq 30, 3) := by decide +kernel
theorem dX12_gives_27 : decode cX12_gives 27 = .ok (.aload_n 0, 1) := by decide +kernel
theorem dX12_gives_28 : decode cX12_gives 28 = .ok (.iload_n 3, 1) := by decide +kernel
theorem dX12_gives_29 : decode cX12_gives 29 = .ok (.i2l, 1) := by decide +kernel
theorem dX12_gives_30 : decode cX12_gives 30 = .ok (.lconst 1, 1) := by decide +kernel
theorem dX12_gives_31 : decode cX12_gives 31 = .ok (.ldc2_w 109, 3) := by decide +kernel
theorem dX12_gives_34 : decode cX12_gives 34 = .ok (.invokevirtual 80, 3) := by decide +kernel
theorem dX12_gives_37 : decode cX12_gives 37 = .ok (.ifCond .eq 17, 3) := by decide +kernel
theorem dX12_gives_40 : decode cX12_gives 40 = .ok (.aload_n 0, 1) := by decide +kernel
theorem dX12_gives_41 : decode cX12_gives 41 = .ok (.iload 4, 2) := by decide +kernel
theorem dX12_gives_43 : decode cX12_gives 43 = .ok (.i2l, 1) := by decide +kernel
theorem dX12_gives_44 : decode cX12_gives 44 = .ok (.lconst 0, 1) := by decide +kernel
theorem dX12_gives_45 : decode cX12_gives 45 = .ok (.ldc2_w 123, 3) := by decide +kernel
theorem dX12_gives_48 : decode cX12_gives 48 = .ok (.invokevirtual 80, 3) := by decide +kernel
theorem dX12_gives_51 : decode cX12_gives 51 = .ok (.ifCond .ne 5, 3) := by decide +kernel
theorem dX12_gives_54 : decode cX12_gives 54 = .ok (.iconst (-1), 1) := by decide +kernel
theorem dX12_gives_55 : decode cX12_gives 55 = .ok (.ireturn, 1) := by decide +kernel
theorem dX12_gives_56 : decode cX12_gives 56 = .ok (.aload_n 0, 1) := by decide +kernel
theorem dX12_gives_57 : decode cX12_gives 57 = .ok (.iconst 1, 1) := by decide +kernel
theorem dX12_gives_58 : decode cX12_gives 58 = .ok (.iload_n 1, 1) := by decide +kernel
theorem dX12_gives_59 : decode cX12_gives 59 = .ok (.iload 5, 2) := by decide +kernel
theorem dX12_gives_61 : decode cX12_gives 61 = .ok (.iload 6, 2) := by decide +kernel
theorem dX12_gives_63 : decode cX12_gives 63 = .ok (.iload 7, 2) := by decide +kernel
theorem dX12_gives_65 : decode cX12_gives 65 = .ok (.invokevirtual 125, 3) := by decide +kernel
theorem dX12_gives_68 : decode cX12_gives 68 = .ok (.istore 8, 2) := by decide +kernel
theorem dX12_gives_70 : decode cX12_gives 70 = .ok (.aload_n 0, 1) := by decide +kernel
theorem dX12_gives_71 : decode cX12_gives 71 = .ok (.iload 8, 2) := by decide +kernel
theorem dX12_gives_73 : decode cX12_gives 73 = .ok (.iload_n 2, 1) := by decide +kernel
theorem dX12_gives_74 : decode cX12_gives 74 = .ok (.iload_n 3, 1) := by decide +kernel
theorem dX12_gives_75 : decode cX12_gives 75 = .ok (.iconst 0, 1) := by decide +kernel
theorem dX12_gives_76 : decode cX12_gives 76 = .ok (.iload 4, 2) := by decide +kernel
theorem dX12_gives_78 : decode cX12_gives 78 = .ok (.invokevirtual 129, 3) := by decide +kernel
theorem dX12_gives_81 : decode cX12_gives 81 = .ok (.iload 8, 2) := by decide +kernel
theorem dX12_gives_83 : decode cX12_gives 83 = .ok (.ireturn, 1) := by decide +kernel
def fX12_gives_L54 (n : Nat) (X : Mm) : Option (Int32 × Mm) :=
some ((-1 : Int32), X)
def fX12_gives (n : Nat) (r0 : Nat) (v1 : Int32) (v2 : Int32) (v3 : Int32) (v4 : Int32) (v5 : Int32) (v6 : Int32) (v7 : Int32) (X : Mm) : Option (Int32 × Mm) :=
if mT X r0 = 12 then
bd (fX12_canBe r0 v1 v5 v6 v7 X) fun w1 X8_2 =>
if w1 = 0 then (
fX12_gives_L54 n X8_2
) else (
if mT X8_2 r0 = 12 then
bd (fX12_isIn r0 (((v2).toInt64)) (1 : Int64) (9 : Int64) X8_2) fun w4 X21_5 =>
if w4 = 0 then (
fX12_gives_L54 n X21_5
) else (
if mT X21_5 r0 = 12 then
bd (fX12_isIn r0 (((v3).toInt64)) (1 : Int64) (9 : Int64) X21_5) fun w7 X34_8 =>
if w7 = 0 then (
fX12_gives_L54 n X34_8
) else (
if mT X34_8 r0 = 12 then
bd (fX12_isIn r0 (((v4).toInt64)) (0 : Int64) (999 : Int64) X34_8) fun w10 X48_11 =>
if w10 = 0 then (
fX12_gives_L54 n X48_11
) else (
if mT X48_11 r0 = 12 then
bd (fX12_tells n r0 (1 : Int32) v1 v5 v6 v7 X48_11) fun w13 X65_14 =>
if mT X65_14 r0 = 12 then
bd (fX12_terms r0 w13 v2 v3 (0 : Int32) v4 X65_14) fun _ X78_17 =>
some (w13, X78_17)
else none
else none
)
else none
)
else none
)
else none
)
else none
theorem gX12_gives_L54 {E : q_E} {X0 : Mm} (C : Cx E cX12_gives RX12 9 (some .int) (q_rm 3 71 0 0) X0) (n : Nat) (X : Mm) : Sm E (q_fin E q_eI X0 0 0) 0 0 54 [] [] X (fX12_gives_L54 n  X) := by
  unfold fX12_gives_L54
  refine q_iconst C (-1 : Int32) dX12_gives_54 rfl ?_
  exact q_iret C dX12_gives_55
theorem sX12_gives (n : Nat) (r0 : Nat) (v1 : Int32) (v2 : Int32) (v3 : Int32) (v4 : Int32) (v5 : Int32) (v6 : Int32) (v7 : Int32) : q_Ct yX12_gives cX12_gives 9 (some .int) 3 71 0 0 q_eI (fun P => [.ref (P + r0), .int v1, .int v2, .int v3, .int v4, .int v5, .int v6, .int v7]) (fX12_gives n r0 v1 v2 v3 v4 v5 v6 v7) := by
  refine q_meth (by decide +kernel) (fun P => Nat.le_of_ble_eq_true rfl) (fun E X C hn => ?_)
  show Sm E (q_fin E q_eI X 0 0) 0 0 0 [(0, .ref (q_P E + r0)), (1, .int v1), (2, .int v2), (3, .int v3), (4, .int v4), (5, .int v5), (6, .int v6), (7, .int v7)] [] X _
  unfold fX12_gives
  refine q_aload_n C 0 dX12_gives_0 rfl rfl ?_
  refine q_iload_n C 1 dX12_gives_1 rfl rfl ?_
  refine q_iload C 5 dX12_gives_2 rfl ?_
  refine q_iload C 6 dX12_gives_4 rfl ?_
  refine q_iload C 7 dX12_gives_6 rfl ?_
  refine q_chk (fun h3 => ?_)
  refine q_cVI (As := (fun P => [.int v1, .int v5, .int v6, .int v7])) C [] (sX12_canBe r0 v1 v5 v6 v7) fcX12_119 rfl (fun _ => rfl) ⟨Nat.le_of_ble_eq_true rfl, Nat.le_of_ble_eq_true rfl⟩ ⟨Nat.le_of_ble_eq_true rfl, Nat.le_of_ble_eq_true rfl⟩ (Nat.le_of_ble_eq_true rfl) dX12_gives_8 h3 (fun w1 X8_2 => ?_)
  refine q_if_eq C 54 dX12_gives_11 (by decide) (fun _ => ?_) (fun _ => ?_)
  · refine q_sub C [] [] rfl ?_
    exact gX12_gives_L54 C n X8_2
  · refine q_aload_n C 0 dX12_gives_14 rfl rfl ?_
    refine q_iload_n C 2 dX12_gives_15 rfl rfl ?_
    refine q_i2l C dX12_gives_16 ?_
    refine q_lconst C (1 : Int64) dX12_gives_17 rfl ?_
    refine q_ldc2 C dX12_gives_18 fkX12_109 ?_
    refine q_chk (fun h6 => ?_)
    refine q_cVI (As := (fun P => [.long ((v2).toInt64), .long (1 : Int64), .long (9 : Int64)])) C [] (sX12_isIn r0 (((v2).toInt64)) (1 : Int64) (9 : Int64)) fcX12_80 rfl (fun _ => rfl) ⟨Nat.le_of_ble_eq_true rfl, Nat.le_of_ble_eq_true rfl⟩ ⟨Nat.le_of_ble_eq_true rfl, Nat.le_of_ble_eq_true rfl⟩ (Nat.le_of_ble_eq_true rfl) dX12_gives_21 h6 (fun w4 X21_5 => ?_)
    refine q_if_eq C 54 dX12_gives_24 (by decide) (fun _ => ?_) (fun _ => ?_)
    · refine q_sub C [] [] rfl ?_
      exact gX12_gives_L54 C n X21_5
    · refine q_aload_n C 0 dX12_gives_27 rfl rfl ?_
      refine q_iload_n C 3 dX12_gives_28 rfl rfl ?_
      refine q_i2l C dX12_gives_29 ?_
      refine q_lconst C (1 : Int64) dX12_gives_30 rfl ?_
      refine q_ldc2 C dX12_gives_31 fkX12_109 ?_
      refine q_chk (fun h9 => ?_)
      refine q_cVI (As := (fun P => [.long ((v3).toInt64), .long (1 : Int64), .long (9 : Int64)])) C [] (sX12_isIn r0 (((v3).toInt64)) (1 : Int64) (9 : Int64)) fcX12_80 rfl (fun _ => rfl) ⟨Nat.le_of_ble_eq_true rfl, Nat.le_of_ble_eq_true rfl⟩ ⟨Nat.le_of_ble_eq_true rfl, Nat.le_of_ble_eq_true rfl⟩ (Nat.le_of_ble_eq_true rfl) dX12_gives_34 h9 (fun w7 X34_8 => ?_)
      refine q_if_eq C 54 dX12_gives_37 (by decide) (fun _ => ?_) (fun _ => ?_)
      · refine q_sub C [] [] rfl ?_
        exact gX12_gives_L54 C n X34_8
      · refine q_aload_n C 0 dX12_gives_40 rfl rfl ?_
        refine q_iload C 4 dX12_gives_41 rfl ?_
        refine q_i2l C dX12_gives_43 ?_
        refine q_lconst C (0 : Int64) dX12_gives_44 rfl ?_
        refine q_ldc2 C dX12_gives_45 fkX12_123 ?_
        refine q_chk (fun h12 => ?_)
        refine q_cVI (As := (fun P => [.long ((v4).toInt64), .long (0 : Int64), .long (999 : Int64)])) C [] (sX12_isIn r0 (((v4).toInt64)) (0 : Int64) (999 : Int64)) fcX12_80 rfl (fun _ => rfl) ⟨Nat.le_of_ble_eq_true rfl, Nat.le_of_ble_eq_true rfl⟩ ⟨Nat.le_of_ble_eq_true rfl, Nat.le_of_ble_eq_true rfl⟩ (Nat.le_of_ble_eq_true rfl) dX12_gives_48 h12 (fun w10 X48_11 => ?_)
        refine q_if_ne C 56 dX12_gives_51 (by decide) (fun _ => ?_) (fun _ => ?_)
        · refine q_sub C [] [] rfl ?_
          exact gX12_gives_L54 C n X48_11
        · refine q_aload_n C 0 dX12_gives_56 rfl rfl ?_
          refine q_iconst C (1 : Int32) dX12_gives_57 rfl ?_
          refine q_iload_n C 1 dX12_gives_58 rfl rfl ?_
          refine q_iload C 5 dX12_gives_59 rfl ?_
          refine q_iload C 6 dX12_gives_61 rfl ?_
          refine q_iload C 7 dX12_gives_63 rfl ?_
          refine q_chk (fun h15 => ?_)
          refine q_cVI (As := (fun P => [.int (1 : Int32), .int v1, .int v5, .int v6, .int v7])) C [] (sX12_tells n r0 (1 : Int32) v1 v5 v6 v7) fcX12_125 rfl (fun _ => rfl) ⟨Nat.le_of_ble_eq_true rfl, Nat.le_of_ble_eq_true rfl⟩ ⟨Nat.le_of_ble_eq_true rfl, Nat.le_of_ble_eq_true rfl⟩ (Nat.le_of_ble_eq_true rfl) dX12_gives_65 h15 (fun w13 X65_14 => ?_)
          refine q_istore C [(8, .int w13), (0, .ref (q_P E + r0)), (1, .int v1), (2, .int v2), (3, .int v3), (4, .int v4), (5, .int v5), (6, .int v6), (7, .int v7)] dX12_gives_68 (Nat.le_of_ble_eq_true rfl) rfl ?_
          refine q_aload_n C 1 dX12_gives_70 rfl rfl ?_
          refine q_iload C 0 dX12_gives_71 rfl ?_
          refine q_iload_n C 3 dX12_gives_73 rfl rfl ?_
          refine q_iload_n C 4 dX12_gives_74 rfl rfl ?_
          refine q_iconst C (0 : Int32) dX12_gives_75 rfl ?_
          refine q_iload C 5 dX12_gives_76 rfl ?_
          refine q_chk (fun h18 => ?_)
          refine q_cVV (As := (fun P => [.int w13, .int v2, .int v3, .int (0 : Int32), .int v4])) C [] (sX12_terms r0 w13 v2 v3 (0 : Int32) v4) fcX12_129 rfl (fun _ => rfl) ⟨Nat.le_of_ble_eq_true rfl, Nat.le_of_ble_eq_true rfl⟩ ⟨Nat.le_of_ble_eq_true rfl, Nat.le_of_ble_eq_true rfl⟩ (Nat.le_of_ble_eq_true rfl) dX12_gives_78 h18 (fun _ X78_17 => ?_)
          refine q_iload C 0 dX12_gives_81 rfl ?_
          exact q_iret C dX12_gives_83
/-! RecordClaimsModel.offers(IIIIIIIII)I -/
abbrev cX12_offers : ByteArray := prog_14_method_26_code
def yX12_offers : MethodName := ⟨RX12, "offers", "(IIIIIIIII)I"⟩
theorem dX12_offers_0 : decode cX12_offers 0 = .ok (.aload_n 0, 1) := by decide +kernel
theorem dX12_offers_1 : decode cX12_offers 1 = .ok (.iload_n 1, 1) := by decide +kernel
theorem dX12_offers_2 : decode cX12_offers 2 = .ok (.iload 7, 2) := by decide +kernel
theorem dX12_offers_4 : decode cX12_offers 4 = .ok (.iload 8, 2) := by decide +kernel
theorem dX12_offers_6 : decode cX12_offers 6 = .ok (.iload 9, 2) := by decide +kernel
theorem dX12_offers_8 : decode cX12_offers 8 = .ok (.invokevirtual 119, 3) := by decide +kernel
theorem dX12_offers_11 : decode cX12_offers 11 = .ok (.ifCond .eq 73, 3) := by decide +kernel
theorem dX12_offers_14 : decode cX12_offers 14 = .ok (.aload_n 0, 1) := by decide +kernel
theorem dX12_offers_15 : decode cX12_offers 15 = .ok (.iload_n 2, 1) := by decide +kernel
theorem dX12_offers_16 : decode cX12_offers 16 = .ok (.i2l, 1) := by decide +kernel
theorem dX12_offers_17 : decode cX12_offers 17 = .ok (.lconst 1, 1) := by decide +kernel
theorem dX12_offers_18 : decode cX12_offers 18 = .ok (.ldc2_w 109, 3) := by decide +kernel
theorem dX12_offers_21 : decode cX12_offers 21 = .ok (.invokevirtual 80, 3) := by decide +kernel
theorem dX12_offers_24 : decode cX12_offers 24 = .ok (.ifCond .eq 60, 3) := by decide +kernel
theorem dX12_offers_27 : decode cX12_offers 27 = .ok (.aload_n 0, 1) := by decide +kernel
theorem dX12_offers_28 : decode cX12_offers 28 = .ok (.iload_n 3, 1) := by decide +kernel
theorem dX12_offers_29 : decode cX12_offers 29 = .ok (.i2l, 1) := by decide +kernel
theorem dX12_offers_30 : decode cX12_offers 30 = .ok (.lconst 1, 1) := by decide +kernel
theorem dX12_offers_31 : decode cX12_offers 31 = .ok (.ldc2_w 109, 3) := by decide +kernel
theorem dX12_offers_34 : decode cX12_offers 34 = .ok (.invokevirtual 80, 3) := by decide +kernel
theorem dX12_offers_37 : decode cX12_offers 37 = .ok (.ifCond .eq 47, 3) := by decide +kernel
theorem dX12_offers_40 : decode cX12_offers 40 = .ok (.aload_n 0, 1) := by decide +kernel
theorem dX12_offers_41 : decode cX12_offers 41 = .ok (.iload 4, 2) := by decide +kernel
theorem dX12_offers_43 : decode cX12_offers 43 = .ok (.i2l, 1) := by decide +kernel
theorem dX12_offers_44 : decode cX12_offers 44 = .ok (.lconst 0, 1) := by decide +kernel
theorem dX12_offers_45 : decode cX12_offers 45 = .ok (.ldc2_w 123, 3) := by decide +kernel
theorem dX12_offers_48 : decode cX12_offers 48 = .ok (.invokevirtual 80, 3) := by decide +kernel
theorem dX12_offers_51 : decode cX12_offers 51 = .ok (.ifCond .eq 33, 3) := by decide +kernel
theorem dX12_offers_54 : decode cX12_offers 54 = .ok (.aload_n 0, 1) := by decide +kernel
theorem dX12_offers_55 : decode cX12_offers 55 = .ok (.iload 5, 2) := by decide +kernel
theorem dX12_offers_57 : decode cX12_offers 57 = .ok (.i2l, 1) := by decide +kernel
theorem dX12_offers_58 : decode cX12_offers 58 = .ok (.lconst 0, 1) := by decide +kernel
theorem dX12_offers_59 : decode cX12_offers 59 = .ok (.ldc2_w 123, 3) := by decide +kernel
theorem dX12_offers_62 : decode cX12_offers 62 = .ok (.invokevirtual 80, 3) := by decide +kernel
theorem dX12_offers_65 : decode cX12_offers 65 = .ok (.ifCond .eq 19, 3) := by decide +kernel
theorem dX12_offers_68 : decode cX12_offers 68 = .ok (.aload_n 0, 1) := by decide +kernel
theorem dX12_offers_69 : decode cX12_offers 69 = .ok (.iload 6, 2) := by decide +kernel
theorem dX12_offers_71 : decode cX12_offers 71 = .ok (.i2l, 1) := by decide +kernel
theorem dX12_offers_72 : decode cX12_offers 72 = .ok (.iload 8, 2) := by decide +kernel
theorem dX12_offers_74 : decode cX12_offers 74 = .ok (.i2l, 1) := by decide +kernel
theorem dX12_offers_75 : decode cX12_offers 75 = .ok (.iload 9, 2) := by decide +kernel
theorem dX12_offers_77 : decode cX12_offers 77 = .ok (.i2l, 1) := by decide +kernel
theorem dX12_offers_78 : decode cX12_offers 78 = .ok (.invokevirtual 80, 3) := by decide +kernel
theorem dX12_offers_81 : decode cX12_offers 81 = .ok (.ifCond .ne 5, 3) := by decide +kernel
theorem dX12_offers_84 : decode cX12_offers 84 = .ok (.iconst (-1), 1) := by decide +kernel
theorem dX12_offers_85 : decode cX12_offers 85 = .ok (.ireturn, 1) := by decide +kernel
theorem dX12_offers_86 : decode cX12_offers 86 = .ok (.aload_n 0, 1) := by decide +kernel
theorem dX12_offers_87 : decode cX12_offers 87 = .ok (.iconst 2, 1) := by decide +kernel
theorem dX12_offers_88 : decode cX12_offers 88 = .ok (.iload_n 1, 1) := by decide +kernel
theorem dX12_offers_89 : decode cX12_offers 89 = .ok (.iload 7, 2) := by decide +kernel
theorem dX12_offers_91 : decode cX12_offers 91 = .ok (.iload 8, 2) := by decide +kernel
theorem dX12_offers_93 : decode cX12_offers 93 = .ok (.iload 9, 2) := by decide +kernel
theorem dX12_offers_95 : decode cX12_offers 95 = .ok (.invokevirtual 125, 3) := by decide +kernel
theorem dX12_offers_98 : decode cX12_offers 98 = .ok (.istore 10, 2) := by decide +kernel
theorem dX12_offers_100 : decode cX12_offers 100 = .ok (.aload_n 0, 1) := by decide +kernel
theorem dX12_offers_101 : decode cX12_offers 101 = .ok (.iload 10, 2) := by decide +kernel
theorem dX12_offers_103 : decode cX12_offers 103 = .ok (.iload_n 2, 1) := by decide +kernel
theorem dX12_offers_104 : decode cX12_offers 104 = .ok (.iload_n 3, 1) := by decide +kernel
theorem dX12_offers_105 : decode cX12_offers 105 = .ok (.iload 4, 2) := by decide +kernel
theorem dX12_offers_107 : decode cX12_offers 107 = .ok (.iload 5, 2) := by decide +kernel
theorem dX12_offers_109 : decode cX12_offers 109 = .ok (.invokevirtual 129, 3) := by decide +kernel
theorem dX12_offers_112 : decode cX12_offers 112 = .ok (.aload_n 0, 1) := by decide +kernel
theorem dX12_offers_113 : decode cX12_offers 113 = .ok (.getfield 11, 3) := by decide +kernel
theorem dX12_offers_116 : decode cX12_offers 116 = .ok (.aload_n 0, 1) := by decide +kernel
theorem dX12_offers_117 : decode cX12_offers 117 = .ok (.iload 10, 2) := by decide +kernel
theorem dX12_offers_119 : decode cX12_offers 119 = .ok (.bipush 12, 2) := by decide +kernel
theorem dX12_offers_121 : decode cX12_offers 121 = .ok (.invokevirtual 66, 3) := by decide +kernel
theorem dX12_offers_124 : decode cX12_offers 124 = .ok (.iload 6, 2) := by decide +kernel
theorem dX12_offers_126 : decode cX12_offers 126 = .ok (.i2l, 1) := by decide +kernel
theorem dX12_offers_127 : decode cX12_offers 127 = .ok (.lastore, 1) := by decide +kernel
theorem dX12_offers_128 : decode cX12_offers 128 = .ok (.iload 10, 2) := by decide +kernel
theorem dX12_offers_130 : decode cX12_offers 130 = .ok (.ireturn, 1) := by decide +kernel
def fX12_offers_L84 (n : Nat) (X : Mm) : Option (Int32 × Mm) :=
some ((-1 : Int32), X)
def fX12_offers (n : Nat) (r0 : Nat) (v1 : Int32) (v2 : Int32) (v3 : Int32) (v4 : Int32) (v5 : Int32) (v6 : Int32) (v7 : Int32) (v8 : Int32) (v9 : Int32) (X : Mm) : Option (Int32 × Mm) :=
if mT X r0 = 12 then
bd (fX12_canBe r0 v1 v7 v8 v9 X) fun w1 X8_2 =>
if w1 = 0 then (
fX12_offers_L84 n X8_2
) else (
if mT X8_2 r0 = 12 then
bd (fX12_isIn r0 (((v2).toInt64)) (1 : Int64) (9 : Int64) X8_2) fun w4 X21_5 =>
if w4 = 0 then (
fX12_offers_L84 n X21_5
) else (
if mT X21_5 r0 = 12 then
bd (fX12_isIn r0 (((v3).toInt64)) (1 : Int64) (9 : Int64) X21_5) fun w7 X34_8 =>
if w7 = 0 then (
fX12_offers_L84 n X34_8
) else (
if mT X34_8 r0 = 12 then
bd (fX12_isIn r0 (((v4).toInt64)) (0 : Int64) (999 : Int64) X34_8) fun w10 X48_11 =>
if w10 = 0 then (
fX12_offers_L84 n X48_11
) else (
if mT X48_11 r0 = 12 then
bd (fX12_isIn r0 (((v5).toInt64)) (0 : Int64) (999 : Int64) X48_11) fun w13 X62_14 =>
if w13 = 0 then (
fX12_offers_L84 n X62_14
) else (
if mT X62_14 r0 = 12 then
bd (fX12_isIn r0 (((v6).toInt64)) (((v8).toInt64)) (((v9).toInt64)) X62_14) fun w16 X78_17 =>
if w16 = 0 then (
fX12_offers_L84 n X78_17
) else (
if mT X78_17 r0 = 12 then
bd (fX12_tells n r0 (2 : Int32) v1 v7 v8 v9 X78_17) fun w19 X95_20 =>
if mT X95_20 r0 = 12 then
bd (fX12_terms r0 w19 v2 v3 v4 v5 X95_20) fun _ X109_23 =>
if mT X109_23 r0 = 12 then
if mR X109_23 r0 1 ≠ 0 then
bd (fX12_of r0 w19 (12 : Int32) X109_23) fun w27 X121_28 =>
if mT X121_28 (mR X109_23 r0 1) = 15 then
if q_b X121_28 (mR X109_23 r0 1) w27 then
nm (sJ X121_28 (mR X109_23 r0 1) (w27).toNatClampNeg ((v6).toInt64)) fun X127_29 =>
some (w19, X127_29)
else none
else none
else none
else none
else none
else none
)
else none
)
else none
)
else none
)
else none
)
else none
)
else none
theorem gX12_offers_L84 {E : q_E} {X0 : Mm} (C : Cx E cX12_offers RX12 11 (some .int) (q_rm 3 71 0 0) X0) (n : Nat) (X : Mm) : Sm E (q_fin E q_eI X0 0 0) 0 0 84 [] [] X (fX12_offers_L84 n  X) := by
  unfold fX12_offers_L84
  refine q_iconst C (-1 : Int32) dX12_offers_84 rfl ?_
  exact q_iret C dX12_offers_85
theorem sX12_offers (n : Nat) (r0 : Nat) (v1 : Int32) (v2 : Int32) (v3 : Int32) (v4 : Int32) (v5 : Int32) (v6 : Int32) (v7 : Int32) (v8 : Int32) (v9 : Int32) : q_Ct yX12_offers cX12_offers 11 (some .int) 3 71 0 0 q_eI (fun P => [.ref (P + r0), .int v1, .int v2, .int v3, .int v4, .int v5, .int v6, .int v7, .int v8, .int v9]) (fX12_offers n r0 v1 v2 v3 v4 v5 v6 v7 v8 v9) := by
  refine q_meth (by decide +kernel) (fun P => Nat.le_of_ble_eq_true rfl) (fun E X C hn => ?_)
  show Sm E (q_fin E q_eI X 0 0) 0 0 0 [(0, .ref (q_P E + r0)), (1, .int v1), (2, .int v2), (3, .int v3), (4, .int v4), (5, .int v5), (6, .int v6), (7, .int v7), (8, .int v8), (9, .int v9)] [] X _
  unfold fX12_offers
  refine q_aload_n C 0 dX12_offers_0 rfl rfl ?_
  refine q_iload_n C 1 dX12_offers_1 rfl rfl ?_
  refine q_iload C 7 dX12_offers_2 rfl ?_
  refine q_iload C 8 dX12_offers_4 rfl ?_
  refine q_iload C 9 dX12_offers_6 rfl ?_
  refine q_chk (fun h3 => ?_)
  refine q_cVI (As := (fun P => [.int v1, .int v7, .int v8, .int v9])) C [] (sX12_canBe r0 v1 v7 v8 v9) fcX12_119 rfl (fun _ => rfl) ⟨Nat.le_of_ble_eq_true rfl, Nat.le_of_ble_eq_true rfl⟩ ⟨Nat.le_of_ble_eq_true rfl, Nat.le_of_ble_eq_true rfl⟩ (Nat.le_of_ble_eq_true rfl) dX12_offers_8 h3 (fun w1 X8_2 => ?_)
  refine q_if_eq C 84 dX12_offers_11 (by decide) (fun _ => ?_) (fun _ => ?_)
  · refine q_sub C [] [] rfl ?_
    exact gX12_offers_L84 C n X8_2
  · refine q_aload_n C 0 dX12_offers_14 rfl rfl ?_
    refine q_iload_n C 2 dX12_offers_15 rfl rfl ?_
    refine q_i2l C dX12_offers_16 ?_
    refine q_lconst C (1 : Int64) dX12_offers_17 rfl ?_
    refine q_ldc2 C dX12_offers_18 fkX12_109 ?_
    refine q_chk (fun h6 => ?_)
    refine q_cVI (As := (fun P => [.long ((v2).toInt64), .long (1 : Int64), .long (9 : Int64)])) C [] (sX12_isIn r0 (((v2).toInt64)) (1 : Int64) (9 : Int64)) fcX12_80 rfl (fun _ => rfl) ⟨Nat.le_of_ble_eq_true rfl, Nat.le_of_ble_eq_true rfl⟩ ⟨Nat.le_of_ble_eq_true rfl, Nat.le_of_ble_eq_true rfl⟩ (Nat.le_of_ble_eq_true rfl) dX12_offers_21 h6 (fun w4 X21_5 => ?_)
    refine q_if_eq C 84 dX12_offers_24 (by decide) (fun _ => ?_) (fun _ => ?_)
    · refine q_sub C [] [] rfl ?_
      exact gX12_offers_L84 C n X21_5
    · refine q_aload_n C 0 dX12_offers_27 rfl rfl ?_
      refine q_iload_n C 3 dX12_offers_28 rfl rfl ?_
      refine q_i2l C dX12_offers_29 ?_
      refine q_lconst C (1 : Int64) dX12_offers_30 rfl ?_
      refine q_ldc2 C dX12_offers_31 fkX12_109 ?_
      refine q_chk (fun h9 => ?_)
      refine q_cVI (As := (fun P => [.long ((v3).toInt64), .long (1 : Int64), .long (9 : Int64)])) C [] (sX12_isIn r0 (((v3).toInt64)) (1 : Int64) (9 : Int64)) fcX12_80 rfl (fun _ => rfl) ⟨Nat.le_of_ble_eq_true rfl, Nat.le_of_ble_eq_true rfl⟩ ⟨Nat.le_of_ble_eq_true rfl, Nat.le_of_ble_eq_true rfl⟩ (Nat.le_of_ble_eq_true rfl) dX12_offers_34 h9 (fun w7 X34_8 => ?_)
      refine q_if_eq C 84 dX12_offers_37 (by decide) (fun _ => ?_) (fun _ => ?_)
      · refine q_sub C [] [] rfl ?_
        exact gX12_offers_L84 C n X34_8
      · refine q_aload_n C 0 dX12_offers_40 rfl rfl ?_
        refine q_iload C 4 dX12_offers_41 rfl ?_
        refine q_i2l C dX12_offers_43 ?_
        refine q_lconst C (0 : Int64) dX12_offers_44 rfl ?_
        refine q_ldc2 C dX12_offers_45 fkX12_123 ?_
        refine q_chk (fun h12 => ?_)
        refine q_cVI (As := (fun P => [.long ((v4).toInt64), .long (0 : Int64), .long (999 : Int64)])) C [] (sX12_isIn r0 (((v4).toInt64)) (0 : Int64) (999 : Int64)) fcX12_80 rfl (fun _ => rfl) ⟨Nat.le_of_ble_eq_true rfl, Nat.le_of_ble_eq_true rfl⟩ ⟨Nat.le_of_ble_eq_true rfl, Nat.le_of_ble_eq_true rfl⟩ (Nat.le_of_ble_eq_true rfl) dX12_offers_48 h12 (fun w10 X48_11 => ?_)
        refine q_if_eq C 84 dX12_offers_51 (by decide) (fun _ => ?_) (fun _ => ?_)
        · refine q_sub C [] [] rfl ?_
          exact gX12_offers_L84 C n X48_11
        · refine q_aload_n C 0 dX12_offers_54 rfl rfl ?_
          refine q_iload C 5 dX12_offers_55 rfl ?_
          refine q_i2l C dX12_offers_57 ?_
          refine q_lconst C (0 : Int64) dX12_offers_58 rfl ?_
          refine q_ldc2 C dX12_offers_59 fkX12_123 ?_
          refine q_chk (fun h15 => ?_)
          refine q_cVI (As := (fun P => [.long ((v5).toInt64), .long (0 : Int64), .long (999 : Int64)])) C [] (sX12_isIn r0 (((v5).toInt64)) (0 : Int64) (999 : Int64)) fcX12_80 rfl (fun _ => rfl) ⟨Nat.le_of_ble_eq_true rfl, Nat.le_of_ble_eq_true rfl⟩ ⟨Nat.le_of_ble_eq_true rfl, Nat.le_of_ble_eq_true rfl⟩ (Nat.le_of_ble_eq_true rfl) dX12_offers_62 h15 (fun w13 X62_14 => ?_)
          refine q_if_eq C 84 dX12_offers_65 (by decide) (fun _ => ?_) (fun _ => ?_)
          · refine q_sub C [] [] rfl ?_
            exact gX12_offers_L84 C n X62_14
          · refine q_aload_n C 0 dX12_offers_68 rfl rfl ?_
            refine q_iload C 6 dX12_offers_69 rfl ?_
            refine q_i2l C dX12_offers_71 ?_
            refine q_iload C 8 dX12_offers_72 rfl ?_
            refine q_i2l C dX12_offers_74 ?_
            refine q_iload C 9 dX12_offers_75 rfl ?_
            refine q_i2l C dX12_offers_77 ?_
            refine q_chk (fun h18 => ?_)
            refine q_cVI (As := (fun P => [.long ((v6).toInt64), .long ((v8).toInt64), .long ((v9).toInt64)])) C [] (sX12_isIn r0 (((v6).toInt64)) (((v8).toInt64)) (((v9).toInt64))) fcX12_80 rfl (fun _ => rfl) ⟨Nat.le_of_ble_eq_true rfl, Nat.le_of_ble_eq_true rfl⟩ ⟨Nat.le_of_ble_eq_true rfl, Nat.le_of_ble_eq_true rfl⟩ (Nat.le_of_ble_eq_true rfl) dX12_offers_78 h18 (fun w16 X78_17 => ?_)
            refine q_if_ne C 86 dX12_offers_81 (by decide) (fun _ => ?_) (fun _ => ?_)
            · refine q_sub C [] [] rfl ?_
              exact gX12_offers_L84 C n X78_17
            · refine q_aload_n C 0 dX12_offers_86 rfl rfl ?_
              refine q_iconst C (2 : Int32) dX12_offers_87 rfl ?_
              refine q_iload_n C 1 dX12_offers_88 rfl rfl ?_
              refine q_iload C 7 dX12_offers_89 rfl ?_
              refine q_iload C 8 dX12_offers_91 rfl ?_
              refine q_iload C 9 dX12_offers_93 rfl ?_
              refine q_chk (fun h21 => ?_)
              refine q_cVI (As := (fun P => [.int (2 : Int32), .int v1, .int v7, .int v8, .int v9])) C [] (sX12_tells n r0 (2 : Int32) v1 v7 v8 v9) fcX12_125 rfl (fun _ => rfl) ⟨Nat.le_of_ble_eq_true rfl, Nat.le_of_ble_eq_true rfl⟩ ⟨Nat.le_of_ble_eq_true rfl, Nat.le_of_ble_eq_true rfl⟩ (Nat.le_of_ble_eq_true rfl) dX12_offers_95 h21 (fun w19 X95_20 => ?_)
              refine q_istore C [(10, .int w19), (0, .ref (q_P E + r0)), (1, .int v1), (2, .int v2), (3, .int v3), (4, .int v4), (5, .int v5), (6, .int v6), (7, .int v7), (8, .int v8), (9, .int v9)] dX12_offers_98 (Nat.le_of_ble_eq_true rfl) rfl ?_
              refine q_aload_n C 1 dX12_offers_100 rfl rfl ?_
              refine q_iload C 0 dX12_offers_101 rfl ?_
              refine q_iload_n C 3 dX12_offers_103 rfl rfl ?_
              refine q_iload_n C 4 dX12_offers_104 rfl rfl ?_
              refine q_iload C 5 dX12_offers_105 rfl ?_
              refine q_iload C 6 dX12_offers_107 rfl ?_
              refine q_chk (fun h24 => ?_)
              refine q_cVV (As := (fun P => [.int w19, .int v2, .int v3, .int v4, .int v5])) C [] (sX12_terms r0 w19 v2 v3 v4 v5) fcX12_129 rfl (fun _ => rfl) ⟨Nat.le_of_ble_eq_true rfl, Nat.le_of_ble_eq_true rfl⟩ ⟨Nat.le_of_ble_eq_true rfl, Nat.le_of_ble_eq_true rfl⟩ (Nat.le_of_ble_eq_true rfl) dX12_offers_109 h24 (fun _ X109_23 => ?_)
              refine q_aload_n C 1 dX12_offers_112 rfl rfl ?_
              refine q_chk (fun h25 => ?_)
              refine q_chk (fun h26 => ?_)
              refine p_getR C fgX12_11 rfl dX12_offers_113 h25 h26 ?_
              refine q_aload_n C 1 dX12_offers_116 rfl rfl ?_
              refine q_iload C 0 dX12_offers_117 rfl ?_
              refine q_bipush C (12 : Int32) dX12_offers_119 rfl ?_
              refine q_cVI (As := (fun P => [.int w19, .int (12 : Int32)])) C [.ref (q_P E + (mR X109_23 r0 1))] (sX12_of r0 w19 (12 : Int32)) fcX12_66 rfl (fun _ => rfl) ⟨Nat.le_of_ble_eq_true rfl, Nat.le_of_ble_eq_true rfl⟩ ⟨Nat.le_of_ble_eq_true rfl, Nat.le_of_ble_eq_true rfl⟩ (Nat.le_of_ble_eq_true rfl) dX12_offers_121 h25 (fun w27 X121_28 => ?_)
              refine q_iload C 7 dX12_offers_124 rfl ?_
              refine q_i2l C dX12_offers_126 ?_
              refine q_chk (fun h30 => ?_)
              refine q_chk (fun h31 => ?_)
              refine p_last C dX12_offers_127 h30 h31 ?_
              refine q_nmX (fun X127_29 => ?_)
              refine q_iload C 0 dX12_offers_128 rfl ?_
              exact q_iret C dX12_offers_130
/-! RecordClaimsModel.turns(IIIIIII)I -/
abbrev cX12_turns : ByteArray := prog_14_method_27_code
def yX12_turns : MethodName := ⟨RX12, "turns", "(IIIIIII)I"⟩
theorem dX12_turns_0 : decode cX12_turns 0 = .ok (.aload_n 0, 1) := by decide +kernel
theorem dX12_turns_1 : decode cX12_turns 1 = .ok (.iload_n 1, 1) := by decide +kernel
theorem dX12_turns_2 : decode cX12_turns 2 = .ok (.iload 7, 2) := by decide +kernel
theorem dX12_turns_4 : decode cX12_turns 4 = .ok (.iload 7, 2) := by decide +kernel
theorem dX12_turns_6 : decode cX12_turns 6 = .ok (.iload 7, 2) := by decide +kernel
theorem dX12_turns_8 : decode cX12_turns 8 = .ok (.invokevirtual 119, 3) := by decide +kernel
theorem dX12_turns_11 : decode cX12_turns 11 = .ok (.ifCond .eq 71, 3) := by decide +kernel
theorem dX12_turns_14 : decode cX12_turns 14 = .ok (.aload_n 0, 1) := by decide +kernel
theorem dX12_turns_15 : decode cX12_turns 15 = .ok (.iload_n 2, 1) := by decide +kernel
theorem dX12_turns_16 : decode cX12_turns 16 = .ok (.invokevirtual 102, 3) := by decide +kernel
theorem dX12_turns_19 : decode cX12_turns 19 = .ok (.ifCond .eq 63, 3) := by decide +kernel
theorem dX12_turns_22 : decode cX12_turns 22 = .ok (.iload_n 2, 1) := by decide +kernel
theorem dX12_turns_23 : decode cX12_turns 23 = .ok (.iload_n 1, 1) := by decide +kernel
theorem dX12_turns_24 : decode cX12_turns 24 = .ok (.if_icmp .eq 58, 3) := by decide +kernel
theorem dX12_turns_27 : decode cX12_turns 27 = .ok (.aload_n 0, 1) := by decide +kernel
theorem dX12_turns_28 : decode cX12_turns 28 = .ok (.iload_n 3, 1) := by decide +kernel
theorem dX12_turns_29 : decode cX12_turns 29 = .ok (.i2l, 1) := by decide +kernel
theorem dX12_turns_30 : decode cX12_turns 30 = .ok (.lconst 1, 1) := by decide +kernel
theorem dX12_turns_31 : decode cX12_turns 31 = .ok (.ldc2_w 109, 3) := by decide +kernel
theorem dX12_turns_34 : decode cX12_turns 34 = .ok (.invokevirtual 80, 3) := by decide +kernel
theorem dX12_turns_37 : decode cX12_turns 37 = .ok (.ifCond .eq 45, 3) := by decide +kernel
theorem dX12_turns_40 : decode cX12_turns 40 = .ok (.aload_n 0, 1) := by decide +kernel
theorem dX12_turns_41 : decode cX12_turns 41 = .ok (.iload 4, 2) := by decide +kernel
theorem dX12_turns_43 : decode cX12_turns 43 = .ok (.i2l, 1) := by decide +kernel
theorem dX12_turns_44 : decode cX12_turns 44 = .ok (.lconst 1, 1) := by decide +kernel
theorem dX12_turns_45 : decode cX12_turns 45 = .ok (.ldc2_w 109, 3) := by decide +kernel
theorem dX12_turns_48 : decode cX12_turns 48 = .ok (.invokevirtual 80, 3) := by decide +kernel
theorem dX12_turns_51 : decode cX12_turns 51 = .ok (.ifCond .eq 31, 3) := by decide +kernel
theorem dX12_turns_54 : decode cX12_turns 54 = .ok (.aload_n 0, 1) := by decide +kernel
theorem dX12_turns_55 : decode cX12_turns 55 = .ok (.iload 5, 2) := by decide +kernel
theorem dX12_turns_57 : decode cX12_turns 57 = .ok (.i2l, 1) := by decide +kernel
theorem dX12_turns_58 : decode cX12_turns 58 = .ok (.lconst 0, 1) := by decide +kernel
theorem dX12_turns_59 : decode cX12_turns 59 = .ok (.ldc2_w 123, 3) := by decide +kernel
theorem dX12_turns_62 : decode cX12_turns 62 = .ok (.invokevirtual 80, 3) := by decide +kernel
theorem dX12_turns_65 : decode cX12_turns 65 = .ok (.ifCond .eq 17, 3) := by decide +kernel
theorem dX12_turns_68 : decode cX12_turns 68 = .ok (.aload_n 0, 1) := by decide +kernel
theorem dX12_turns_69 : decode cX12_turns 69 = .ok (.iload 6, 2) := by decide +kernel
theorem dX12_turns_71 : decode cX12_turns 71 = .ok (.i2l, 1) := by decide +kernel
theorem dX12_turns_72 : decode cX12_turns 72 = .ok (.lconst 0, 1) := by decide +kernel
theorem dX12_turns_73 : decode cX12_turns 73 = .ok (.ldc2_w 123, 3) := by decide +kernel
theorem dX12_turns_76 : decode cX12_turns 76 = .ok (.invokevirtual 80, 3) := by decide +kernel
theorem dX12_turns_79 : decode cX12_turns 79 = .ok (.ifCond .ne 5, 3) := by decide +kernel
theorem dX12_turns_82 : decode cX12_turns 82 = .ok (.iconst (-1), 1) := by decide +kernel
theorem dX12_turns_83 : decode cX12_turns 83 = .ok (.ireturn, 1) := by decide +kernel
theorem dX12_turns_84 : decode cX12_turns 84 = .ok (.aload_n 0, 1) := by decide +kernel
theorem dX12_turns_85 : decode cX12_turns 85 = .ok (.iconst 3, 1) := by decide +kernel
theorem dX12_turns_86 : decode cX12_turns 86 = .ok (.iload_n 1, 1) := by decide +kernel
theorem dX12_turns_87 : decode cX12_turns 87 = .ok (.iload 7, 2) := by decide +kernel
theorem dX12_turns_89 : decode cX12_turns 89 = .ok (.iload 7, 2) := by decide +kernel
theorem dX12_turns_91 : decode cX12_turns 91 = .ok (.iload 7, 2) := by decide +kernel
theorem dX12_turns_93 : decode cX12_turns 93 = .ok (.invokevirtual 125, 3) := by decide +kernel
theorem dX12_turns_96 : decode cX12_turns 96 = .ok (.istore 8, 2) := by decide +kernel
theorem dX12_turns_98 : decode cX12_turns 98 = .ok (.aload_n 0, 1) := by decide +kernel
theorem dX12_turns_99 : decode cX12_turns 99 = .ok (.iload 8, 2) := by decide +kernel
theorem dX12_turns_101 : decode cX12_turns 101 = .ok (.iload_n 3, 1) := by decide +kernel
theorem dX12_turns_102 : decode cX12_turns 102 = .ok (.iload 4, 2) := by decide +kernel
theorem dX12_turns_104 : decode cX12_turns 104 = .ok (.iload 5, 2) := by decide +kernel
theorem dX12_turns_106 : decode cX12_turns 106 = .ok (.iload 6, 2) := by decide +kernel
theorem dX12_turns_108 : decode cX12_turns 108 = .ok (.invokevirtual 129, 3) := by decide +kernel
theorem dX12_turns_111 : decode cX12_turns 111 = .ok (.aload_n 0, 1) := by decide +kernel
theorem dX12_turns_112 : decode cX12_turns 112 = .ok (.getfield 11, 3) := by decide +kernel
theorem dX12_turns_115 : decode cX12_turns 115 = .ok (.aload_n 0, 1) := by decide +kernel
theorem dX12_turns_116 : decode cX12_turns 116 = .ok (.iload 8, 2) := by decide +kernel
theorem dX12_turns_118 : decode cX12_turns 118 = .ok (.bipush 7, 2) := by decide +kernel
theorem dX12_turns_120 : decode cX12_turns 120 = .ok (.invokevirtual 66, 3) := by decide +kernel
theorem dX12_turns_123 : decode cX12_turns 123 = .ok (.iload_n 2, 1) := by decide +kernel
theorem dX12_turns_124 : decode cX12_turns 124 = .ok (.i2l, 1) := by decide +kernel
theorem dX12_turns_125 : decode cX12_turns 125 = .ok (.lastore, 1) := by decide +kernel
theorem dX12_turns_126 : decode cX12_turns 126 = .ok (.iload 8, 2) := by decide +kernel
theorem dX12_turns_128 : decode cX12_turns 128 = .ok (.ireturn, 1) := by decide +kernel
def fX12_turns_L82 (n : Nat) (X : Mm) : Option (Int32 × Mm) :=
some ((-1 : Int32), X)
def fX12_turns (n : Nat) (r0 : Nat) (v1 : Int32) (v2 : Int32) (v3 : Int32) (v4 : Int32) (v5 : Int32) (v6 : Int32) (v7 : Int32) (X : Mm) : Option (Int32 × Mm) :=
if mT X r0 = 12 then
bd (fX12_canBe r0 v1 v7 v7 v7 X) fun w1 X8_2 =>
if w1 = 0 then (
fX12_turns_L82 n X8_2
) else (
if mT X8_2 r0 = 12 then
bd (fX12_isPaper r0 v2 X8_2) fun w4 X16_5 =>
if w4 = 0 then (
fX12_turns_L82 n X16_5
) else (
if v2 = v1 then (
fX12_turns_L82 n X16_5
) else (
if mT X16_5 r0 = 12 then
bd (fX12_isIn r0 (((v3).toInt64)) (1 : Int64) (9 : Int64) X16_5) fun w7 X34_8 =>
if w7 = 0 then (
fX12_turns_L82 n X34_8
) else (
if mT X34_8 r0 = 12 then
bd (fX12_isIn r0 (((v4).toInt64)) (1 : Int64) (9 : Int64) X34_8) fun w10 X48_11 =>
if w10 = 0 then (
fX12_turns_L82 n X48_11
) else (
if mT X48_11 r0 = 12 then
bd (fX12_isIn r0 (((v5).toInt64)) (0 : Int64) (999 : Int64) X48_11) fun w13 X62_14 =>
if w13 = 0 then (
fX12_turns_L82 n X62_14
) else (
if mT X62_14 r0 = 12 then
bd (fX12_isIn r0 (((v6).toInt64)) (0 : Int64) (999 : Int64) X62_14) fun w16 X76_17 =>
if w16 = 0 then (
fX12_turns_L82 n X76_17
) else (
if mT X76_17 r0 = 12 then
bd (fX12_tells n r0 (3 : Int32) v1 v7 v7 v7 X76_17) fun w19 X93_20 =>
if mT X93_20 r0 = 12 then
bd (fX12_terms r0 w19 v3 v4 v5 v6 X93_20) fun _ X108_23 =>
if mT X108_23 r0 = 12 then
if mR X108_23 r0 1 ≠ 0 then
bd (fX12_of r0 w19 (7 : Int32) X108_23) fun w27 X120_28 =>
if mT X120_28 (mR X108_23 r0 1) = 15 then
if q_b X120_28 (mR X108_23 r0 1) w27 then
nm (sJ X120_28 (mR X108_23 r0 1) (w27).toNatClampNeg ((v2).toInt64)) fun X125_29 =>
some (w19, X125_29)
else none
else none
else none
else none
else none
else none
)
else none
)
else none
)
else none
)
else none
)
)
else none
)
else none
theorem gX12_turns_L82 {E : q_E} {X0 : Mm} (C : Cx E cX12_turns RX12 9 (some .int) (q_rm 3 71 0 0) X0) (n : Nat) (X : Mm) : Sm E (q_fin E q_eI X0 0 0) 0 0 82 [] [] X (fX12_turns_L82 n  X) := by
  unfold fX12_turns_L82
  refine q_iconst C (-1 : Int32) dX12_turns_82 rfl ?_
  exact q_iret C dX12_turns_83
theorem sX12_turns (n : Nat) (r0 : Nat) (v1 : Int32) (v2 : Int32) (v3 : Int32) (v4 : Int32) (v5 : Int32) (v6 : Int32) (v7 : Int32) : q_Ct yX12_turns cX12_turns 9 (some .int) 3 71 0 0 q_eI (fun P => [.ref (P + r0), .int v1, .int v2, .int v3, .int v4, .int v5, .int v6, .int v7]) (fX12_turns n r0 v1 v2 v3 v4 v5 v6 v7) := by
  refine q_meth (by decide +kernel) (fun P => Nat.le_of_ble_eq_true rfl) (fun E X C hn => ?_)
  show Sm E (q_fin E q_eI X 0 0) 0 0 0 [(0, .ref (q_P E + r0)), (1, .int v1), (2, .int v2), (3, .int v3), (4, .int v4), (5, .int v5), (6, .int v6), (7, .int v7)] [] X _
  unfold fX12_turns
  refine q_aload_n C 0 dX12_turns_0 rfl rfl ?_
  refine q_iload_n C 1 dX12_turns_1 rfl rfl ?_
  refine q_iload C 7 dX12_turns_2 rfl ?_
  refine q_iload C 7 dX12_turns_4 rfl ?_
  refine q_iload C 7 dX12_turns_6 rfl ?_
  refine q_chk (fun h3 => ?_)
  refine q_cVI (As := (fun P => [.int v1, .int v7, .int v7, .int v7])) C [] (sX12_canBe r0 v1 v7 v7 v7) fcX12_119 rfl (fun _ => rfl) ⟨Nat.le_of_ble_eq_true rfl, Nat.le_of_ble_eq_true rfl⟩ ⟨Nat.le_of_ble_eq_true rfl, Nat.le_of_ble_eq_true rfl⟩ (Nat.le_of_ble_eq_true rfl) dX12_turns_8 h3 (fun w1 X8_2 => ?_)
  refine q_if_eq C 82 dX12_turns_11 (by decide) (fun _ => ?_) (fun _ => ?_)
  · refine q_sub C [] [] rfl ?_
    exact gX12_turns_L82 C n X8_2
  · refine q_aload_n C 0 dX12_turns_14 rfl rfl ?_
    refine q_iload_n C 2 dX12_turns_15 rfl rfl ?_
    refine q_chk (fun h6 => ?_)
    refine q_cVI (As := (fun P => [.int v2])) C [] (sX12_isPaper r0 v2) fcX12_102 rfl (fun _ => rfl) ⟨Nat.le_of_ble_eq_true rfl, Nat.le_of_ble_eq_true rfl⟩ ⟨Nat.le_of_ble_eq_true rfl, Nat.le_of_ble_eq_true rfl⟩ (Nat.le_of_ble_eq_true rfl) dX12_turns_16 h6 (fun w4 X16_5 => ?_)
    refine q_if_eq C 82 dX12_turns_19 (by decide) (fun _ => ?_) (fun _ => ?_)
    · refine q_sub C [] [] rfl ?_
      exact gX12_turns_L82 C n X16_5
    · refine q_iload_n C 2 dX12_turns_22 rfl rfl ?_
      refine q_iload_n C 1 dX12_turns_23 rfl rfl ?_
      refine q_icmp_eq C 82 dX12_turns_24 (by decide) (fun _ => ?_) (fun _ => ?_)
      · refine q_sub C [] [] rfl ?_
        exact gX12_turns_L82 C n X16_5
      · refine q_aload_n C 0 dX12_turns_27 rfl rfl ?_
        refine q_iload_n C 3 dX12_turns_28 rfl rfl ?_
        refine q_i2l C dX12_turns_29 ?_
        refine q_lconst C (1 : Int64) dX12_turns_30 rfl ?_
        refine q_ldc2 C dX12_turns_31 fkX12_109 ?_
        refine q_chk (fun h9 => ?_)
        refine q_cVI (As := (fun P => [.long ((v3).toInt64), .long (1 : Int64), .long (9 : Int64)])) C [] (sX12_isIn r0 (((v3).toInt64)) (1 : Int64) (9 : Int64)) fcX12_80 rfl (fun _ => rfl) ⟨Nat.le_of_ble_eq_true rfl, Nat.le_of_ble_eq_true rfl⟩ ⟨Nat.le_of_ble_eq_true rfl, Nat.le_of_ble_eq_true rfl⟩ (Nat.le_of_ble_eq_true rfl) dX12_turns_34 h9 (fun w7 X34_8 => ?_)
        refine q_if_eq C 82 dX12_turns_37 (by decide) (fun _ => ?_) (fun _ => ?_)
        · refine q_sub C [] [] rfl ?_
          exact gX12_turns_L82 C n X34_8
        · refine q_aload_n C 0 dX12_turns_40 rfl rfl ?_
          refine q_iload C 4 dX12_turns_41 rfl ?_
          refine q_i2l C dX12_turns_43 ?_
          refine q_lconst C (1 : Int64) dX12_turns_44 rfl ?_
          refine q_ldc2 C dX12_turns_45 fkX12_109 ?_
          refine q_chk (fun h12 => ?_)
          refine q_cVI (As := (fun P => [.long ((v4).toInt64), .long (1 : Int64), .long (9 : Int64)])) C [] (sX12_isIn r0 (((v4).toInt64)) (1 : Int64) (9 : Int64)) fcX12_80 rfl (fun _ => rfl) ⟨Nat.le_of_ble_eq_true rfl, Nat.le_of_ble_eq_true rfl⟩ ⟨Nat.le_of_ble_eq_true rfl, Nat.le_of_ble_eq_true rfl⟩ (Nat.le_of_ble_eq_true rfl) dX12_turns_48 h12 (fun w10 X48_11 => ?_)
          refine q_if_eq C 82 dX12_turns_51 (by decide) (fun _ => ?_) (fun _ => ?_)
          · refine q_sub C [] [] rfl ?_
            exact gX12_turns_L82 C n X48_11
          · refine q_aload_n C 0 dX12_turns_54 rfl rfl ?_
            refine q_iload C 5 dX12_turns_55 rfl ?_
            refine q_i2l C dX12_turns_57 ?_
            refine q_lconst C (0 : Int64) dX12_turns_58 rfl ?_
            refine q_ldc2 C dX12_turns_59 fkX12_123 ?_
            refine q_chk (fun h15 => ?_)
            refine q_cVI (As := (fun P => [.long ((v5).toInt64), .long (0 : Int64), .long (999 : Int64)])) C [] (sX12_isIn r0 (((v5).toInt64)) (0 : Int64) (999 : Int64)) fcX12_80 rfl (fun _ => rfl) ⟨Nat.le_of_ble_eq_true rfl, Nat.le_of_ble_eq_true rfl⟩ ⟨Nat.le_of_ble_eq_true rfl, Nat.le_of_ble_eq_true rfl⟩ (Nat.le_of_ble_eq_true rfl) dX12_turns_62 h15 (fun w13 X62_14 => ?_)
            refine q_if_eq C 82 dX12_turns_65 (by decide) (fun _ => ?_) (fun _ => ?_)
            · refine q_sub C [] [] rfl ?_
              exact gX12_turns_L82 C n X62_14
            · refine q_aload_n C 0 dX12_turns_68 rfl rfl ?_
              refine q_iload C 6 dX12_turns_69 rfl ?_
              refine q_i2l C dX12_turns_71 ?_
              refine q_lconst C (0 : Int64) dX12_turns_72 rfl ?_
              refine q_ldc2 C dX12_turns_73 fkX12_123 ?_
              refine q_chk (fun h18 => ?_)
              refine q_cVI (As := (fun P => [.long ((v6).toInt64), .long (0 : Int64), .long (999 : Int64)])) C [] (sX12_isIn r0 (((v6).toInt64)) (0 : Int64) (999 : Int64)) fcX12_80 rfl (fun _ => rfl) ⟨Nat.le_of_ble_eq_true rfl, Nat.le_of_ble_eq_true rfl⟩ ⟨Nat.le_of_ble_eq_true rfl, Nat.le_of_ble_eq_true rfl⟩ (Nat.le_of_ble_eq_true rfl) dX12_turns_76 h18 (fun w16 X76_17 => ?_)
              refine q_if_ne C 84 dX12_turns_79 (by decide) (fun _ => ?_) (fun _ => ?_)
              · refine q_sub C [] [] rfl ?_
                exact gX12_turns_L82 C n X76_17
              · refine q_aload_n C 0 dX12_turns_84 rfl rfl ?_
                refine q_iconst C (3 : Int32) dX12_turns_85 rfl ?_
                refine q_iload_n C 1 dX12_turns_86 rfl rfl ?_
                refine q_iload C 7 dX12_turns_87 rfl ?_
                refine q_iload C 7 dX12_turns_89 rfl ?_
                refine q_iload C 7 dX12_turns_91 rfl ?_
                refine q_chk (fun h21 => ?_)
                refine q_cVI (As := (fun P => [.int (3 : Int32), .int v1, .int v7, .int v7, .int v7])) C [] (sX12_tells n r0 (3 : Int32) v1 v7 v7 v7) fcX12_125 rfl (fun _ => rfl) ⟨Nat.le_of_ble_eq_true rfl, Nat.le_of_ble_eq_true rfl⟩ ⟨Nat.le_of_ble_eq_true rfl, Nat.le_of_ble_eq_true rfl⟩ (Nat.le_of_ble_eq_true rfl) dX12_turns_93 h21 (fun w19 X93_20 => ?_)
                refine q_istore C [(8, .int w19), (0, .ref (q_P E + r0)), (1, .int v1), (2, .int v2), (3, .int v3), (4, .int v4), (5, .int v5), (6, .int v6), (7, .int v7)] dX12_turns_96 (Nat.le_of_ble_eq_true rfl) rfl ?_
                refine q_aload_n C 1 dX12_turns_98 rfl rfl ?_
                refine q_iload C 0 dX12_turns_99 rfl ?_
                refine q_iload_n C 4 dX12_turns_101 rfl rfl ?_
                refine q_iload C 5 dX12_turns_102 rfl ?_
                refine q_iload C 6 dX12_turns_104 rfl ?_
                refine q_iload C 7 dX12_turns_106 rfl ?_
                refine q_chk (fun h24 => ?_)
                refine q_cVV (As := (fun P => [.int w19, .int v3, .int v4, .int v5, .int v6])) C [] (sX12_terms r0 w19 v3 v4 v5 v6) fcX12_129 rfl (fun _ => rfl) ⟨Nat.le_of_ble_eq_true rfl, Nat.le_of_ble_eq_true rfl⟩ ⟨Nat.le_of_ble_eq_true rfl, Nat.le_of_ble_eq_true rfl⟩ (Nat.le_of_ble_eq_true rfl) dX12_turns_108 h24 (fun _ X108_23 => ?_)
                refine q_aload_n C 1 dX12_turns_111 rfl rfl ?_
                refine q_chk (fun h25 => ?_)
                refine q_chk (fun h26 => ?_)
                refine p_getR C fgX12_11 rfl dX12_turns_112 h25 h26 ?_
                refine q_aload_n C 1 dX12_turns_115 rfl rfl ?_
                refine q_iload C 0 dX12_turns_116 rfl ?_
                refine q_bipush C (7 : Int32) dX12_turns_118 rfl ?_
                refine q_cVI (As := (fun P => [.int w19, .int (7 : Int32)])) C [.ref (q_P E + (mR X108_23 r0 1))] (sX12_of r0 w19 (7 : Int32)) fcX12_66 rfl (fun _ => rfl) ⟨Nat.le_of_ble_eq_true rfl, Nat.le_of_ble_eq_true rfl⟩ ⟨Nat.le_of_ble_eq_true rfl, Nat.le_of_ble_eq_true rfl⟩ (Nat.le_of_ble_eq_true rfl) dX12_turns_120 h25 (fun w27 X120_28 => ?_)
                refine q_iload_n C 3 dX12_turns_123 rfl rfl ?_
                refine q_i2l C dX12_turns_124 ?_
                refine q_chk (fun h30 => ?_)
                refine q_chk (fun h31 => ?_)
                refine p_last C dX12_turns_125 h30 h31 ?_
                refine q_nmX (fun X125_29 => ?_)
                refine q_iload C 0 dX12_turns_126 rfl ?_
                exact q_iret C dX12_turns_128
/-! RecordClaimsModel.chooses(IIII)Z -/
abbrev cX12_chooses : ByteArray := prog_14_method_28_code
def yX12_chooses : MethodName := ⟨RX12, "chooses", "(IIII)Z"⟩
theorem dX12_chooses_0 : decode cX12_chooses 0 = .ok (.aload_n 0, 1) := by decide +kernel
theorem dX12_chooses_1 : decode cX12_chooses 1 = .ok (.iload_n 1, 1) := by decide +kernel
theorem dX12_chooses_2 : decode cX12_chooses 2 = .ok (.invokevirtual 133, 3) := by decide +kernel
theorem dX12_chooses_5 : decode cX12_chooses 5 = .ok (.ifCond .eq 93, 3) := by decide +kernel
theorem dX12_chooses_8 : decode cX12_chooses 8 = .ok (.aload_n 0, 1) := by decide +kernel
theorem dX12_chooses_9 : decode cX12_chooses 9 = .ok (.getfield 11, 3) := by decide +kernel
theorem dX12_chooses_12 : decode cX12_chooses 12 = .ok (.aload_n 0, 1) := by decide +kernel
theorem dX12_chooses_13 : decode cX12_chooses 13 = .ok (.iload_n 1, 1) := by decide +kernel
theorem dX12_chooses_14 : decode cX12_chooses 14 = .ok (.iconst 0, 1) := by decide +kernel
theorem dX12_chooses_15 : decode cX12_chooses 15 = .ok (.invokevirtual 66, 3) := by decide +kernel
theorem dX12_chooses_18 : decode cX12_chooses 18 = .ok (.laload, 1) := by decide +kernel
theorem dX12_chooses_19 : decode cX12_chooses 19 = .ok (.ldc2_w 136, 3) := by decide +kernel
theorem dX12_chooses_22 : decode cX12_chooses 22 = .ok (.lcmp, 1) := by decide +kernel
theorem dX12_chooses_23 : decode cX12_chooses 23 = .ok (.ifCond .ne 75, 3) := by decide +kernel
theorem dX12_chooses_26 : decode cX12_chooses 26 = .ok (.aload_n 0, 1) := by decide +kernel
theorem dX12_chooses_27 : decode cX12_chooses 27 = .ok (.getfield 11, 3) := by decide +kernel
theorem dX12_chooses_30 : decode cX12_chooses 30 = .ok (.aload_n 0, 1) := by decide +kernel
theorem dX12_chooses_31 : decode cX12_chooses 31 = .ok (.iload_n 1, 1) := by decide +kernel
theorem dX12_chooses_32 : decode cX12_chooses 32 = .ok (.iconst 5, 1) := by decide +kernel
theorem dX12_chooses_33 : decode cX12_chooses 33 = .ok (.invokevirtual 66, 3) := by decide +kernel
theorem dX12_chooses_36 : decode cX12_chooses 36 = .ok (.laload, 1) := by decide +kernel
theorem dX12_chooses_37 : decode cX12_chooses 37 = .ok (.lconst 1, 1) := by decide +kernel
theorem dX12_chooses_38 : decode cX12_chooses 38 = .ok (.lcmp, 1) := by decide +kernel
theorem dX12_chooses_39 : decode cX12_chooses 39 = .ok (.ifCond .gt 59, 3) := by decide +kernel
theorem dX12_chooses_42 : decode cX12_chooses 42 = .ok (.aload_n 0, 1) := by decide +kernel
theorem dX12_chooses_43 : decode cX12_chooses 43 = .ok (.invokevirtual 114, 3) := by decide +kernel
theorem dX12_chooses_46 : decode cX12_chooses 46 = .ok (.i2l, 1) := by decide +kernel
theorem dX12_chooses_47 : decode cX12_chooses 47 = .ok (.aload_n 0, 1) := by decide +kernel
theorem dX12_chooses_48 : decode cX12_chooses 48 = .ok (.getfield 11, 3) := by decide +kernel
theorem dX12_chooses_51 : decode cX12_chooses 51 = .ok (.aload_n 0, 1) := by decide +kernel
theorem dX12_chooses_52 : decode cX12_chooses 52 = .ok (.iload_n 1, 1) := by decide +kernel
theorem dX12_chooses_53 : decode cX12_chooses 53 = .ok (.bipush 12, 2) := by decide +kernel
theorem dX12_chooses_55 : decode cX12_chooses 55 = .ok (.invokevirtual 66, 3) := by decide +kernel
theorem dX12_chooses_58 : decode cX12_chooses 58 = .ok (.laload, 1) := by decide +kernel
theorem dX12_chooses_59 : decode cX12_chooses 59 = .ok (.lcmp, 1) := by decide +kernel
theorem dX12_chooses_60 : decode cX12_chooses 60 = .ok (.ifCond .gt 38, 3) := by decide +kernel
theorem dX12_chooses_63 : decode cX12_chooses 63 = .ok (.aload_n 0, 1) := by decide +kernel
theorem dX12_chooses_64 : decode cX12_chooses 64 = .ok (.iload_n 2, 1) := by decide +kernel
theorem dX12_chooses_65 : decode cX12_chooses 65 = .ok (.invokevirtual 98, 3) := by decide +kernel
theorem dX12_chooses_68 : decode cX12_chooses 68 = .ok (.ifCond .eq 30, 3) := by decide +kernel
theorem dX12_chooses_71 : decode cX12_chooses 71 = .ok (.aload_n 0, 1) := by decide +kernel
theorem dX12_chooses_72 : decode cX12_chooses 72 = .ok (.iload_n 3, 1) := by decide +kernel
theorem dX12_chooses_73 : decode cX12_chooses 73 = .ok (.i2l, 1) := by decide +kernel
theorem dX12_chooses_74 : decode cX12_chooses 74 = .ok (.lconst 0, 1) := by decide +kernel
theorem dX12_chooses_75 : decode cX12_chooses 75 = .ok (.ldc2_w 138, 3) := by decide +kernel
theorem dX12_chooses_78 : decode cX12_chooses 78 = .ok (.invokevirtual 80, 3) := by decide +kernel
theorem dX12_chooses_81 : decode cX12_chooses 81 = .ok (.ifCond .eq 17, 3) := by decide +kernel
theorem dX12_chooses_84 : decode cX12_chooses 84 = .ok (.aload_n 0, 1) := by decide +kernel
theorem dX12_chooses_85 : decode cX12_chooses 85 = .ok (.iload 4, 2) := by decide +kernel
theorem dX12_chooses_87 : decode cX12_chooses 87 = .ok (.i2l, 1) := by decide +kernel
theorem dX12_chooses_88 : decode cX12_chooses 88 = .ok (.lconst 0, 1) := by decide +kernel
theorem dX12_chooses_89 : decode cX12_chooses 89 = .ok (.ldc2_w 138, 3) := by decide +kernel
theorem dX12_chooses_92 : decode cX12_chooses 92 = .ok (.invokevirtual 80, 3) := by decide +kernel
theorem dX12_chooses_95 : decode cX12_chooses 95 = .ok (.ifCond .ne 5, 3) := by decide +kernel
theorem dX12_chooses_98 : decode cX12_chooses 98 = .ok (.iconst 0, 1) := by decide +kernel
theorem dX12_chooses_99 : decode cX12_chooses 99 = .ok (.ireturn, 1) := by decide +kernel
theorem dX12_chooses_100 : decode cX12_chooses 100 = .ok (.aload_n 0, 1) := by decide +kernel
theorem dX12_chooses_101 : decode cX12_chooses 101 = .ok (.getfield 11, 3) := by decide +kernel
theorem dX12_chooses_104 : decode cX12_chooses 104 = .ok (.aload_n 0, 1) := by decide +kernel
theorem dX12_chooses_105 : decode cX12_chooses 105 = .ok (.iload_n 1, 1) := by decide +kernel
theorem dX12_chooses_106 : decode cX12_chooses 106 = .ok (.iload_n 2, 1) := by decide +kernel
theorem dX12_chooses_107 : decode cX12_chooses 107 = .ok (.iconst 1, 1) := by decide +kernel
theorem dX12_chooses_108 : decode cX12_chooses 108 = .ok (.invokevirtual 140, 3) := by decide +kernel
theorem dX12_chooses_111 : decode cX12_chooses 111 = .ok (.iload_n 3, 1) := by decide +kernel
theorem dX12_chooses_112 : decode cX12_chooses 112 = .ok (.i2l, 1) := by decide +kernel
theorem dX12_chooses_113 : decode cX12_chooses 113 = .ok (.lastore, 1) := by decide +kernel
theorem dX12_chooses_114 : decode cX12_chooses 114 = .ok (.aload_n 0, 1) := by decide +kernel
theorem dX12_chooses_115 : decode cX12_chooses 115 = .ok (.getfield 11, 3) := by decide +kernel
theorem dX12_chooses_118 : decode cX12_chooses 118 = .ok (.aload_n 0, 1) := by decide +kernel
theorem dX12_chooses_119 : decode cX12_chooses 119 = .ok (.iload_n 1, 1) := by decide +kernel
theorem dX12_chooses_120 : decode cX12_chooses 120 = .ok (.iload_n 2, 1) := by decide +kernel
theorem dX12_chooses_121 : decode cX12_chooses 121 = .ok (.iconst 2, 1) := by decide +kernel
theorem dX12_chooses_122 : decode cX12_chooses 122 = .ok (.invokevirtual 140, 3) := by decide +kernel
theorem dX12_chooses_125 : decode cX12_chooses 125 = .ok (.iload 4, 2) := by decide +kernel
theorem dX12_chooses_127 : decode cX12_chooses 127 = .ok (.i2l, 1) := by decide +kernel
theorem dX12_chooses_128 : decode cX12_chooses 128 = .ok (.lastore, 1) := by decide +kernel
theorem dX12_chooses_129 : decode cX12_chooses 129 = .ok (.iconst 1, 1) := by decide +kernel
theorem dX12_chooses_130 : decode cX12_chooses 130 = .ok (.ireturn, 1) := by decide +kernel
theorem fcX12_133 : q_LV RX12 133 yX12_isEvent cX12_isEvent 2 (some .boolean) 1 12 := ⟨q_tb 1564 (by decide +kernel) rfl, q_tb 1566 (by decide +kernel) rfl, q_tbs (q := (yX12_isEvent, 35)) 95 (by decide +kernel) rfl, q_tb 13 (by decide +kernel) rfl, q_tb 1567 (by decide +kernel) rfl, ⟨by decide +kernel, by decide +kernel, by decide +kernel⟩, TX12, 35, rfl⟩
theorem fkX12_136 : Cond.constantLong RX12 136 (2 : Int64) ∈ q_tbl := q_tb 1568 (by decide +kernel) rfl
theorem fkX12_138 : Cond.constantLong RX12 138 (999999999 : Int64) ∈ q_tbl := q_tb 1569 (by decide +kernel) rfl
theorem fcX12_140 : q_LV RX12 140 yX12_ofHolder cX12_ofHolder 4 (some .int) 3 12 := ⟨q_tb 1570 (by decide +kernel) rfl, q_tb 1572 (by decide +kernel) rfl, q_tbs (q := (yX12_ofHolder, 35)) 96 (by decide +kernel) rfl, q_tb 13 (by decide +kernel) rfl, q_tb 1573 (by decide +kernel) rfl, ⟨by decide +kernel, by decide +kernel, by decide +kernel⟩, TX12, 35, rfl⟩
def fX12_chooses_L98 (X : Mm) : Option (Int32 × Mm) :=
some (0, X)
def fX12_chooses (r0 : Nat) (v1 : Int32) (v2 : Int32) (v3 : Int32) (v4 : Int32) (X : Mm) : Option (Int32 × Mm) :=
if mT X r0 = 12 then
bd (fX12_isEvent r0 v1 X) fun w1 X2_2 =>
if w1 = 0 then (
fX12_chooses_L98 X2_2
) else (
if mT X2_2 r0 = 12 then
if mR X2_2 r0 1 ≠ 0 then
bd (fX12_of r0 v1 (0 : Int32) X2_2) fun w6 X15_7 =>
if mT X15_7 (mR X2_2 r0 1) = 15 then
if q_b X15_7 (mR X2_2 r0 1) w6 then
if (lg_cmp (mJ X15_7 (mR X2_2 r0 1) (w6).toNatClampNeg) (2 : Int64)) = 0 then (
if mT X15_7 r0 = 12 then
if mR X15_7 r0 1 ≠ 0 then
bd (fX12_of r0 v1 (5 : Int32) X15_7) fun w12 X33_13 =>
if mT X33_13 (mR X15_7 r0 1) = 15 then
if q_b X33_13 (mR X15_7 r0 1) w12 then
if 0 < (lg_cmp (mJ X33_13 (mR X15_7 r0 1) (w12).toNatClampNeg) (1 : Int64)) then (
fX12_chooses_L98 X33_13
) else (
if mT X33_13 r0 = 12 then
bd (fX12_today r0 X33_13) fun w16 X43_17 =>
if mT X43_17 r0 = 12 then
if mR X43_17 r0 1 ≠ 0 then
bd (fX12_of r0 v1 (12 : Int32) X43_17) fun w21 X55_22 =>
if mT X55_22 (mR X43_17 r0 1) = 15 then
if q_b X55_22 (mR X43_17 r0 1) w21 then
if 0 < (lg_cmp ((w16).toInt64) (mJ X55_22 (mR X43_17 r0 1) (w21).toNatClampNeg)) then (
fX12_chooses_L98 X55_22
) else (
if mT X55_22 r0 = 12 then
bd (fX12_isHolder r0 v2 X55_22) fun w25 X65_26 =>
if w25 = 0 then (
fX12_chooses_L98 X65_26
) else (
if mT X65_26 r0 = 12 then
bd (fX12_isIn r0 (((v3).toInt64)) (0 : Int64) (999999999 : Int64) X65_26) fun w28 X78_29 =>
if w28 = 0 then (
fX12_chooses_L98 X78_29
) else (
if mT X78_29 r0 = 12 then
bd (fX12_isIn r0 (((v4).toInt64)) (0 : Int64) (999999999 : Int64) X78_29) fun w31 X92_32 =>
if w31 = 0 then (
fX12_chooses_L98 X92_32
) else (
if mT X92_32 r0 = 12 then
if mR X92_32 r0 1 ≠ 0 then
bd (fX12_ofHolder r0 v1 v2 (1 : Int32) X92_32) fun w36 X108_37 =>
if mT X108_37 (mR X92_32 r0 1) = 15 then
if q_b X108_37 (mR X92_32 r0 1) w36 then
nm (sJ X108_37 (mR X92_32 r0 1) (w36).toNatClampNeg ((v3).toInt64)) fun X113_38 =>
if mT X113_38 r0 = 12 then
if mR X113_38 r0 1 ≠ 0 then
bd (fX12_ofHolder r0 v1 v2 (2 : Int32) X113_38) fun w43 X122_44 =>
if mT X122_44 (mR X113_38 r0 1) = 15 then
if q_b X122_44 (mR X113_38 r0 1) w43 then
nm (sJ X122_44 (mR X113_38 r0 1) (w43).toNatClampNeg ((v4).toInt64)) fun X128_45 =>
some (1, X128_45)
else none
else none
else none
else none
else none
else none
else none
else none
)
else none
)
else none
)
else none
)
else none
else none
else none
else none
else none
)
else none
else none
else none
else none
) else (
fX12_chooses_L98 X15_7
)
else none
else none
else none
else none
)
else none
theorem gX12_chooses_L98 {E : q_E} {X0 : Mm} (C : Cx E cX12_chooses RX12 5 (some .boolean) (q_rm 2 47 0 0) X0) (X : Mm) : Sm E (q_fin E q_eI X0 0 0) 0 0 98 [] [] X (fX12_chooses_L98  X) := by
  unfold fX12_chooses_L98
  refine q_iconst C (0 : Int32) dX12_chooses_98 rfl ?_
  exact q_zret0 C dX12_chooses_99
theorem sX12_chooses (r0 : Nat) (v1 : Int32) (v2 : Int32) (v3 : Int32) (v4 : Int32) : q_Ct yX12_chooses cX12_chooses 5 (some .boolean) 2 47 0 0 q_eI (fun P => [.ref (P + r0), .int v1, .int v2, .int v3, .int v4]) (fX12_chooses r0 v1 v2 v3 v4) := by
  refine q_meth (by decide +kernel) (fun P => Nat.le_of_ble_eq_true rfl) (fun E X C hn => ?_)
  show Sm E (q_fin E q_eI X 0 0) 0 0 0 [(0, .ref (q_P E + r0)), (1, .int v1), (2, .int v2), (3, .int v3), (4, .int v4)] [] X _
  unfold fX12_chooses
  refine q_aload_n C 0 dX12_chooses_0 rfl rfl ?_
  refine q_iload_n C 1 dX12_chooses_1 rfl rfl ?_
  refine q_chk (fun h3 => ?_)
  refine q_cVI (As := (fun P => [.int v1])) C [] (sX12_isEvent r0 v1) fcX12_133 rfl (fun _ => rfl) ⟨Nat.le_of_ble_eq_true rfl, Nat.le_of_ble_eq_true rfl⟩ ⟨Nat.le_of_ble_eq_true rfl, Nat.le_of_ble_eq_true rfl⟩ (Nat.le_of_ble_eq_true rfl) dX12_chooses_2 h3 (fun w1 X2_2 => ?_)
  refine q_if_eq C 98 dX12_chooses_5 (by decide) (fun _ => ?_) (fun _ => ?_)
  · refine q_sub C [] [] rfl ?_
    exact gX12_chooses_L98 C X2_2
  · refine q_aload_n C 0 dX12_chooses_8 rfl rfl ?_
    refine q_chk (fun h4 => ?_)
    refine q_chk (fun h5 => ?_)
    refine p_getR C fgX12_11 rfl dX12_chooses_9 h4 h5 ?_
    refine q_aload_n C 0 dX12_chooses_12 rfl rfl ?_
    refine q_iload_n C 1 dX12_chooses_13 rfl rfl ?_
    refine q_iconst C (0 : Int32) dX12_chooses_14 rfl ?_
    refine q_cVI (As := (fun P => [.int v1, .int (0 : Int32)])) C [.ref (q_P E + (mR X2_2 r0 1))] (sX12_of r0 v1 (0 : Int32)) fcX12_66 rfl (fun _ => rfl) ⟨Nat.le_of_ble_eq_true rfl, Nat.le_of_ble_eq_true rfl⟩ ⟨Nat.le_of_ble_eq_true rfl, Nat.le_of_ble_eq_true rfl⟩ (Nat.le_of_ble_eq_true rfl) dX12_chooses_15 h4 (fun w6 X15_7 => ?_)
    refine q_chk (fun h8 => ?_)
    refine q_chk (fun h9 => ?_)
    refine p_lald C dX12_chooses_18 h8 h9 ?_
    refine q_ldc2 C dX12_chooses_19 fkX12_136 ?_
    refine q_lcmp C dX12_chooses_22 ?_
    refine q_if_ne C 98 dX12_chooses_23 (by decide) (fun _ => ?_) (fun _ => ?_)
    · refine q_aload_n C 0 dX12_chooses_26 rfl rfl ?_
      refine q_chk (fun h10 => ?_)
      refine q_chk (fun h11 => ?_)
      refine p_getR C fgX12_11 rfl dX12_chooses_27 h10 h11 ?_
      refine q_aload_n C 0 dX12_chooses_30 rfl rfl ?_
      refine q_iload_n C 1 dX12_chooses_31 rfl rfl ?_
      refine q_iconst C (5 : Int32) dX12_chooses_32 rfl ?_
      refine q_cVI (As := (fun P => [.int v1, .int (5 : Int32)])) C [.ref (q_P E + (mR X15_7 r0 1))] (sX12_of r0 v1 (5 : Int32)) fcX12_66 rfl (fun _ => rfl) ⟨Nat.le_of_ble_eq_true rfl, Nat.le_of_ble_eq_true rfl⟩ ⟨Nat.le_of_ble_eq_true rfl, Nat.le_of_ble_eq_true rfl⟩ (Nat.le_of_ble_eq_true rfl) dX12_chooses_33 h10 (fun w12 X33_13 => ?_)
      refine q_chk (fun h14 => ?_)
      refine q_chk (fun h15 => ?_)
      refine p_lald C dX12_chooses_36 h14 h15 ?_
      refine q_lconst C (1 : Int64) dX12_chooses_37 rfl ?_
      refine q_lcmp C dX12_chooses_38 ?_
      refine q_if_gt C 98 dX12_chooses_39 (by decide) (fun _ => ?_) (fun _ => ?_)
      · refine q_sub C [] [] rfl ?_
        exact gX12_chooses_L98 C X33_13
      · refine q_aload_n C 0 dX12_chooses_42 rfl rfl ?_
        refine q_chk (fun h18 => ?_)
        refine q_cVI (As := (fun P => [])) C [] (sX12_today r0) fcX12_114 rfl (fun _ => rfl) ⟨Nat.le_of_ble_eq_true rfl, Nat.le_of_ble_eq_true rfl⟩ ⟨Nat.le_of_ble_eq_true rfl, Nat.le_of_ble_eq_true rfl⟩ (Nat.le_of_ble_eq_true rfl) dX12_chooses_43 h18 (fun w16 X43_17 => ?_)
        refine q_i2l C dX12_chooses_46 ?_
        refine q_aload_n C 0 dX12_chooses_47 rfl rfl ?_
        refine q_chk (fun h19 => ?_)
        refine q_chk (fun h20 => ?_)
        refine p_getR C fgX12_11 rfl dX12_chooses_48 h19 h20 ?_
        refine q_aload_n C 0 dX12_chooses_51 rfl rfl ?_
        refine q_iload_n C 1 dX12_chooses_52 rfl rfl ?_
        refine q_bipush C (12 : Int32) dX12_chooses_53 rfl ?_
        refine q_cVI (As := (fun P => [.int v1, .int (12 : Int32)])) C [.ref (q_P E + (mR X43_17 r0 1)), .long ((w16).toInt64)] (sX12_of r0 v1 (12 : Int32)) fcX12_66 rfl (fun _ => rfl) ⟨Nat.le_of_ble_eq_true rfl, Nat.le_of_ble_eq_true rfl⟩ ⟨Nat.le_of_ble_eq_true rfl, Nat.le_of_ble_eq_true rfl⟩ (Nat.le_of_ble_eq_true rfl) dX12_chooses_55 h19 (fun w21 X55_22 => ?_)
        refine q_chk (fun h23 => ?_)
        refine q_chk (fun h24 => ?_)
        refine p_lald C dX12_chooses_58 h23 h24 ?_
        refine q_lcmp C dX12_chooses_59 ?_
        refine q_if_gt C 98 dX12_chooses_60 (by decide) (fun _ => ?_) (fun _ => ?_)
        · refine q_sub C [] [] rfl ?_
          exact gX12_chooses_L98 C X55_22
        · refine q_aload_n C 0 dX12_chooses_63 rfl rfl ?_
          refine q_iload_n C 2 dX12_chooses_64 rfl rfl ?_
          refine q_chk (fun h27 => ?_)
          refine q_cVI (As := (fun P => [.int v2])) C [] (sX12_isHolder r0 v2) fcX12_98 rfl (fun _ => rfl) ⟨Nat.le_of_ble_eq_true rfl, Nat.le_of_ble_eq_true rfl⟩ ⟨Nat.le_of_ble_eq_true rfl, Nat.le_of_ble_eq_true rfl⟩ (Nat.le_of_ble_eq_true rfl) dX12_chooses_65 h27 (fun w25 X65_26 => ?_)
          refine q_if_eq C 98 dX12_chooses_68 (by decide) (fun _ => ?_) (fun _ => ?_)
          · refine q_sub C [] [] rfl ?_
            exact gX12_chooses_L98 C X65_26
          · refine q_aload_n C 0 dX12_chooses_71 rfl rfl ?_
            refine q_iload_n C 3 dX12_chooses_72 rfl rfl ?_
            refine q_i2l C dX12_chooses_73 ?_
            refine q_lconst C (0 : Int64) dX12_chooses_74 rfl ?_
            refine q_ldc2 C dX12_chooses_75 fkX12_138 ?_
            refine q_chk (fun h30 => ?_)
            refine q_cVI (As := (fun P => [.long ((v3).toInt64), .long (0 : Int64), .long (999999999 : Int64)])) C [] (sX12_isIn r0 (((v3).toInt64)) (0 : Int64) (999999999 : Int64)) fcX12_80 rfl (fun _ => rfl) ⟨Nat.le_of_ble_eq_true rfl, Nat.le_of_ble_eq_true rfl⟩ ⟨Nat.le_of_ble_eq_true rfl, Nat.le_of_ble_eq_true rfl⟩ (Nat.le_of_ble_eq_true rfl) dX12_chooses_78 h30 (fun w28 X78_29 => ?_)
            refine q_if_eq C 98 dX12_chooses_81 (by decide) (fun _ => ?_) (fun _ => ?_)
            · refine q_sub C [] [] rfl ?_
              exact gX12_chooses_L98 C X78_29
            · refine q_aload_n C 0 dX12_chooses_84 rfl rfl ?_
              refine q_iload C 4 dX12_chooses_85 rfl ?_
              refine q_i2l C dX12_chooses_87 ?_
              refine q_lconst C (0 : Int64) dX12_chooses_88 rfl ?_
              refine q_ldc2 C dX12_chooses_89 fkX12_138 ?_
              refine q_chk (fun h33 => ?_)
              refine q_cVI (As := (fun P => [.long ((v4).toInt64), .long (0 : Int64), .long (999999999 : Int64)])) C [] (sX12_isIn r0 (((v4).toInt64)) (0 : Int64) (999999999 : Int64)) fcX12_80 rfl (fun _ => rfl) ⟨Nat.le_of_ble_eq_true rfl, Nat.le_of_ble_eq_true rfl⟩ ⟨Nat.le_of_ble_eq_true rfl, Nat.le_of_ble_eq_true rfl⟩ (Nat.le_of_ble_eq_true rfl) dX12_chooses_92 h33 (fun w31 X92_32 => ?_)
              refine q_if_ne C 100 dX12_chooses_95 (by decide) (fun _ => ?_) (fun _ => ?_)
              · refine q_sub C [] [] rfl ?_
                exact gX12_chooses_L98 C X92_32
              · refine q_aload_n C 0 dX12_chooses_100 rfl rfl ?_
                refine q_chk (fun h34 => ?_)
                refine q_chk (fun h35 => ?_)
                refine p_getR C fgX12_11 rfl dX12_chooses_101 h34 h35 ?_
                refine q_aload_n C 0 dX12_chooses_104 rfl rfl ?_
                refine q_iload_n C 1 dX12_chooses_105 rfl rfl ?_
                refine q_iload_n C 2 dX12_chooses_106 rfl rfl ?_
                refine q_iconst C (1 : Int32) dX12_chooses_107 rfl ?_
                refine q_cVI (As := (fun P => [.int v1, .int v2, .int (1 : Int32)])) C [.ref (q_P E + (mR X92_32 r0 1))] (sX12_ofHolder r0 v1 v2 (1 : Int32)) fcX12_140 rfl (fun _ => rfl) ⟨Nat.le_of_ble_eq_true rfl, Nat.le_of_ble_eq_true rfl⟩ ⟨Nat.le_of_ble_eq_true rfl, Nat.le_of_ble_eq_true rfl⟩ (Nat.le_of_ble_eq_true rfl) dX12_chooses_108 h34 (fun w36 X108_37 => ?_)
                refine q_iload_n C 3 dX12_chooses_111 rfl rfl ?_
                refine q_i2l C dX12_chooses_112 ?_
                refine q_chk (fun h39 => ?_)
                refine q_chk (fun h40 => ?_)
                refine p_last C dX12_chooses_113 h39 h40 ?_
                refine q_nmX (fun X113_38 => ?_)
                refine q_aload_n C 0 dX12_chooses_114 rfl rfl ?_
                refine q_chk (fun h41 => ?_)
                refine q_chk (fun h42 => ?_)
                refine p_getR C fgX12_11 rfl dX12_chooses_115 h41 h42 ?_
                refine q_aload_n C 0 dX12_chooses_118 rfl rfl ?_
                refine q_iload_n C 1 dX12_chooses_119 rfl rfl ?_
                refine q_iload_n C 2 dX12_chooses_120 rfl rfl ?_
                refine q_iconst C (2 : Int32) dX12_chooses_121 rfl ?_
                refine q_cVI (As := (fun P => [.int v1, .int v2, .int (2 : Int32)])) C [.ref (q_P E + (mR X113_38 r0 1))] (sX12_ofHolder r0 v1 v2 (2 : Int32)) fcX12_140 rfl (fun _ => rfl) ⟨Nat.le_of_ble_eq_true rfl, Nat.le_of_ble_eq_true rfl⟩ ⟨Nat.le_of_ble_eq_true rfl, Nat.le_of_ble_eq_true rfl⟩ (Nat.le_of_ble_eq_true rfl) dX12_chooses_122 h41 (fun w43 X122_44 => ?_)
                refine q_iload C 4 dX12_chooses_125 rfl ?_
                refine q_i2l C dX12_chooses_127 ?_
                refine q_chk (fun h46 => ?_)
                refine q_chk (fun h47 => ?_)
                refine p_last C dX12_chooses_128 h46 h47 ?_
                refine q_nmX (fun X128_45 => ?_)
                refine q_iconst C (1 : Int32) dX12_chooses_129 rfl ?_
                exact q_zret1 C dX12_chooses_130
    · refine q_sub C [] [] rfl ?_
      exact gX12_chooses_L98 C X15_7
/-! RecordClaimsModel.paysFor(II)V -/
abbrev cX12_paysFor : ByteArray := prog_14_method_32_code
def yX12_paysFor : MethodName := ⟨RX12, "paysFor", "(II)V"⟩
theorem dX12_paysFor_0 : decode cX12_paysFor 0 = .ok (.aload_n 0, 1) := by decide +kernel
theorem dX12_paysFor_1 : decode cX12_paysFor 1 = .ok (.aload_n 0, 1) := by decide +kernel
theorem dX12_paysFor_2 : decode cX12_paysFor 2 = .ok (.getfield 11, 3) := by decide +kernel
theorem dX12_paysFor_5 : decode cX12_paysFor 5 = .ok (.aload_n 0, 1) := by decide +kernel
theorem dX12_paysFor_6 : decode cX12_paysFor 6 = .ok (.iload_n 1, 1) := by decide +kernel
theorem dX12_paysFor_7 : decode cX12_paysFor 7 = .ok (.iconst 0, 1) := by decide +kernel
theorem dX12_paysFor_8 : decode cX12_paysFor 8 = .ok (.invokevirtual 111, 3) := by decide +kernel
theorem dX12_paysFor_11 : decode cX12_paysFor 11 = .ok (.laload, 1) := by decide +kernel
theorem dX12_paysFor_12 : decode cX12_paysFor 12 = .ok (.aload_n 0, 1) := by decide +kernel
theorem dX12_paysFor_13 : decode cX12_paysFor 13 = .ok (.getfield 11, 3) := by decide +kernel
theorem dX12_paysFor_16 : decode cX12_paysFor 16 = .ok (.aload_n 0, 1) := by decide +kernel
theorem dX12_paysFor_17 : decode cX12_paysFor 17 = .ok (.iload_n 1, 1) := by decide +kernel
theorem dX12_paysFor_18 : decode cX12_paysFor 18 = .ok (.iconst 4, 1) := by decide +kernel
theorem dX12_paysFor_19 : decode cX12_paysFor 19 = .ok (.invokevirtual 111, 3) := by decide +kernel
theorem dX12_paysFor_22 : decode cX12_paysFor 22 = .ok (.laload, 1) := by decide +kernel
theorem dX12_paysFor_23 : decode cX12_paysFor 23 = .ok (.lneg, 1) := by decide +kernel
theorem dX12_paysFor_24 : decode cX12_paysFor 24 = .ok (.invokevirtual 182, 3) := by decide +kernel
theorem dX12_paysFor_27 : decode cX12_paysFor 27 = .ok (.aload_n 0, 1) := by decide +kernel
theorem dX12_paysFor_28 : decode cX12_paysFor 28 = .ok (.aload_n 0, 1) := by decide +kernel
theorem dX12_paysFor_29 : decode cX12_paysFor 29 = .ok (.getfield 11, 3) := by decide +kernel
theorem dX12_paysFor_32 : decode cX12_paysFor 32 = .ok (.aload_n 0, 1) := by decide +kernel
theorem dX12_paysFor_33 : decode cX12_paysFor 33 = .ok (.iload_n 1, 1) := by decide +kernel
theorem dX12_paysFor_34 : decode cX12_paysFor 34 = .ok (.iconst 1, 1) := by decide +kernel
theorem dX12_paysFor_35 : decode cX12_paysFor 35 = .ok (.invokevirtual 111, 3) := by decide +kernel
theorem dX12_paysFor_38 : decode cX12_paysFor 38 = .ok (.laload, 1) := by decide +kernel
theorem dX12_paysFor_39 : decode cX12_paysFor 39 = .ok (.aload_n 0, 1) := by decide +kernel
theorem dX12_paysFor_40 : decode cX12_paysFor 40 = .ok (.getfield 11, 3) := by decide +kernel
theorem dX12_paysFor_43 : decode cX12_paysFor 43 = .ok (.aload_n 0, 1) := by decide +kernel
theorem dX12_paysFor_44 : decode cX12_paysFor 44 = .ok (.iload_n 1, 1) := by decide +kernel
theorem dX12_paysFor_45 : decode cX12_paysFor 45 = .ok (.iconst 4, 1) := by decide +kernel
theorem dX12_paysFor_46 : decode cX12_paysFor 46 = .ok (.invokevirtual 111, 3) := by decide +kernel
theorem dX12_paysFor_49 : decode cX12_paysFor 49 = .ok (.laload, 1) := by decide +kernel
theorem dX12_paysFor_50 : decode cX12_paysFor 50 = .ok (.invokevirtual 182, 3) := by decide +kernel
theorem dX12_paysFor_53 : decode cX12_paysFor 53 = .ok (.aload_n 0, 1) := by decide +kernel
theorem dX12_paysFor_54 : decode cX12_paysFor 54 = .ok (.getfield 11, 3) := by decide +kernel
theorem dX12_paysFor_57 : decode cX12_paysFor 57 = .ok (.aload_n 0, 1) := by decide +kernel
theorem dX12_paysFor_58 : decode cX12_paysFor 58 = .ok (.iload_n 1, 1) := by decide +kernel
theorem dX12_paysFor_59 : decode cX12_paysFor 59 = .ok (.bipush 7, 2) := by decide +kernel
theorem dX12_paysFor_61 : decode cX12_paysFor 61 = .ok (.invokevirtual 111, 3) := by decide +kernel
theorem dX12_paysFor_64 : decode cX12_paysFor 64 = .ok (.iload_n 2, 1) := by decide +kernel
theorem dX12_paysFor_65 : decode cX12_paysFor 65 = .ok (.i2l, 1) := by decide +kernel
theorem dX12_paysFor_66 : decode cX12_paysFor 66 = .ok (.lastore, 1) := by decide +kernel
theorem dX12_paysFor_67 : decode cX12_paysFor 67 = .ok (.aload_n 0, 1) := by decide +kernel
theorem dX12_paysFor_68 : decode cX12_paysFor 68 = .ok (.getfield 11, 3) := by decide +kernel
theorem dX12_paysFor_71 : decode cX12_paysFor 71 = .ok (.aload_n 0, 1) := by decide +kernel
theorem dX12_paysFor_72 : decode cX12_paysFor 72 = .ok (.iload_n 1, 1) := by decide +kernel
theorem dX12_paysFor_73 : decode cX12_paysFor 73 = .ok (.bipush 8, 2) := by decide +kernel
theorem dX12_paysFor_75 : decode cX12_paysFor 75 = .ok (.invokevirtual 111, 3) := by decide +kernel
theorem dX12_paysFor_78 : decode cX12_paysFor 78 = .ok (.aload_n 0, 1) := by decide +kernel
theorem dX12_paysFor_79 : decode cX12_paysFor 79 = .ok (.getfield 11, 3) := by decide +kernel
theorem dX12_paysFor_82 : decode cX12_paysFor 82 = .ok (.bipush 62, 2) := by decide +kernel
theorem dX12_paysFor_84 : decode cX12_paysFor 84 = .ok (.laload, 1) := by decide +kernel
theorem dX12_paysFor_85 : decode cX12_paysFor 85 = .ok (.lastore, 1) := by decide +kernel
theorem dX12_paysFor_86 : decode cX12_paysFor 86 = .ok (.return_, 1) := by decide +kernel
theorem fcX12_182 : q_LV RX12 182 yX12_givesMoney cX12_givesMoney 5 none 2 12 := ⟨q_tb 1600 (by decide +kernel) rfl, q_tb 1602 (by decide +kernel) rfl, q_tbs (q := (yX12_givesMoney, 35)) 103 (by decide +kernel) rfl, q_tb 13 (by decide +kernel) rfl, q_tb 1603 (by decide +kernel) rfl, ⟨by decide +kernel, by decide +kernel, by decide +kernel⟩, TX12, 35, rfl⟩
def fX12_paysFor (r0 : Nat) (v1 : Int32) (v2 : Int32) (X : Mm) : Option (Unit × Mm) :=
if mT X r0 = 12 then
if mR X r0 1 ≠ 0 then
bd (fX12_at r0 v1 (0 : Int32) X) fun w3 X8_4 =>
if mT X8_4 (mR X r0 1) = 15 then
if q_b X8_4 (mR X r0 1) w3 then
if mT X8_4 r0 = 12 then
if mR X8_4 r0 1 ≠ 0 then
bd (fX12_at r0 v1 (4 : Int32) X8_4) fun w9 X19_10 =>
if mT X19_10 (mR X8_4 r0 1) = 15 then
if q_b X19_10 (mR X8_4 r0 1) w9 then
if mT X19_10 r0 = 12 then
bd (fX12_givesMoney r0 ((mJ X8_4 (mR X r0 1) (w3).toNatClampNeg)) ((-(mJ X19_10 (mR X8_4 r0 1) (w9).toNatClampNeg))) X19_10) fun _ X24_14 =>
if mT X24_14 r0 = 12 then
if mR X24_14 r0 1 ≠ 0 then
bd (fX12_at r0 v1 (1 : Int32) X24_14) fun w18 X35_19 =>
if mT X35_19 (mR X24_14 r0 1) = 15 then
if q_b X35_19 (mR X24_14 r0 1) w18 then
if mT X35_19 r0 = 12 then
if mR X35_19 r0 1 ≠ 0 then
bd (fX12_at r0 v1 (4 : Int32) X35_19) fun w24 X46_25 =>
if mT X46_25 (mR X35_19 r0 1) = 15 then
if q_b X46_25 (mR X35_19 r0 1) w24 then
if mT X46_25 r0 = 12 then
bd (fX12_givesMoney r0 ((mJ X35_19 (mR X24_14 r0 1) (w18).toNatClampNeg)) ((mJ X46_25 (mR X35_19 r0 1) (w24).toNatClampNeg)) X46_25) fun _ X50_29 =>
if mT X50_29 r0 = 12 then
if mR X50_29 r0 1 ≠ 0 then
bd (fX12_at r0 v1 (7 : Int32) X50_29) fun w33 X61_34 =>
if mT X61_34 (mR X50_29 r0 1) = 15 then
if q_b X61_34 (mR X50_29 r0 1) w33 then
nm (sJ X61_34 (mR X50_29 r0 1) (w33).toNatClampNeg ((v2).toInt64)) fun X66_35 =>
if mT X66_35 r0 = 12 then
if mR X66_35 r0 1 ≠ 0 then
bd (fX12_at r0 v1 (8 : Int32) X66_35) fun w40 X75_41 =>
if mT X75_41 r0 = 12 then
if mR X75_41 r0 1 ≠ 0 then
if mT X75_41 (mR X75_41 r0 1) = 15 then
if q_b X75_41 (mR X75_41 r0 1) (62 : Int32) then
if mT X75_41 (mR X66_35 r0 1) = 15 then
if q_b X75_41 (mR X66_35 r0 1) w40 then
nm (sJ X75_41 (mR X66_35 r0 1) (w40).toNatClampNeg (mJ X75_41 (mR X75_41 r0 1) ((62 : Int32)).toNatClampNeg)) fun X85_46 =>
some ((), X85_46)
else none
else none
else none
else none
else none
else none
else none
else none
else none
else none
else none
else none
else none
else none
else none
else none
else none
else none
else none
else none
else none
else none
else none
else none
else none
else none
else none
else none
else none
else none
theorem sX12_paysFor (r0 : Nat) (v1 : Int32) (v2 : Int32) : q_Ct yX12_paysFor cX12_paysFor 3 none 1 24 0 0 q_eV (fun P => [.ref (P + r0), .int v1, .int v2]) (fX12_paysFor r0 v1 v2) := by
  refine q_meth (by decide +kernel) (fun P => Nat.le_of_ble_eq_true rfl) (fun E X C hn => ?_)
  show Sm E (q_fin E q_eV X 0 0) 0 0 0 [(0, .ref (q_P E + r0)), (1, .int v1), (2, .int v2)] [] X _
  unfold fX12_paysFor
  refine q_aload_n C 0 dX12_paysFor_0 rfl rfl ?_
  refine q_aload_n C 0 dX12_paysFor_1 rfl rfl ?_
  refine q_chk (fun h1 => ?_)
  refine q_chk (fun h2 => ?_)
  refine p_getR C fgX12_11 rfl dX12_paysFor_2 h1 h2 ?_
  refine q_aload_n C 0 dX12_paysFor_5 rfl rfl ?_
  refine q_iload_n C 1 dX12_paysFor_6 rfl rfl ?_
  refine q_iconst C (0 : Int32) dX12_paysFor_7 rfl ?_
  refine q_cVI (As := (fun P => [.int v1, .int (0 : Int32)])) C [.ref (q_P E + (mR X r0 1)), .ref (q_P E + r0)] (sX12_at r0 v1 (0 : Int32)) fcX12_111 rfl (fun _ => rfl) ⟨Nat.le_of_ble_eq_true rfl, Nat.le_of_ble_eq_true rfl⟩ ⟨Nat.le_of_ble_eq_true rfl, Nat.le_of_ble_eq_true rfl⟩ (Nat.le_of_ble_eq_true rfl) dX12_paysFor_8 h1 (fun w3 X8_4 => ?_)
  refine q_chk (fun h5 => ?_)
  refine q_chk (fun h6 => ?_)
  refine p_lald C dX12_paysFor_11 h5 h6 ?_
  refine q_aload_n C 0 dX12_paysFor_12 rfl rfl ?_
  refine q_chk (fun h7 => ?_)
  refine q_chk (fun h8 => ?_)
  refine p_getR C fgX12_11 rfl dX12_paysFor_13 h7 h8 ?_
  refine q_aload_n C 0 dX12_paysFor_16 rfl rfl ?_
  refine q_iload_n C 1 dX12_paysFor_17 rfl rfl ?_
  refine q_iconst C (4 : Int32) dX12_paysFor_18 rfl ?_
  refine q_cVI (As := (fun P => [.int v1, .int (4 : Int32)])) C [.ref (q_P E + (mR X8_4 r0 1)), .long (mJ X8_4 (mR X r0 1) (w3).toNatClampNeg), .ref (q_P E + r0)] (sX12_at r0 v1 (4 : Int32)) fcX12_111 rfl (fun _ => rfl) ⟨Nat.le_of_ble_eq_true rfl, Nat.le_of_ble_eq_true rfl⟩ ⟨Nat.le_of_ble_eq_true rfl, Nat.le_of_ble_eq_true rfl⟩ (Nat.le_of_ble_eq_true rfl) dX12_paysFor_19 h7 (fun w9 X19_10 => ?_)
  refine q_chk (fun h11 => ?_)
  refine q_chk (fun h12 => ?_)
  refine p_lald C dX12_paysFor_22 h11 h12 ?_
  refine q_lneg C dX12_paysFor_23 ?_
  refine q_chk (fun h15 => ?_)
  refine q_cVV (As := (fun P => [.long (mJ X8_4 (mR X r0 1) (w3).toNatClampNeg), .long (-(mJ X19_10 (mR X8_4 r0 1) (w9).toNatClampNeg))])) C [] (sX12_givesMoney r0 ((mJ X8_4 (mR X r0 1) (w3).toNatClampNeg)) ((-(mJ X19_10 (mR X8_4 r0 1) (w9).toNatClampNeg)))) fcX12_182 rfl (fun _ => rfl) ⟨Nat.le_of_ble_eq_true rfl, Nat.le_of_ble_eq_true rfl⟩ ⟨Nat.le_of_ble_eq_true rfl, Nat.le_of_ble_eq_true rfl⟩ (Nat.le_of_ble_eq_true rfl) dX12_paysFor_24 h15 (fun _ X24_14 => ?_)
  refine q_aload_n C 0 dX12_paysFor_27 rfl rfl ?_
  refine q_aload_n C 0 dX12_paysFor_28 rfl rfl ?_
  refine q_chk (fun h16 => ?_)
  refine q_chk (fun h17 => ?_)
  refine p_getR C fgX12_11 rfl dX12_paysFor_29 h16 h17 ?_
  refine q_aload_n C 0 dX12_paysFor_32 rfl rfl ?_
  refine q_iload_n C 1 dX12_paysFor_33 rfl rfl ?_
  refine q_iconst C (1 : Int32) dX12_paysFor_34 rfl ?_
  refine q_cVI (As := (fun P => [.int v1, .int (1 : Int32)])) C [.ref (q_P E + (mR X24_14 r0 1)), .ref (q_P E + r0)] (sX12_at r0 v1 (1 : Int32)) fcX12_111 rfl (fun _ => rfl) ⟨Nat.le_of_ble_eq_true rfl, Nat.le_of_ble_eq_true rfl⟩ ⟨Nat.le_of_ble_eq_true rfl, Nat.le_of_ble_eq_true rfl⟩ (Nat.le_of_ble_eq_true rfl) dX12_paysFor_35 h16 (fun w18 X35_19 => ?_)
  refine q_chk (fun h20 => ?_)
  refine q_chk (fun h21 => ?_)
  refine p_lald C dX12_paysFor_38 h20 h21 ?_
  refine q_aload_n C 0 dX12_paysFor_39 rfl rfl ?_
  refine q_chk (fun h22 => ?_)
  refine q_chk (fun h23 => ?_)
  refine p_getR C fgX12_11 rfl dX12_paysFor_40 h22 h23 ?_
  refine q_aload_n C 0 dX12_paysFor_43 rfl rfl ?_
  refine q_iload_n C 1 dX12_paysFor_44 rfl rfl ?_
  refine q_iconst C (4 : Int32) dX12_paysFor_45 rfl ?_
  refine q_cVI (As := (fun P => [.int v1, .int (4 : Int32)])) C [.ref (q_P E + (mR X35_19 r0 1)), .long (mJ X35_19 (mR X24_14 r0 1) (w18).toNatClampNeg), .ref (q_P E + r0)] (sX12_at r0 v1 (4 : Int32)) fcX12_111 rfl (fun _ => rfl) ⟨Nat.le_of_ble_eq_true rfl, Nat.le_of_ble_eq_true rfl⟩ ⟨Nat.le_of_ble_eq_true rfl, Nat.le_of_ble_eq_true rfl⟩ (Nat.le_of_ble_eq_true rfl) dX12_paysFor_46 h22 (fun w24 X46_25 => ?_)
  refine q_chk (fun h26 => ?_)
  refine q_chk (fun h27 => ?_)
  refine p_lald C dX12_paysFor_49 h26 h27 ?_
  refine q_chk (fun h30 => ?_)
  refine q_cVV (As := (fun P => [.long (mJ X35_19 (mR X24_14 r0 1) (w18).toNatClampNeg), .long (mJ X46_25 (mR X35_19 r0 1) (w24).toNatClampNeg)])) C [] (sX12_givesMoney r0 ((mJ X35_19 (mR X24_14 r0 1) (w18).toNatClampNeg)) ((mJ X46_25 (mR X35_19 r0 1) (w24).toNatClampNeg))) fcX12_182 rfl (fun _ => rfl) ⟨Nat.le_of_ble_eq_true rfl, Nat.le_of_ble_eq_true rfl⟩ ⟨Nat.le_of_ble_eq_true rfl, Nat.le_of_ble_eq_true rfl⟩ (Nat.le_of_ble_eq_true rfl) dX12_paysFor_50 h30 (fun _ X50_29 => ?_)
  refine q_aload_n C 0 dX12_paysFor_53 rfl rfl ?_
  refine q_chk (fun h31 => ?_)
  refine q_chk (fun h32 => ?_)
  refine p_getR C fgX12_11 rfl dX12_paysFor_54 h31 h32 ?_
  refine q_aload_n C 0 dX12_paysFor_57 rfl rfl ?_
  refine q_iload_n C 1 dX12_paysFor_58 rfl rfl ?_
  refine q_bipush C (7 : Int32) dX12_paysFor_59 rfl ?_
  refine q_cVI (As := (fun P => [.int v1, .int (7 : Int32)])) C [.ref (q_P E + (mR X50_29 r0 1))] (sX12_at r0 v1 (7 : Int32)) fcX12_111 rfl (fun _ => rfl) ⟨Nat.le_of_ble_eq_true rfl, Nat.le_of_ble_eq_true rfl⟩ ⟨Nat.le_of_ble_eq_true rfl, Nat.le_of_ble_eq_true rfl⟩ (Nat.le_of_ble_eq_true rfl) dX12_paysFor_61 h31 (fun w33 X61_34 => ?_)
  refine q_iload_n C 2 dX12_paysFor_64 rfl rfl ?_
  refine q_i2l C dX12_paysFor_65 ?_
  refine q_chk (fun h36 => ?_)
  refine q_chk (fun h37 => ?_)
  refine p_last C dX12_paysFor_66 h36 h37 ?_
  refine q_nmX (fun X66_35 => ?_)
  refine q_aload_n C 0 dX12_paysFor_67 rfl rfl ?_
  refine q_chk (fun h38 => ?_)
  refine q_chk (fun h39 => ?_)
  refine p_getR C fgX12_11 rfl dX12_paysFor_68 h38 h39 ?_
  refine q_aload_n C 0 dX12_paysFor_71 rfl rfl ?_
  refine q_iload_n C 1 dX12_paysFor_72 rfl rfl ?_
  refine q_bipush C (8 : Int32) dX12_paysFor_73 rfl ?_
  refine q_cVI (As := (fun P => [.int v1, .int (8 : Int32)])) C [.ref (q_P E + (mR X66_35 r0 1))] (sX12_at r0 v1 (8 : Int32)) fcX12_111 rfl (fun _ => rfl) ⟨Nat.le_of_ble_eq_true rfl, Nat.le_of_ble_eq_true rfl⟩ ⟨Nat.le_of_ble_eq_true rfl, Nat.le_of_ble_eq_true rfl⟩ (Nat.le_of_ble_eq_true rfl) dX12_paysFor_75 h38 (fun w40 X75_41 => ?_)
  refine q_aload_n C 0 dX12_paysFor_78 rfl rfl ?_
  refine q_chk (fun h42 => ?_)
  refine q_chk (fun h43 => ?_)
  refine p_getR C fgX12_11 rfl dX12_paysFor_79 h42 h43 ?_
  refine q_bipush C (62 : Int32) dX12_paysFor_82 rfl ?_
  refine q_chk (fun h44 => ?_)
  refine q_chk (fun h45 => ?_)
  refine p_lald C dX12_paysFor_84 h44 h45 ?_
  refine q_chk (fun h47 => ?_)
  refine q_chk (fun h48 => ?_)
  refine p_last C dX12_paysFor_85 h47 h48 ?_
  refine q_nmX (fun X85_46 => ?_)
  exact q_vret C dX12_paysFor_86
/-! RecordClaimsModel.settles(I)V -/
abbrev cX12_settles : ByteArray := prog_14_method_31_code
def yX12_settles : MethodName := ⟨RX12, "settles", "(I)V"⟩
theorem dX12_settles_0 : decode cX12_settles 0 = .ok (.aload_n 0, 1) := by decide +kernel
theorem dX12_settles_1 : decode cX12_settles 1 = .ok (.getfield 11, 3) := by decide +kernel
theorem dX12_settles_4 : decode cX12_settles 4 = .ok (.aload_n 0, 1) := by decide +kernel
theorem dX12_settles_5 : decode cX12_settles 5 = .ok (.iload_n 1, 1) := by decide +kernel
theorem dX12_settles_6 : decode cX12_settles 6 = .ok (.iconst 3, 1) := by decide +kernel
theorem dX12_settles_7 : decode cX12_settles 7 = .ok (.invokevirtual 111, 3) := by decide +kernel
theorem dX12_settles_10 : decode cX12_settles 10 = .ok (.laload, 1) := by decide +kernel
theorem dX12_settles_11 : decode cX12_settles 11 = .ok (.lstore_n 2, 1) := by decide +kernel
theorem dX12_settles_12 : decode cX12_settles 12 = .ok (.aload_n 0, 1) := by decide +kernel
theorem dX12_settles_13 : decode cX12_settles 13 = .ok (.aload_n 0, 1) := by decide +kernel
theorem dX12_settles_14 : decode cX12_settles 14 = .ok (.getfield 11, 3) := by decide +kernel
theorem dX12_settles_17 : decode cX12_settles 17 = .ok (.aload_n 0, 1) := by decide +kernel
theorem dX12_settles_18 : decode cX12_settles 18 = .ok (.iload_n 1, 1) := by decide +kernel
theorem dX12_settles_19 : decode cX12_settles 19 = .ok (.iconst 1, 1) := by decide +kernel
theorem dX12_settles_20 : decode cX12_settles 20 = .ok (.invokevirtual 111, 3) := by decide +kernel
theorem dX12_settles_23 : decode cX12_settles 23 = .ok (.laload, 1) := by decide +kernel
theorem dX12_settles_24 : decode cX12_settles 24 = .ok (.aload_n 0, 1) := by decide +kernel
theorem dX12_settles_25 : decode cX12_settles 25 = .ok (.getfield 11, 3) := by decide +kernel
theorem dX12_settles_28 : decode cX12_settles 28 = .ok (.aload_n 0, 1) := by decide +kernel
theorem dX12_settles_29 : decode cX12_settles 29 = .ok (.iload_n 1, 1) := by decide +kernel
theorem dX12_settles_30 : decode cX12_settles 30 = .ok (.iconst 2, 1) := by decide +kernel
theorem dX12_settles_31 : decode cX12_settles 31 = .ok (.invokevirtual 111, 3) := by decide +kernel
theorem dX12_settles_34 : decode cX12_settles 34 = .ok (.laload, 1) := by decide +kernel
theorem dX12_settles_35 : decode cX12_settles 35 = .ok (.invokevirtual 171, 3) := by decide +kernel
theorem dX12_settles_38 : decode cX12_settles 38 = .ok (.lload_n 2, 1) := by decide +kernel
theorem dX12_settles_39 : decode cX12_settles 39 = .ok (.lcmp, 1) := by decide +kernel
theorem dX12_settles_40 : decode cX12_settles 40 = .ok (.ifCond .ge 4, 3) := by decide +kernel
theorem dX12_settles_43 : decode cX12_settles 43 = .ok (.return_, 1) := by decide +kernel
theorem dX12_settles_44 : decode cX12_settles 44 = .ok (.aload_n 0, 1) := by decide +kernel
theorem dX12_settles_45 : decode cX12_settles 45 = .ok (.aload_n 0, 1) := by decide +kernel
theorem dX12_settles_46 : decode cX12_settles 46 = .ok (.getfield 11, 3) := by decide +kernel
theorem dX12_settles_49 : decode cX12_settles 49 = .ok (.aload_n 0, 1) := by decide +kernel
theorem dX12_settles_50 : decode cX12_settles 50 = .ok (.iload_n 1, 1) := by decide +kernel
theorem dX12_settles_51 : decode cX12_settles 51 = .ok (.iconst 1, 1) := by decide +kernel
theorem dX12_settles_52 : decode cX12_settles 52 = .ok (.invokevirtual 111, 3) := by decide +kernel
theorem dX12_settles_55 : decode cX12_settles 55 = .ok (.laload, 1) := by decide +kernel
theorem dX12_settles_56 : decode cX12_settles 56 = .ok (.aload_n 0, 1) := by decide +kernel
theorem dX12_settles_57 : decode cX12_settles 57 = .ok (.getfield 11, 3) := by decide +kernel
theorem dX12_settles_60 : decode cX12_settles 60 = .ok (.aload_n 0, 1) := by decide +kernel
theorem dX12_settles_61 : decode cX12_settles 61 = .ok (.iload_n 1, 1) := by decide +kernel
theorem dX12_settles_62 : decode cX12_settles 62 = .ok (.iconst 2, 1) := by decide +kernel
theorem dX12_settles_63 : decode cX12_settles 63 = .ok (.invokevirtual 111, 3) := by decide +kernel
theorem dX12_settles_66 : decode cX12_settles 66 = .ok (.laload, 1) := by decide +kernel
theorem dX12_settles_67 : decode cX12_settles 67 = .ok (.lload_n 2, 1) := by decide +kernel
theorem dX12_settles_68 : decode cX12_settles 68 = .ok (.lneg, 1) := by decide +kernel
theorem dX12_settles_69 : decode cX12_settles 69 = .ok (.invokevirtual 175, 3) := by decide +kernel
theorem dX12_settles_72 : decode cX12_settles 72 = .ok (.aload_n 0, 1) := by decide +kernel
theorem dX12_settles_73 : decode cX12_settles 73 = .ok (.aload_n 0, 1) := by decide +kernel
theorem dX12_settles_74 : decode cX12_settles 74 = .ok (.getfield 11, 3) := by decide +kernel
theorem dX12_settles_77 : decode cX12_settles 77 = .ok (.aload_n 0, 1) := by decide +kernel
theorem dX12_settles_78 : decode cX12_settles 78 = .ok (.iload_n 1, 1) := by decide +kernel
theorem dX12_settles_79 : decode cX12_settles 79 = .ok (.iconst 0, 1) := by decide +kernel
theorem dX12_settles_80 : decode cX12_settles 80 = .ok (.invokevirtual 111, 3) := by decide +kernel
theorem dX12_settles_83 : decode cX12_settles 83 = .ok (.laload, 1) := by decide +kernel
theorem dX12_settles_84 : decode cX12_settles 84 = .ok (.aload_n 0, 1) := by decide +kernel
theorem dX12_settles_85 : decode cX12_settles 85 = .ok (.getfield 11, 3) := by decide +kernel
theorem dX12_settles_88 : decode cX12_settles 88 = .ok (.aload_n 0, 1) := by decide +kernel
theorem dX12_settles_89 : decode cX12_settles 89 = .ok (.iload_n 1, 1) := by decide +kernel
theorem dX12_settles_90 : decode cX12_settles 90 = .ok (.iconst 2, 1) := by decide +kernel
theorem dX12_settles_91 : decode cX12_settles 91 = .ok (.invokevirtual 111, 3) := by decide +kernel
theorem dX12_settles_94 : decode cX12_settles 94 = .ok (.laload, 1) := by decide +kernel
theorem dX12_settles_95 : decode cX12_settles 95 = .ok (.lload_n 2, 1) := by decide +kernel
theorem dX12_settles_96 : decode cX12_settles 96 = .ok (.invokevirtual 175, 3) := by decide +kernel
theorem dX12_settles_99 : decode cX12_settles 99 = .ok (.aload_n 0, 1) := by decide +kernel
theorem dX12_settles_100 : decode cX12_settles 100 = .ok (.iload_n 1, 1) := by decide +kernel
theorem dX12_settles_101 : decode cX12_settles 101 = .ok (.iconst 1, 1) := by decide +kernel
theorem dX12_settles_102 : decode cX12_settles 102 = .ok (.invokevirtual 179, 3) := by decide +kernel
theorem dX12_settles_105 : decode cX12_settles 105 = .ok (.return_, 1) := by decide +kernel
theorem fcX12_171 : q_LV RX12 171 yX12_sharesOf cX12_sharesOf 5 (some .long) 2 12 := ⟨q_tb 1587 (by decide +kernel) rfl, q_tb 1589 (by decide +kernel) rfl, q_tbs (q := (yX12_sharesOf, 35)) 100 (by decide +kernel) rfl, q_tb 13 (by decide +kernel) rfl, q_tb 1590 (by decide +kernel) rfl, ⟨by decide +kernel, by decide +kernel, by decide +kernel⟩, TX12, 35, rfl⟩
theorem fcX12_175 : q_LV RX12 175 yX12_givesShares cX12_givesShares 7 none 3 12 := ⟨q_tb 1592 (by decide +kernel) rfl, q_tb 1594 (by decide +kernel) rfl, q_tbs (q := (yX12_givesShares, 35)) 101 (by decide +kernel) rfl, q_tb 13 (by decide +kernel) rfl, q_tb 1595 (by decide +kernel) rfl, ⟨by decide +kernel, by decide +kernel, by decide +kernel⟩, TX12, 35, rfl⟩
theorem fcX12_179 : q_LV RX12 179 yX12_paysFor cX12_paysFor 3 none 2 12 := ⟨q_tb 1596 (by decide +kernel) rfl, q_tb 1598 (by decide +kernel) rfl, q_tbs (q := (yX12_paysFor, 35)) 102 (by decide +kernel) rfl, q_tb 13 (by decide +kernel) rfl, q_tb 1599 (by decide +kernel) rfl, ⟨by decide +kernel, by decide +kernel, by decide +kernel⟩, TX12, 35, rfl⟩
def fX12_settles (r0 : Nat) (v1 : Int32) (X : Mm) : Option (Unit × Mm) :=
if mT X r0 = 12 then
if mR X r0 1 ≠ 0 then
bd (fX12_at r0 v1 (3 : Int32) X) fun w3 X7_4 =>
if mT X7_4 (mR X r0 1) = 15 then
if q_b X7_4 (mR X r0 1) w3 then
nm ((mJ X7_4 (mR X r0 1) (w3).toNatClampNeg)) fun v2_11 =>
if mT X7_4 r0 = 12 then
if mR X7_4 r0 1 ≠ 0 then
bd (fX12_at r0 v1 (1 : Int32) X7_4) fun w10 X20_11 =>
if mT X20_11 (mR X7_4 r0 1) = 15 then
if q_b X20_11 (mR X7_4 r0 1) w10 then
if mT X20_11 r0 = 12 then
if mR X20_11 r0 1 ≠ 0 then
bd (fX12_at r0 v1 (2 : Int32) X20_11) fun w16 X31_17 =>
if mT X31_17 (mR X20_11 r0 1) = 15 then
if q_b X31_17 (mR X20_11 r0 1) w16 then
if mT X31_17 r0 = 12 then
bd (fX12_sharesOf r0 ((mJ X20_11 (mR X7_4 r0 1) (w10).toNatClampNeg)) ((mJ X31_17 (mR X20_11 r0 1) (w16).toNatClampNeg)) X31_17) fun w20 X35_21 =>
if 0 ≤ (lg_cmp w20 v2_11) then (
if mT X35_21 r0 = 12 then
if mR X35_21 r0 1 ≠ 0 then
bd (fX12_at r0 v1 (1 : Int32) X35_21) fun w25 X52_26 =>
if mT X52_26 (mR X35_21 r0 1) = 15 then
if q_b X52_26 (mR X35_21 r0 1) w25 then
if mT X52_26 r0 = 12 then
if mR X52_26 r0 1 ≠ 0 then
bd (fX12_at r0 v1 (2 : Int32) X52_26) fun w31 X63_32 =>
if mT X63_32 (mR X52_26 r0 1) = 15 then
if q_b X63_32 (mR X52_26 r0 1) w31 then
if mT X63_32 r0 = 12 then
bd (fX12_givesShares r0 ((mJ X52_26 (mR X35_21 r0 1) (w25).toNatClampNeg)) ((mJ X63_32 (mR X52_26 r0 1) (w31).toNatClampNeg)) ((-v2_11)) X63_32) fun _ X69_36 =>
if mT X69_36 r0 = 12 then
if mR X69_36 r0 1 ≠ 0 then
bd (fX12_at r0 v1 (0 : Int32) X69_36) fun w40 X80_41 =>
if mT X80_41 (mR X69_36 r0 1) = 15 then
if q_b X80_41 (mR X69_36 r0 1) w40 then
if mT X80_41 r0 = 12 then
if mR X80_41 r0 1 ≠ 0 then
bd (fX12_at r0 v1 (2 : Int32) X80_41) fun w46 X91_47 =>
if mT X91_47 (mR X80_41 r0 1) = 15 then
if q_b X91_47 (mR X80_41 r0 1) w46 then
if mT X91_47 r0 = 12 then
bd (fX12_givesShares r0 ((mJ X80_41 (mR X69_36 r0 1) (w40).toNatClampNeg)) ((mJ X91_47 (mR X80_41 r0 1) (w46).toNatClampNeg)) v2_11 X91_47) fun _ X96_51 =>
if mT X96_51 r0 = 12 then
bd (fX12_paysFor r0 v1 (1 : Int32) X96_51) fun _ X102_54 =>
some ((), X102_54)
else none
else none
else none
else none
else none
else none
else none
else none
else none
else none
else none
else none
else none
else none
else none
else none
else none
else none
else none
) else (
some ((), X35_21)
)
else none
else none
else none
else none
else none
else none
else none
else none
else none
else none
else none
else none
else none
theorem sX12_settles (r0 : Nat) (v1 : Int32) : q_Ct yX12_settles cX12_settles 4 none 2 46 0 0 q_eV (fun P => [.ref (P + r0), .int v1]) (fX12_settles r0 v1) := by
  refine q_meth (by decide +kernel) (fun P => Nat.le_of_ble_eq_true rfl) (fun E X C hn => ?_)
  show Sm E (q_fin E q_eV X 0 0) 0 0 0 [(0, .ref (q_P E + r0)), (1, .int v1)] [] X _
  unfold fX12_settles
  refine q_aload_n C 0 dX12_settles_0 rfl rfl ?_
  refine q_chk (fun h1 => ?_)
  refine q_chk (fun h2 => ?_)
  refine p_getR C fgX12_11 rfl dX12_settles_1 h1 h2 ?_
  refine q_aload_n C 0 dX12_settles_4 rfl rfl ?_
  refine q_iload_n C 1 dX12_settles_5 rfl rfl ?_
  refine q_iconst C (3 : Int32) dX12_settles_6 rfl ?_
  refine q_cVI (As := (fun P => [.int v1, .int (3 : Int32)])) C [.ref (q_P E + (mR X r0 1))] (sX12_at r0 v1 (3 : Int32)) fcX12_111 rfl (fun _ => rfl) ⟨Nat.le_of_ble_eq_true rfl, Nat.le_of_ble_eq_true rfl⟩ ⟨Nat.le_of_ble_eq_true rfl, Nat.le_of_ble_eq_true rfl⟩ (Nat.le_of_ble_eq_true rfl) dX12_settles_7 h1 (fun w3 X7_4 => ?_)
  refine q_chk (fun h5 => ?_)
  refine q_chk (fun h6 => ?_)
  refine p_lald C dX12_settles_10 h5 h6 ?_
  refine q_nml (fun v2_11 => ?_)
  refine q_lstore_n C [(2, .long v2_11), (0, .ref (q_P E + r0)), (1, .int v1)] dX12_settles_11 rfl (Nat.le_of_ble_eq_true rfl) rfl ?_
  refine q_aload_n C 1 dX12_settles_12 rfl rfl ?_
  refine q_aload_n C 1 dX12_settles_13 rfl rfl ?_
  refine q_chk (fun h8 => ?_)
  refine q_chk (fun h9 => ?_)
  refine p_getR C fgX12_11 rfl dX12_settles_14 h8 h9 ?_
  refine q_aload_n C 1 dX12_settles_17 rfl rfl ?_
  refine q_iload_n C 2 dX12_settles_18 rfl rfl ?_
  refine q_iconst C (1 : Int32) dX12_settles_19 rfl ?_
  refine q_cVI (As := (fun P => [.int v1, .int (1 : Int32)])) C [.ref (q_P E + (mR X7_4 r0 1)), .ref (q_P E + r0)] (sX12_at r0 v1 (1 : Int32)) fcX12_111 rfl (fun _ => rfl) ⟨Nat.le_of_ble_eq_true rfl, Nat.le_of_ble_eq_true rfl⟩ ⟨Nat.le_of_ble_eq_true rfl, Nat.le_of_ble_eq_true rfl⟩ (Nat.le_of_ble_eq_true rfl) dX12_settles_20 h8 (fun w10 X20_11 => ?_)
  refine q_chk (fun h12 => ?_)
  refine q_chk (fun h13 => ?_)
  refine p_lald C dX12_settles_23 h12 h13 ?_
  refine q_aload_n C 1 dX12_settles_24 rfl rfl ?_
  refine q_chk (fun h14 => ?_)
  refine q_chk (fun h15 => ?_)
  refine p_getR C fgX12_11 rfl dX12_settles_25 h14 h15 ?_
  refine q_aload_n C 1 dX12_settles_28 rfl rfl ?_
  refine q_iload_n C 2 dX12_settles_29 rfl rfl ?_
  refine q_iconst C (2 : Int32) dX12_settles_30 rfl ?_
  refine q_cVI (As := (fun P => [.int v1, .int (2 : Int32)])) C [.ref (q_P E + (mR X20_11 r0 1)), .long (mJ X20_11 (mR X7_4 r0 1) (w10).toNatClampNeg), .ref (q_P E + r0)] (sX12_at r0 v1 (2 : Int32)) fcX12_111 rfl (fun _ => rfl) ⟨Nat.le_of_ble_eq_true rfl, Nat.le_of_ble_eq_true rfl⟩ ⟨Nat.le_of_ble_eq_true rfl, Nat.le_of_ble_eq_true rfl⟩ (Nat.le_of_ble_eq_true rfl) dX12_settles_31 h14 (fun w16 X31_17 => ?_)
  refine q_chk (fun h18 => ?_)
  refine q_chk (fun h19 => ?_)
  refine p_lald C dX12_settles_34 h18 h19 ?_
  refine q_chk (fun h22 => ?_)
  refine q_cVL (As := (fun P => [.long (mJ X20_11 (mR X7_4 r0 1) (w10).toNatClampNeg), .long (mJ X31_17 (mR X20_11 r0 1) (w16).toNatClampNeg)])) C [] (sX12_sharesOf r0 ((mJ X20_11 (mR X7_4 r0 1) (w10).toNatClampNeg)) ((mJ X31_17 (mR X20_11 r0 1) (w16).toNatClampNeg))) fcX12_171 rfl (fun _ => rfl) ⟨Nat.le_of_ble_eq_true rfl, Nat.le_of_ble_eq_true rfl⟩ ⟨Nat.le_of_ble_eq_true rfl, Nat.le_of_ble_eq_true rfl⟩ (Nat.le_of_ble_eq_true rfl) dX12_settles_35 h22 (fun w20 X35_21 => ?_)
  refine q_lload_n C 0 dX12_settles_38 rfl rfl ?_
  refine q_lcmp C dX12_settles_39 ?_
  refine q_if_ge C 44 dX12_settles_40 (by decide) (fun _ => ?_) (fun _ => ?_)
  · refine q_aload_n C 1 dX12_settles_44 rfl rfl ?_
    refine q_aload_n C 1 dX12_settles_45 rfl rfl ?_
    refine q_chk (fun h23 => ?_)
    refine q_chk (fun h24 => ?_)
    refine p_getR C fgX12_11 rfl dX12_settles_46 h23 h24 ?_
    refine q_aload_n C 1 dX12_settles_49 rfl rfl ?_
    refine q_iload_n C 2 dX12_settles_50 rfl rfl ?_
    refine q_iconst C (1 : Int32) dX12_settles_51 rfl ?_
    refine q_cVI (As := (fun P => [.int v1, .int (1 : Int32)])) C [.ref (q_P E + (mR X35_21 r0 1)), .ref (q_P E + r0)] (sX12_at r0 v1 (1 : Int32)) fcX12_111 rfl (fun _ => rfl) ⟨Nat.le_of_ble_eq_true rfl, Nat.le_of_ble_eq_true rfl⟩ ⟨Nat.le_of_ble_eq_true rfl, Nat.le_of_ble_eq_true rfl⟩ (Nat.le_of_ble_eq_true rfl) dX12_settles_52 h23 (fun w25 X52_26 => ?_)
    refine q_chk (fun h27 => ?_)
    refine q_chk (fun h28 => ?_)
    refine p_lald C dX12_settles_55 h27 h28 ?_
    refine q_aload_n C 1 dX12_settles_56 rfl rfl ?_
    refine q_chk (fun h29 => ?_)
    refine q_chk (fun h30 => ?_)
    refine p_getR C fgX12_11 rfl dX12_settles_57 h29 h30 ?_
    refine q_aload_n C 1 dX12_settles_60 rfl rfl ?_
    refine q_iload_n C 2 dX12_settles_61 rfl rfl ?_
    refine q_iconst C (2 : Int32) dX12_settles_62 rfl ?_
    refine q_cVI (As := (fun P => [.int v1, .int (2 : Int32)])) C [.ref (q_P E + (mR X52_26 r0 1)), .long (mJ X52_26 (mR X35_21 r0 1) (w25).toNatClampNeg), .ref (q_P E + r0)] (sX12_at r0 v1 (2 : Int32)) fcX12_111 rfl (fun _ => rfl) ⟨Nat.le_of_ble_eq_true rfl, Nat.le_of_ble_eq_true rfl⟩ ⟨Nat.le_of_ble_eq_true rfl, Nat.le_of_ble_eq_true rfl⟩ (Nat.le_of_ble_eq_true rfl) dX12_settles_63 h29 (fun w31 X63_32 => ?_)
    refine q_chk (fun h33 => ?_)
    refine q_chk (fun h34 => ?_)
    refine p_lald C dX12_settles_66 h33 h34 ?_
    refine q_lload_n C 0 dX12_settles_67 rfl rfl ?_
    refine q_lneg C dX12_settles_68 ?_
    refine q_chk (fun h37 => ?_)
    refine q_cVV (As := (fun P => [.long (mJ X52_26 (mR X35_21 r0 1) (w25).toNatClampNeg), .long (mJ X63_32 (mR X52_26 r0 1) (w31).toNatClampNeg), .long (-v2_11)])) C [] (sX12_givesShares r0 ((mJ X52_26 (mR X35_21 r0 1) (w25).toNatClampNeg)) ((mJ X63_32 (mR X52_26 r0 1) (w31).toNatClampNeg)) ((-v2_11))) fcX12_175 rfl (fun _ => rfl) ⟨Nat.le_of_ble_eq_true rfl, Nat.le_of_ble_eq_true rfl⟩ ⟨Nat.le_of_ble_eq_true rfl, Nat.le_of_ble_eq_true rfl⟩ (Nat.le_of_ble_eq_true rfl) dX12_settles_69 h37 (fun _ X69_36 => ?_)
    refine q_aload_n C 1 dX12_settles_72 rfl rfl ?_
    refine q_aload_n C 1 dX12_settles_73 rfl rfl ?_
    refine q_chk (fun h38 => ?_)
    refine q_chk (fun h39 => ?_)
    refine p_getR C fgX12_11 rfl dX12_settles_74 h38 h39 ?_
    refine q_aload_n C 1 dX12_settles_77 rfl rfl ?_
    refine q_iload_n C 2 dX12_settles_78 rfl rfl ?_
    refine q_iconst C (0 : Int32) dX12_settles_79 rfl ?_
    refine q_cVI (As := (fun P => [.int v1, .int (0 : Int32)])) C [.ref (q_P E + (mR X69_36 r0 1)), .ref (q_P E + r0)] (sX12_at r0 v1 (0 : Int32)) fcX12_111 rfl (fun _ => rfl) ⟨Nat.le_of_ble_eq_true rfl, Nat.le_of_ble_eq_true rfl⟩ ⟨Nat.le_of_ble_eq_true rfl, Nat.le_of_ble_eq_true rfl⟩ (Nat.le_of_ble_eq_true rfl) dX12_settles_80 h38 (fun w40 X80_41 => ?_)
    refine q_chk (fun h42 => ?_)
    refine q_chk (fun h43 => ?_)
    refine p_lald C dX12_settles_83 h42 h43 ?_
    refine q_aload_n C 1 dX12_settles_84 rfl rfl ?_
    refine q_chk (fun h44 => ?_)
    refine q_chk (fun h45 => ?_)
    refine p_getR C fgX12_11 rfl dX12_settles_85 h44 h45 ?_
    refine q_aload_n C 1 dX12_settles_88 rfl rfl ?_
    refine q_iload_n C 2 dX12_settles_89 rfl rfl ?_
    refine q_iconst C (2 : Int32) dX12_settles_90 rfl ?_
    refine q_cVI (As := (fun P => [.int v1, .int (2 : Int32)])) C [.ref (q_P E + (mR X80_41 r0 1)), .long (mJ X80_41 (mR X69_36 r0 1) (w40).toNatClampNeg), .ref (q_P E + r0)] (sX12_at r0 v1 (2 : Int32)) fcX12_111 rfl (fun _ => rfl) ⟨Nat.le_of_ble_eq_true rfl, Nat.le_of_ble_eq_true rfl⟩ ⟨Nat.le_of_ble_eq_true rfl, Nat.le_of_ble_eq_true rfl⟩ (Nat.le_of_ble_eq_true rfl) dX12_settles_91 h44 (fun w46 X91_47 => ?_)
    refine q_chk (fun h48 => ?_)
    refine q_chk (fun h49 => ?_)
    refine p_lald C dX12_settles_94 h48 h49 ?_
    refine q_lload_n C 0 dX12_settles_95 rfl rfl ?_
    refine q_chk (fun h52 => ?_)
    refine q_cVV (As := (fun P => [.long (mJ X80_41 (mR X69_36 r0 1) (w40).toNatClampNeg), .long (mJ X91_47 (mR X80_41 r0 1) (w46).toNatClampNeg), .long v2_11])) C [] (sX12_givesShares r0 ((mJ X80_41 (mR X69_36 r0 1) (w40).toNatClampNeg)) ((mJ X91_47 (mR X80_41 r0 1) (w46).toNatClampNeg)) v2_11) fcX12_175 rfl (fun _ => rfl) ⟨Nat.le_of_ble_eq_true rfl, Nat.le_of_ble_eq_true rfl⟩ ⟨Nat.le_of_ble_eq_true rfl, Nat.le_of_ble_eq_true rfl⟩ (Nat.le_of_ble_eq_true rfl) dX12_settles_96 h52 (fun _ X96_51 => ?_)
    refine q_aload_n C 1 dX12_settles_99 rfl rfl ?_
    refine q_iload_n C 2 dX12_settles_100 rfl rfl ?_
    refine q_iconst C (1 : Int32) dX12_settles_101 rfl ?_
    refine q_chk (fun h55 => ?_)
    refine q_cVV (As := (fun P => [.int v1, .int (1 : Int32)])) C [] (sX12_paysFor r0 v1 (1 : Int32)) fcX12_179 rfl (fun _ => rfl) ⟨Nat.le_of_ble_eq_true rfl, Nat.le_of_ble_eq_true rfl⟩ ⟨Nat.le_of_ble_eq_true rfl, Nat.le_of_ble_eq_true rfl⟩ (Nat.le_of_ble_eq_true rfl) dX12_settles_102 h55 (fun _ X102_54 => ?_)
    exact q_vret C dX12_settles_105
  · exact q_vret C dX12_settles_43
/-! RecordClaimsModel.cashOf(IJ)J -/
abbrev cX12_cashOf : ByteArray := prog_14_method_36_code
def yX12_cashOf : MethodName := ⟨RX12, "cashOf", "(IJ)J"⟩
theorem dX12_cashOf_0 : decode cX12_cashOf 0 = .ok (.lload_n 2, 1) := by decide +kernel
theorem dX12_cashOf_1 : decode cX12_cashOf 1 = .ok (.aload_n 0, 1) := by decide +kernel
theorem dX12_cashOf_2 : decode cX12_cashOf 2 = .ok (.getfield 11, 3) := by decide +kernel
theorem dX12_cashOf_5 : decode cX12_cashOf 5 = .ok (.aload_n 0, 1) := by decide +kernel
theorem dX12_cashOf_6 : decode cX12_cashOf 6 = .ok (.iload_n 1, 1) := by decide +kernel
theorem dX12_cashOf_7 : decode cX12_cashOf 7 = .ok (.bipush 8, 2) := by decide +kernel
theorem dX12_cashOf_9 : decode cX12_cashOf 9 = .ok (.invokevirtual 66, 3) := by decide +kernel
theorem dX12_cashOf_12 : decode cX12_cashOf 12 = .ok (.laload, 1) := by decide +kernel
theorem dX12_cashOf_13 : decode cX12_cashOf 13 = .ok (.lmul, 1) := by decide +kernel
theorem dX12_cashOf_14 : decode cX12_cashOf 14 = .ok (.aload_n 0, 1) := by decide +kernel
theorem dX12_cashOf_15 : decode cX12_cashOf 15 = .ok (.getfield 11, 3) := by decide +kernel
theorem dX12_cashOf_18 : decode cX12_cashOf 18 = .ok (.aload_n 0, 1) := by decide +kernel
theorem dX12_cashOf_19 : decode cX12_cashOf 19 = .ok (.iload_n 1, 1) := by decide +kernel
theorem dX12_cashOf_20 : decode cX12_cashOf 20 = .ok (.bipush 9, 2) := by decide +kernel
theorem dX12_cashOf_22 : decode cX12_cashOf 22 = .ok (.invokevirtual 66, 3) := by decide +kernel
theorem dX12_cashOf_25 : decode cX12_cashOf 25 = .ok (.laload, 1) := by decide +kernel
theorem dX12_cashOf_26 : decode cX12_cashOf 26 = .ok (.lrem, 1) := by decide +kernel
theorem dX12_cashOf_27 : decode cX12_cashOf 27 = .ok (.aload_n 0, 1) := by decide +kernel
theorem dX12_cashOf_28 : decode cX12_cashOf 28 = .ok (.getfield 11, 3) := by decide +kernel
theorem dX12_cashOf_31 : decode cX12_cashOf 31 = .ok (.aload_n 0, 1) := by decide +kernel
theorem dX12_cashOf_32 : decode cX12_cashOf 32 = .ok (.iload_n 1, 1) := by decide +kernel
theorem dX12_cashOf_33 : decode cX12_cashOf 33 = .ok (.bipush 11, 2) := by decide +kernel
theorem dX12_cashOf_35 : decode cX12_cashOf 35 = .ok (.invokevirtual 66, 3) := by decide +kernel
theorem dX12_cashOf_38 : decode cX12_cashOf 38 = .ok (.laload, 1) := by decide +kernel
theorem dX12_cashOf_39 : decode cX12_cashOf 39 = .ok (.lmul, 1) := by decide +kernel
theorem dX12_cashOf_40 : decode cX12_cashOf 40 = .ok (.aload_n 0, 1) := by decide +kernel
theorem dX12_cashOf_41 : decode cX12_cashOf 41 = .ok (.getfield 11, 3) := by decide +kernel
theorem dX12_cashOf_44 : decode cX12_cashOf 44 = .ok (.aload_n 0, 1) := by decide +kernel
theorem dX12_cashOf_45 : decode cX12_cashOf 45 = .ok (.iload_n 1, 1) := by decide +kernel
theorem dX12_cashOf_46 : decode cX12_cashOf 46 = .ok (.bipush 9, 2) := by decide +kernel
theorem dX12_cashOf_48 : decode cX12_cashOf 48 = .ok (.invokevirtual 66, 3) := by decide +kernel
theorem dX12_cashOf_51 : decode cX12_cashOf 51 = .ok (.laload, 1) := by decide +kernel
theorem dX12_cashOf_52 : decode cX12_cashOf 52 = .ok (.ldiv, 1) := by decide +kernel
theorem dX12_cashOf_53 : decode cX12_cashOf 53 = .ok (.lreturn, 1) := by decide +kernel
def fX12_cashOf (r0 : Nat) (v1 : Int32) (v2 : Int64) (X : Mm) : Option (Int64 × Mm) :=
if mT X r0 = 12 then
if mR X r0 1 ≠ 0 then
bd (fX12_of r0 v1 (8 : Int32) X) fun w3 X9_4 =>
if mT X9_4 (mR X r0 1) = 15 then
if q_b X9_4 (mR X r0 1) w3 then
if mT X9_4 r0 = 12 then
if mR X9_4 r0 1 ≠ 0 then
bd (fX12_of r0 v1 (9 : Int32) X9_4) fun w9 X22_10 =>
if mT X22_10 (mR X9_4 r0 1) = 15 then
if q_b X22_10 (mR X9_4 r0 1) w9 then
if (mJ X22_10 (mR X9_4 r0 1) (w9).toNatClampNeg) = 0 then none else
if mT X22_10 r0 = 12 then
if mR X22_10 r0 1 ≠ 0 then
bd (fX12_of r0 v1 (11 : Int32) X22_10) fun w15 X35_16 =>
if mT X35_16 (mR X22_10 r0 1) = 15 then
if q_b X35_16 (mR X22_10 r0 1) w15 then
if mT X35_16 r0 = 12 then
if mR X35_16 r0 1 ≠ 0 then
bd (fX12_of r0 v1 (9 : Int32) X35_16) fun w21 X48_22 =>
if mT X48_22 (mR X35_16 r0 1) = 15 then
if q_b X48_22 (mR X35_16 r0 1) w21 then
if (mJ X48_22 (mR X35_16 r0 1) (w21).toNatClampNeg) = 0 then none else
some (((((v2 * (mJ X9_4 (mR X r0 1) (w3).toNatClampNeg)) - (v2 * (mJ X9_4 (mR X r0 1) (w3).toNatClampNeg)) / (mJ X22_10 (mR X9_4 r0 1) (w9).toNatClampNeg) * (mJ X22_10 (mR X9_4 r0 1) (w9).toNatClampNeg)) * (mJ X35_16 (mR X22_10 r0 1) (w15).toNatClampNeg)) / (mJ X48_22 (mR X35_16 r0 1) (w21).toNatClampNeg)), X48_22)
else none
else none
else none
else none
else none
else none
else none
else none
else none
else none
else none
else none
else none
else none
else none
else none
theorem sX12_cashOf (r0 : Nat) (v1 : Int32) (v2 : Int64) : q_Ct yX12_cashOf cX12_cashOf 4 (some .long) 1 22 0 0 q_eL (fun P => [.ref (P + r0), .int v1, .long v2]) (fX12_cashOf r0 v1 v2) := by
  refine q_meth (by decide +kernel) (fun P => Nat.le_of_ble_eq_true rfl) (fun E X C hn => ?_)
  show Sm E (q_fin E q_eL X 0 0) 0 0 0 [(0, .ref (q_P E + r0)), (1, .int v1), (2, .long v2)] [] X _
  unfold fX12_cashOf
  refine q_lload_n C 2 dX12_cashOf_0 rfl rfl ?_
  refine q_aload_n C 0 dX12_cashOf_1 rfl rfl ?_
  refine q_chk (fun h1 => ?_)
  refine q_chk (fun h2 => ?_)
  refine p_getR C fgX12_11 rfl dX12_cashOf_2 h1 h2 ?_
  refine q_aload_n C 0 dX12_cashOf_5 rfl rfl ?_
  refine q_iload_n C 1 dX12_cashOf_6 rfl rfl ?_
  refine q_bipush C (8 : Int32) dX12_cashOf_7 rfl ?_
  refine q_cVI (As := (fun P => [.int v1, .int (8 : Int32)])) C [.ref (q_P E + (mR X r0 1)), .long v2] (sX12_of r0 v1 (8 : Int32)) fcX12_66 rfl (fun _ => rfl) ⟨Nat.le_of_ble_eq_true rfl, Nat.le_of_ble_eq_true rfl⟩ ⟨Nat.le_of_ble_eq_true rfl, Nat.le_of_ble_eq_true rfl⟩ (Nat.le_of_ble_eq_true rfl) dX12_cashOf_9 h1 (fun w3 X9_4 => ?_)
  refine q_chk (fun h5 => ?_)
  refine q_chk (fun h6 => ?_)
  refine p_lald C dX12_cashOf_12 h5 h6 ?_
  refine q_lmul C dX12_cashOf_13 ?_
  refine q_aload_n C 0 dX12_cashOf_14 rfl rfl ?_
  refine q_chk (fun h7 => ?_)
  refine q_chk (fun h8 => ?_)
  refine p_getR C fgX12_11 rfl dX12_cashOf_15 h7 h8 ?_
  refine q_aload_n C 0 dX12_cashOf_18 rfl rfl ?_
  refine q_iload_n C 1 dX12_cashOf_19 rfl rfl ?_
  refine q_bipush C (9 : Int32) dX12_cashOf_20 rfl ?_
  refine q_cVI (As := (fun P => [.int v1, .int (9 : Int32)])) C [.ref (q_P E + (mR X9_4 r0 1)), .long (v2 * (mJ X9_4 (mR X r0 1) (w3).toNatClampNeg))] (sX12_of r0 v1 (9 : Int32)) fcX12_66 rfl (fun _ => rfl) ⟨Nat.le_of_ble_eq_true rfl, Nat.le_of_ble_eq_true rfl⟩ ⟨Nat.le_of_ble_eq_true rfl, Nat.le_of_ble_eq_true rfl⟩ (Nat.le_of_ble_eq_true rfl) dX12_cashOf_22 h7 (fun w9 X22_10 => ?_)
  refine q_chk (fun h11 => ?_)
  refine q_chk (fun h12 => ?_)
  refine p_lald C dX12_cashOf_25 h11 h12 ?_
  refine q_lrem C dX12_cashOf_26 ?_
  refine q_aload_n C 0 dX12_cashOf_27 rfl rfl ?_
  refine q_chk (fun h13 => ?_)
  refine q_chk (fun h14 => ?_)
  refine p_getR C fgX12_11 rfl dX12_cashOf_28 h13 h14 ?_
  refine q_aload_n C 0 dX12_cashOf_31 rfl rfl ?_
  refine q_iload_n C 1 dX12_cashOf_32 rfl rfl ?_
  refine q_bipush C (11 : Int32) dX12_cashOf_33 rfl ?_
  refine q_cVI (As := (fun P => [.int v1, .int (11 : Int32)])) C [.ref (q_P E + (mR X22_10 r0 1)), .long ((v2 * (mJ X9_4 (mR X r0 1) (w3).toNatClampNeg)) - (v2 * (mJ X9_4 (mR X r0 1) (w3).toNatClampNeg)) / (mJ X22_10 (mR X9_4 r0 1) (w9).toNatClampNeg) * (mJ X22_10 (mR X9_4 r0 1) (w9).toNatClampNeg))] (sX12_of r0 v1 (11 : Int32)) fcX12_66 rfl (fun _ => rfl) ⟨Nat.le_of_ble_eq_true rfl, Nat.le_of_ble_eq_true rfl⟩ ⟨Nat.le_of_ble_eq_true rfl, Nat.le_of_ble_eq_true rfl⟩ (Nat.le_of_ble_eq_true rfl) dX12_cashOf_35 h13 (fun w15 X35_16 => ?_)
  refine q_chk (fun h17 => ?_)
  refine q_chk (fun h18 => ?_)
  refine p_lald C dX12_cashOf_38 h17 h18 ?_
  refine q_lmul C dX12_cashOf_39 ?_
  refine q_aload_n C 0 dX12_cashOf_40 rfl rfl ?_
  refine q_chk (fun h19 => ?_)
  refine q_chk (fun h20 => ?_)
  refine p_getR C fgX12_11 rfl dX12_cashOf_41 h19 h20 ?_
  refine q_aload_n C 0 dX12_cashOf_44 rfl rfl ?_
  refine q_iload_n C 1 dX12_cashOf_45 rfl rfl ?_
  refine q_bipush C (9 : Int32) dX12_cashOf_46 rfl ?_
  refine q_cVI (As := (fun P => [.int v1, .int (9 : Int32)])) C [.ref (q_P E + (mR X35_16 r0 1)), .long (((v2 * (mJ X9_4 (mR X r0 1) (w3).toNatClampNeg)) - (v2 * (mJ X9_4 (mR X r0 1) (w3).toNatClampNeg)) / (mJ X22_10 (mR X9_4 r0 1) (w9).toNatClampNeg) * (mJ X22_10 (mR X9_4 r0 1) (w9).toNatClampNeg)) * (mJ X35_16 (mR X22_10 r0 1) (w15).toNatClampNeg))] (sX12_of r0 v1 (9 : Int32)) fcX12_66 rfl (fun _ => rfl) ⟨Nat.le_of_ble_eq_true rfl, Nat.le_of_ble_eq_true rfl⟩ ⟨Nat.le_of_ble_eq_true rfl, Nat.le_of_ble_eq_true rfl⟩ (Nat.le_of_ble_eq_true rfl) dX12_cashOf_48 h19 (fun w21 X48_22 => ?_)
  refine q_chk (fun h23 => ?_)
  refine q_chk (fun h24 => ?_)
  refine p_lald C dX12_cashOf_51 h23 h24 ?_
  refine q_ldiv C dX12_cashOf_52 ?_
  exact q_lret C dX12_cashOf_53
/-! RecordClaimsModel.wholeOf(IJ)J -/
abbrev cX12_wholeOf : ByteArray := prog_14_method_35_code
def yX12_wholeOf : MethodName := ⟨RX12, "wholeOf", "(IJ)J"⟩
theorem dX12_wholeOf_0 : decode cX12_wholeOf 0 = .ok (.lload_n 2, 1) := by decide +kernel
theorem dX12_wholeOf_1 : decode cX12_wholeOf 1 = .ok (.aload_n 0, 1) := by decide +kernel
theorem dX12_wholeOf_2 : decode cX12_wholeOf 2 = .ok (.getfield 11, 3) := by decide +kernel
theorem dX12_wholeOf_5 : decode cX12_wholeOf 5 = .ok (.aload_n 0, 1) := by decide +kernel
theorem dX12_wholeOf_6 : decode cX12_wholeOf 6 = .ok (.iload_n 1, 1) := by decide +kernel
theorem dX12_wholeOf_7 : decode cX12_wholeOf 7 = .ok (.bipush 8, 2) := by decide +kernel
theorem dX12_wholeOf_9 : decode cX12_wholeOf 9 = .ok (.invokevirtual 66, 3) := by decide +kernel
theorem dX12_wholeOf_12 : decode cX12_wholeOf 12 = .ok (.laload, 1) := by decide +kernel
theorem dX12_wholeOf_13 : decode cX12_wholeOf 13 = .ok (.lmul, 1) := by decide +kernel
theorem dX12_wholeOf_14 : decode cX12_wholeOf 14 = .ok (.aload_n 0, 1) := by decide +kernel
theorem dX12_wholeOf_15 : decode cX12_wholeOf 15 = .ok (.getfield 11, 3) := by decide +kernel
theorem dX12_wholeOf_18 : decode cX12_wholeOf 18 = .ok (.aload_n 0, 1) := by decide +kernel
theorem dX12_wholeOf_19 : decode cX12_wholeOf 19 = .ok (.iload_n 1, 1) := by decide +kernel
theorem dX12_wholeOf_20 : decode cX12_wholeOf 20 = .ok (.bipush 9, 2) := by decide +kernel
theorem dX12_wholeOf_22 : decode cX12_wholeOf 22 = .ok (.invokevirtual 66, 3) := by decide +kernel
theorem dX12_wholeOf_25 : decode cX12_wholeOf 25 = .ok (.laload, 1) := by decide +kernel
theorem dX12_wholeOf_26 : decode cX12_wholeOf 26 = .ok (.ldiv, 1) := by decide +kernel
theorem dX12_wholeOf_27 : decode cX12_wholeOf 27 = .ok (.lreturn, 1) := by decide +kernel
def fX12_wholeOf (r0 : Nat) (v1 : Int32) (v2 : Int64) (X : Mm) : Option (Int64 × Mm) :=
if mT X r0 = 12 then
if mR X r0 1 ≠ 0 then
bd (fX12_of r0 v1 (8 : Int32) X) fun w3 X9_4 =>
if mT X9_4 (mR X r0 1) = 15 then
if q_b X9_4 (mR X r0 1) w3 then
if mT X9_4 r0 = 12 then
if mR X9_4 r0 1 ≠ 0 then
bd (fX12_of r0 v1 (9 : Int32) X9_4) fun w9 X22_10 =>
if mT X22_10 (mR X9_4 r0 1) = 15 then
if q_b X22_10 (mR X9_4 r0 1) w9 then
if (mJ X22_10 (mR X9_4 r0 1) (w9).toNatClampNeg) = 0 then none else
some (((v2 * (mJ X9_4 (mR X r0 1) (w3).toNatClampNeg)) / (mJ X22_10 (mR X9_4 r0 1) (w9).toNatClampNeg)), X22_10)
else none
else none
else none
else none
else none
else none
else none
else none
theorem sX12_wholeOf (r0 : Nat) (v1 : Int32) (v2 : Int64) : q_Ct yX12_wholeOf cX12_wholeOf 4 (some .long) 1 22 0 0 q_eL (fun P => [.ref (P + r0), .int v1, .long v2]) (fX12_wholeOf r0 v1 v2) := by
  refine q_meth (by decide +kernel) (fun P => Nat.le_of_ble_eq_true rfl) (fun E X C hn => ?_)
  show Sm E (q_fin E q_eL X 0 0) 0 0 0 [(0, .ref (q_P E + r0)), (1, .int v1), (2, .long v2)] [] X _
  unfold fX12_wholeOf
  refine q_lload_n C 2 dX12_wholeOf_0 rfl rfl ?_
  refine q_aload_n C 0 dX12_wholeOf_1 rfl rfl ?_
  refine q_chk (fun h1 => ?_)
  refine q_chk (fun h2 => ?_)
  refine p_getR C fgX12_11 rfl dX12_wholeOf_2 h1 h2 ?_
  refine q_aload_n C 0 dX12_wholeOf_5 rfl rfl ?_
  refine q_iload_n C 1 dX12_wholeOf_6 rfl rfl ?_
  refine q_bipush C (8 : Int32) dX12_wholeOf_7 rfl ?_
  refine q_cVI (As := (fun P => [.int v1, .int (8 : Int32)])) C [.ref (q_P E + (mR X r0 1)), .long v2] (sX12_of r0 v1 (8 : Int32)) fcX12_66 rfl (fun _ => rfl) ⟨Nat.le_of_ble_eq_true rfl, Nat.le_of_ble_eq_true rfl⟩ ⟨Nat.le_of_ble_eq_true rfl, Nat.le_of_ble_eq_true rfl⟩ (Nat.le_of_ble_eq_true rfl) dX12_wholeOf_9 h1 (fun w3 X9_4 => ?_)
  refine q_chk (fun h5 => ?_)
  refine q_chk (fun h6 => ?_)
  refine p_lald C dX12_wholeOf_12 h5 h6 ?_
  refine q_lmul C dX12_wholeOf_13 ?_
  refine q_aload_n C 0 dX12_wholeOf_14 rfl rfl ?_
  refine q_chk (fun h7 => ?_)
  refine q_chk (fun h8 => ?_)
  refine p_getR C fgX12_11 rfl dX12_wholeOf_15 h7 h8 ?_
  refine q_aload_n C 0 dX12_wholeOf_18 rfl rfl ?_
  refine q_iload_n C 1 dX12_wholeOf_19 rfl rfl ?_
  refine q_bipush C (9 : Int32) dX12_wholeOf_20 rfl ?_
  refine q_cVI (As := (fun P => [.int v1, .int (9 : Int32)])) C [.ref (q_P E + (mR X9_4 r0 1)), .long (v2 * (mJ X9_4 (mR X r0 1) (w3).toNatClampNeg))] (sX12_of r0 v1 (9 : Int32)) fcX12_66 rfl (fun _ => rfl) ⟨Nat.le_of_ble_eq_true rfl, Nat.le_of_ble_eq_true rfl⟩ ⟨Nat.le_of_ble_eq_true rfl, Nat.le_of_ble_eq_true rfl⟩ (Nat.le_of_ble_eq_true rfl) dX12_wholeOf_22 h7 (fun w9 X22_10 => ?_)
  refine q_chk (fun h11 => ?_)
  refine q_chk (fun h12 => ?_)
  refine p_lald C dX12_wholeOf_25 h11 h12 ?_
  refine q_ldiv C dX12_wholeOf_26 ?_
  exact q_lret C dX12_wholeOf_27
/-! RecordClaimsModel.issues(IJJ)V -/
abbrev cX12_issues : ByteArray := prog_14_method_37_code
def yX12_issues : MethodName := ⟨RX12, "issues", "(IJJ)V"⟩
theorem dX12_issues_0 : decode cX12_issues 0 = .ok (.aload_n 0, 1) := by decide +kernel
theorem dX12_issues_1 : decode cX12_issues 1 = .ok (.getfield 11, 3) := by decide +kernel
theorem dX12_issues_4 : decode cX12_issues 4 = .ok (.aload_n 0, 1) := by decide +kernel
theorem dX12_issues_5 : decode cX12_issues 5 = .ok (.iload_n 1, 1) := by decide +kernel
theorem dX12_issues_6 : decode cX12_issues 6 = .ok (.bipush 13, 2) := by decide +kernel
theorem dX12_issues_8 : decode cX12_issues 8 = .ok (.invokevirtual 66, 3) := by decide +kernel
theorem dX12_issues_11 : decode cX12_issues 11 = .ok (.aload_n 0, 1) := by decide +kernel
theorem dX12_issues_12 : decode cX12_issues 12 = .ok (.getfield 11, 3) := by decide +kernel
theorem dX12_issues_15 : decode cX12_issues 15 = .ok (.aload_n 0, 1) := by decide +kernel
theorem dX12_issues_16 : decode cX12_issues 16 = .ok (.iload_n 1, 1) := by decide +kernel
theorem dX12_issues_17 : decode cX12_issues 17 = .ok (.bipush 13, 2) := by decide +kernel
theorem dX12_issues_19 : decode cX12_issues 19 = .ok (.invokevirtual 66, 3) := by decide +kernel
theorem dX12_issues_22 : decode cX12_issues 22 = .ok (.laload, 1) := by decide +kernel
theorem dX12_issues_23 : decode cX12_issues 23 = .ok (.lload_n 2, 1) := by decide +kernel
theorem dX12_issues_24 : decode cX12_issues 24 = .ok (.ladd, 1) := by decide +kernel
theorem dX12_issues_25 : decode cX12_issues 25 = .ok (.lastore, 1) := by decide +kernel
theorem dX12_issues_26 : decode cX12_issues 26 = .ok (.aload_n 0, 1) := by decide +kernel
theorem dX12_issues_27 : decode cX12_issues 27 = .ok (.getfield 11, 3) := by decide +kernel
theorem dX12_issues_30 : decode cX12_issues 30 = .ok (.aload_n 0, 1) := by decide +kernel
theorem dX12_issues_31 : decode cX12_issues 31 = .ok (.iload_n 1, 1) := by decide +kernel
theorem dX12_issues_32 : decode cX12_issues 32 = .ok (.bipush 14, 2) := by decide +kernel
theorem dX12_issues_34 : decode cX12_issues 34 = .ok (.invokevirtual 66, 3) := by decide +kernel
theorem dX12_issues_37 : decode cX12_issues 37 = .ok (.aload_n 0, 1) := by decide +kernel
theorem dX12_issues_38 : decode cX12_issues 38 = .ok (.getfield 11, 3) := by decide +kernel
theorem dX12_issues_41 : decode cX12_issues 41 = .ok (.aload_n 0, 1) := by decide +kernel
theorem dX12_issues_42 : decode cX12_issues 42 = .ok (.iload_n 1, 1) := by decide +kernel
theorem dX12_issues_43 : decode cX12_issues 43 = .ok (.bipush 14, 2) := by decide +kernel
theorem dX12_issues_45 : decode cX12_issues 45 = .ok (.invokevirtual 66, 3) := by decide +kernel
theorem dX12_issues_48 : decode cX12_issues 48 = .ok (.laload, 1) := by decide +kernel
theorem dX12_issues_49 : decode cX12_issues 49 = .ok (.lload 4, 2) := by decide +kernel
theorem dX12_issues_51 : decode cX12_issues 51 = .ok (.ladd, 1) := by decide +kernel
theorem dX12_issues_52 : decode cX12_issues 52 = .ok (.lastore, 1) := by decide +kernel
theorem dX12_issues_53 : decode cX12_issues 53 = .ok (.return_, 1) := by decide +kernel
def fX12_issues (r0 : Nat) (v1 : Int32) (v2 : Int64) (v4 : Int64) (X : Mm) : Option (Unit × Mm) :=
if mT X r0 = 12 then
if mR X r0 1 ≠ 0 then
bd (fX12_of r0 v1 (13 : Int32) X) fun w3 X8_4 =>
if mT X8_4 r0 = 12 then
if mR X8_4 r0 1 ≠ 0 then
bd (fX12_of r0 v1 (13 : Int32) X8_4) fun w7 X19_8 =>
if mT X19_8 (mR X8_4 r0 1) = 15 then
if q_b X19_8 (mR X8_4 r0 1) w7 then
if mT X19_8 (mR X r0 1) = 15 then
if q_b X19_8 (mR X r0 1) w3 then
nm (sJ X19_8 (mR X r0 1) (w3).toNatClampNeg ((mJ X19_8 (mR X8_4 r0 1) (w7).toNatClampNeg) + v2)) fun X25_11 =>
if mT X25_11 r0 = 12 then
if mR X25_11 r0 1 ≠ 0 then
bd (fX12_of r0 v1 (14 : Int32) X25_11) fun w16 X34_17 =>
if mT X34_17 r0 = 12 then
if mR X34_17 r0 1 ≠ 0 then
bd (fX12_of r0 v1 (14 : Int32) X34_17) fun w20 X45_21 =>
if mT X45_21 (mR X34_17 r0 1) = 15 then
if q_b X45_21 (mR X34_17 r0 1) w20 then
if mT X45_21 (mR X25_11 r0 1) = 15 then
if q_b X45_21 (mR X25_11 r0 1) w16 then
nm (sJ X45_21 (mR X25_11 r0 1) (w16).toNatClampNeg ((mJ X45_21 (mR X34_17 r0 1) (w20).toNatClampNeg) + v4)) fun X52_24 =>
some ((), X52_24)
else none
else none
else none
else none
else none
else none
else none
else none
else none
else none
else none
else none
else none
else none
else none
else none
theorem sX12_issues (r0 : Nat) (v1 : Int32) (v2 : Int64) (v4 : Int64) : q_Ct yX12_issues cX12_issues 6 none 1 22 0 0 q_eV (fun P => [.ref (P + r0), .int v1, .long v2, .long v4]) (fX12_issues r0 v1 v2 v4) := by
  refine q_meth (by decide +kernel) (fun P => Nat.le_of_ble_eq_true rfl) (fun E X C hn => ?_)
  show Sm E (q_fin E q_eV X 0 0) 0 0 0 [(0, .ref (q_P E + r0)), (1, .int v1), (2, .long v2), (4, .long v4)] [] X _
  unfold fX12_issues
  refine q_aload_n C 0 dX12_issues_0 rfl rfl ?_
  refine q_chk (fun h1 => ?_)
  refine q_chk (fun h2 => ?_)
  refine p_getR C fgX12_11 rfl dX12_issues_1 h1 h2 ?_
  refine q_aload_n C 0 dX12_issues_4 rfl rfl ?_
  refine q_iload_n C 1 dX12_issues_5 rfl rfl ?_
  refine q_bipush C (13 : Int32) dX12_issues_6 rfl ?_
  refine q_cVI (As := (fun P => [.int v1, .int (13 : Int32)])) C [.ref (q_P E + (mR X r0 1))] (sX12_of r0 v1 (13 : Int32)) fcX12_66 rfl (fun _ => rfl) ⟨Nat.le_of_ble_eq_true rfl, Nat.le_of_ble_eq_true rfl⟩ ⟨Nat.le_of_ble_eq_true rfl, Nat.le_of_ble_eq_true rfl⟩ (Nat.le_of_ble_eq_true rfl) dX12_issues_8 h1 (fun w3 X8_4 => ?_)
  refine q_aload_n C 0 dX12_issues_11 rfl rfl ?_
  refine q_chk (fun h5 => ?_)
  refine q_chk (fun h6 => ?_)
  refine p_getR C fgX12_11 rfl dX12_issues_12 h5 h6 ?_
  refine q_aload_n C 0 dX12_issues_15 rfl rfl ?_
  refine q_iload_n C 1 dX12_issues_16 rfl rfl ?_
  refine q_bipush C (13 : Int32) dX12_issues_17 rfl ?_
  refine q_cVI (As := (fun P => [.int v1, .int (13 : Int32)])) C [.ref (q_P E + (mR X8_4 r0 1)), .int w3, .ref (q_P E + (mR X r0 1))] (sX12_of r0 v1 (13 : Int32)) fcX12_66 rfl (fun _ => rfl) ⟨Nat.le_of_ble_eq_true rfl, Nat.le_of_ble_eq_true rfl⟩ ⟨Nat.le_of_ble_eq_true rfl, Nat.le_of_ble_eq_true rfl⟩ (Nat.le_of_ble_eq_true rfl) dX12_issues_19 h5 (fun w7 X19_8 => ?_)
  refine q_chk (fun h9 => ?_)
  refine q_chk (fun h10 => ?_)
  refine p_lald C dX12_issues_22 h9 h10 ?_
  refine q_lload_n C 2 dX12_issues_23 rfl rfl ?_
  refine q_ladd C dX12_issues_24 ?_
  refine q_chk (fun h12 => ?_)
  refine q_chk (fun h13 => ?_)
  refine p_last C dX12_issues_25 h12 h13 ?_
  refine q_nmX (fun X25_11 => ?_)
  refine q_aload_n C 0 dX12_issues_26 rfl rfl ?_
  refine q_chk (fun h14 => ?_)
  refine q_chk (fun h15 => ?_)
  refine p_getR C fgX12_11 rfl dX12_issues_27 h14 h15 ?_
  refine q_aload_n C 0 dX12_issues_30 rfl rfl ?_
  refine q_iload_n C 1 dX12_issues_31 rfl rfl ?_
  refine q_bipush C (14 : Int32) dX12_issues_32 rfl ?_
  refine q_cVI (As := (fun P => [.int v1, .int (14 : Int32)])) C [.ref (q_P E + (mR X25_11 r0 1))] (sX12_of r0 v1 (14 : Int32)) fcX12_66 rfl (fun _ => rfl) ⟨Nat.le_of_ble_eq_true rfl, Nat.le_of_ble_eq_true rfl⟩ ⟨Nat.le_of_ble_eq_true rfl, Nat.le_of_ble_eq_true rfl⟩ (Nat.le_of_ble_eq_true rfl) dX12_issues_34 h14 (fun w16 X34_17 => ?_)
  refine q_aload_n C 0 dX12_issues_37 rfl rfl ?_
  refine q_chk (fun h18 => ?_)
  refine q_chk (fun h19 => ?_)
  refine p_getR C fgX12_11 rfl dX12_issues_38 h18 h19 ?_
  refine q_aload_n C 0 dX12_issues_41 rfl rfl ?_
  refine q_iload_n C 1 dX12_issues_42 rfl rfl ?_
  refine q_bipush C (14 : Int32) dX12_issues_43 rfl ?_
  refine q_cVI (As := (fun P => [.int v1, .int (14 : Int32)])) C [.ref (q_P E + (mR X34_17 r0 1)), .int w16, .ref (q_P E + (mR X25_11 r0 1))] (sX12_of r0 v1 (14 : Int32)) fcX12_66 rfl (fun _ => rfl) ⟨Nat.le_of_ble_eq_true rfl, Nat.le_of_ble_eq_true rfl⟩ ⟨Nat.le_of_ble_eq_true rfl, Nat.le_of_ble_eq_true rfl⟩ (Nat.le_of_ble_eq_true rfl) dX12_issues_45 h18 (fun w20 X45_21 => ?_)
  refine q_chk (fun h22 => ?_)
  refine q_chk (fun h23 => ?_)
  refine p_lald C dX12_issues_48 h22 h23 ?_
  refine q_lload C 3 dX12_issues_49 rfl ?_
  refine q_ladd C dX12_issues_51 ?_
  refine q_chk (fun h25 => ?_)
  refine q_chk (fun h26 => ?_)
  refine p_last C dX12_issues_52 h25 h26 ?_
  refine q_nmX (fun X52_24 => ?_)
  exact q_vret C dX12_issues_53
