def fL_law_L1402 (n : Nat) (xs : Nat → Int32) (L : Nat) (k18 : Nat → Nat → Int32 → Mm → Option (Unit × Mm)) (r1 : Nat) (r2 : Nat) (v3 : Int32) (X : Mm) : Option (Unit × Mm) :=
nm (v3 + (8 : Int32)) fun v3_1402 =>
k18 r1 r2 v3_1402 X
def fL_law_L176 (n : Nat) (xs : Nat → Int32) (L : Nat) (k18 : Nat → Nat → Int32 → Mm → Option (Unit × Mm)) (r1 : Nat) (r2 : Nat) (v3 : Int32) (X : Mm) : Option (Unit × Mm) :=
if 0 ≤ ((v3 + (1 : Int32))).toInt ∧ ((v3 + (1 : Int32))).toInt < (L : Int) then
if 0 ≤ ((v3 + (2 : Int32))).toInt ∧ ((v3 + (2 : Int32))).toInt < (L : Int) then
if 0 ≤ ((v3 + (3 : Int32))).toInt ∧ ((v3 + (3 : Int32))).toInt < (L : Int) then
if 0 ≤ ((v3 + (4 : Int32))).toInt ∧ ((v3 + (4 : Int32))).toInt < (L : Int) then
if 0 ≤ ((v3 + (5 : Int32))).toInt ∧ ((v3 + (5 : Int32))).toInt < (L : Int) then
if mT X r1 = 11 then
bd (fX11_feed n r1 ((xs ((v3 + (1 : Int32))).toNatClampNeg)) ((xs ((v3 + (2 : Int32))).toNatClampNeg)) ((xs ((v3 + (3 : Int32))).toNatClampNeg)) ((xs ((v3 + (4 : Int32))).toNatClampNeg)) ((xs ((v3 + (5 : Int32))).toNatClampNeg)) X) fun w15 X202_16 =>
if mT X202_16 r2 = 12 then
bd (fX12_feed n r2 ((xs ((v3 + (1 : Int32))).toNatClampNeg)) ((xs ((v3 + (2 : Int32))).toNatClampNeg)) ((xs ((v3 + (3 : Int32))).toNatClampNeg)) ((xs ((v3 + (4 : Int32))).toNatClampNeg)) ((xs ((v3 + (5 : Int32))).toNatClampNeg)) X202_16) fun w18 X231_19 =>
if w15 = w18 then (
fL_law_L1402 n xs L k18 r1 r2 v3 X231_19
) else (
none
)
else none
else none
else none
else none
else none
else none
else none
def fL_law_L239 (n : Nat) (xs : Nat → Int32) (L : Nat) (k18 : Nat → Nat → Int32 → Mm → Option (Unit × Mm)) (r1 : Nat) (r2 : Nat) (v3 : Int32) (X : Mm) : Option (Unit × Mm) :=
if 0 ≤ ((v3 + (1 : Int32))).toInt ∧ ((v3 + (1 : Int32))).toInt < (L : Int) then
if mT X r1 = 11 then
bd (fX11_end r1 ((xs ((v3 + (1 : Int32))).toNatClampNeg)) X) fun w22 X245_23 =>
if mT X245_23 r2 = 12 then
bd (fX12_end r2 ((xs ((v3 + (1 : Int32))).toNatClampNeg)) X245_23) fun w25 X254_26 =>
if w22 = w25 then (
fL_law_L1402 n xs L k18 r1 r2 v3 X254_26
) else (
none
)
else none
else none
else none
def fL_law_L262 (n : Nat) (xs : Nat → Int32) (L : Nat) (k18 : Nat → Nat → Int32 → Mm → Option (Unit × Mm)) (r1 : Nat) (r2 : Nat) (v3 : Int32) (X : Mm) : Option (Unit × Mm) :=
if mT X r1 = 11 then
bd (fX11_book n r1 X) fun w28 X263_29 =>
if mT X263_29 r2 = 12 then
bd (fX12_book n r2 X263_29) fun w31 X267_32 =>
if w28 = w31 then (
fL_law_L1402 n xs L k18 r1 r2 v3 X267_32
) else (
none
)
else none
else none
def fL_law_L275 (n : Nat) (xs : Nat → Int32) (L : Nat) (k18 : Nat → Nat → Int32 → Mm → Option (Unit × Mm)) (r1 : Nat) (r2 : Nat) (v3 : Int32) (X : Mm) : Option (Unit × Mm) :=
if mT X r1 = 11 then
bd (fX11_deeds n r1 X) fun w34 X276_35 =>
if mT X276_35 r2 = 12 then
bd (fX12_deeds n r2 X276_35) fun w37 X280_38 =>
if w34 = w37 then (
fL_law_L1402 n xs L k18 r1 r2 v3 X280_38
) else (
none
)
else none
else none
def fL_law_L288 (n : Nat) (xs : Nat → Int32) (L : Nat) (k18 : Nat → Nat → Int32 → Mm → Option (Unit × Mm)) (r1 : Nat) (r2 : Nat) (v3 : Int32) (X : Mm) : Option (Unit × Mm) :=
if 0 ≤ ((v3 + (1 : Int32))).toInt ∧ ((v3 + (1 : Int32))).toInt < (L : Int) then
if mT X r1 = 11 then
bd (fX11_fault r1 ((xs ((v3 + (1 : Int32))).toNatClampNeg)) X) fun w41 X294_42 =>
if mT X294_42 r2 = 12 then
bd (fX12_fault r2 ((xs ((v3 + (1 : Int32))).toNatClampNeg)) X294_42) fun w44 X303_45 =>
if w41 = w44 then (
fL_law_L1402 n xs L k18 r1 r2 v3 X303_45
) else (
none
)
else none
else none
else none
def fL_law_L311 (n : Nat) (xs : Nat → Int32) (L : Nat) (k18 : Nat → Nat → Int32 → Mm → Option (Unit × Mm)) (r1 : Nat) (r2 : Nat) (v3 : Int32) (X : Mm) : Option (Unit × Mm) :=
if 0 ≤ ((v3 + (1 : Int32))).toInt ∧ ((v3 + (1 : Int32))).toInt < (L : Int) then
if 0 ≤ ((v3 + (2 : Int32))).toInt ∧ ((v3 + (2 : Int32))).toInt < (L : Int) then
if 0 ≤ ((v3 + (3 : Int32))).toInt ∧ ((v3 + (3 : Int32))).toInt < (L : Int) then
if 0 ≤ ((v3 + (4 : Int32))).toInt ∧ ((v3 + (4 : Int32))).toInt < (L : Int) then
if 0 ≤ ((v3 + (5 : Int32))).toInt ∧ ((v3 + (5 : Int32))).toInt < (L : Int) then
if 0 ≤ ((v3 + (6 : Int32))).toInt ∧ ((v3 + (6 : Int32))).toInt < (L : Int) then
if mT X r1 = 11 then
bd (fX11_trade n r1 ((xs ((v3 + (1 : Int32))).toNatClampNeg)) ((xs ((v3 + (2 : Int32))).toNatClampNeg)) ((xs ((v3 + (3 : Int32))).toNatClampNeg)) ((xs ((v3 + (4 : Int32))).toNatClampNeg)) ((xs ((v3 + (5 : Int32))).toNatClampNeg)) ((xs ((v3 + (6 : Int32))).toNatClampNeg)) X) fun w53 X343_54 =>
if mT X343_54 r2 = 12 then
bd (fX12_trade n r2 ((xs ((v3 + (1 : Int32))).toNatClampNeg)) ((xs ((v3 + (2 : Int32))).toNatClampNeg)) ((xs ((v3 + (3 : Int32))).toNatClampNeg)) ((xs ((v3 + (4 : Int32))).toNatClampNeg)) ((xs ((v3 + (5 : Int32))).toNatClampNeg)) ((xs ((v3 + (6 : Int32))).toNatClampNeg)) X343_54) fun w56 X378_57 =>
if w53 = w56 then (
fL_law_L1402 n xs L k18 r1 r2 v3 X378_57
) else (
none
)
else none
else none
else none
else none
else none
else none
else none
else none
def fL_law_L386 (n : Nat) (xs : Nat → Int32) (L : Nat) (k18 : Nat → Nat → Int32 → Mm → Option (Unit × Mm)) (r1 : Nat) (r2 : Nat) (v3 : Int32) (X : Mm) : Option (Unit × Mm) :=
if 0 ≤ ((v3 + (1 : Int32))).toInt ∧ ((v3 + (1 : Int32))).toInt < (L : Int) then
if 0 ≤ ((v3 + (2 : Int32))).toInt ∧ ((v3 + (2 : Int32))).toInt < (L : Int) then
if 0 ≤ ((v3 + (3 : Int32))).toInt ∧ ((v3 + (3 : Int32))).toInt < (L : Int) then
if 0 ≤ ((v3 + (4 : Int32))).toInt ∧ ((v3 + (4 : Int32))).toInt < (L : Int) then
if 0 ≤ ((v3 + (5 : Int32))).toInt ∧ ((v3 + (5 : Int32))).toInt < (L : Int) then
if mT X r1 = 11 then
bd (fX11_money n r1 ((xs ((v3 + (1 : Int32))).toNatClampNeg)) ((xs ((v3 + (2 : Int32))).toNatClampNeg)) ((xs ((v3 + (3 : Int32))).toNatClampNeg)) ((xs ((v3 + (4 : Int32))).toNatClampNeg)) ((xs ((v3 + (5 : Int32))).toNatClampNeg)) X) fun w64 X412_65 =>
if mT X412_65 r2 = 12 then
bd (fX12_money n r2 ((xs ((v3 + (1 : Int32))).toNatClampNeg)) ((xs ((v3 + (2 : Int32))).toNatClampNeg)) ((xs ((v3 + (3 : Int32))).toNatClampNeg)) ((xs ((v3 + (4 : Int32))).toNatClampNeg)) ((xs ((v3 + (5 : Int32))).toNatClampNeg)) X412_65) fun w67 X441_68 =>
if w64 = w67 then (
fL_law_L1402 n xs L k18 r1 r2 v3 X441_68
) else (
none
)
else none
else none
else none
else none
else none
else none
else none
def fL_law_L449 (n : Nat) (xs : Nat → Int32) (L : Nat) (k18 : Nat → Nat → Int32 → Mm → Option (Unit × Mm)) (r1 : Nat) (r2 : Nat) (v3 : Int32) (X : Mm) : Option (Unit × Mm) :=
if 0 ≤ ((v3 + (1 : Int32))).toInt ∧ ((v3 + (1 : Int32))).toInt < (L : Int) then
if 0 ≤ ((v3 + (2 : Int32))).toInt ∧ ((v3 + (2 : Int32))).toInt < (L : Int) then
if 0 ≤ ((v3 + (3 : Int32))).toInt ∧ ((v3 + (3 : Int32))).toInt < (L : Int) then
if 0 ≤ ((v3 + (4 : Int32))).toInt ∧ ((v3 + (4 : Int32))).toInt < (L : Int) then
if 0 ≤ ((v3 + (5 : Int32))).toInt ∧ ((v3 + (5 : Int32))).toInt < (L : Int) then
if 0 ≤ ((v3 + (6 : Int32))).toInt ∧ ((v3 + (6 : Int32))).toInt < (L : Int) then
if mT X r1 = 11 then
bd (fX11_gift n r1 ((xs ((v3 + (1 : Int32))).toNatClampNeg)) ((xs ((v3 + (2 : Int32))).toNatClampNeg)) ((xs ((v3 + (3 : Int32))).toNatClampNeg)) ((xs ((v3 + (4 : Int32))).toNatClampNeg)) ((xs ((v3 + (5 : Int32))).toNatClampNeg)) ((xs ((v3 + (6 : Int32))).toNatClampNeg)) X) fun w76 X481_77 =>
if mT X481_77 r2 = 12 then
bd (fX12_gift n r2 ((xs ((v3 + (1 : Int32))).toNatClampNeg)) ((xs ((v3 + (2 : Int32))).toNatClampNeg)) ((xs ((v3 + (3 : Int32))).toNatClampNeg)) ((xs ((v3 + (4 : Int32))).toNatClampNeg)) ((xs ((v3 + (5 : Int32))).toNatClampNeg)) ((xs ((v3 + (6 : Int32))).toNatClampNeg)) X481_77) fun w79 X516_80 =>
if w76 = w79 then (
fL_law_L1402 n xs L k18 r1 r2 v3 X516_80
) else (
none
)
else none
else none
else none
else none
else none
else none
else none
else none
def fL_law_L524 (n : Nat) (xs : Nat → Int32) (L : Nat) (k18 : Nat → Nat → Int32 → Mm → Option (Unit × Mm)) (r1 : Nat) (r2 : Nat) (v3 : Int32) (X : Mm) : Option (Unit × Mm) :=
if 0 ≤ ((v3 + (1 : Int32))).toInt ∧ ((v3 + (1 : Int32))).toInt < (L : Int) then
if 0 ≤ ((v3 + (2 : Int32))).toInt ∧ ((v3 + (2 : Int32))).toInt < (L : Int) then
if 0 ≤ ((v3 + (3 : Int32))).toInt ∧ ((v3 + (3 : Int32))).toInt < (L : Int) then
if 0 ≤ ((v3 + (4 : Int32))).toInt ∧ ((v3 + (4 : Int32))).toInt < (L : Int) then
if 0 ≤ ((v3 + (5 : Int32))).toInt ∧ ((v3 + (5 : Int32))).toInt < (L : Int) then
if 0 ≤ ((v3 + (6 : Int32))).toInt ∧ ((v3 + (6 : Int32))).toInt < (L : Int) then
if 0 ≤ ((v3 + (7 : Int32))).toInt ∧ ((v3 + (7 : Int32))).toInt < (L : Int) then
if mT X r1 = 11 then
bd (fX11_rights n r1 ((xs ((v3 + (1 : Int32))).toNatClampNeg)) ((xs ((v3 + (2 : Int32))).toNatClampNeg)) ((xs ((v3 + (3 : Int32))).toNatClampNeg)) ((xs ((v3 + (4 : Int32))).toNatClampNeg)) ((xs ((v3 + (5 : Int32))).toNatClampNeg)) ((xs ((v3 + (6 : Int32))).toNatClampNeg)) ((xs ((v3 + (7 : Int32))).toNatClampNeg)) X) fun w89 X562_90 =>
if mT X562_90 r2 = 12 then
bd (fX12_rights n r2 ((xs ((v3 + (1 : Int32))).toNatClampNeg)) ((xs ((v3 + (2 : Int32))).toNatClampNeg)) ((xs ((v3 + (3 : Int32))).toNatClampNeg)) ((xs ((v3 + (4 : Int32))).toNatClampNeg)) ((xs ((v3 + (5 : Int32))).toNatClampNeg)) ((xs ((v3 + (6 : Int32))).toNatClampNeg)) ((xs ((v3 + (7 : Int32))).toNatClampNeg)) X562_90) fun w92 X603_93 =>
if w89 = w92 then (
fL_law_L1402 n xs L k18 r1 r2 v3 X603_93
) else (
none
)
else none
else none
else none
else none
else none
else none
else none
else none
else none
def fL_law_L611 (n : Nat) (xs : Nat → Int32) (L : Nat) (k18 : Nat → Nat → Int32 → Mm → Option (Unit × Mm)) (r1 : Nat) (r2 : Nat) (v3 : Int32) (X : Mm) : Option (Unit × Mm) :=
if 0 ≤ ((v3 + (1 : Int32))).toInt ∧ ((v3 + (1 : Int32))).toInt < (L : Int) then
if 0 ≤ ((v3 + (2 : Int32))).toInt ∧ ((v3 + (2 : Int32))).toInt < (L : Int) then
if 0 ≤ ((v3 + (3 : Int32))).toInt ∧ ((v3 + (3 : Int32))).toInt < (L : Int) then
if 0 ≤ ((v3 + (4 : Int32))).toInt ∧ ((v3 + (4 : Int32))).toInt < (L : Int) then
if 0 ≤ ((v3 + (5 : Int32))).toInt ∧ ((v3 + (5 : Int32))).toInt < (L : Int) then
if mT X r1 = 11 then
bd (fX11_turn n r1 ((xs ((v3 + (1 : Int32))).toNatClampNeg)) ((xs ((v3 + (2 : Int32))).toNatClampNeg)) ((xs ((v3 + (3 : Int32))).toNatClampNeg)) ((xs ((v3 + (4 : Int32))).toNatClampNeg)) ((xs ((v3 + (5 : Int32))).toNatClampNeg)) X) fun w100 X637_101 =>
if mT X637_101 r2 = 12 then
bd (fX12_turn n r2 ((xs ((v3 + (1 : Int32))).toNatClampNeg)) ((xs ((v3 + (2 : Int32))).toNatClampNeg)) ((xs ((v3 + (3 : Int32))).toNatClampNeg)) ((xs ((v3 + (4 : Int32))).toNatClampNeg)) ((xs ((v3 + (5 : Int32))).toNatClampNeg)) X637_101) fun w103 X666_104 =>
if w100 = w103 then (
fL_law_L1402 n xs L k18 r1 r2 v3 X666_104
) else (
none
)
else none
else none
else none
else none
else none
else none
else none
def fL_law_L674 (n : Nat) (xs : Nat → Int32) (L : Nat) (k18 : Nat → Nat → Int32 → Mm → Option (Unit × Mm)) (r1 : Nat) (r2 : Nat) (v3 : Int32) (X : Mm) : Option (Unit × Mm) :=
if 0 ≤ ((v3 + (1 : Int32))).toInt ∧ ((v3 + (1 : Int32))).toInt < (L : Int) then
if 0 ≤ ((v3 + (2 : Int32))).toInt ∧ ((v3 + (2 : Int32))).toInt < (L : Int) then
if 0 ≤ ((v3 + (3 : Int32))).toInt ∧ ((v3 + (3 : Int32))).toInt < (L : Int) then
if 0 ≤ ((v3 + (4 : Int32))).toInt ∧ ((v3 + (4 : Int32))).toInt < (L : Int) then
if mT X r1 = 11 then
bd (fX11_choose n r1 ((xs ((v3 + (1 : Int32))).toNatClampNeg)) ((xs ((v3 + (2 : Int32))).toNatClampNeg)) ((xs ((v3 + (3 : Int32))).toNatClampNeg)) ((xs ((v3 + (4 : Int32))).toNatClampNeg)) X) fun w110 X695_111 =>
if mT X695_111 r2 = 12 then
bd (fX12_choose n r2 ((xs ((v3 + (1 : Int32))).toNatClampNeg)) ((xs ((v3 + (2 : Int32))).toNatClampNeg)) ((xs ((v3 + (3 : Int32))).toNatClampNeg)) ((xs ((v3 + (4 : Int32))).toNatClampNeg)) X695_111) fun w113 X719_114 =>
if w110 = w113 then (
fL_law_L1402 n xs L k18 r1 r2 v3 X719_114
) else (
none
)
else none
else none
else none
else none
else none
else none
def fL_law_L727 (n : Nat) (xs : Nat → Int32) (L : Nat) (k18 : Nat → Nat → Int32 → Mm → Option (Unit × Mm)) (r1 : Nat) (r2 : Nat) (v3 : Int32) (X : Mm) : Option (Unit × Mm) :=
if 0 ≤ ((v3 + (1 : Int32))).toInt ∧ ((v3 + (1 : Int32))).toInt < (L : Int) then
if mT X r1 = 11 then
bd (fX11_days n r1 ((xs ((v3 + (1 : Int32))).toNatClampNeg)) X) fun w117 X733_118 =>
if mT X733_118 r2 = 12 then
bd (fX12_days n r2 ((xs ((v3 + (1 : Int32))).toNatClampNeg)) X733_118) fun w120 X742_121 =>
if w117 = w120 then (
fL_law_L1402 n xs L k18 r1 r2 v3 X742_121
) else (
none
)
else none
else none
else none
def fL_law_L750 (n : Nat) (xs : Nat → Int32) (L : Nat) (k18 : Nat → Nat → Int32 → Mm → Option (Unit × Mm)) (r1 : Nat) (r2 : Nat) (v3 : Int32) (X : Mm) : Option (Unit × Mm) :=
if mT X r1 = 11 then
bd (fX11_undo r1 X) fun w123 X751_124 =>
if mT X751_124 r2 = 12 then
bd (fX12_undo n r2 X751_124) fun w126 X755_127 =>
if w123 = w126 then (
fL_law_L1402 n xs L k18 r1 r2 v3 X755_127
) else (
none
)
else none
else none
def fL_law_L763 (n : Nat) (xs : Nat → Int32) (L : Nat) (k18 : Nat → Nat → Int32 → Mm → Option (Unit × Mm)) (r1 : Nat) (r2 : Nat) (v3 : Int32) (X : Mm) : Option (Unit × Mm) :=
if 0 ≤ ((v3 + (1 : Int32))).toInt ∧ ((v3 + (1 : Int32))).toInt < (L : Int) then
if 0 ≤ ((v3 + (2 : Int32))).toInt ∧ ((v3 + (2 : Int32))).toInt < (L : Int) then
if mT X r1 = 11 then
bd (fX11_has r1 ((xs ((v3 + (1 : Int32))).toNatClampNeg)) ((xs ((v3 + (2 : Int32))).toNatClampNeg)) X) fun w131 X774_132 =>
if mT X774_132 r2 = 12 then
bd (fX12_has r2 ((xs ((v3 + (1 : Int32))).toNatClampNeg)) ((xs ((v3 + (2 : Int32))).toNatClampNeg)) X774_132) fun w134 X788_135 =>
if (lg_cmp w131 w134) = 0 then (
fL_law_L1402 n xs L k18 r1 r2 v3 X788_135
) else (
none
)
else none
else none
else none
else none
def fL_law_L797 (n : Nat) (xs : Nat → Int32) (L : Nat) (k18 : Nat → Nat → Int32 → Mm → Option (Unit × Mm)) (r1 : Nat) (r2 : Nat) (v3 : Int32) (X : Mm) : Option (Unit × Mm) :=
if 0 ≤ ((v3 + (1 : Int32))).toInt ∧ ((v3 + (1 : Int32))).toInt < (L : Int) then
if mT X r1 = 11 then
bd (fX11_purse r1 ((xs ((v3 + (1 : Int32))).toNatClampNeg)) X) fun w138 X803_139 =>
if mT X803_139 r2 = 12 then
bd (fX12_purse r2 ((xs ((v3 + (1 : Int32))).toNatClampNeg)) X803_139) fun w141 X812_142 =>
if (lg_cmp w138 w141) = 0 then (
fL_law_L1402 n xs L k18 r1 r2 v3 X812_142
) else (
none
)
else none
else none
else none
def fL_law_L821 (n : Nat) (xs : Nat → Int32) (L : Nat) (k18 : Nat → Nat → Int32 → Mm → Option (Unit × Mm)) (r1 : Nat) (r2 : Nat) (v3 : Int32) (X : Mm) : Option (Unit × Mm) :=
if 0 ≤ ((v3 + (1 : Int32))).toInt ∧ ((v3 + (1 : Int32))).toInt < (L : Int) then
if 0 ≤ ((v3 + (2 : Int32))).toInt ∧ ((v3 + (2 : Int32))).toInt < (L : Int) then
if mT X r1 = 11 then
bd (fX11_told r1 ((xs ((v3 + (1 : Int32))).toNatClampNeg)) ((xs ((v3 + (2 : Int32))).toNatClampNeg)) X) fun w146 X832_147 =>
if mT X832_147 r2 = 12 then
bd (fX12_told r2 ((xs ((v3 + (1 : Int32))).toNatClampNeg)) ((xs ((v3 + (2 : Int32))).toNatClampNeg)) X832_147) fun w149 X846_150 =>
if (lg_cmp w146 w149) = 0 then (
fL_law_L1402 n xs L k18 r1 r2 v3 X846_150
) else (
none
)
else none
else none
else none
else none
def fL_law_L855 (n : Nat) (xs : Nat → Int32) (L : Nat) (k18 : Nat → Nat → Int32 → Mm → Option (Unit × Mm)) (r1 : Nat) (r2 : Nat) (v3 : Int32) (X : Mm) : Option (Unit × Mm) :=
if 0 ≤ ((v3 + (1 : Int32))).toInt ∧ ((v3 + (1 : Int32))).toInt < (L : Int) then
if 0 ≤ ((v3 + (2 : Int32))).toInt ∧ ((v3 + (2 : Int32))).toInt < (L : Int) then
if mT X r1 = 11 then
bd (fX11_event r1 ((xs ((v3 + (1 : Int32))).toNatClampNeg)) ((xs ((v3 + (2 : Int32))).toNatClampNeg)) X) fun w154 X866_155 =>
if mT X866_155 r2 = 12 then
bd (fX12_event n r2 ((xs ((v3 + (1 : Int32))).toNatClampNeg)) ((xs ((v3 + (2 : Int32))).toNatClampNeg)) X866_155) fun w157 X880_158 =>
if w154 = w157 then (
fL_law_L1402 n xs L k18 r1 r2 v3 X880_158
) else (
none
)
else none
else none
else none
else none
def fL_law_L888 (n : Nat) (xs : Nat → Int32) (L : Nat) (k18 : Nat → Nat → Int32 → Mm → Option (Unit × Mm)) (r1 : Nat) (r2 : Nat) (v3 : Int32) (X : Mm) : Option (Unit × Mm) :=
if 0 ≤ ((v3 + (1 : Int32))).toInt ∧ ((v3 + (1 : Int32))).toInt < (L : Int) then
if 0 ≤ ((v3 + (2 : Int32))).toInt ∧ ((v3 + (2 : Int32))).toInt < (L : Int) then
if 0 ≤ ((v3 + (3 : Int32))).toInt ∧ ((v3 + (3 : Int32))).toInt < (L : Int) then
if mT X r1 = 11 then
bd (fX11_written n r1 ((xs ((v3 + (1 : Int32))).toNatClampNeg)) ((xs ((v3 + (2 : Int32))).toNatClampNeg)) ((xs ((v3 + (3 : Int32))).toNatClampNeg)) X) fun w163 X904_164 =>
if mT X904_164 r2 = 12 then
bd (fX12_written n r2 ((xs ((v3 + (1 : Int32))).toNatClampNeg)) ((xs ((v3 + (2 : Int32))).toNatClampNeg)) ((xs ((v3 + (3 : Int32))).toNatClampNeg)) X904_164) fun w166 X923_167 =>
if (lg_cmp w163 w166) = 0 then (
fL_law_L1402 n xs L k18 r1 r2 v3 X923_167
) else (
none
)
else none
else none
else none
else none
else none
def fL_law_L932 (n : Nat) (xs : Nat → Int32) (L : Nat) (k18 : Nat → Nat → Int32 → Mm → Option (Unit × Mm)) (r1 : Nat) (r2 : Nat) (v3 : Int32) (X : Mm) : Option (Unit × Mm) :=
if 0 ≤ ((v3 + (1 : Int32))).toInt ∧ ((v3 + (1 : Int32))).toInt < (L : Int) then
if 0 ≤ ((v3 + (2 : Int32))).toInt ∧ ((v3 + (2 : Int32))).toInt < (L : Int) then
if 0 ≤ ((v3 + (3 : Int32))).toInt ∧ ((v3 + (3 : Int32))).toInt < (L : Int) then
if mT X r1 = 11 then
bd (fX11_claim r1 ((xs ((v3 + (1 : Int32))).toNatClampNeg)) ((xs ((v3 + (2 : Int32))).toNatClampNeg)) ((xs ((v3 + (3 : Int32))).toNatClampNeg)) X) fun w172 X948_173 =>
if mT X948_173 r2 = 12 then
bd (fX12_claim r2 ((xs ((v3 + (1 : Int32))).toNatClampNeg)) ((xs ((v3 + (2 : Int32))).toNatClampNeg)) ((xs ((v3 + (3 : Int32))).toNatClampNeg)) X948_173) fun w175 X967_176 =>
if (lg_cmp w172 w175) = 0 then (
fL_law_L1402 n xs L k18 r1 r2 v3 X967_176
) else (
none
)
else none
else none
else none
else none
else none
def fL_law_L976 (n : Nat) (xs : Nat → Int32) (L : Nat) (k18 : Nat → Nat → Int32 → Mm → Option (Unit × Mm)) (r1 : Nat) (r2 : Nat) (v3 : Int32) (X : Mm) : Option (Unit × Mm) :=
if 0 ≤ ((v3 + (1 : Int32))).toInt ∧ ((v3 + (1 : Int32))).toInt < (L : Int) then
if 0 ≤ ((v3 + (2 : Int32))).toInt ∧ ((v3 + (2 : Int32))).toInt < (L : Int) then
if mT X r1 = 11 then
bd (fX11_issued r1 ((xs ((v3 + (1 : Int32))).toNatClampNeg)) ((xs ((v3 + (2 : Int32))).toNatClampNeg)) X) fun w180 X987_181 =>
if mT X987_181 r2 = 12 then
bd (fX12_issued r2 ((xs ((v3 + (1 : Int32))).toNatClampNeg)) ((xs ((v3 + (2 : Int32))).toNatClampNeg)) X987_181) fun w183 X1001_184 =>
if (lg_cmp w180 w183) = 0 then (
fL_law_L1402 n xs L k18 r1 r2 v3 X1001_184
) else (
none
)
else none
else none
else none
else none
def fL_law_L1010 (n : Nat) (xs : Nat → Int32) (L : Nat) (k18 : Nat → Nat → Int32 → Mm → Option (Unit × Mm)) (r1 : Nat) (r2 : Nat) (v3 : Int32) (X : Mm) : Option (Unit × Mm) :=
if 0 ≤ ((v3 + (1 : Int32))).toInt ∧ ((v3 + (1 : Int32))).toInt < (L : Int) then
if 0 ≤ ((v3 + (2 : Int32))).toInt ∧ ((v3 + (2 : Int32))).toInt < (L : Int) then
if 0 ≤ ((v3 + (3 : Int32))).toInt ∧ ((v3 + (3 : Int32))).toInt < (L : Int) then
if mT X r1 = 11 then
bd (fX11_net n r1 ((xs ((v3 + (1 : Int32))).toNatClampNeg)) ((xs ((v3 + (2 : Int32))).toNatClampNeg)) ((xs ((v3 + (3 : Int32))).toNatClampNeg)) X) fun w189 X1026_190 =>
if mT X1026_190 r2 = 12 then
bd (fX12_net n r2 ((xs ((v3 + (1 : Int32))).toNatClampNeg)) ((xs ((v3 + (2 : Int32))).toNatClampNeg)) ((xs ((v3 + (3 : Int32))).toNatClampNeg)) X1026_190) fun w192 X1045_193 =>
if (lg_cmp w189 w192) = 0 then (
fL_law_L1402 n xs L k18 r1 r2 v3 X1045_193
) else (
none
)
else none
else none
else none
else none
else none
def fL_law_L1054 (n : Nat) (xs : Nat → Int32) (L : Nat) (k18 : Nat → Nat → Int32 → Mm → Option (Unit × Mm)) (r1 : Nat) (r2 : Nat) (v3 : Int32) (X : Mm) : Option (Unit × Mm) :=
if 0 ≤ ((v3 + (1 : Int32))).toInt ∧ ((v3 + (1 : Int32))).toInt < (L : Int) then
if 0 ≤ ((v3 + (2 : Int32))).toInt ∧ ((v3 + (2 : Int32))).toInt < (L : Int) then
if 0 ≤ ((v3 + (3 : Int32))).toInt ∧ ((v3 + (3 : Int32))).toInt < (L : Int) then
if mT X r1 = 11 then
bd (fX11_worth n r1 ((xs ((v3 + (1 : Int32))).toNatClampNeg)) ((xs ((v3 + (2 : Int32))).toNatClampNeg)) ((xs ((v3 + (3 : Int32))).toNatClampNeg)) X) fun w198 X1070_199 =>
if mT X1070_199 r2 = 12 then
bd (fX12_worth n r2 ((xs ((v3 + (1 : Int32))).toNatClampNeg)) ((xs ((v3 + (2 : Int32))).toNatClampNeg)) ((xs ((v3 + (3 : Int32))).toNatClampNeg)) X1070_199) fun w201 X1089_202 =>
if (lg_cmp w198 w201) = 0 then (
fL_law_L1402 n xs L k18 r1 r2 v3 X1089_202
) else (
none
)
else none
else none
else none
else none
else none
def fL_law_L1098 (n : Nat) (xs : Nat → Int32) (L : Nat) (k18 : Nat → Nat → Int32 → Mm → Option (Unit × Mm)) (r1 : Nat) (r2 : Nat) (v3 : Int32) (X : Mm) : Option (Unit × Mm) :=
if 0 ≤ ((v3 + (1 : Int32))).toInt ∧ ((v3 + (1 : Int32))).toInt < (L : Int) then
if 0 ≤ ((v3 + (2 : Int32))).toInt ∧ ((v3 + (2 : Int32))).toInt < (L : Int) then
if 0 ≤ ((v3 + (3 : Int32))).toInt ∧ ((v3 + (3 : Int32))).toInt < (L : Int) then
if mT X r1 = 11 then
bd (fX11_ahead n r1 ((xs ((v3 + (1 : Int32))).toNatClampNeg)) ((xs ((v3 + (2 : Int32))).toNatClampNeg)) ((xs ((v3 + (3 : Int32))).toNatClampNeg)) X) fun w207 X1114_208 =>
if mT X1114_208 r2 = 12 then
bd (fX12_ahead n r2 ((xs ((v3 + (1 : Int32))).toNatClampNeg)) ((xs ((v3 + (2 : Int32))).toNatClampNeg)) ((xs ((v3 + (3 : Int32))).toNatClampNeg)) X1114_208) fun w210 X1133_211 =>
if (lg_cmp w207 w210) = 0 then (
fL_law_L1402 n xs L k18 r1 r2 v3 X1133_211
) else (
none
)
else none
else none
else none
else none
else none
def fL_law_L1142 (n : Nat) (xs : Nat → Int32) (L : Nat) (k18 : Nat → Nat → Int32 → Mm → Option (Unit × Mm)) (r1 : Nat) (r2 : Nat) (v3 : Int32) (X : Mm) : Option (Unit × Mm) :=
if 0 ≤ ((v3 + (1 : Int32))).toInt ∧ ((v3 + (1 : Int32))).toInt < (L : Int) then
if 0 ≤ ((v3 + (2 : Int32))).toInt ∧ ((v3 + (2 : Int32))).toInt < (L : Int) then
if mT X r1 = 11 then
bd (fX11_purseAhead n r1 ((xs ((v3 + (1 : Int32))).toNatClampNeg)) ((xs ((v3 + (2 : Int32))).toNatClampNeg)) X) fun w215 X1153_216 =>
if mT X1153_216 r2 = 12 then
bd (fX12_purseAhead n r2 ((xs ((v3 + (1 : Int32))).toNatClampNeg)) ((xs ((v3 + (2 : Int32))).toNatClampNeg)) X1153_216) fun w218 X1167_219 =>
if (lg_cmp w215 w218) = 0 then (
fL_law_L1402 n xs L k18 r1 r2 v3 X1167_219
) else (
none
)
else none
else none
else none
else none
def fL_law_L1176 (n : Nat) (xs : Nat → Int32) (L : Nat) (k18 : Nat → Nat → Int32 → Mm → Option (Unit × Mm)) (r1 : Nat) (r2 : Nat) (v3 : Int32) (X : Mm) : Option (Unit × Mm) :=
if 0 ≤ ((v3 + (1 : Int32))).toInt ∧ ((v3 + (1 : Int32))).toInt < (L : Int) then
if mT X r1 = 11 then
bd (fX11_waits n r1 ((xs ((v3 + (1 : Int32))).toNatClampNeg)) X) fun w222 X1182_223 =>
if mT X1182_223 r2 = 12 then
bd (fX12_waits n r2 ((xs ((v3 + (1 : Int32))).toNatClampNeg)) X1182_223) fun w225 X1191_226 =>
if w222 = w225 then (
fL_law_L1402 n xs L k18 r1 r2 v3 X1191_226
) else (
none
)
else none
else none
else none
def fL_law_L1199 (n : Nat) (xs : Nat → Int32) (L : Nat) (k18 : Nat → Nat → Int32 → Mm → Option (Unit × Mm)) (r1 : Nat) (r2 : Nat) (v3 : Int32) (X : Mm) : Option (Unit × Mm) :=
if 0 ≤ ((v3 + (1 : Int32))).toInt ∧ ((v3 + (1 : Int32))).toInt < (L : Int) then
if 0 ≤ ((v3 + (2 : Int32))).toInt ∧ ((v3 + (2 : Int32))).toInt < (L : Int) then
if mT X r1 = 11 then
bd (fX11_wants n r1 ((xs ((v3 + (1 : Int32))).toNatClampNeg)) ((xs ((v3 + (2 : Int32))).toNatClampNeg)) X) fun w230 X1210_231 =>
if mT X1210_231 r2 = 12 then
bd (fX12_wants n r2 ((xs ((v3 + (1 : Int32))).toNatClampNeg)) ((xs ((v3 + (2 : Int32))).toNatClampNeg)) X1210_231) fun w233 X1224_234 =>
if (lg_cmp w230 w233) = 0 then (
fL_law_L1402 n xs L k18 r1 r2 v3 X1224_234
) else (
none
)
else none
else none
else none
else none
def fL_law_L1233 (n : Nat) (xs : Nat → Int32) (L : Nat) (k18 : Nat → Nat → Int32 → Mm → Option (Unit × Mm)) (r1 : Nat) (r2 : Nat) (v3 : Int32) (X : Mm) : Option (Unit × Mm) :=
if 0 ≤ ((v3 + (1 : Int32))).toInt ∧ ((v3 + (1 : Int32))).toInt < (L : Int) then
if 0 ≤ ((v3 + (2 : Int32))).toInt ∧ ((v3 + (2 : Int32))).toInt < (L : Int) then
if 0 ≤ ((v3 + (3 : Int32))).toInt ∧ ((v3 + (3 : Int32))).toInt < (L : Int) then
if mT X r1 = 11 then
bd (fX11_carries n r1 ((xs ((v3 + (1 : Int32))).toNatClampNeg)) ((xs ((v3 + (2 : Int32))).toNatClampNeg)) ((xs ((v3 + (3 : Int32))).toNatClampNeg)) X) fun w239 X1249_240 =>
if mT X1249_240 r2 = 12 then
bd (fX12_carries n r2 ((xs ((v3 + (1 : Int32))).toNatClampNeg)) ((xs ((v3 + (2 : Int32))).toNatClampNeg)) ((xs ((v3 + (3 : Int32))).toNatClampNeg)) X1249_240) fun w242 X1268_243 =>
if w239 = w242 then (
fL_law_L1402 n xs L k18 r1 r2 v3 X1268_243
) else (
none
)
else none
else none
else none
else none
else none
def fL_law_L1276 (n : Nat) (xs : Nat → Int32) (L : Nat) (k18 : Nat → Nat → Int32 → Mm → Option (Unit × Mm)) (r1 : Nat) (r2 : Nat) (v3 : Int32) (X : Mm) : Option (Unit × Mm) :=
if 0 ≤ ((v3 + (1 : Int32))).toInt ∧ ((v3 + (1 : Int32))).toInt < (L : Int) then
if 0 ≤ ((v3 + (2 : Int32))).toInt ∧ ((v3 + (2 : Int32))).toInt < (L : Int) then
if mT X r1 = 11 then
bd (fX11_worst n r1 ((xs ((v3 + (1 : Int32))).toNatClampNeg)) ((xs ((v3 + (2 : Int32))).toNatClampNeg)) X) fun w247 X1287_248 =>
if mT X1287_248 r2 = 12 then
bd (fX12_worst n r2 ((xs ((v3 + (1 : Int32))).toNatClampNeg)) ((xs ((v3 + (2 : Int32))).toNatClampNeg)) X1287_248) fun w250 X1301_251 =>
if (lg_cmp w247 w250) = 0 then (
fL_law_L1402 n xs L k18 r1 r2 v3 X1301_251
) else (
none
)
else none
else none
else none
else none
def fL_law_L1310 (n : Nat) (xs : Nat → Int32) (L : Nat) (k18 : Nat → Nat → Int32 → Mm → Option (Unit × Mm)) (r1 : Nat) (r2 : Nat) (v3 : Int32) (X : Mm) : Option (Unit × Mm) :=
if 0 ≤ ((v3 + (1 : Int32))).toInt ∧ ((v3 + (1 : Int32))).toInt < (L : Int) then
if mT X r1 = 11 then
bd (fX11_show n r1 ((xs ((v3 + (1 : Int32))).toNatClampNeg)) X) fun w254 X1316_255 =>
if mT X1316_255 r2 = 12 then
bd (fX12_show n r2 ((xs ((v3 + (1 : Int32))).toNatClampNeg)) X1316_255) fun w257 X1325_258 =>
if w254 = w257 then (
fL_law_L1402 n xs L k18 r1 r2 v3 X1325_258
) else (
none
)
else none
else none
else none
def fL_law_L1333 (n : Nat) (xs : Nat → Int32) (L : Nat) (k18 : Nat → Nat → Int32 → Mm → Option (Unit × Mm)) (r1 : Nat) (r2 : Nat) (v3 : Int32) (X : Mm) : Option (Unit × Mm) :=
if 0 ≤ ((v3 + (1 : Int32))).toInt ∧ ((v3 + (1 : Int32))).toInt < (L : Int) then
if mT X r1 = 11 then
bd (fX11_out r1 ((xs ((v3 + (1 : Int32))).toNatClampNeg)) X) fun w261 X1339_262 =>
if mT X1339_262 r2 = 12 then
bd (fX12_out r2 ((xs ((v3 + (1 : Int32))).toNatClampNeg)) X1339_262) fun w264 X1348_265 =>
if w261 = w264 then (
fL_law_L1402 n xs L k18 r1 r2 v3 X1348_265
) else (
none
)
else none
else none
else none
def fL_law_L1356 (n : Nat) (xs : Nat → Int32) (L : Nat) (k18 : Nat → Nat → Int32 → Mm → Option (Unit × Mm)) (r1 : Nat) (r2 : Nat) (v3 : Int32) (X : Mm) : Option (Unit × Mm) :=
if 0 ≤ ((v3 + (1 : Int32))).toInt ∧ ((v3 + (1 : Int32))).toInt < (L : Int) then
if mT X r1 = 11 then
bd (fX11_named n r1 ((xs ((v3 + (1 : Int32))).toNatClampNeg)) X) fun w268 X1362_269 =>
if mT X1362_269 r2 = 12 then
bd (fX12_named n r2 ((xs ((v3 + (1 : Int32))).toNatClampNeg)) X1362_269) fun w271 X1371_272 =>
if w268 = w271 then (
fL_law_L1402 n xs L k18 r1 r2 v3 X1371_272
) else (
none
)
else none
else none
else none
def fL_law_L1379 (n : Nat) (xs : Nat → Int32) (L : Nat) (k18 : Nat → Nat → Int32 → Mm → Option (Unit × Mm)) (r1 : Nat) (r2 : Nat) (v3 : Int32) (X : Mm) : Option (Unit × Mm) :=
if 0 ≤ ((v3 + (1 : Int32))).toInt ∧ ((v3 + (1 : Int32))).toInt < (L : Int) then
if mT X r1 = 11 then
bd (fX11_look n r1 ((xs ((v3 + (1 : Int32))).toNatClampNeg)) X) fun w275 X1385_276 =>
if mT X1385_276 r2 = 12 then
bd (fX12_look n r2 ((xs ((v3 + (1 : Int32))).toNatClampNeg)) X1385_276) fun w278 X1394_279 =>
if w275 = w278 then (
fL_law_L1402 n xs L k18 r1 r2 v3 X1394_279
) else (
none
)
else none
else none
else none
def fL_law_L18 (n : Nat) (xs : Nat → Int32) (L : Nat) : Nat → Nat → Nat → Int32 → Mm → Option (Unit × Mm)
| 0, _, _, _, _ => none
| j + 1, r1, r2, v3, X =>
if ((Int32.ofNat L) - (8 : Int32)) < v3 then (
some ((), X)
) else (
if 0 ≤ (v3).toInt ∧ (v3).toInt < (L : Int) then
if ((xs (v3).toNatClampNeg) &&& (31 : Int32)) = (0 : Int32) then (
fL_law_L176 n xs L (fL_law_L18 n xs L j) r1 r2 v3 X
) else (
if ((xs (v3).toNatClampNeg) &&& (31 : Int32)) = (1 : Int32) then (
fL_law_L239 n xs L (fL_law_L18 n xs L j) r1 r2 v3 X
) else (
if ((xs (v3).toNatClampNeg) &&& (31 : Int32)) = (2 : Int32) then (
fL_law_L262 n xs L (fL_law_L18 n xs L j) r1 r2 v3 X
) else (
if ((xs (v3).toNatClampNeg) &&& (31 : Int32)) = (3 : Int32) then (
fL_law_L275 n xs L (fL_law_L18 n xs L j) r1 r2 v3 X
) else (
if ((xs (v3).toNatClampNeg) &&& (31 : Int32)) = (4 : Int32) then (
fL_law_L288 n xs L (fL_law_L18 n xs L j) r1 r2 v3 X
) else (
if ((xs (v3).toNatClampNeg) &&& (31 : Int32)) = (5 : Int32) then (
fL_law_L311 n xs L (fL_law_L18 n xs L j) r1 r2 v3 X
) else (
if ((xs (v3).toNatClampNeg) &&& (31 : Int32)) = (6 : Int32) then (
fL_law_L386 n xs L (fL_law_L18 n xs L j) r1 r2 v3 X
) else (
if ((xs (v3).toNatClampNeg) &&& (31 : Int32)) = (7 : Int32) then (
fL_law_L449 n xs L (fL_law_L18 n xs L j) r1 r2 v3 X
) else (
if ((xs (v3).toNatClampNeg) &&& (31 : Int32)) = (8 : Int32) then (
fL_law_L524 n xs L (fL_law_L18 n xs L j) r1 r2 v3 X
) else (
if ((xs (v3).toNatClampNeg) &&& (31 : Int32)) = (9 : Int32) then (
fL_law_L611 n xs L (fL_law_L18 n xs L j) r1 r2 v3 X
) else (
if ((xs (v3).toNatClampNeg) &&& (31 : Int32)) = (10 : Int32) then (
fL_law_L674 n xs L (fL_law_L18 n xs L j) r1 r2 v3 X
) else (
if ((xs (v3).toNatClampNeg) &&& (31 : Int32)) = (11 : Int32) then (
fL_law_L727 n xs L (fL_law_L18 n xs L j) r1 r2 v3 X
) else (
if ((xs (v3).toNatClampNeg) &&& (31 : Int32)) = (12 : Int32) then (
fL_law_L750 n xs L (fL_law_L18 n xs L j) r1 r2 v3 X
) else (
if ((xs (v3).toNatClampNeg) &&& (31 : Int32)) = (13 : Int32) then (
fL_law_L763 n xs L (fL_law_L18 n xs L j) r1 r2 v3 X
) else (
if ((xs (v3).toNatClampNeg) &&& (31 : Int32)) = (14 : Int32) then (
fL_law_L797 n xs L (fL_law_L18 n xs L j) r1 r2 v3 X
) else (
if ((xs (v3).toNatClampNeg) &&& (31 : Int32)) = (15 : Int32) then (
fL_law_L821 n xs L (fL_law_L18 n xs L j) r1 r2 v3 X
) else (
if ((xs (v3).toNatClampNeg) &&& (31 : Int32)) = (16 : Int32) then (
fL_law_L855 n xs L (fL_law_L18 n xs L j) r1 r2 v3 X
) else (
if ((xs (v3).toNatClampNeg) &&& (31 : Int32)) = (17 : Int32) then (
fL_law_L888 n xs L (fL_law_L18 n xs L j) r1 r2 v3 X
) else (
if ((xs (v3).toNatClampNeg) &&& (31 : Int32)) = (18 : Int32) then (
fL_law_L932 n xs L (fL_law_L18 n xs L j) r1 r2 v3 X
) else (
if ((xs (v3).toNatClampNeg) &&& (31 : Int32)) = (19 : Int32) then (
fL_law_L976 n xs L (fL_law_L18 n xs L j) r1 r2 v3 X
) else (
if ((xs (v3).toNatClampNeg) &&& (31 : Int32)) = (20 : Int32) then (
fL_law_L1010 n xs L (fL_law_L18 n xs L j) r1 r2 v3 X
) else (
if ((xs (v3).toNatClampNeg) &&& (31 : Int32)) = (21 : Int32) then (
fL_law_L1054 n xs L (fL_law_L18 n xs L j) r1 r2 v3 X
) else (
if ((xs (v3).toNatClampNeg) &&& (31 : Int32)) = (22 : Int32) then (
fL_law_L1098 n xs L (fL_law_L18 n xs L j) r1 r2 v3 X
) else (
if ((xs (v3).toNatClampNeg) &&& (31 : Int32)) = (23 : Int32) then (
fL_law_L1142 n xs L (fL_law_L18 n xs L j) r1 r2 v3 X
) else (
if ((xs (v3).toNatClampNeg) &&& (31 : Int32)) = (24 : Int32) then (
fL_law_L1176 n xs L (fL_law_L18 n xs L j) r1 r2 v3 X
) else (
if ((xs (v3).toNatClampNeg) &&& (31 : Int32)) = (25 : Int32) then (
fL_law_L1199 n xs L (fL_law_L18 n xs L j) r1 r2 v3 X
) else (
if ((xs (v3).toNatClampNeg) &&& (31 : Int32)) = (26 : Int32) then (
fL_law_L1233 n xs L (fL_law_L18 n xs L j) r1 r2 v3 X
) else (
if ((xs (v3).toNatClampNeg) &&& (31 : Int32)) = (27 : Int32) then (
fL_law_L1276 n xs L (fL_law_L18 n xs L j) r1 r2 v3 X
) else (
if ((xs (v3).toNatClampNeg) &&& (31 : Int32)) = (28 : Int32) then (
fL_law_L1310 n xs L (fL_law_L18 n xs L j) r1 r2 v3 X
) else (
if ((xs (v3).toNatClampNeg) &&& (31 : Int32)) = (29 : Int32) then (
fL_law_L1333 n xs L (fL_law_L18 n xs L j) r1 r2 v3 X
) else (
if ((xs (v3).toNatClampNeg) &&& (31 : Int32)) = (30 : Int32) then (
fL_law_L1356 n xs L (fL_law_L18 n xs L j) r1 r2 v3 X
) else (
if ((xs (v3).toNatClampNeg) &&& (31 : Int32)) = (31 : Int32) then (
fL_law_L1379 n xs L (fL_law_L18 n xs L j) r1 r2 v3 X
) else (
fL_law_L1402 n xs L (fL_law_L18 n xs L j) r1 r2 v3 X
)
)
)
)
)
)
)
)
)
)
)
)
)
)
)
)
)
)
)
)
)
)
)
)
)
)
)
)
)
)
)
)
else none
)
def fL_law (n : Nat) (xs : Nat → Int32) (L : Nat) (X : Mm) : Option (Unit × Mm) :=
nm (mN X + 1) fun rN2 =>
nm (q_nw X 11 8) fun X0_1 =>
bd (fX11_init rN2 X0_1) fun _ X4_4 =>
nm (mN X4_4 + 1) fun rN6 =>
nm (q_nw X4_4 12 35) fun X8_5 =>
bd (fX12_init rN6 X8_5) fun _ X12_8 =>
fL_law_L18 n xs L n rN2 rN6 (0 : Int32) X12_8
theorem gL_law_L1402 {E : q_E} (C : Cx E code R_law 4 ret room_1 q_X0) (n : Nat) (xs : Nat → Int32) (L : Nat) {b : Nat} (hsc : q_sc E b L xs) (k18 : Nat → Nat → Int32 → Mm → Option (Unit × Mm)) (hk18 : ∀ (r1 : Nat) (r2 : Nat) (v3 : Int32) (X : Mm), Sm E (q_lfin E) 381 76856 18 [(0, .ref b), (1, .ref (q_P E + r1)), (2, .ref (q_P E + r2)), (3, .int v3)] [] X (k18 r1 r2 v3 X)) (r1 : Nat) (r2 : Nat) (v3 : Int32) (X : Mm) : Sm E (q_lfin E) 381 76856 1402 [(0, .ref b), (1, .ref (q_P E + r1)), (2, .ref (q_P E + r2)), (3, .int v3)] [] X (fL_law_L1402 n xs L k18 r1 r2 v3 X) := by
  unfold fL_law_L1402
  refine q_iincN C (8 : Int32) 3 (fun v3_1402 => [(3, .int v3_1402), (0, .ref b), (1, .ref (q_P E + r1)), (2, .ref (q_P E + r2))]) dL_law_1402 rfl rfl (Nat.le_of_ble_eq_true rfl) (fun _ => rfl) (fun v3_1402 => ?_)
  refine q_goto C 18 dL_law_1405 (by decide) ?_
  refine q_sub C [(0, .ref b), (1, .ref (q_P E + r1)), (2, .ref (q_P E + r2)), (3, .int v3_1402)] [1, 2, 3, 0] rfl ?_
  exact hk18 r1 r2 v3_1402 X
theorem gL_law_L176 {E : q_E} (C : Cx E code R_law 4 ret room_1 q_X0) (n : Nat) (xs : Nat → Int32) (L : Nat) {b : Nat} (hsc : q_sc E b L xs) (k18 : Nat → Nat → Int32 → Mm → Option (Unit × Mm)) (hk18 : ∀ (r1 : Nat) (r2 : Nat) (v3 : Int32) (X : Mm), Sm E (q_lfin E) 381 76856 18 [(0, .ref b), (1, .ref (q_P E + r1)), (2, .ref (q_P E + r2)), (3, .int v3)] [] X (k18 r1 r2 v3 X)) (r1 : Nat) (r2 : Nat) (v3 : Int32) (X : Mm) : Sm E (q_lfin E) 381 76856 176 [(0, .ref b), (1, .ref (q_P E + r1)), (2, .ref (q_P E + r2)), (3, .int v3)] [] X (fL_law_L176 n xs L k18 r1 r2 v3 X) := by
  unfold fL_law_L176
  refine q_aload_n C 1 dL_law_176 rfl rfl ?_
  refine q_aload_n C 0 dL_law_177 rfl rfl ?_
  refine q_iload_n C 3 dL_law_178 rfl rfl ?_
  refine q_iconst C (1 : Int32) dL_law_179 rfl ?_
  refine q_iadd C dL_law_180 ?_
  refine q_chk (fun h10 => ?_)
  refine q_sld C hsc dL_law_181 h10 ?_
  refine q_aload_n C 0 dL_law_182 rfl rfl ?_
  refine q_iload_n C 3 dL_law_183 rfl rfl ?_
  refine q_iconst C (2 : Int32) dL_law_184 rfl ?_
  refine q_iadd C dL_law_185 ?_
  refine q_chk (fun h11 => ?_)
  refine q_sld C hsc dL_law_186 h11 ?_
  refine q_aload_n C 0 dL_law_187 rfl rfl ?_
  refine q_iload_n C 3 dL_law_188 rfl rfl ?_
  refine q_iconst C (3 : Int32) dL_law_189 rfl ?_
  refine q_iadd C dL_law_190 ?_
  refine q_chk (fun h12 => ?_)
  refine q_sld C hsc dL_law_191 h12 ?_
  refine q_aload_n C 0 dL_law_192 rfl rfl ?_
  refine q_iload_n C 3 dL_law_193 rfl rfl ?_
  refine q_iconst C (4 : Int32) dL_law_194 rfl ?_
  refine q_iadd C dL_law_195 ?_
  refine q_chk (fun h13 => ?_)
  refine q_sld C hsc dL_law_196 h13 ?_
  refine q_aload_n C 0 dL_law_197 rfl rfl ?_
  refine q_iload_n C 3 dL_law_198 rfl rfl ?_
  refine q_iconst C (5 : Int32) dL_law_199 rfl ?_
  refine q_iadd C dL_law_200 ?_
  refine q_chk (fun h14 => ?_)
  refine q_sld C hsc dL_law_201 h14 ?_
  refine q_chk (fun h17 => ?_)
  refine q_cVI (As := (fun P => [.int (xs ((v3 + (1 : Int32))).toNatClampNeg), .int (xs ((v3 + (2 : Int32))).toNatClampNeg), .int (xs ((v3 + (3 : Int32))).toNatClampNeg), .int (xs ((v3 + (4 : Int32))).toNatClampNeg), .int (xs ((v3 + (5 : Int32))).toNatClampNeg)])) C [] (sX11_feed n r1 ((xs ((v3 + (1 : Int32))).toNatClampNeg)) ((xs ((v3 + (2 : Int32))).toNatClampNeg)) ((xs ((v3 + (3 : Int32))).toNatClampNeg)) ((xs ((v3 + (4 : Int32))).toNatClampNeg)) ((xs ((v3 + (5 : Int32))).toNatClampNeg))) fcL_13 rfl (fun _ => rfl) ⟨Nat.le_of_ble_eq_true rfl, Nat.le_of_ble_eq_true rfl⟩ ⟨Nat.le_of_ble_eq_true rfl, Nat.le_of_ble_eq_true rfl⟩ (Nat.le_of_ble_eq_true rfl) dL_law_202 h17 (fun w15 X202_16 => ?_)
  refine q_aload_n C 2 dL_law_205 rfl rfl ?_
  refine q_aload_n C 0 dL_law_206 rfl rfl ?_
  refine q_iload_n C 3 dL_law_207 rfl rfl ?_
  refine q_iconst C (1 : Int32) dL_law_208 rfl ?_
  refine q_iadd C dL_law_209 ?_
  refine q_sld C hsc dL_law_210 h10 ?_
  refine q_aload_n C 0 dL_law_211 rfl rfl ?_
  refine q_iload_n C 3 dL_law_212 rfl rfl ?_
  refine q_iconst C (2 : Int32) dL_law_213 rfl ?_
  refine q_iadd C dL_law_214 ?_
  refine q_sld C hsc dL_law_215 h11 ?_
  refine q_aload_n C 0 dL_law_216 rfl rfl ?_
  refine q_iload_n C 3 dL_law_217 rfl rfl ?_
  refine q_iconst C (3 : Int32) dL_law_218 rfl ?_
  refine q_iadd C dL_law_219 ?_
  refine q_sld C hsc dL_law_220 h12 ?_
  refine q_aload_n C 0 dL_law_221 rfl rfl ?_
  refine q_iload_n C 3 dL_law_222 rfl rfl ?_
  refine q_iconst C (4 : Int32) dL_law_223 rfl ?_
  refine q_iadd C dL_law_224 ?_
  refine q_sld C hsc dL_law_225 h13 ?_
  refine q_aload_n C 0 dL_law_226 rfl rfl ?_
  refine q_iload_n C 3 dL_law_227 rfl rfl ?_
  refine q_iconst C (5 : Int32) dL_law_228 rfl ?_
  refine q_iadd C dL_law_229 ?_
  refine q_sld C hsc dL_law_230 h14 ?_
  refine q_chk (fun h20 => ?_)
  refine q_cVI (As := (fun P => [.int (xs ((v3 + (1 : Int32))).toNatClampNeg), .int (xs ((v3 + (2 : Int32))).toNatClampNeg), .int (xs ((v3 + (3 : Int32))).toNatClampNeg), .int (xs ((v3 + (4 : Int32))).toNatClampNeg), .int (xs ((v3 + (5 : Int32))).toNatClampNeg)])) C [.int w15] (sX12_feed n r2 ((xs ((v3 + (1 : Int32))).toNatClampNeg)) ((xs ((v3 + (2 : Int32))).toNatClampNeg)) ((xs ((v3 + (3 : Int32))).toNatClampNeg)) ((xs ((v3 + (4 : Int32))).toNatClampNeg)) ((xs ((v3 + (5 : Int32))).toNatClampNeg))) fcL_17 rfl (fun _ => rfl) ⟨Nat.le_of_ble_eq_true rfl, Nat.le_of_ble_eq_true rfl⟩ ⟨Nat.le_of_ble_eq_true rfl, Nat.le_of_ble_eq_true rfl⟩ (Nat.le_of_ble_eq_true rfl) dL_law_231 h20 (fun w18 X231_19 => ?_)
  refine q_icmp_eq C 1402 dL_law_234 (by decide) (fun _ => ?_) (fun _ => ?_)
  · exact gL_law_L1402 C n xs L hsc k18 hk18 r1 r2 v3 X231_19
  · refine q_iconst C (0 : Int32) dL_law_237 rfl ?_
    exact Sm.none
theorem gL_law_L239 {E : q_E} (C : Cx E code R_law 4 ret room_1 q_X0) (n : Nat) (xs : Nat → Int32) (L : Nat) {b : Nat} (hsc : q_sc E b L xs) (k18 : Nat → Nat → Int32 → Mm → Option (Unit × Mm)) (hk18 : ∀ (r1 : Nat) (r2 : Nat) (v3 : Int32) (X : Mm), Sm E (q_lfin E) 381 76856 18 [(0, .ref b), (1, .ref (q_P E + r1)), (2, .ref (q_P E + r2)), (3, .int v3)] [] X (k18 r1 r2 v3 X)) (r1 : Nat) (r2 : Nat) (v3 : Int32) (X : Mm) : Sm E (q_lfin E) 381 76856 239 [(0, .ref b), (1, .ref (q_P E + r1)), (2, .ref (q_P E + r2)), (3, .int v3)] [] X (fL_law_L239 n xs L k18 r1 r2 v3 X) := by
  unfold fL_law_L239
  refine q_aload_n C 1 dL_law_239 rfl rfl ?_
  refine q_aload_n C 0 dL_law_240 rfl rfl ?_
  refine q_iload_n C 3 dL_law_241 rfl rfl ?_
  refine q_iconst C (1 : Int32) dL_law_242 rfl ?_
  refine q_iadd C dL_law_243 ?_
  refine q_chk (fun h21 => ?_)
  refine q_sld C hsc dL_law_244 h21 ?_
  refine q_chk (fun h24 => ?_)
  refine q_cVI (As := (fun P => [.int (xs ((v3 + (1 : Int32))).toNatClampNeg)])) C [] (sX11_end r1 ((xs ((v3 + (1 : Int32))).toNatClampNeg))) fcL_18 rfl (fun _ => rfl) ⟨Nat.le_of_ble_eq_true rfl, Nat.le_of_ble_eq_true rfl⟩ ⟨Nat.le_of_ble_eq_true rfl, Nat.le_of_ble_eq_true rfl⟩ (Nat.le_of_ble_eq_true rfl) dL_law_245 h24 (fun w22 X245_23 => ?_)
  refine q_aload_n C 2 dL_law_248 rfl rfl ?_
  refine q_aload_n C 0 dL_law_249 rfl rfl ?_
  refine q_iload_n C 3 dL_law_250 rfl rfl ?_
  refine q_iconst C (1 : Int32) dL_law_251 rfl ?_
  refine q_iadd C dL_law_252 ?_
  refine q_sld C hsc dL_law_253 h21 ?_
  refine q_chk (fun h27 => ?_)
  refine q_cVI (As := (fun P => [.int (xs ((v3 + (1 : Int32))).toNatClampNeg)])) C [.int w22] (sX12_end r2 ((xs ((v3 + (1 : Int32))).toNatClampNeg))) fcL_22 rfl (fun _ => rfl) ⟨Nat.le_of_ble_eq_true rfl, Nat.le_of_ble_eq_true rfl⟩ ⟨Nat.le_of_ble_eq_true rfl, Nat.le_of_ble_eq_true rfl⟩ (Nat.le_of_ble_eq_true rfl) dL_law_254 h27 (fun w25 X254_26 => ?_)
  refine q_icmp_eq C 1402 dL_law_257 (by decide) (fun _ => ?_) (fun _ => ?_)
  · exact gL_law_L1402 C n xs L hsc k18 hk18 r1 r2 v3 X254_26
  · refine q_iconst C (0 : Int32) dL_law_260 rfl ?_
    exact Sm.none
theorem gL_law_L262 {E : q_E} (C : Cx E code R_law 4 ret room_1 q_X0) (n : Nat) (xs : Nat → Int32) (L : Nat) {b : Nat} (hsc : q_sc E b L xs) (k18 : Nat → Nat → Int32 → Mm → Option (Unit × Mm)) (hk18 : ∀ (r1 : Nat) (r2 : Nat) (v3 : Int32) (X : Mm), Sm E (q_lfin E) 381 76856 18 [(0, .ref b), (1, .ref (q_P E + r1)), (2, .ref (q_P E + r2)), (3, .int v3)] [] X (k18 r1 r2 v3 X)) (r1 : Nat) (r2 : Nat) (v3 : Int32) (X : Mm) : Sm E (q_lfin E) 381 76856 262 [(0, .ref b), (1, .ref (q_P E + r1)), (2, .ref (q_P E + r2)), (3, .int v3)] [] X (fL_law_L262 n xs L k18 r1 r2 v3 X) := by
  unfold fL_law_L262
  refine q_aload_n C 1 dL_law_262 rfl rfl ?_
  refine q_chk (fun h30 => ?_)
  refine q_cVI (As := (fun P => [])) C [] (sX11_book n r1) fcL_23 rfl (fun _ => rfl) ⟨Nat.le_of_ble_eq_true rfl, Nat.le_of_ble_eq_true rfl⟩ ⟨Nat.le_of_ble_eq_true rfl, Nat.le_of_ble_eq_true rfl⟩ (Nat.le_of_ble_eq_true rfl) dL_law_263 h30 (fun w28 X263_29 => ?_)
  refine q_aload_n C 2 dL_law_266 rfl rfl ?_
  refine q_chk (fun h33 => ?_)
  refine q_cVI (As := (fun P => [])) C [.int w28] (sX12_book n r2) fcL_27 rfl (fun _ => rfl) ⟨Nat.le_of_ble_eq_true rfl, Nat.le_of_ble_eq_true rfl⟩ ⟨Nat.le_of_ble_eq_true rfl, Nat.le_of_ble_eq_true rfl⟩ (Nat.le_of_ble_eq_true rfl) dL_law_267 h33 (fun w31 X267_32 => ?_)
  refine q_icmp_eq C 1402 dL_law_270 (by decide) (fun _ => ?_) (fun _ => ?_)
  · exact gL_law_L1402 C n xs L hsc k18 hk18 r1 r2 v3 X267_32
  · refine q_iconst C (0 : Int32) dL_law_273 rfl ?_
    exact Sm.none
theorem gL_law_L275 {E : q_E} (C : Cx E code R_law 4 ret room_1 q_X0) (n : Nat) (xs : Nat → Int32) (L : Nat) {b : Nat} (hsc : q_sc E b L xs) (k18 : Nat → Nat → Int32 → Mm → Option (Unit × Mm)) (hk18 : ∀ (r1 : Nat) (r2 : Nat) (v3 : Int32) (X : Mm), Sm E (q_lfin E) 381 76856 18 [(0, .ref b), (1, .ref (q_P E + r1)), (2, .ref (q_P E + r2)), (3, .int v3)] [] X (k18 r1 r2 v3 X)) (r1 : Nat) (r2 : Nat) (v3 : Int32) (X : Mm) : Sm E (q_lfin E) 381 76856 275 [(0, .ref b), (1, .ref (q_P E + r1)), (2, .ref (q_P E + r2)), (3, .int v3)] [] X (fL_law_L275 n xs L k18 r1 r2 v3 X) := by
  unfold fL_law_L275
  refine q_aload_n C 1 dL_law_275 rfl rfl ?_
  refine q_chk (fun h36 => ?_)
  refine q_cVI (As := (fun P => [])) C [] (sX11_deeds n r1) fcL_28 rfl (fun _ => rfl) ⟨Nat.le_of_ble_eq_true rfl, Nat.le_of_ble_eq_true rfl⟩ ⟨Nat.le_of_ble_eq_true rfl, Nat.le_of_ble_eq_true rfl⟩ (Nat.le_of_ble_eq_true rfl) dL_law_276 h36 (fun w34 X276_35 => ?_)
  refine q_aload_n C 2 dL_law_279 rfl rfl ?_
  refine q_chk (fun h39 => ?_)
  refine q_cVI (As := (fun P => [])) C [.int w34] (sX12_deeds n r2) fcL_31 rfl (fun _ => rfl) ⟨Nat.le_of_ble_eq_true rfl, Nat.le_of_ble_eq_true rfl⟩ ⟨Nat.le_of_ble_eq_true rfl, Nat.le_of_ble_eq_true rfl⟩ (Nat.le_of_ble_eq_true rfl) dL_law_280 h39 (fun w37 X280_38 => ?_)
  refine q_icmp_eq C 1402 dL_law_283 (by decide) (fun _ => ?_) (fun _ => ?_)
  · exact gL_law_L1402 C n xs L hsc k18 hk18 r1 r2 v3 X280_38
  · refine q_iconst C (0 : Int32) dL_law_286 rfl ?_
    exact Sm.none
theorem gL_law_L288 {E : q_E} (C : Cx E code R_law 4 ret room_1 q_X0) (n : Nat) (xs : Nat → Int32) (L : Nat) {b : Nat} (hsc : q_sc E b L xs) (k18 : Nat → Nat → Int32 → Mm → Option (Unit × Mm)) (hk18 : ∀ (r1 : Nat) (r2 : Nat) (v3 : Int32) (X : Mm), Sm E (q_lfin E) 381 76856 18 [(0, .ref b), (1, .ref (q_P E + r1)), (2, .ref (q_P E + r2)), (3, .int v3)] [] X (k18 r1 r2 v3 X)) (r1 : Nat) (r2 : Nat) (v3 : Int32) (X : Mm) : Sm E (q_lfin E) 381 76856 288 [(0, .ref b), (1, .ref (q_P E + r1)), (2, .ref (q_P E + r2)), (3, .int v3)] [] X (fL_law_L288 n xs L k18 r1 r2 v3 X) := by
  unfold fL_law_L288
  refine q_aload_n C 1 dL_law_288 rfl rfl ?_
  refine q_aload_n C 0 dL_law_289 rfl rfl ?_
  refine q_iload_n C 3 dL_law_290 rfl rfl ?_
  refine q_iconst C (1 : Int32) dL_law_291 rfl ?_
  refine q_iadd C dL_law_292 ?_
  refine q_chk (fun h40 => ?_)
  refine q_sld C hsc dL_law_293 h40 ?_
  refine q_chk (fun h43 => ?_)
  refine q_cVI (As := (fun P => [.int (xs ((v3 + (1 : Int32))).toNatClampNeg)])) C [] (sX11_fault r1 ((xs ((v3 + (1 : Int32))).toNatClampNeg))) fcL_32 rfl (fun _ => rfl) ⟨Nat.le_of_ble_eq_true rfl, Nat.le_of_ble_eq_true rfl⟩ ⟨Nat.le_of_ble_eq_true rfl, Nat.le_of_ble_eq_true rfl⟩ (Nat.le_of_ble_eq_true rfl) dL_law_294 h43 (fun w41 X294_42 => ?_)
  refine q_aload_n C 2 dL_law_297 rfl rfl ?_
  refine q_aload_n C 0 dL_law_298 rfl rfl ?_
  refine q_iload_n C 3 dL_law_299 rfl rfl ?_
  refine q_iconst C (1 : Int32) dL_law_300 rfl ?_
  refine q_iadd C dL_law_301 ?_
  refine q_sld C hsc dL_law_302 h40 ?_
  refine q_chk (fun h46 => ?_)
  refine q_cVI (As := (fun P => [.int (xs ((v3 + (1 : Int32))).toNatClampNeg)])) C [.int w41] (sX12_fault r2 ((xs ((v3 + (1 : Int32))).toNatClampNeg))) fcL_36 rfl (fun _ => rfl) ⟨Nat.le_of_ble_eq_true rfl, Nat.le_of_ble_eq_true rfl⟩ ⟨Nat.le_of_ble_eq_true rfl, Nat.le_of_ble_eq_true rfl⟩ (Nat.le_of_ble_eq_true rfl) dL_law_303 h46 (fun w44 X303_45 => ?_)
  refine q_icmp_eq C 1402 dL_law_306 (by decide) (fun _ => ?_) (fun _ => ?_)
  · exact gL_law_L1402 C n xs L hsc k18 hk18 r1 r2 v3 X303_45
  · refine q_iconst C (0 : Int32) dL_law_309 rfl ?_
    exact Sm.none
theorem gL_law_L311 {E : q_E} (C : Cx E code R_law 4 ret room_1 q_X0) (n : Nat) (xs : Nat → Int32) (L : Nat) {b : Nat} (hsc : q_sc E b L xs) (k18 : Nat → Nat → Int32 → Mm → Option (Unit × Mm)) (hk18 : ∀ (r1 : Nat) (r2 : Nat) (v3 : Int32) (X : Mm), Sm E (q_lfin E) 381 76856 18 [(0, .ref b), (1, .ref (q_P E + r1)), (2, .ref (q_P E + r2)), (3, .int v3)] [] X (k18 r1 r2 v3 X)) (r1 : Nat) (r2 : Nat) (v3 : Int32) (X : Mm) : Sm E (q_lfin E) 381 76856 311 [(0, .ref b), (1, .ref (q_P E + r1)), (2, .ref (q_P E + r2)), (3, .int v3)] [] X (fL_law_L311 n xs L k18 r1 r2 v3 X) := by
  unfold fL_law_L311
  refine q_aload_n C 1 dL_law_311 rfl rfl ?_
  refine q_aload_n C 0 dL_law_312 rfl rfl ?_
  refine q_iload_n C 3 dL_law_313 rfl rfl ?_
  refine q_iconst C (1 : Int32) dL_law_314 rfl ?_
  refine q_iadd C dL_law_315 ?_
  refine q_chk (fun h47 => ?_)
  refine q_sld C hsc dL_law_316 h47 ?_
  refine q_aload_n C 0 dL_law_317 rfl rfl ?_
  refine q_iload_n C 3 dL_law_318 rfl rfl ?_
  refine q_iconst C (2 : Int32) dL_law_319 rfl ?_
  refine q_iadd C dL_law_320 ?_
  refine q_chk (fun h48 => ?_)
  refine q_sld C hsc dL_law_321 h48 ?_
  refine q_aload_n C 0 dL_law_322 rfl rfl ?_
  refine q_iload_n C 3 dL_law_323 rfl rfl ?_
  refine q_iconst C (3 : Int32) dL_law_324 rfl ?_
  refine q_iadd C dL_law_325 ?_
  refine q_chk (fun h49 => ?_)
  refine q_sld C hsc dL_law_326 h49 ?_
  refine q_aload_n C 0 dL_law_327 rfl rfl ?_
  refine q_iload_n C 3 dL_law_328 rfl rfl ?_
  refine q_iconst C (4 : Int32) dL_law_329 rfl ?_
  refine q_iadd C dL_law_330 ?_
  refine q_chk (fun h50 => ?_)
  refine q_sld C hsc dL_law_331 h50 ?_
  refine q_aload_n C 0 dL_law_332 rfl rfl ?_
  refine q_iload_n C 3 dL_law_333 rfl rfl ?_
  refine q_iconst C (5 : Int32) dL_law_334 rfl ?_
  refine q_iadd C dL_law_335 ?_
  refine q_chk (fun h51 => ?_)
  refine q_sld C hsc dL_law_336 h51 ?_
  refine q_aload_n C 0 dL_law_337 rfl rfl ?_
  refine q_iload_n C 3 dL_law_338 rfl rfl ?_
  refine q_bipush C (6 : Int32) dL_law_339 rfl ?_
  refine q_iadd C dL_law_341 ?_
  refine q_chk (fun h52 => ?_)
  refine q_sld C hsc dL_law_342 h52 ?_
  refine q_chk (fun h55 => ?_)
  refine q_cVI (As := (fun P => [.int (xs ((v3 + (1 : Int32))).toNatClampNeg), .int (xs ((v3 + (2 : Int32))).toNatClampNeg), .int (xs ((v3 + (3 : Int32))).toNatClampNeg), .int (xs ((v3 + (4 : Int32))).toNatClampNeg), .int (xs ((v3 + (5 : Int32))).toNatClampNeg), .int (xs ((v3 + (6 : Int32))).toNatClampNeg)])) C [] (sX11_trade n r1 ((xs ((v3 + (1 : Int32))).toNatClampNeg)) ((xs ((v3 + (2 : Int32))).toNatClampNeg)) ((xs ((v3 + (3 : Int32))).toNatClampNeg)) ((xs ((v3 + (4 : Int32))).toNatClampNeg)) ((xs ((v3 + (5 : Int32))).toNatClampNeg)) ((xs ((v3 + (6 : Int32))).toNatClampNeg))) fcL_37 rfl (fun _ => rfl) ⟨Nat.le_of_ble_eq_true rfl, Nat.le_of_ble_eq_true rfl⟩ ⟨Nat.le_of_ble_eq_true rfl, Nat.le_of_ble_eq_true rfl⟩ (Nat.le_of_ble_eq_true rfl) dL_law_343 h55 (fun w53 X343_54 => ?_)
  refine q_aload_n C 2 dL_law_346 rfl rfl ?_
  refine q_aload_n C 0 dL_law_347 rfl rfl ?_
  refine q_iload_n C 3 dL_law_348 rfl rfl ?_
  refine q_iconst C (1 : Int32) dL_law_349 rfl ?_
  refine q_iadd C dL_law_350 ?_
  refine q_sld C hsc dL_law_351 h47 ?_
  refine q_aload_n C 0 dL_law_352 rfl rfl ?_
  refine q_iload_n C 3 dL_law_353 rfl rfl ?_
  refine q_iconst C (2 : Int32) dL_law_354 rfl ?_
  refine q_iadd C dL_law_355 ?_
  refine q_sld C hsc dL_law_356 h48 ?_
  refine q_aload_n C 0 dL_law_357 rfl rfl ?_
  refine q_iload_n C 3 dL_law_358 rfl rfl ?_
  refine q_iconst C (3 : Int32) dL_law_359 rfl ?_
  refine q_iadd C dL_law_360 ?_
  refine q_sld C hsc dL_law_361 h49 ?_
  refine q_aload_n C 0 dL_law_362 rfl rfl ?_
  refine q_iload_n C 3 dL_law_363 rfl rfl ?_
  refine q_iconst C (4 : Int32) dL_law_364 rfl ?_
  refine q_iadd C dL_law_365 ?_
  refine q_sld C hsc dL_law_366 h50 ?_
  refine q_aload_n C 0 dL_law_367 rfl rfl ?_
  refine q_iload_n C 3 dL_law_368 rfl rfl ?_
  refine q_iconst C (5 : Int32) dL_law_369 rfl ?_
  refine q_iadd C dL_law_370 ?_
  refine q_sld C hsc dL_law_371 h51 ?_
  refine q_aload_n C 0 dL_law_372 rfl rfl ?_
  refine q_iload_n C 3 dL_law_373 rfl rfl ?_
  refine q_bipush C (6 : Int32) dL_law_374 rfl ?_
  refine q_iadd C dL_law_376 ?_
  refine q_sld C hsc dL_law_377 h52 ?_
  refine q_chk (fun h58 => ?_)
  refine q_cVI (As := (fun P => [.int (xs ((v3 + (1 : Int32))).toNatClampNeg), .int (xs ((v3 + (2 : Int32))).toNatClampNeg), .int (xs ((v3 + (3 : Int32))).toNatClampNeg), .int (xs ((v3 + (4 : Int32))).toNatClampNeg), .int (xs ((v3 + (5 : Int32))).toNatClampNeg), .int (xs ((v3 + (6 : Int32))).toNatClampNeg)])) C [.int w53] (sX12_trade n r2 ((xs ((v3 + (1 : Int32))).toNatClampNeg)) ((xs ((v3 + (2 : Int32))).toNatClampNeg)) ((xs ((v3 + (3 : Int32))).toNatClampNeg)) ((xs ((v3 + (4 : Int32))).toNatClampNeg)) ((xs ((v3 + (5 : Int32))).toNatClampNeg)) ((xs ((v3 + (6 : Int32))).toNatClampNeg))) fcL_41 rfl (fun _ => rfl) ⟨Nat.le_of_ble_eq_true rfl, Nat.le_of_ble_eq_true rfl⟩ ⟨Nat.le_of_ble_eq_true rfl, Nat.le_of_ble_eq_true rfl⟩ (Nat.le_of_ble_eq_true rfl) dL_law_378 h58 (fun w56 X378_57 => ?_)
  refine q_icmp_eq C 1402 dL_law_381 (by decide) (fun _ => ?_) (fun _ => ?_)
  · exact gL_law_L1402 C n xs L hsc k18 hk18 r1 r2 v3 X378_57
  · refine q_iconst C (0 : Int32) dL_law_384 rfl ?_
    exact Sm.none
theorem gL_law_L386 {E : q_E} (C : Cx E code R_law 4 ret room_1 q_X0) (n : Nat) (xs : Nat → Int32) (L : Nat) {b : Nat} (hsc : q_sc E b L xs) (k18 : Nat → Nat → Int32 → Mm → Option (Unit × Mm)) (hk18 : ∀ (r1 : Nat) (r2 : Nat) (v3 : Int32) (X : Mm), Sm E (q_lfin E) 381 76856 18 [(0, .ref b), (1, .ref (q_P E + r1)), (2, .ref (q_P E + r2)), (3, .int v3)] [] X (k18 r1 r2 v3 X)) (r1 : Nat) (r2 : Nat) (v3 : Int32) (X : Mm) : Sm E (q_lfin E) 381 76856 386 [(0, .ref b), (1, .ref (q_P E + r1)), (2, .ref (q_P E + r2)), (3, .int v3)] [] X (fL_law_L386 n xs L k18 r1 r2 v3 X) := by
  unfold fL_law_L386
  refine q_aload_n C 1 dL_law_386 rfl rfl ?_
  refine q_aload_n C 0 dL_law_387 rfl rfl ?_
  refine q_iload_n C 3 dL_law_388 rfl rfl ?_
  refine q_iconst C (1 : Int32) dL_law_389 rfl ?_
  refine q_iadd C dL_law_390 ?_
  refine q_chk (fun h59 => ?_)
  refine q_sld C hsc dL_law_391 h59 ?_
  refine q_aload_n C 0 dL_law_392 rfl rfl ?_
  refine q_iload_n C 3 dL_law_393 rfl rfl ?_
  refine q_iconst C (2 : Int32) dL_law_394 rfl ?_
  refine q_iadd C dL_law_395 ?_
  refine q_chk (fun h60 => ?_)
  refine q_sld C hsc dL_law_396 h60 ?_
  refine q_aload_n C 0 dL_law_397 rfl rfl ?_
  refine q_iload_n C 3 dL_law_398 rfl rfl ?_
  refine q_iconst C (3 : Int32) dL_law_399 rfl ?_
  refine q_iadd C dL_law_400 ?_
  refine q_chk (fun h61 => ?_)
  refine q_sld C hsc dL_law_401 h61 ?_
  refine q_aload_n C 0 dL_law_402 rfl rfl ?_
  refine q_iload_n C 3 dL_law_403 rfl rfl ?_
  refine q_iconst C (4 : Int32) dL_law_404 rfl ?_
  refine q_iadd C dL_law_405 ?_
  refine q_chk (fun h62 => ?_)
  refine q_sld C hsc dL_law_406 h62 ?_
  refine q_aload_n C 0 dL_law_407 rfl rfl ?_
  refine q_iload_n C 3 dL_law_408 rfl rfl ?_
  refine q_iconst C (5 : Int32) dL_law_409 rfl ?_
  refine q_iadd C dL_law_410 ?_
  refine q_chk (fun h63 => ?_)
  refine q_sld C hsc dL_law_411 h63 ?_
  refine q_chk (fun h66 => ?_)
  refine q_cVI (As := (fun P => [.int (xs ((v3 + (1 : Int32))).toNatClampNeg), .int (xs ((v3 + (2 : Int32))).toNatClampNeg), .int (xs ((v3 + (3 : Int32))).toNatClampNeg), .int (xs ((v3 + (4 : Int32))).toNatClampNeg), .int (xs ((v3 + (5 : Int32))).toNatClampNeg)])) C [] (sX11_money n r1 ((xs ((v3 + (1 : Int32))).toNatClampNeg)) ((xs ((v3 + (2 : Int32))).toNatClampNeg)) ((xs ((v3 + (3 : Int32))).toNatClampNeg)) ((xs ((v3 + (4 : Int32))).toNatClampNeg)) ((xs ((v3 + (5 : Int32))).toNatClampNeg))) fcL_42 rfl (fun _ => rfl) ⟨Nat.le_of_ble_eq_true rfl, Nat.le_of_ble_eq_true rfl⟩ ⟨Nat.le_of_ble_eq_true rfl, Nat.le_of_ble_eq_true rfl⟩ (Nat.le_of_ble_eq_true rfl) dL_law_412 h66 (fun w64 X412_65 => ?_)
  refine q_aload_n C 2 dL_law_415 rfl rfl ?_
  refine q_aload_n C 0 dL_law_416 rfl rfl ?_
  refine q_iload_n C 3 dL_law_417 rfl rfl ?_
  refine q_iconst C (1 : Int32) dL_law_418 rfl ?_
  refine q_iadd C dL_law_419 ?_
  refine q_sld C hsc dL_law_420 h59 ?_
  refine q_aload_n C 0 dL_law_421 rfl rfl ?_
  refine q_iload_n C 3 dL_law_422 rfl rfl ?_
  refine q_iconst C (2 : Int32) dL_law_423 rfl ?_
  refine q_iadd C dL_law_424 ?_
  refine q_sld C hsc dL_law_425 h60 ?_
  refine q_aload_n C 0 dL_law_426 rfl rfl ?_
  refine q_iload_n C 3 dL_law_427 rfl rfl ?_
  refine q_iconst C (3 : Int32) dL_law_428 rfl ?_
  refine q_iadd C dL_law_429 ?_
  refine q_sld C hsc dL_law_430 h61 ?_
  refine q_aload_n C 0 dL_law_431 rfl rfl ?_
  refine q_iload_n C 3 dL_law_432 rfl rfl ?_
  refine q_iconst C (4 : Int32) dL_law_433 rfl ?_
  refine q_iadd C dL_law_434 ?_
  refine q_sld C hsc dL_law_435 h62 ?_
  refine q_aload_n C 0 dL_law_436 rfl rfl ?_
  refine q_iload_n C 3 dL_law_437 rfl rfl ?_
  refine q_iconst C (5 : Int32) dL_law_438 rfl ?_
  refine q_iadd C dL_law_439 ?_
  refine q_sld C hsc dL_law_440 h63 ?_
  refine q_chk (fun h69 => ?_)
  refine q_cVI (As := (fun P => [.int (xs ((v3 + (1 : Int32))).toNatClampNeg), .int (xs ((v3 + (2 : Int32))).toNatClampNeg), .int (xs ((v3 + (3 : Int32))).toNatClampNeg), .int (xs ((v3 + (4 : Int32))).toNatClampNeg), .int (xs ((v3 + (5 : Int32))).toNatClampNeg)])) C [.int w64] (sX12_money n r2 ((xs ((v3 + (1 : Int32))).toNatClampNeg)) ((xs ((v3 + (2 : Int32))).toNatClampNeg)) ((xs ((v3 + (3 : Int32))).toNatClampNeg)) ((xs ((v3 + (4 : Int32))).toNatClampNeg)) ((xs ((v3 + (5 : Int32))).toNatClampNeg))) fcL_45 rfl (fun _ => rfl) ⟨Nat.le_of_ble_eq_true rfl, Nat.le_of_ble_eq_true rfl⟩ ⟨Nat.le_of_ble_eq_true rfl, Nat.le_of_ble_eq_true rfl⟩ (Nat.le_of_ble_eq_true rfl) dL_law_441 h69 (fun w67 X441_68 => ?_)
  refine q_icmp_eq C 1402 dL_law_444 (by decide) (fun _ => ?_) (fun _ => ?_)
  · exact gL_law_L1402 C n xs L hsc k18 hk18 r1 r2 v3 X441_68
  · refine q_iconst C (0 : Int32) dL_law_447 rfl ?_
    exact Sm.none
theorem gL_law_L449 {E : q_E} (C : Cx E code R_law 4 ret room_1 q_X0) (n : Nat) (xs : Nat → Int32) (L : Nat) {b : Nat} (hsc : q_sc E b L xs) (k18 : Nat → Nat → Int32 → Mm → Option (Unit × Mm)) (hk18 : ∀ (r1 : Nat) (r2 : Nat) (v3 : Int32) (X : Mm), Sm E (q_lfin E) 381 76856 18 [(0, .ref b), (1, .ref (q_P E + r1)), (2, .ref (q_P E + r2)), (3, .int v3)] [] X (k18 r1 r2 v3 X)) (r1 : Nat) (r2 : Nat) (v3 : Int32) (X : Mm) : Sm E (q_lfin E) 381 76856 449 [(0, .ref b), (1, .ref (q_P E + r1)), (2, .ref (q_P E + r2)), (3, .int v3)] [] X (fL_law_L449 n xs L k18 r1 r2 v3 X) := by
  unfold fL_law_L449
  refine q_aload_n C 1 dL_law_449 rfl rfl ?_
  refine q_aload_n C 0 dL_law_450 rfl rfl ?_
  refine q_iload_n C 3 dL_law_451 rfl rfl ?_
  refine q_iconst C (1 : Int32) dL_law_452 rfl ?_
  refine q_iadd C dL_law_453 ?_
  refine q_chk (fun h70 => ?_)
  refine q_sld C hsc dL_law_454 h70 ?_
  refine q_aload_n C 0 dL_law_455 rfl rfl ?_
  refine q_iload_n C 3 dL_law_456 rfl rfl ?_
  refine q_iconst C (2 : Int32) dL_law_457 rfl ?_
  refine q_iadd C dL_law_458 ?_
  refine q_chk (fun h71 => ?_)
  refine q_sld C hsc dL_law_459 h71 ?_
  refine q_aload_n C 0 dL_law_460 rfl rfl ?_
  refine q_iload_n C 3 dL_law_461 rfl rfl ?_
  refine q_iconst C (3 : Int32) dL_law_462 rfl ?_
  refine q_iadd C dL_law_463 ?_
  refine q_chk (fun h72 => ?_)
  refine q_sld C hsc dL_law_464 h72 ?_
  refine q_aload_n C 0 dL_law_465 rfl rfl ?_
  refine q_iload_n C 3 dL_law_466 rfl rfl ?_
  refine q_iconst C (4 : Int32) dL_law_467 rfl ?_
  refine q_iadd C dL_law_468 ?_
  refine q_chk (fun h73 => ?_)
  refine q_sld C hsc dL_law_469 h73 ?_
  refine q_aload_n C 0 dL_law_470 rfl rfl ?_
  refine q_iload_n C 3 dL_law_471 rfl rfl ?_
  refine q_iconst C (5 : Int32) dL_law_472 rfl ?_
  refine q_iadd C dL_law_473 ?_
  refine q_chk (fun h74 => ?_)
  refine q_sld C hsc dL_law_474 h74 ?_
  refine q_aload_n C 0 dL_law_475 rfl rfl ?_
  refine q_iload_n C 3 dL_law_476 rfl rfl ?_
  refine q_bipush C (6 : Int32) dL_law_477 rfl ?_
  refine q_iadd C dL_law_479 ?_
  refine q_chk (fun h75 => ?_)
  refine q_sld C hsc dL_law_480 h75 ?_
  refine q_chk (fun h78 => ?_)
  refine q_cVI (As := (fun P => [.int (xs ((v3 + (1 : Int32))).toNatClampNeg), .int (xs ((v3 + (2 : Int32))).toNatClampNeg), .int (xs ((v3 + (3 : Int32))).toNatClampNeg), .int (xs ((v3 + (4 : Int32))).toNatClampNeg), .int (xs ((v3 + (5 : Int32))).toNatClampNeg), .int (xs ((v3 + (6 : Int32))).toNatClampNeg)])) C [] (sX11_gift n r1 ((xs ((v3 + (1 : Int32))).toNatClampNeg)) ((xs ((v3 + (2 : Int32))).toNatClampNeg)) ((xs ((v3 + (3 : Int32))).toNatClampNeg)) ((xs ((v3 + (4 : Int32))).toNatClampNeg)) ((xs ((v3 + (5 : Int32))).toNatClampNeg)) ((xs ((v3 + (6 : Int32))).toNatClampNeg))) fcL_46 rfl (fun _ => rfl) ⟨Nat.le_of_ble_eq_true rfl, Nat.le_of_ble_eq_true rfl⟩ ⟨Nat.le_of_ble_eq_true rfl, Nat.le_of_ble_eq_true rfl⟩ (Nat.le_of_ble_eq_true rfl) dL_law_481 h78 (fun w76 X481_77 => ?_)
  refine q_aload_n C 2 dL_law_484 rfl rfl ?_
  refine q_aload_n C 0 dL_law_485 rfl rfl ?_
  refine q_iload_n C 3 dL_law_486 rfl rfl ?_
  refine q_iconst C (1 : Int32) dL_law_487 rfl ?_
  refine q_iadd C dL_law_488 ?_
  refine q_sld C hsc dL_law_489 h70 ?_
  refine q_aload_n C 0 dL_law_490 rfl rfl ?_
  refine q_iload_n C 3 dL_law_491 rfl rfl ?_
  refine q_iconst C (2 : Int32) dL_law_492 rfl ?_
  refine q_iadd C dL_law_493 ?_
  refine q_sld C hsc dL_law_494 h71 ?_
  refine q_aload_n C 0 dL_law_495 rfl rfl ?_
  refine q_iload_n C 3 dL_law_496 rfl rfl ?_
  refine q_iconst C (3 : Int32) dL_law_497 rfl ?_
  refine q_iadd C dL_law_498 ?_
  refine q_sld C hsc dL_law_499 h72 ?_
  refine q_aload_n C 0 dL_law_500 rfl rfl ?_
  refine q_iload_n C 3 dL_law_501 rfl rfl ?_
  refine q_iconst C (4 : Int32) dL_law_502 rfl ?_
  refine q_iadd C dL_law_503 ?_
  refine q_sld C hsc dL_law_504 h73 ?_
  refine q_aload_n C 0 dL_law_505 rfl rfl ?_
  refine q_iload_n C 3 dL_law_506 rfl rfl ?_
  refine q_iconst C (5 : Int32) dL_law_507 rfl ?_
  refine q_iadd C dL_law_508 ?_
  refine q_sld C hsc dL_law_509 h74 ?_
  refine q_aload_n C 0 dL_law_510 rfl rfl ?_
  refine q_iload_n C 3 dL_law_511 rfl rfl ?_
  refine q_bipush C (6 : Int32) dL_law_512 rfl ?_
  refine q_iadd C dL_law_514 ?_
  refine q_sld C hsc dL_law_515 h75 ?_
  refine q_chk (fun h81 => ?_)
  refine q_cVI (As := (fun P => [.int (xs ((v3 + (1 : Int32))).toNatClampNeg), .int (xs ((v3 + (2 : Int32))).toNatClampNeg), .int (xs ((v3 + (3 : Int32))).toNatClampNeg), .int (xs ((v3 + (4 : Int32))).toNatClampNeg), .int (xs ((v3 + (5 : Int32))).toNatClampNeg), .int (xs ((v3 + (6 : Int32))).toNatClampNeg)])) C [.int w76] (sX12_gift n r2 ((xs ((v3 + (1 : Int32))).toNatClampNeg)) ((xs ((v3 + (2 : Int32))).toNatClampNeg)) ((xs ((v3 + (3 : Int32))).toNatClampNeg)) ((xs ((v3 + (4 : Int32))).toNatClampNeg)) ((xs ((v3 + (5 : Int32))).toNatClampNeg)) ((xs ((v3 + (6 : Int32))).toNatClampNeg))) fcL_49 rfl (fun _ => rfl) ⟨Nat.le_of_ble_eq_true rfl, Nat.le_of_ble_eq_true rfl⟩ ⟨Nat.le_of_ble_eq_true rfl, Nat.le_of_ble_eq_true rfl⟩ (Nat.le_of_ble_eq_true rfl) dL_law_516 h81 (fun w79 X516_80 => ?_)
  refine q_icmp_eq C 1402 dL_law_519 (by decide) (fun _ => ?_) (fun _ => ?_)
  · exact gL_law_L1402 C n xs L hsc k18 hk18 r1 r2 v3 X516_80
  · refine q_iconst C (0 : Int32) dL_law_522 rfl ?_
    exact Sm.none
theorem gL_law_L524 {E : q_E} (C : Cx E code R_law 4 ret room_1 q_X0) (n : Nat) (xs : Nat → Int32) (L : Nat) {b : Nat} (hsc : q_sc E b L xs) (k18 : Nat → Nat → Int32 → Mm → Option (Unit × Mm)) (hk18 : ∀ (r1 : Nat) (r2 : Nat) (v3 : Int32) (X : Mm), Sm E (q_lfin E) 381 76856 18 [(0, .ref b), (1, .ref (q_P E + r1)), (2, .ref (q_P E + r2)), (3, .int v3)] [] X (k18 r1 r2 v3 X)) (r1 : Nat) (r2 : Nat) (v3 : Int32) (X : Mm) : Sm E (q_lfin E) 381 76856 524 [(0, .ref b), (1, .ref (q_P E + r1)), (2, .ref (q_P E + r2)), (3, .int v3)] [] X (fL_law_L524 n xs L k18 r1 r2 v3 X) := by
  unfold fL_law_L524
  refine q_aload_n C 1 dL_law_524 rfl rfl ?_
  refine q_aload_n C 0 dL_law_525 rfl rfl ?_
  refine q_iload_n C 3 dL_law_526 rfl rfl ?_
  refine q_iconst C (1 : Int32) dL_law_527 rfl ?_
  refine q_iadd C dL_law_528 ?_
  refine q_chk (fun h82 => ?_)
  refine q_sld C hsc dL_law_529 h82 ?_
  refine q_aload_n C 0 dL_law_530 rfl rfl ?_
  refine q_iload_n C 3 dL_law_531 rfl rfl ?_
  refine q_iconst C (2 : Int32) dL_law_532 rfl ?_
  refine q_iadd C dL_law_533 ?_
  refine q_chk (fun h83 => ?_)
  refine q_sld C hsc dL_law_534 h83 ?_
  refine q_aload_n C 0 dL_law_535 rfl rfl ?_
  refine q_iload_n C 3 dL_law_536 rfl rfl ?_
  refine q_iconst C (3 : Int32) dL_law_537 rfl ?_
  refine q_iadd C dL_law_538 ?_
  refine q_chk (fun h84 => ?_)
  refine q_sld C hsc dL_law_539 h84 ?_
  refine q_aload_n C 0 dL_law_540 rfl rfl ?_
  refine q_iload_n C 3 dL_law_541 rfl rfl ?_
  refine q_iconst C (4 : Int32) dL_law_542 rfl ?_
  refine q_iadd C dL_law_543 ?_
  refine q_chk (fun h85 => ?_)
  refine q_sld C hsc dL_law_544 h85 ?_
  refine q_aload_n C 0 dL_law_545 rfl rfl ?_
  refine q_iload_n C 3 dL_law_546 rfl rfl ?_
  refine q_iconst C (5 : Int32) dL_law_547 rfl ?_
  refine q_iadd C dL_law_548 ?_
  refine q_chk (fun h86 => ?_)
  refine q_sld C hsc dL_law_549 h86 ?_
  refine q_aload_n C 0 dL_law_550 rfl rfl ?_
  refine q_iload_n C 3 dL_law_551 rfl rfl ?_
  refine q_bipush C (6 : Int32) dL_law_552 rfl ?_
  refine q_iadd C dL_law_554 ?_
  refine q_chk (fun h87 => ?_)
  refine q_sld C hsc dL_law_555 h87 ?_
  refine q_aload_n C 0 dL_law_556 rfl rfl ?_
  refine q_iload_n C 3 dL_law_557 rfl rfl ?_
  refine q_bipush C (7 : Int32) dL_law_558 rfl ?_
  refine q_iadd C dL_law_560 ?_
  refine q_chk (fun h88 => ?_)
  refine q_sld C hsc dL_law_561 h88 ?_
  refine q_chk (fun h91 => ?_)
  refine q_cVI (As := (fun P => [.int (xs ((v3 + (1 : Int32))).toNatClampNeg), .int (xs ((v3 + (2 : Int32))).toNatClampNeg), .int (xs ((v3 + (3 : Int32))).toNatClampNeg), .int (xs ((v3 + (4 : Int32))).toNatClampNeg), .int (xs ((v3 + (5 : Int32))).toNatClampNeg), .int (xs ((v3 + (6 : Int32))).toNatClampNeg), .int (xs ((v3 + (7 : Int32))).toNatClampNeg)])) C [] (sX11_rights n r1 ((xs ((v3 + (1 : Int32))).toNatClampNeg)) ((xs ((v3 + (2 : Int32))).toNatClampNeg)) ((xs ((v3 + (3 : Int32))).toNatClampNeg)) ((xs ((v3 + (4 : Int32))).toNatClampNeg)) ((xs ((v3 + (5 : Int32))).toNatClampNeg)) ((xs ((v3 + (6 : Int32))).toNatClampNeg)) ((xs ((v3 + (7 : Int32))).toNatClampNeg))) fcL_50 rfl (fun _ => rfl) ⟨Nat.le_of_ble_eq_true rfl, Nat.le_of_ble_eq_true rfl⟩ ⟨Nat.le_of_ble_eq_true rfl, Nat.le_of_ble_eq_true rfl⟩ (Nat.le_of_ble_eq_true rfl) dL_law_562 h91 (fun w89 X562_90 => ?_)
  refine q_aload_n C 2 dL_law_565 rfl rfl ?_
  refine q_aload_n C 0 dL_law_566 rfl rfl ?_
  refine q_iload_n C 3 dL_law_567 rfl rfl ?_
  refine q_iconst C (1 : Int32) dL_law_568 rfl ?_
  refine q_iadd C dL_law_569 ?_
  refine q_sld C hsc dL_law_570 h82 ?_
  refine q_aload_n C 0 dL_law_571 rfl rfl ?_
  refine q_iload_n C 3 dL_law_572 rfl rfl ?_
  refine q_iconst C (2 : Int32) dL_law_573 rfl ?_
  refine q_iadd C dL_law_574 ?_
  refine q_sld C hsc dL_law_575 h83 ?_
  refine q_aload_n C 0 dL_law_576 rfl rfl ?_
  refine q_iload_n C 3 dL_law_577 rfl rfl ?_
  refine q_iconst C (3 : Int32) dL_law_578 rfl ?_
  refine q_iadd C dL_law_579 ?_
  refine q_sld C hsc dL_law_580 h84 ?_
  refine q_aload_n C 0 dL_law_581 rfl rfl ?_
  refine q_iload_n C 3 dL_law_582 rfl rfl ?_
  refine q_iconst C (4 : Int32) dL_law_583 rfl ?_
  refine q_iadd C dL_law_584 ?_
  refine q_sld C hsc dL_law_585 h85 ?_
  refine q_aload_n C 0 dL_law_586 rfl rfl ?_
  refine q_iload_n C 3 dL_law_587 rfl rfl ?_
  refine q_iconst C (5 : Int32) dL_law_588 rfl ?_
  refine q_iadd C dL_law_589 ?_
  refine q_sld C hsc dL_law_590 h86 ?_
  refine q_aload_n C 0 dL_law_591 rfl rfl ?_
  refine q_iload_n C 3 dL_law_592 rfl rfl ?_
  refine q_bipush C (6 : Int32) dL_law_593 rfl ?_
  refine q_iadd C dL_law_595 ?_
  refine q_sld C hsc dL_law_596 h87 ?_
  refine q_aload_n C 0 dL_law_597 rfl rfl ?_
  refine q_iload_n C 3 dL_law_598 rfl rfl ?_
  refine q_bipush C (7 : Int32) dL_law_599 rfl ?_
  refine q_iadd C dL_law_601 ?_
  refine q_sld C hsc dL_law_602 h88 ?_
  refine q_chk (fun h94 => ?_)
  refine q_cVI (As := (fun P => [.int (xs ((v3 + (1 : Int32))).toNatClampNeg), .int (xs ((v3 + (2 : Int32))).toNatClampNeg), .int (xs ((v3 + (3 : Int32))).toNatClampNeg), .int (xs ((v3 + (4 : Int32))).toNatClampNeg), .int (xs ((v3 + (5 : Int32))).toNatClampNeg), .int (xs ((v3 + (6 : Int32))).toNatClampNeg), .int (xs ((v3 + (7 : Int32))).toNatClampNeg)])) C [.int w89] (sX12_rights n r2 ((xs ((v3 + (1 : Int32))).toNatClampNeg)) ((xs ((v3 + (2 : Int32))).toNatClampNeg)) ((xs ((v3 + (3 : Int32))).toNatClampNeg)) ((xs ((v3 + (4 : Int32))).toNatClampNeg)) ((xs ((v3 + (5 : Int32))).toNatClampNeg)) ((xs ((v3 + (6 : Int32))).toNatClampNeg)) ((xs ((v3 + (7 : Int32))).toNatClampNeg))) fcL_54 rfl (fun _ => rfl) ⟨Nat.le_of_ble_eq_true rfl, Nat.le_of_ble_eq_true rfl⟩ ⟨Nat.le_of_ble_eq_true rfl, Nat.le_of_ble_eq_true rfl⟩ (Nat.le_of_ble_eq_true rfl) dL_law_603 h94 (fun w92 X603_93 => ?_)
  refine q_icmp_eq C 1402 dL_law_606 (by decide) (fun _ => ?_) (fun _ => ?_)
  · exact gL_law_L1402 C n xs L hsc k18 hk18 r1 r2 v3 X603_93
  · refine q_iconst C (0 : Int32) dL_law_609 rfl ?_
    exact Sm.none
theorem gL_law_L611 {E : q_E} (C : Cx E code R_law 4 ret room_1 q_X0) (n : Nat) (xs : Nat → Int32) (L : Nat) {b : Nat} (hsc : q_sc E b L xs) (k18 : Nat → Nat → Int32 → Mm → Option (Unit × Mm)) (hk18 : ∀ (r1 : Nat) (r2 : Nat) (v3 : Int32) (X : Mm), Sm E (q_lfin E) 381 76856 18 [(0, .ref b), (1, .ref (q_P E + r1)), (2, .ref (q_P E + r2)), (3, .int v3)] [] X (k18 r1 r2 v3 X)) (r1 : Nat) (r2 : Nat) (v3 : Int32) (X : Mm) : Sm E (q_lfin E) 381 76856 611 [(0, .ref b), (1, .ref (q_P E + r1)), (2, .ref (q_P E + r2)), (3, .int v3)] [] X (fL_law_L611 n xs L k18 r1 r2 v3 X) := by
  unfold fL_law_L611
  refine q_aload_n C 1 dL_law_611 rfl rfl ?_
  refine q_aload_n C 0 dL_law_612 rfl rfl ?_
  refine q_iload_n C 3 dL_law_613 rfl rfl ?_
  refine q_iconst C (1 : Int32) dL_law_614 rfl ?_
  refine q_iadd C dL_law_615 ?_
  refine q_chk (fun h95 => ?_)
  refine q_sld C hsc dL_law_616 h95 ?_
  refine q_aload_n C 0 dL_law_617 rfl rfl ?_
  refine q_iload_n C 3 dL_law_618 rfl rfl ?_
  refine q_iconst C (2 : Int32) dL_law_619 rfl ?_
  refine q_iadd C dL_law_620 ?_
  refine q_chk (fun h96 => ?_)
  refine q_sld C hsc dL_law_621 h96 ?_
  refine q_aload_n C 0 dL_law_622 rfl rfl ?_
  refine q_iload_n C 3 dL_law_623 rfl rfl ?_
  refine q_iconst C (3 : Int32) dL_law_624 rfl ?_
  refine q_iadd C dL_law_625 ?_
  refine q_chk (fun h97 => ?_)
  refine q_sld C hsc dL_law_626 h97 ?_
  refine q_aload_n C 0 dL_law_627 rfl rfl ?_
  refine q_iload_n C 3 dL_law_628 rfl rfl ?_
  refine q_iconst C (4 : Int32) dL_law_629 rfl ?_
  refine q_iadd C dL_law_630 ?_
  refine q_chk (fun h98 => ?_)
  refine q_sld C hsc dL_law_631 h98 ?_
  refine q_aload_n C 0 dL_law_632 rfl rfl ?_
  refine q_iload_n C 3 dL_law_633 rfl rfl ?_
  refine q_iconst C (5 : Int32) dL_law_634 rfl ?_
  refine q_iadd C dL_law_635 ?_
  refine q_chk (fun h99 => ?_)
  refine q_sld C hsc dL_law_636 h99 ?_
  refine q_chk (fun h102 => ?_)
  refine q_cVI (As := (fun P => [.int (xs ((v3 + (1 : Int32))).toNatClampNeg), .int (xs ((v3 + (2 : Int32))).toNatClampNeg), .int (xs ((v3 + (3 : Int32))).toNatClampNeg), .int (xs ((v3 + (4 : Int32))).toNatClampNeg), .int (xs ((v3 + (5 : Int32))).toNatClampNeg)])) C [] (sX11_turn n r1 ((xs ((v3 + (1 : Int32))).toNatClampNeg)) ((xs ((v3 + (2 : Int32))).toNatClampNeg)) ((xs ((v3 + (3 : Int32))).toNatClampNeg)) ((xs ((v3 + (4 : Int32))).toNatClampNeg)) ((xs ((v3 + (5 : Int32))).toNatClampNeg))) fcL_55 rfl (fun _ => rfl) ⟨Nat.le_of_ble_eq_true rfl, Nat.le_of_ble_eq_true rfl⟩ ⟨Nat.le_of_ble_eq_true rfl, Nat.le_of_ble_eq_true rfl⟩ (Nat.le_of_ble_eq_true rfl) dL_law_637 h102 (fun w100 X637_101 => ?_)
  refine q_aload_n C 2 dL_law_640 rfl rfl ?_
  refine q_aload_n C 0 dL_law_641 rfl rfl ?_
  refine q_iload_n C 3 dL_law_642 rfl rfl ?_
  refine q_iconst C (1 : Int32) dL_law_643 rfl ?_
  refine q_iadd C dL_law_644 ?_
  refine q_sld C hsc dL_law_645 h95 ?_
  refine q_aload_n C 0 dL_law_646 rfl rfl ?_
  refine q_iload_n C 3 dL_law_647 rfl rfl ?_
  refine q_iconst C (2 : Int32) dL_law_648 rfl ?_
  refine q_iadd C dL_law_649 ?_
  refine q_sld C hsc dL_law_650 h96 ?_
  refine q_aload_n C 0 dL_law_651 rfl rfl ?_
  refine q_iload_n C 3 dL_law_652 rfl rfl ?_
  refine q_iconst C (3 : Int32) dL_law_653 rfl ?_
  refine q_iadd C dL_law_654 ?_
  refine q_sld C hsc dL_law_655 h97 ?_
  refine q_aload_n C 0 dL_law_656 rfl rfl ?_
  refine q_iload_n C 3 dL_law_657 rfl rfl ?_
  refine q_iconst C (4 : Int32) dL_law_658 rfl ?_
  refine q_iadd C dL_law_659 ?_
  refine q_sld C hsc dL_law_660 h98 ?_
  refine q_aload_n C 0 dL_law_661 rfl rfl ?_
  refine q_iload_n C 3 dL_law_662 rfl rfl ?_
  refine q_iconst C (5 : Int32) dL_law_663 rfl ?_
  refine q_iadd C dL_law_664 ?_
  refine q_sld C hsc dL_law_665 h99 ?_
  refine q_chk (fun h105 => ?_)
  refine q_cVI (As := (fun P => [.int (xs ((v3 + (1 : Int32))).toNatClampNeg), .int (xs ((v3 + (2 : Int32))).toNatClampNeg), .int (xs ((v3 + (3 : Int32))).toNatClampNeg), .int (xs ((v3 + (4 : Int32))).toNatClampNeg), .int (xs ((v3 + (5 : Int32))).toNatClampNeg)])) C [.int w100] (sX12_turn n r2 ((xs ((v3 + (1 : Int32))).toNatClampNeg)) ((xs ((v3 + (2 : Int32))).toNatClampNeg)) ((xs ((v3 + (3 : Int32))).toNatClampNeg)) ((xs ((v3 + (4 : Int32))).toNatClampNeg)) ((xs ((v3 + (5 : Int32))).toNatClampNeg))) fcL_58 rfl (fun _ => rfl) ⟨Nat.le_of_ble_eq_true rfl, Nat.le_of_ble_eq_true rfl⟩ ⟨Nat.le_of_ble_eq_true rfl, Nat.le_of_ble_eq_true rfl⟩ (Nat.le_of_ble_eq_true rfl) dL_law_666 h105 (fun w103 X666_104 => ?_)
  refine q_icmp_eq C 1402 dL_law_669 (by decide) (fun _ => ?_) (fun _ => ?_)
  · exact gL_law_L1402 C n xs L hsc k18 hk18 r1 r2 v3 X666_104
  · refine q_iconst C (0 : Int32) dL_law_672 rfl ?_
    exact Sm.none
theorem gL_law_L674 {E : q_E} (C : Cx E code R_law 4 ret room_1 q_X0) (n : Nat) (xs : Nat → Int32) (L : Nat) {b : Nat} (hsc : q_sc E b L xs) (k18 : Nat → Nat → Int32 → Mm → Option (Unit × Mm)) (hk18 : ∀ (r1 : Nat) (r2 : Nat) (v3 : Int32) (X : Mm), Sm E (q_lfin E) 381 76856 18 [(0, .ref b), (1, .ref (q_P E + r1)), (2, .ref (q_P E + r2)), (3, .int v3)] [] X (k18 r1 r2 v3 X)) (r1 : Nat) (r2 : Nat) (v3 : Int32) (X : Mm) : Sm E (q_lfin E) 381 76856 674 [(0, .ref b), (1, .ref (q_P E + r1)), (2, .ref (q_P E + r2)), (3, .int v3)] [] X (fL_law_L674 n xs L k18 r1 r2 v3 X) := by
  unfold fL_law_L674
  refine q_aload_n C 1 dL_law_674 rfl rfl ?_
  refine q_aload_n C 0 dL_law_675 rfl rfl ?_
  refine q_iload_n C 3 dL_law_676 rfl rfl ?_
  refine q_iconst C (1 : Int32) dL_law_677 rfl ?_
  refine q_iadd C dL_law_678 ?_
  refine q_chk (fun h106 => ?_)
  refine q_sld C hsc dL_law_679 h106 ?_
  refine q_aload_n C 0 dL_law_680 rfl rfl ?_
  refine q_iload_n C 3 dL_law_681 rfl rfl ?_
  refine q_iconst C (2 : Int32) dL_law_682 rfl ?_
  refine q_iadd C dL_law_683 ?_
  refine q_chk (fun h107 => ?_)
  refine q_sld C hsc dL_law_684 h107 ?_
  refine q_aload_n C 0 dL_law_685 rfl rfl ?_
  refine q_iload_n C 3 dL_law_686 rfl rfl ?_
  refine q_iconst C (3 : Int32) dL_law_687 rfl ?_
  refine q_iadd C dL_law_688 ?_
  refine q_chk (fun h108 => ?_)
  refine q_sld C hsc dL_law_689 h108 ?_
  refine q_aload_n C 0 dL_law_690 rfl rfl ?_
  refine q_iload_n C 3 dL_law_691 rfl rfl ?_
  refine q_iconst C (4 : Int32) dL_law_692 rfl ?_
  refine q_iadd C dL_law_693 ?_
  refine q_chk (fun h109 => ?_)
  refine q_sld C hsc dL_law_694 h109 ?_
  refine q_chk (fun h112 => ?_)
  refine q_cVI (As := (fun P => [.int (xs ((v3 + (1 : Int32))).toNatClampNeg), .int (xs ((v3 + (2 : Int32))).toNatClampNeg), .int (xs ((v3 + (3 : Int32))).toNatClampNeg), .int (xs ((v3 + (4 : Int32))).toNatClampNeg)])) C [] (sX11_choose n r1 ((xs ((v3 + (1 : Int32))).toNatClampNeg)) ((xs ((v3 + (2 : Int32))).toNatClampNeg)) ((xs ((v3 + (3 : Int32))).toNatClampNeg)) ((xs ((v3 + (4 : Int32))).toNatClampNeg))) fcL_59 rfl (fun _ => rfl) ⟨Nat.le_of_ble_eq_true rfl, Nat.le_of_ble_eq_true rfl⟩ ⟨Nat.le_of_ble_eq_true rfl, Nat.le_of_ble_eq_true rfl⟩ (Nat.le_of_ble_eq_true rfl) dL_law_695 h112 (fun w110 X695_111 => ?_)
  refine q_aload_n C 2 dL_law_698 rfl rfl ?_
  refine q_aload_n C 0 dL_law_699 rfl rfl ?_
  refine q_iload_n C 3 dL_law_700 rfl rfl ?_
  refine q_iconst C (1 : Int32) dL_law_701 rfl ?_
  refine q_iadd C dL_law_702 ?_
  refine q_sld C hsc dL_law_703 h106 ?_
  refine q_aload_n C 0 dL_law_704 rfl rfl ?_
  refine q_iload_n C 3 dL_law_705 rfl rfl ?_
  refine q_iconst C (2 : Int32) dL_law_706 rfl ?_
  refine q_iadd C dL_law_707 ?_
  refine q_sld C hsc dL_law_708 h107 ?_
  refine q_aload_n C 0 dL_law_709 rfl rfl ?_
  refine q_iload_n C 3 dL_law_710 rfl rfl ?_
  refine q_iconst C (3 : Int32) dL_law_711 rfl ?_
  refine q_iadd C dL_law_712 ?_
  refine q_sld C hsc dL_law_713 h108 ?_
  refine q_aload_n C 0 dL_law_714 rfl rfl ?_
  refine q_iload_n C 3 dL_law_715 rfl rfl ?_
  refine q_iconst C (4 : Int32) dL_law_716 rfl ?_
  refine q_iadd C dL_law_717 ?_
  refine q_sld C hsc dL_law_718 h109 ?_
  refine q_chk (fun h115 => ?_)
  refine q_cVI (As := (fun P => [.int (xs ((v3 + (1 : Int32))).toNatClampNeg), .int (xs ((v3 + (2 : Int32))).toNatClampNeg), .int (xs ((v3 + (3 : Int32))).toNatClampNeg), .int (xs ((v3 + (4 : Int32))).toNatClampNeg)])) C [.int w110] (sX12_choose n r2 ((xs ((v3 + (1 : Int32))).toNatClampNeg)) ((xs ((v3 + (2 : Int32))).toNatClampNeg)) ((xs ((v3 + (3 : Int32))).toNatClampNeg)) ((xs ((v3 + (4 : Int32))).toNatClampNeg))) fcL_63 rfl (fun _ => rfl) ⟨Nat.le_of_ble_eq_true rfl, Nat.le_of_ble_eq_true rfl⟩ ⟨Nat.le_of_ble_eq_true rfl, Nat.le_of_ble_eq_true rfl⟩ (Nat.le_of_ble_eq_true rfl) dL_law_719 h115 (fun w113 X719_114 => ?_)
  refine q_icmp_eq C 1402 dL_law_722 (by decide) (fun _ => ?_) (fun _ => ?_)
  · exact gL_law_L1402 C n xs L hsc k18 hk18 r1 r2 v3 X719_114
  · refine q_iconst C (0 : Int32) dL_law_725 rfl ?_
    exact Sm.none
theorem gL_law_L727 {E : q_E} (C : Cx E code R_law 4 ret room_1 q_X0) (n : Nat) (xs : Nat → Int32) (L : Nat) {b : Nat} (hsc : q_sc E b L xs) (k18 : Nat → Nat → Int32 → Mm → Option (Unit × Mm)) (hk18 : ∀ (r1 : Nat) (r2 : Nat) (v3 : Int32) (X : Mm), Sm E (q_lfin E) 381 76856 18 [(0, .ref b), (1, .ref (q_P E + r1)), (2, .ref (q_P E + r2)), (3, .int v3)] [] X (k18 r1 r2 v3 X)) (r1 : Nat) (r2 : Nat) (v3 : Int32) (X : Mm) : Sm E (q_lfin E) 381 76856 727 [(0, .ref b), (1, .ref (q_P E + r1)), (2, .ref (q_P E + r2)), (3, .int v3)] [] X (fL_law_L727 n xs L k18 r1 r2 v3 X) := by
  unfold fL_law_L727
  refine q_aload_n C 1 dL_law_727 rfl rfl ?_
  refine q_aload_n C 0 dL_law_728 rfl rfl ?_
  refine q_iload_n C 3 dL_law_729 rfl rfl ?_
  refine q_iconst C (1 : Int32) dL_law_730 rfl ?_
  refine q_iadd C dL_law_731 ?_
  refine q_chk (fun h116 => ?_)
  refine q_sld C hsc dL_law_732 h116 ?_
  refine q_chk (fun h119 => ?_)
  refine q_cVI (As := (fun P => [.int (xs ((v3 + (1 : Int32))).toNatClampNeg)])) C [] (sX11_days n r1 ((xs ((v3 + (1 : Int32))).toNatClampNeg))) fcL_64 rfl (fun _ => rfl) ⟨Nat.le_of_ble_eq_true rfl, Nat.le_of_ble_eq_true rfl⟩ ⟨Nat.le_of_ble_eq_true rfl, Nat.le_of_ble_eq_true rfl⟩ (Nat.le_of_ble_eq_true rfl) dL_law_733 h119 (fun w117 X733_118 => ?_)
  refine q_aload_n C 2 dL_law_736 rfl rfl ?_
  refine q_aload_n C 0 dL_law_737 rfl rfl ?_
  refine q_iload_n C 3 dL_law_738 rfl rfl ?_
  refine q_iconst C (1 : Int32) dL_law_739 rfl ?_
  refine q_iadd C dL_law_740 ?_
  refine q_sld C hsc dL_law_741 h116 ?_
  refine q_chk (fun h122 => ?_)
  refine q_cVI (As := (fun P => [.int (xs ((v3 + (1 : Int32))).toNatClampNeg)])) C [.int w117] (sX12_days n r2 ((xs ((v3 + (1 : Int32))).toNatClampNeg))) fcL_67 rfl (fun _ => rfl) ⟨Nat.le_of_ble_eq_true rfl, Nat.le_of_ble_eq_true rfl⟩ ⟨Nat.le_of_ble_eq_true rfl, Nat.le_of_ble_eq_true rfl⟩ (Nat.le_of_ble_eq_true rfl) dL_law_742 h122 (fun w120 X742_121 => ?_)
  refine q_icmp_eq C 1402 dL_law_745 (by decide) (fun _ => ?_) (fun _ => ?_)
  · exact gL_law_L1402 C n xs L hsc k18 hk18 r1 r2 v3 X742_121
  · refine q_iconst C (0 : Int32) dL_law_748 rfl ?_
    exact Sm.none
theorem gL_law_L750 {E : q_E} (C : Cx E code R_law 4 ret room_1 q_X0) (n : Nat) (xs : Nat → Int32) (L : Nat) {b : Nat} (hsc : q_sc E b L xs) (k18 : Nat → Nat → Int32 → Mm → Option (Unit × Mm)) (hk18 : ∀ (r1 : Nat) (r2 : Nat) (v3 : Int32) (X : Mm), Sm E (q_lfin E) 381 76856 18 [(0, .ref b), (1, .ref (q_P E + r1)), (2, .ref (q_P E + r2)), (3, .int v3)] [] X (k18 r1 r2 v3 X)) (r1 : Nat) (r2 : Nat) (v3 : Int32) (X : Mm) : Sm E (q_lfin E) 381 76856 750 [(0, .ref b), (1, .ref (q_P E + r1)), (2, .ref (q_P E + r2)), (3, .int v3)] [] X (fL_law_L750 n xs L k18 r1 r2 v3 X) := by
  unfold fL_law_L750
  refine q_aload_n C 1 dL_law_750 rfl rfl ?_
  refine q_chk (fun h125 => ?_)
  refine q_cVI (As := (fun P => [])) C [] (sX11_undo r1) fcL_68 rfl (fun _ => rfl) ⟨Nat.le_of_ble_eq_true rfl, Nat.le_of_ble_eq_true rfl⟩ ⟨Nat.le_of_ble_eq_true rfl, Nat.le_of_ble_eq_true rfl⟩ (Nat.le_of_ble_eq_true rfl) dL_law_751 h125 (fun w123 X751_124 => ?_)
  refine q_aload_n C 2 dL_law_754 rfl rfl ?_
  refine q_chk (fun h128 => ?_)
  refine q_cVI (As := (fun P => [])) C [.int w123] (sX12_undo n r2) fcL_71 rfl (fun _ => rfl) ⟨Nat.le_of_ble_eq_true rfl, Nat.le_of_ble_eq_true rfl⟩ ⟨Nat.le_of_ble_eq_true rfl, Nat.le_of_ble_eq_true rfl⟩ (Nat.le_of_ble_eq_true rfl) dL_law_755 h128 (fun w126 X755_127 => ?_)
  refine q_icmp_eq C 1402 dL_law_758 (by decide) (fun _ => ?_) (fun _ => ?_)
  · exact gL_law_L1402 C n xs L hsc k18 hk18 r1 r2 v3 X755_127
  · refine q_iconst C (0 : Int32) dL_law_761 rfl ?_
    exact Sm.none
theorem gL_law_L763 {E : q_E} (C : Cx E code R_law 4 ret room_1 q_X0) (n : Nat) (xs : Nat → Int32) (L : Nat) {b : Nat} (hsc : q_sc E b L xs) (k18 : Nat → Nat → Int32 → Mm → Option (Unit × Mm)) (hk18 : ∀ (r1 : Nat) (r2 : Nat) (v3 : Int32) (X : Mm), Sm E (q_lfin E) 381 76856 18 [(0, .ref b), (1, .ref (q_P E + r1)), (2, .ref (q_P E + r2)), (3, .int v3)] [] X (k18 r1 r2 v3 X)) (r1 : Nat) (r2 : Nat) (v3 : Int32) (X : Mm) : Sm E (q_lfin E) 381 76856 763 [(0, .ref b), (1, .ref (q_P E + r1)), (2, .ref (q_P E + r2)), (3, .int v3)] [] X (fL_law_L763 n xs L k18 r1 r2 v3 X) := by
  unfold fL_law_L763
  refine q_aload_n C 1 dL_law_763 rfl rfl ?_
  refine q_aload_n C 0 dL_law_764 rfl rfl ?_
  refine q_iload_n C 3 dL_law_765 rfl rfl ?_
  refine q_iconst C (1 : Int32) dL_law_766 rfl ?_
  refine q_iadd C dL_law_767 ?_
  refine q_chk (fun h129 => ?_)
  refine q_sld C hsc dL_law_768 h129 ?_
  refine q_aload_n C 0 dL_law_769 rfl rfl ?_
  refine q_iload_n C 3 dL_law_770 rfl rfl ?_
  refine q_iconst C (2 : Int32) dL_law_771 rfl ?_
  refine q_iadd C dL_law_772 ?_
  refine q_chk (fun h130 => ?_)
  refine q_sld C hsc dL_law_773 h130 ?_
  refine q_chk (fun h133 => ?_)
  refine q_cVL (As := (fun P => [.int (xs ((v3 + (1 : Int32))).toNatClampNeg), .int (xs ((v3 + (2 : Int32))).toNatClampNeg)])) C [] (sX11_has r1 ((xs ((v3 + (1 : Int32))).toNatClampNeg)) ((xs ((v3 + (2 : Int32))).toNatClampNeg))) fcL_72 rfl (fun _ => rfl) ⟨Nat.le_of_ble_eq_true rfl, Nat.le_of_ble_eq_true rfl⟩ ⟨Nat.le_of_ble_eq_true rfl, Nat.le_of_ble_eq_true rfl⟩ (Nat.le_of_ble_eq_true rfl) dL_law_774 h133 (fun w131 X774_132 => ?_)
  refine q_aload_n C 2 dL_law_777 rfl rfl ?_
  refine q_aload_n C 0 dL_law_778 rfl rfl ?_
  refine q_iload_n C 3 dL_law_779 rfl rfl ?_
  refine q_iconst C (1 : Int32) dL_law_780 rfl ?_
  refine q_iadd C dL_law_781 ?_
  refine q_sld C hsc dL_law_782 h129 ?_
  refine q_aload_n C 0 dL_law_783 rfl rfl ?_
  refine q_iload_n C 3 dL_law_784 rfl rfl ?_
  refine q_iconst C (2 : Int32) dL_law_785 rfl ?_
  refine q_iadd C dL_law_786 ?_
  refine q_sld C hsc dL_law_787 h130 ?_
  refine q_chk (fun h136 => ?_)
  refine q_cVL (As := (fun P => [.int (xs ((v3 + (1 : Int32))).toNatClampNeg), .int (xs ((v3 + (2 : Int32))).toNatClampNeg)])) C [.long w131] (sX12_has r2 ((xs ((v3 + (1 : Int32))).toNatClampNeg)) ((xs ((v3 + (2 : Int32))).toNatClampNeg))) fcL_76 rfl (fun _ => rfl) ⟨Nat.le_of_ble_eq_true rfl, Nat.le_of_ble_eq_true rfl⟩ ⟨Nat.le_of_ble_eq_true rfl, Nat.le_of_ble_eq_true rfl⟩ (Nat.le_of_ble_eq_true rfl) dL_law_788 h136 (fun w134 X788_135 => ?_)
  refine q_lcmp C dL_law_791 ?_
  refine q_if_eq C 1402 dL_law_792 (by decide) (fun _ => ?_) (fun _ => ?_)
  · exact gL_law_L1402 C n xs L hsc k18 hk18 r1 r2 v3 X788_135
  · refine q_iconst C (0 : Int32) dL_law_795 rfl ?_
    exact Sm.none
theorem gL_law_L797 {E : q_E} (C : Cx E code R_law 4 ret room_1 q_X0) (n : Nat) (xs : Nat → Int32) (L : Nat) {b : Nat} (hsc : q_sc E b L xs) (k18 : Nat → Nat → Int32 → Mm → Option (Unit × Mm)) (hk18 : ∀ (r1 : Nat) (r2 : Nat) (v3 : Int32) (X : Mm), Sm E (q_lfin E) 381 76856 18 [(0, .ref b), (1, .ref (q_P E + r1)), (2, .ref (q_P E + r2)), (3, .int v3)] [] X (k18 r1 r2 v3 X)) (r1 : Nat) (r2 : Nat) (v3 : Int32) (X : Mm) : Sm E (q_lfin E) 381 76856 797 [(0, .ref b), (1, .ref (q_P E + r1)), (2, .ref (q_P E + r2)), (3, .int v3)] [] X (fL_law_L797 n xs L k18 r1 r2 v3 X) := by
  unfold fL_law_L797
  refine q_aload_n C 1 dL_law_797 rfl rfl ?_
  refine q_aload_n C 0 dL_law_798 rfl rfl ?_
  refine q_iload_n C 3 dL_law_799 rfl rfl ?_
  refine q_iconst C (1 : Int32) dL_law_800 rfl ?_
  refine q_iadd C dL_law_801 ?_
  refine q_chk (fun h137 => ?_)
  refine q_sld C hsc dL_law_802 h137 ?_
  refine q_chk (fun h140 => ?_)
  refine q_cVL (As := (fun P => [.int (xs ((v3 + (1 : Int32))).toNatClampNeg)])) C [] (sX11_purse r1 ((xs ((v3 + (1 : Int32))).toNatClampNeg))) fcL_77 rfl (fun _ => rfl) ⟨Nat.le_of_ble_eq_true rfl, Nat.le_of_ble_eq_true rfl⟩ ⟨Nat.le_of_ble_eq_true rfl, Nat.le_of_ble_eq_true rfl⟩ (Nat.le_of_ble_eq_true rfl) dL_law_803 h140 (fun w138 X803_139 => ?_)
  refine q_aload_n C 2 dL_law_806 rfl rfl ?_
  refine q_aload_n C 0 dL_law_807 rfl rfl ?_
  refine q_iload_n C 3 dL_law_808 rfl rfl ?_
  refine q_iconst C (1 : Int32) dL_law_809 rfl ?_
  refine q_iadd C dL_law_810 ?_
  refine q_sld C hsc dL_law_811 h137 ?_
  refine q_chk (fun h143 => ?_)
  refine q_cVL (As := (fun P => [.int (xs ((v3 + (1 : Int32))).toNatClampNeg)])) C [.long w138] (sX12_purse r2 ((xs ((v3 + (1 : Int32))).toNatClampNeg))) fcL_81 rfl (fun _ => rfl) ⟨Nat.le_of_ble_eq_true rfl, Nat.le_of_ble_eq_true rfl⟩ ⟨Nat.le_of_ble_eq_true rfl, Nat.le_of_ble_eq_true rfl⟩ (Nat.le_of_ble_eq_true rfl) dL_law_812 h143 (fun w141 X812_142 => ?_)
  refine q_lcmp C dL_law_815 ?_
  refine q_if_eq C 1402 dL_law_816 (by decide) (fun _ => ?_) (fun _ => ?_)
  · exact gL_law_L1402 C n xs L hsc k18 hk18 r1 r2 v3 X812_142
  · refine q_iconst C (0 : Int32) dL_law_819 rfl ?_
    exact Sm.none
theorem gL_law_L821 {E : q_E} (C : Cx E code R_law 4 ret room_1 q_X0) (n : Nat) (xs : Nat → Int32) (L : Nat) {b : Nat} (hsc : q_sc E b L xs) (k18 : Nat → Nat → Int32 → Mm → Option (Unit × Mm)) (hk18 : ∀ (r1 : Nat) (r2 : Nat) (v3 : Int32) (X : Mm), Sm E (q_lfin E) 381 76856 18 [(0, .ref b), (1, .ref (q_P E + r1)), (2, .ref (q_P E + r2)), (3, .int v3)] [] X (k18 r1 r2 v3 X)) (r1 : Nat) (r2 : Nat) (v3 : Int32) (X : Mm) : Sm E (q_lfin E) 381 76856 821 [(0, .ref b), (1, .ref (q_P E + r1)), (2, .ref (q_P E + r2)), (3, .int v3)] [] X (fL_law_L821 n xs L k18 r1 r2 v3 X) := by
  unfold fL_law_L821
  refine q_aload_n C 1 dL_law_821 rfl rfl ?_
  refine q_aload_n C 0 dL_law_822 rfl rfl ?_
  refine q_iload_n C 3 dL_law_823 rfl rfl ?_
  refine q_iconst C (1 : Int32) dL_law_824 rfl ?_
  refine q_iadd C dL_law_825 ?_
  refine q_chk (fun h144 => ?_)
  refine q_sld C hsc dL_law_826 h144 ?_
  refine q_aload_n C 0 dL_law_827 rfl rfl ?_
  refine q_iload_n C 3 dL_law_828 rfl rfl ?_
  refine q_iconst C (2 : Int32) dL_law_829 rfl ?_
  refine q_iadd C dL_law_830 ?_
  refine q_chk (fun h145 => ?_)
  refine q_sld C hsc dL_law_831 h145 ?_
  refine q_chk (fun h148 => ?_)
  refine q_cVL (As := (fun P => [.int (xs ((v3 + (1 : Int32))).toNatClampNeg), .int (xs ((v3 + (2 : Int32))).toNatClampNeg)])) C [] (sX11_told r1 ((xs ((v3 + (1 : Int32))).toNatClampNeg)) ((xs ((v3 + (2 : Int32))).toNatClampNeg))) fcL_82 rfl (fun _ => rfl) ⟨Nat.le_of_ble_eq_true rfl, Nat.le_of_ble_eq_true rfl⟩ ⟨Nat.le_of_ble_eq_true rfl, Nat.le_of_ble_eq_true rfl⟩ (Nat.le_of_ble_eq_true rfl) dL_law_832 h148 (fun w146 X832_147 => ?_)
  refine q_aload_n C 2 dL_law_835 rfl rfl ?_
  refine q_aload_n C 0 dL_law_836 rfl rfl ?_
  refine q_iload_n C 3 dL_law_837 rfl rfl ?_
  refine q_iconst C (1 : Int32) dL_law_838 rfl ?_
  refine q_iadd C dL_law_839 ?_
  refine q_sld C hsc dL_law_840 h144 ?_
  refine q_aload_n C 0 dL_law_841 rfl rfl ?_
  refine q_iload_n C 3 dL_law_842 rfl rfl ?_
  refine q_iconst C (2 : Int32) dL_law_843 rfl ?_
  refine q_iadd C dL_law_844 ?_
  refine q_sld C hsc dL_law_845 h145 ?_
  refine q_chk (fun h151 => ?_)
  refine q_cVL (As := (fun P => [.int (xs ((v3 + (1 : Int32))).toNatClampNeg), .int (xs ((v3 + (2 : Int32))).toNatClampNeg)])) C [.long w146] (sX12_told r2 ((xs ((v3 + (1 : Int32))).toNatClampNeg)) ((xs ((v3 + (2 : Int32))).toNatClampNeg))) fcL_85 rfl (fun _ => rfl) ⟨Nat.le_of_ble_eq_true rfl, Nat.le_of_ble_eq_true rfl⟩ ⟨Nat.le_of_ble_eq_true rfl, Nat.le_of_ble_eq_true rfl⟩ (Nat.le_of_ble_eq_true rfl) dL_law_846 h151 (fun w149 X846_150 => ?_)
  refine q_lcmp C dL_law_849 ?_
  refine q_if_eq C 1402 dL_law_850 (by decide) (fun _ => ?_) (fun _ => ?_)
  · exact gL_law_L1402 C n xs L hsc k18 hk18 r1 r2 v3 X846_150
  · refine q_iconst C (0 : Int32) dL_law_853 rfl ?_
    exact Sm.none
theorem gL_law_L855 {E : q_E} (C : Cx E code R_law 4 ret room_1 q_X0) (n : Nat) (xs : Nat → Int32) (L : Nat) {b : Nat} (hsc : q_sc E b L xs) (k18 : Nat → Nat → Int32 → Mm → Option (Unit × Mm)) (hk18 : ∀ (r1 : Nat) (r2 : Nat) (v3 : Int32) (X : Mm), Sm E (q_lfin E) 381 76856 18 [(0, .ref b), (1, .ref (q_P E + r1)), (2, .ref (q_P E + r2)), (3, .int v3)] [] X (k18 r1 r2 v3 X)) (r1 : Nat) (r2 : Nat) (v3 : Int32) (X : Mm) : Sm E (q_lfin E) 381 76856 855 [(0, .ref b), (1, .ref (q_P E + r1)), (2, .ref (q_P E + r2)), (3, .int v3)] [] X (fL_law_L855 n xs L k18 r1 r2 v3 X) := by
  unfold fL_law_L855
  refine q_aload_n C 1 dL_law_855 rfl rfl ?_
  refine q_aload_n C 0 dL_law_856 rfl rfl ?_
  refine q_iload_n C 3 dL_law_857 rfl rfl ?_
  refine q_iconst C (1 : Int32) dL_law_858 rfl ?_
  refine q_iadd C dL_law_859 ?_
  refine q_chk (fun h152 => ?_)
  refine q_sld C hsc dL_law_860 h152 ?_
  refine q_aload_n C 0 dL_law_861 rfl rfl ?_
  refine q_iload_n C 3 dL_law_862 rfl rfl ?_
  refine q_iconst C (2 : Int32) dL_law_863 rfl ?_
  refine q_iadd C dL_law_864 ?_
  refine q_chk (fun h153 => ?_)
  refine q_sld C hsc dL_law_865 h153 ?_
  refine q_chk (fun h156 => ?_)
  refine q_cVI (As := (fun P => [.int (xs ((v3 + (1 : Int32))).toNatClampNeg), .int (xs ((v3 + (2 : Int32))).toNatClampNeg)])) C [] (sX11_event r1 ((xs ((v3 + (1 : Int32))).toNatClampNeg)) ((xs ((v3 + (2 : Int32))).toNatClampNeg))) fcL_86 rfl (fun _ => rfl) ⟨Nat.le_of_ble_eq_true rfl, Nat.le_of_ble_eq_true rfl⟩ ⟨Nat.le_of_ble_eq_true rfl, Nat.le_of_ble_eq_true rfl⟩ (Nat.le_of_ble_eq_true rfl) dL_law_866 h156 (fun w154 X866_155 => ?_)
  refine q_aload_n C 2 dL_law_869 rfl rfl ?_
  refine q_aload_n C 0 dL_law_870 rfl rfl ?_
  refine q_iload_n C 3 dL_law_871 rfl rfl ?_
  refine q_iconst C (1 : Int32) dL_law_872 rfl ?_
  refine q_iadd C dL_law_873 ?_
  refine q_sld C hsc dL_law_874 h152 ?_
  refine q_aload_n C 0 dL_law_875 rfl rfl ?_
  refine q_iload_n C 3 dL_law_876 rfl rfl ?_
  refine q_iconst C (2 : Int32) dL_law_877 rfl ?_
  refine q_iadd C dL_law_878 ?_
  refine q_sld C hsc dL_law_879 h153 ?_
  refine q_chk (fun h159 => ?_)
  refine q_cVI (As := (fun P => [.int (xs ((v3 + (1 : Int32))).toNatClampNeg), .int (xs ((v3 + (2 : Int32))).toNatClampNeg)])) C [.int w154] (sX12_event n r2 ((xs ((v3 + (1 : Int32))).toNatClampNeg)) ((xs ((v3 + (2 : Int32))).toNatClampNeg))) fcL_90 rfl (fun _ => rfl) ⟨Nat.le_of_ble_eq_true rfl, Nat.le_of_ble_eq_true rfl⟩ ⟨Nat.le_of_ble_eq_true rfl, Nat.le_of_ble_eq_true rfl⟩ (Nat.le_of_ble_eq_true rfl) dL_law_880 h159 (fun w157 X880_158 => ?_)
  refine q_icmp_eq C 1402 dL_law_883 (by decide) (fun _ => ?_) (fun _ => ?_)
  · exact gL_law_L1402 C n xs L hsc k18 hk18 r1 r2 v3 X880_158
  · refine q_iconst C (0 : Int32) dL_law_886 rfl ?_
    exact Sm.none
theorem gL_law_L888 {E : q_E} (C : Cx E code R_law 4 ret room_1 q_X0) (n : Nat) (xs : Nat → Int32) (L : Nat) {b : Nat} (hsc : q_sc E b L xs) (k18 : Nat → Nat → Int32 → Mm → Option (Unit × Mm)) (hk18 : ∀ (r1 : Nat) (r2 : Nat) (v3 : Int32) (X : Mm), Sm E (q_lfin E) 381 76856 18 [(0, .ref b), (1, .ref (q_P E + r1)), (2, .ref (q_P E + r2)), (3, .int v3)] [] X (k18 r1 r2 v3 X)) (r1 : Nat) (r2 : Nat) (v3 : Int32) (X : Mm) : Sm E (q_lfin E) 381 76856 888 [(0, .ref b), (1, .ref (q_P E + r1)), (2, .ref (q_P E + r2)), (3, .int v3)] [] X (fL_law_L888 n xs L k18 r1 r2 v3 X) := by
  unfold fL_law_L888
  refine q_aload_n C 1 dL_law_888 rfl rfl ?_
  refine q_aload_n C 0 dL_law_889 rfl rfl ?_
  refine q_iload_n C 3 dL_law_890 rfl rfl ?_
  refine q_iconst C (1 : Int32) dL_law_891 rfl ?_
  refine q_iadd C dL_law_892 ?_
  refine q_chk (fun h160 => ?_)
  refine q_sld C hsc dL_law_893 h160 ?_
  refine q_aload_n C 0 dL_law_894 rfl rfl ?_
  refine q_iload_n C 3 dL_law_895 rfl rfl ?_
  refine q_iconst C (2 : Int32) dL_law_896 rfl ?_
  refine q_iadd C dL_law_897 ?_
  refine q_chk (fun h161 => ?_)
  refine q_sld C hsc dL_law_898 h161 ?_
  refine q_aload_n C 0 dL_law_899 rfl rfl ?_
  refine q_iload_n C 3 dL_law_900 rfl rfl ?_
  refine q_iconst C (3 : Int32) dL_law_901 rfl ?_
  refine q_iadd C dL_law_902 ?_
  refine q_chk (fun h162 => ?_)
  refine q_sld C hsc dL_law_903 h162 ?_
  refine q_chk (fun h165 => ?_)
  refine q_cVL (As := (fun P => [.int (xs ((v3 + (1 : Int32))).toNatClampNeg), .int (xs ((v3 + (2 : Int32))).toNatClampNeg), .int (xs ((v3 + (3 : Int32))).toNatClampNeg)])) C [] (sX11_written n r1 ((xs ((v3 + (1 : Int32))).toNatClampNeg)) ((xs ((v3 + (2 : Int32))).toNatClampNeg)) ((xs ((v3 + (3 : Int32))).toNatClampNeg))) fcL_91 rfl (fun _ => rfl) ⟨Nat.le_of_ble_eq_true rfl, Nat.le_of_ble_eq_true rfl⟩ ⟨Nat.le_of_ble_eq_true rfl, Nat.le_of_ble_eq_true rfl⟩ (Nat.le_of_ble_eq_true rfl) dL_law_904 h165 (fun w163 X904_164 => ?_)
  refine q_aload_n C 2 dL_law_907 rfl rfl ?_
  refine q_aload_n C 0 dL_law_908 rfl rfl ?_
  refine q_iload_n C 3 dL_law_909 rfl rfl ?_
  refine q_iconst C (1 : Int32) dL_law_910 rfl ?_
  refine q_iadd C dL_law_911 ?_
  refine q_sld C hsc dL_law_912 h160 ?_
  refine q_aload_n C 0 dL_law_913 rfl rfl ?_
  refine q_iload_n C 3 dL_law_914 rfl rfl ?_
  refine q_iconst C (2 : Int32) dL_law_915 rfl ?_
  refine q_iadd C dL_law_916 ?_
  refine q_sld C hsc dL_law_917 h161 ?_
  refine q_aload_n C 0 dL_law_918 rfl rfl ?_
  refine q_iload_n C 3 dL_law_919 rfl rfl ?_
  refine q_iconst C (3 : Int32) dL_law_920 rfl ?_
  refine q_iadd C dL_law_921 ?_
  refine q_sld C hsc dL_law_922 h162 ?_
  refine q_chk (fun h168 => ?_)
  refine q_cVL (As := (fun P => [.int (xs ((v3 + (1 : Int32))).toNatClampNeg), .int (xs ((v3 + (2 : Int32))).toNatClampNeg), .int (xs ((v3 + (3 : Int32))).toNatClampNeg)])) C [.long w163] (sX12_written n r2 ((xs ((v3 + (1 : Int32))).toNatClampNeg)) ((xs ((v3 + (2 : Int32))).toNatClampNeg)) ((xs ((v3 + (3 : Int32))).toNatClampNeg))) fcL_95 rfl (fun _ => rfl) ⟨Nat.le_of_ble_eq_true rfl, Nat.le_of_ble_eq_true rfl⟩ ⟨Nat.le_of_ble_eq_true rfl, Nat.le_of_ble_eq_true rfl⟩ (Nat.le_of_ble_eq_true rfl) dL_law_923 h168 (fun w166 X923_167 => ?_)
  refine q_lcmp C dL_law_926 ?_
  refine q_if_eq C 1402 dL_law_927 (by decide) (fun _ => ?_) (fun _ => ?_)
  · exact gL_law_L1402 C n xs L hsc k18 hk18 r1 r2 v3 X923_167
  · refine q_iconst C (0 : Int32) dL_law_930 rfl ?_
    exact Sm.none
theorem gL_law_L932 {E : q_E} (C : Cx E code R_law 4 ret room_1 q_X0) (n : Nat) (xs : Nat → Int32) (L : Nat) {b : Nat} (hsc : q_sc E b L xs) (k18 : Nat → Nat → Int32 → Mm → Option (Unit × Mm)) (hk18 : ∀ (r1 : Nat) (r2 : Nat) (v3 : Int32) (X : Mm), Sm E (q_lfin E) 381 76856 18 [(0, .ref b), (1, .ref (q_P E + r1)), (2, .ref (q_P E + r2)), (3, .int v3)] [] X (k18 r1 r2 v3 X)) (r1 : Nat) (r2 : Nat) (v3 : Int32) (X : Mm) : Sm E (q_lfin E) 381 76856 932 [(0, .ref b), (1, .ref (q_P E + r1)), (2, .ref (q_P E + r2)), (3, .int v3)] [] X (fL_law_L932 n xs L k18 r1 r2 v3 X) := by
  unfold fL_law_L932
  refine q_aload_n C 1 dL_law_932 rfl rfl ?_
  refine q_aload_n C 0 dL_law_933 rfl rfl ?_
  refine q_iload_n C 3 dL_law_934 rfl rfl ?_
  refine q_iconst C (1 : Int32) dL_law_935 rfl ?_
  refine q_iadd C dL_law_936 ?_
  refine q_chk (fun h169 => ?_)
  refine q_sld C hsc dL_law_937 h169 ?_
  refine q_aload_n C 0 dL_law_938 rfl rfl ?_
  refine q_iload_n C 3 dL_law_939 rfl rfl ?_
  refine q_iconst C (2 : Int32) dL_law_940 rfl ?_
  refine q_iadd C dL_law_941 ?_
  refine q_chk (fun h170 => ?_)
  refine q_sld C hsc dL_law_942 h170 ?_
  refine q_aload_n C 0 dL_law_943 rfl rfl ?_
  refine q_iload_n C 3 dL_law_944 rfl rfl ?_
  refine q_iconst C (3 : Int32) dL_law_945 rfl ?_
  refine q_iadd C dL_law_946 ?_
  refine q_chk (fun h171 => ?_)
  refine q_sld C hsc dL_law_947 h171 ?_
  refine q_chk (fun h174 => ?_)
  refine q_cVL (As := (fun P => [.int (xs ((v3 + (1 : Int32))).toNatClampNeg), .int (xs ((v3 + (2 : Int32))).toNatClampNeg), .int (xs ((v3 + (3 : Int32))).toNatClampNeg)])) C [] (sX11_claim r1 ((xs ((v3 + (1 : Int32))).toNatClampNeg)) ((xs ((v3 + (2 : Int32))).toNatClampNeg)) ((xs ((v3 + (3 : Int32))).toNatClampNeg))) fcL_96 rfl (fun _ => rfl) ⟨Nat.le_of_ble_eq_true rfl, Nat.le_of_ble_eq_true rfl⟩ ⟨Nat.le_of_ble_eq_true rfl, Nat.le_of_ble_eq_true rfl⟩ (Nat.le_of_ble_eq_true rfl) dL_law_948 h174 (fun w172 X948_173 => ?_)
  refine q_aload_n C 2 dL_law_951 rfl rfl ?_
  refine q_aload_n C 0 dL_law_952 rfl rfl ?_
  refine q_iload_n C 3 dL_law_953 rfl rfl ?_
  refine q_iconst C (1 : Int32) dL_law_954 rfl ?_
  refine q_iadd C dL_law_955 ?_
  refine q_sld C hsc dL_law_956 h169 ?_
  refine q_aload_n C 0 dL_law_957 rfl rfl ?_
  refine q_iload_n C 3 dL_law_958 rfl rfl ?_
  refine q_iconst C (2 : Int32) dL_law_959 rfl ?_
  refine q_iadd C dL_law_960 ?_
  refine q_sld C hsc dL_law_961 h170 ?_
  refine q_aload_n C 0 dL_law_962 rfl rfl ?_
  refine q_iload_n C 3 dL_law_963 rfl rfl ?_
  refine q_iconst C (3 : Int32) dL_law_964 rfl ?_
  refine q_iadd C dL_law_965 ?_
  refine q_sld C hsc dL_law_966 h171 ?_
  refine q_chk (fun h177 => ?_)
  refine q_cVL (As := (fun P => [.int (xs ((v3 + (1 : Int32))).toNatClampNeg), .int (xs ((v3 + (2 : Int32))).toNatClampNeg), .int (xs ((v3 + (3 : Int32))).toNatClampNeg)])) C [.long w172] (sX12_claim r2 ((xs ((v3 + (1 : Int32))).toNatClampNeg)) ((xs ((v3 + (2 : Int32))).toNatClampNeg)) ((xs ((v3 + (3 : Int32))).toNatClampNeg))) fcL_99 rfl (fun _ => rfl) ⟨Nat.le_of_ble_eq_true rfl, Nat.le_of_ble_eq_true rfl⟩ ⟨Nat.le_of_ble_eq_true rfl, Nat.le_of_ble_eq_true rfl⟩ (Nat.le_of_ble_eq_true rfl) dL_law_967 h177 (fun w175 X967_176 => ?_)
  refine q_lcmp C dL_law_970 ?_
  refine q_if_eq C 1402 dL_law_971 (by decide) (fun _ => ?_) (fun _ => ?_)
  · exact gL_law_L1402 C n xs L hsc k18 hk18 r1 r2 v3 X967_176
  · refine q_iconst C (0 : Int32) dL_law_974 rfl ?_
    exact Sm.none
theorem gL_law_L976 {E : q_E} (C : Cx E code R_law 4 ret room_1 q_X0) (n : Nat) (xs : Nat → Int32) (L : Nat) {b : Nat} (hsc : q_sc E b L xs) (k18 : Nat → Nat → Int32 → Mm → Option (Unit × Mm)) (hk18 : ∀ (r1 : Nat) (r2 : Nat) (v3 : Int32) (X : Mm), Sm E (q_lfin E) 381 76856 18 [(0, .ref b), (1, .ref (q_P E + r1)), (2, .ref (q_P E + r2)), (3, .int v3)] [] X (k18 r1 r2 v3 X)) (r1 : Nat) (r2 : Nat) (v3 : Int32) (X : Mm) : Sm E (q_lfin E) 381 76856 976 [(0, .ref b), (1, .ref (q_P E + r1)), (2, .ref (q_P E + r2)), (3, .int v3)] [] X (fL_law_L976 n xs L k18 r1 r2 v3 X) := by
  unfold fL_law_L976
  refine q_aload_n C 1 dL_law_976 rfl rfl ?_
  refine q_aload_n C 0 dL_law_977 rfl rfl ?_
  refine q_iload_n C 3 dL_law_978 rfl rfl ?_
  refine q_iconst C (1 : Int32) dL_law_979 rfl ?_
  refine q_iadd C dL_law_980 ?_
  refine q_chk (fun h178 => ?_)
  refine q_sld C hsc dL_law_981 h178 ?_
  refine q_aload_n C 0 dL_law_982 rfl rfl ?_
  refine q_iload_n C 3 dL_law_983 rfl rfl ?_
  refine q_iconst C (2 : Int32) dL_law_984 rfl ?_
  refine q_iadd C dL_law_985 ?_
  refine q_chk (fun h179 => ?_)
  refine q_sld C hsc dL_law_986 h179 ?_
  refine q_chk (fun h182 => ?_)
  refine q_cVL (As := (fun P => [.int (xs ((v3 + (1 : Int32))).toNatClampNeg), .int (xs ((v3 + (2 : Int32))).toNatClampNeg)])) C [] (sX11_issued r1 ((xs ((v3 + (1 : Int32))).toNatClampNeg)) ((xs ((v3 + (2 : Int32))).toNatClampNeg))) fcL_100 rfl (fun _ => rfl) ⟨Nat.le_of_ble_eq_true rfl, Nat.le_of_ble_eq_true rfl⟩ ⟨Nat.le_of_ble_eq_true rfl, Nat.le_of_ble_eq_true rfl⟩ (Nat.le_of_ble_eq_true rfl) dL_law_987 h182 (fun w180 X987_181 => ?_)
  refine q_aload_n C 2 dL_law_990 rfl rfl ?_
  refine q_aload_n C 0 dL_law_991 rfl rfl ?_
  refine q_iload_n C 3 dL_law_992 rfl rfl ?_
  refine q_iconst C (1 : Int32) dL_law_993 rfl ?_
  refine q_iadd C dL_law_994 ?_
  refine q_sld C hsc dL_law_995 h178 ?_
  refine q_aload_n C 0 dL_law_996 rfl rfl ?_
  refine q_iload_n C 3 dL_law_997 rfl rfl ?_
  refine q_iconst C (2 : Int32) dL_law_998 rfl ?_
  refine q_iadd C dL_law_999 ?_
  refine q_sld C hsc dL_law_1000 h179 ?_
  refine q_chk (fun h185 => ?_)
  refine q_cVL (As := (fun P => [.int (xs ((v3 + (1 : Int32))).toNatClampNeg), .int (xs ((v3 + (2 : Int32))).toNatClampNeg)])) C [.long w180] (sX12_issued r2 ((xs ((v3 + (1 : Int32))).toNatClampNeg)) ((xs ((v3 + (2 : Int32))).toNatClampNeg))) fcL_103 rfl (fun _ => rfl) ⟨Nat.le_of_ble_eq_true rfl, Nat.le_of_ble_eq_true rfl⟩ ⟨Nat.le_of_ble_eq_true rfl, Nat.le_of_ble_eq_true rfl⟩ (Nat.le_of_ble_eq_true rfl) dL_law_1001 h185 (fun w183 X1001_184 => ?_)
  refine q_lcmp C dL_law_1004 ?_
  refine q_if_eq C 1402 dL_law_1005 (by decide) (fun _ => ?_) (fun _ => ?_)
  · exact gL_law_L1402 C n xs L hsc k18 hk18 r1 r2 v3 X1001_184
  · refine q_iconst C (0 : Int32) dL_law_1008 rfl ?_
    exact Sm.none
theorem gL_law_L1010 {E : q_E} (C : Cx E code R_law 4 ret room_1 q_X0) (n : Nat) (xs : Nat → Int32) (L : Nat) {b : Nat} (hsc : q_sc E b L xs) (k18 : Nat → Nat → Int32 → Mm → Option (Unit × Mm)) (hk18 : ∀ (r1 : Nat) (r2 : Nat) (v3 : Int32) (X : Mm), Sm E (q_lfin E) 381 76856 18 [(0, .ref b), (1, .ref (q_P E + r1)), (2, .ref (q_P E + r2)), (3, .int v3)] [] X (k18 r1 r2 v3 X)) (r1 : Nat) (r2 : Nat) (v3 : Int32) (X : Mm) : Sm E (q_lfin E) 381 76856 1010 [(0, .ref b), (1, .ref (q_P E + r1)), (2, .ref (q_P E + r2)), (3, .int v3)] [] X (fL_law_L1010 n xs L k18 r1 r2 v3 X) := by
  unfold fL_law_L1010
  refine q_aload_n C 1 dL_law_1010 rfl rfl ?_
  refine q_aload_n C 0 dL_law_1011 rfl rfl ?_
  refine q_iload_n C 3 dL_law_1012 rfl rfl ?_
  refine q_iconst C (1 : Int32) dL_law_1013 rfl ?_
  refine q_iadd C dL_law_1014 ?_
  refine q_chk (fun h186 => ?_)
  refine q_sld C hsc dL_law_1015 h186 ?_
  refine q_aload_n C 0 dL_law_1016 rfl rfl ?_
  refine q_iload_n C 3 dL_law_1017 rfl rfl ?_
  refine q_iconst C (2 : Int32) dL_law_1018 rfl ?_
  refine q_iadd C dL_law_1019 ?_
  refine q_chk (fun h187 => ?_)
  refine q_sld C hsc dL_law_1020 h187 ?_
  refine q_aload_n C 0 dL_law_1021 rfl rfl ?_
  refine q_iload_n C 3 dL_law_1022 rfl rfl ?_
  refine q_iconst C (3 : Int32) dL_law_1023 rfl ?_
  refine q_iadd C dL_law_1024 ?_
  refine q_chk (fun h188 => ?_)
  refine q_sld C hsc dL_law_1025 h188 ?_
  refine q_chk (fun h191 => ?_)
  refine q_cVL (As := (fun P => [.int (xs ((v3 + (1 : Int32))).toNatClampNeg), .int (xs ((v3 + (2 : Int32))).toNatClampNeg), .int (xs ((v3 + (3 : Int32))).toNatClampNeg)])) C [] (sX11_net n r1 ((xs ((v3 + (1 : Int32))).toNatClampNeg)) ((xs ((v3 + (2 : Int32))).toNatClampNeg)) ((xs ((v3 + (3 : Int32))).toNatClampNeg))) fcL_104 rfl (fun _ => rfl) ⟨Nat.le_of_ble_eq_true rfl, Nat.le_of_ble_eq_true rfl⟩ ⟨Nat.le_of_ble_eq_true rfl, Nat.le_of_ble_eq_true rfl⟩ (Nat.le_of_ble_eq_true rfl) dL_law_1026 h191 (fun w189 X1026_190 => ?_)
  refine q_aload_n C 2 dL_law_1029 rfl rfl ?_
  refine q_aload_n C 0 dL_law_1030 rfl rfl ?_
  refine q_iload_n C 3 dL_law_1031 rfl rfl ?_
  refine q_iconst C (1 : Int32) dL_law_1032 rfl ?_
  refine q_iadd C dL_law_1033 ?_
  refine q_sld C hsc dL_law_1034 h186 ?_
  refine q_aload_n C 0 dL_law_1035 rfl rfl ?_
  refine q_iload_n C 3 dL_law_1036 rfl rfl ?_
  refine q_iconst C (2 : Int32) dL_law_1037 rfl ?_
  refine q_iadd C dL_law_1038 ?_
  refine q_sld C hsc dL_law_1039 h187 ?_
  refine q_aload_n C 0 dL_law_1040 rfl rfl ?_
  refine q_iload_n C 3 dL_law_1041 rfl rfl ?_
  refine q_iconst C (3 : Int32) dL_law_1042 rfl ?_
  refine q_iadd C dL_law_1043 ?_
  refine q_sld C hsc dL_law_1044 h188 ?_
  refine q_chk (fun h194 => ?_)
  refine q_cVL (As := (fun P => [.int (xs ((v3 + (1 : Int32))).toNatClampNeg), .int (xs ((v3 + (2 : Int32))).toNatClampNeg), .int (xs ((v3 + (3 : Int32))).toNatClampNeg)])) C [.long w189] (sX12_net n r2 ((xs ((v3 + (1 : Int32))).toNatClampNeg)) ((xs ((v3 + (2 : Int32))).toNatClampNeg)) ((xs ((v3 + (3 : Int32))).toNatClampNeg))) fcL_107 rfl (fun _ => rfl) ⟨Nat.le_of_ble_eq_true rfl, Nat.le_of_ble_eq_true rfl⟩ ⟨Nat.le_of_ble_eq_true rfl, Nat.le_of_ble_eq_true rfl⟩ (Nat.le_of_ble_eq_true rfl) dL_law_1045 h194 (fun w192 X1045_193 => ?_)
  refine q_lcmp C dL_law_1048 ?_
  refine q_if_eq C 1402 dL_law_1049 (by decide) (fun _ => ?_) (fun _ => ?_)
  · exact gL_law_L1402 C n xs L hsc k18 hk18 r1 r2 v3 X1045_193
  · refine q_iconst C (0 : Int32) dL_law_1052 rfl ?_
    exact Sm.none
theorem gL_law_L1054 {E : q_E} (C : Cx E code R_law 4 ret room_1 q_X0) (n : Nat) (xs : Nat → Int32) (L : Nat) {b : Nat} (hsc : q_sc E b L xs) (k18 : Nat → Nat → Int32 → Mm → Option (Unit × Mm)) (hk18 : ∀ (r1 : Nat) (r2 : Nat) (v3 : Int32) (X : Mm), Sm E (q_lfin E) 381 76856 18 [(0, .ref b), (1, .ref (q_P E + r1)), (2, .ref (q_P E + r2)), (3, .int v3)] [] X (k18 r1 r2 v3 X)) (r1 : Nat) (r2 : Nat) (v3 : Int32) (X : Mm) : Sm E (q_lfin E) 381 76856 1054 [(0, .ref b), (1, .ref (q_P E + r1)), (2, .ref (q_P E + r2)), (3, .int v3)] [] X (fL_law_L1054 n xs L k18 r1 r2 v3 X) := by
  unfold fL_law_L1054
  refine q_aload_n C 1 dL_law_1054 rfl rfl ?_
  refine q_aload_n C 0 dL_law_1055 rfl rfl ?_
  refine q_iload_n C 3 dL_law_1056 rfl rfl ?_
  refine q_iconst C (1 : Int32) dL_law_1057 rfl ?_
  refine q_iadd C dL_law_1058 ?_
  refine q_chk (fun h195 => ?_)
  refine q_sld C hsc dL_law_1059 h195 ?_
  refine q_aload_n C 0 dL_law_1060 rfl rfl ?_
  refine q_iload_n C 3 dL_law_1061 rfl rfl ?_
  refine q_iconst C (2 : Int32) dL_law_1062 rfl ?_
  refine q_iadd C dL_law_1063 ?_
  refine q_chk (fun h196 => ?_)
  refine q_sld C hsc dL_law_1064 h196 ?_
  refine q_aload_n C 0 dL_law_1065 rfl rfl ?_
  refine q_iload_n C 3 dL_law_1066 rfl rfl ?_
  refine q_iconst C (3 : Int32) dL_law_1067 rfl ?_
  refine q_iadd C dL_law_1068 ?_
  refine q_chk (fun h197 => ?_)
  refine q_sld C hsc dL_law_1069 h197 ?_
  refine q_chk (fun h200 => ?_)
  refine q_cVL (As := (fun P => [.int (xs ((v3 + (1 : Int32))).toNatClampNeg), .int (xs ((v3 + (2 : Int32))).toNatClampNeg), .int (xs ((v3 + (3 : Int32))).toNatClampNeg)])) C [] (sX11_worth n r1 ((xs ((v3 + (1 : Int32))).toNatClampNeg)) ((xs ((v3 + (2 : Int32))).toNatClampNeg)) ((xs ((v3 + (3 : Int32))).toNatClampNeg))) fcL_108 rfl (fun _ => rfl) ⟨Nat.le_of_ble_eq_true rfl, Nat.le_of_ble_eq_true rfl⟩ ⟨Nat.le_of_ble_eq_true rfl, Nat.le_of_ble_eq_true rfl⟩ (Nat.le_of_ble_eq_true rfl) dL_law_1070 h200 (fun w198 X1070_199 => ?_)
  refine q_aload_n C 2 dL_law_1073 rfl rfl ?_
  refine q_aload_n C 0 dL_law_1074 rfl rfl ?_
  refine q_iload_n C 3 dL_law_1075 rfl rfl ?_
  refine q_iconst C (1 : Int32) dL_law_1076 rfl ?_
  refine q_iadd C dL_law_1077 ?_
  refine q_sld C hsc dL_law_1078 h195 ?_
  refine q_aload_n C 0 dL_law_1079 rfl rfl ?_
  refine q_iload_n C 3 dL_law_1080 rfl rfl ?_
  refine q_iconst C (2 : Int32) dL_law_1081 rfl ?_
  refine q_iadd C dL_law_1082 ?_
  refine q_sld C hsc dL_law_1083 h196 ?_
  refine q_aload_n C 0 dL_law_1084 rfl rfl ?_
  refine q_iload_n C 3 dL_law_1085 rfl rfl ?_
  refine q_iconst C (3 : Int32) dL_law_1086 rfl ?_
  refine q_iadd C dL_law_1087 ?_
  refine q_sld C hsc dL_law_1088 h197 ?_
  refine q_chk (fun h203 => ?_)
  refine q_cVL (As := (fun P => [.int (xs ((v3 + (1 : Int32))).toNatClampNeg), .int (xs ((v3 + (2 : Int32))).toNatClampNeg), .int (xs ((v3 + (3 : Int32))).toNatClampNeg)])) C [.long w198] (sX12_worth n r2 ((xs ((v3 + (1 : Int32))).toNatClampNeg)) ((xs ((v3 + (2 : Int32))).toNatClampNeg)) ((xs ((v3 + (3 : Int32))).toNatClampNeg))) fcL_111 rfl (fun _ => rfl) ⟨Nat.le_of_ble_eq_true rfl, Nat.le_of_ble_eq_true rfl⟩ ⟨Nat.le_of_ble_eq_true rfl, Nat.le_of_ble_eq_true rfl⟩ (Nat.le_of_ble_eq_true rfl) dL_law_1089 h203 (fun w201 X1089_202 => ?_)
  refine q_lcmp C dL_law_1092 ?_
  refine q_if_eq C 1402 dL_law_1093 (by decide) (fun _ => ?_) (fun _ => ?_)
  · exact gL_law_L1402 C n xs L hsc k18 hk18 r1 r2 v3 X1089_202
  · refine q_iconst C (0 : Int32) dL_law_1096 rfl ?_
    exact Sm.none
theorem gL_law_L1098 {E : q_E} (C : Cx E code R_law 4 ret room_1 q_X0) (n : Nat) (xs : Nat → Int32) (L : Nat) {b : Nat} (hsc : q_sc E b L xs) (k18 : Nat → Nat → Int32 → Mm → Option (Unit × Mm)) (hk18 : ∀ (r1 : Nat) (r2 : Nat) (v3 : Int32) (X : Mm), Sm E (q_lfin E) 381 76856 18 [(0, .ref b), (1, .ref (q_P E + r1)), (2, .ref (q_P E + r2)), (3, .int v3)] [] X (k18 r1 r2 v3 X)) (r1 : Nat) (r2 : Nat) (v3 : Int32) (X : Mm) : Sm E (q_lfin E) 381 76856 1098 [(0, .ref b), (1, .ref (q_P E + r1)), (2, .ref (q_P E + r2)), (3, .int v3)] [] X (fL_law_L1098 n xs L k18 r1 r2 v3 X) := by
  unfold fL_law_L1098
  refine q_aload_n C 1 dL_law_1098 rfl rfl ?_
  refine q_aload_n C 0 dL_law_1099 rfl rfl ?_
  refine q_iload_n C 3 dL_law_1100 rfl rfl ?_
  refine q_iconst C (1 : Int32) dL_law_1101 rfl ?_
  refine q_iadd C dL_law_1102 ?_
  refine q_chk (fun h204 => ?_)
  refine q_sld C hsc dL_law_1103 h204 ?_
  refine q_aload_n C 0 dL_law_1104 rfl rfl ?_
  refine q_iload_n C 3 dL_law_1105 rfl rfl ?_
  refine q_iconst C (2 : Int32) dL_law_1106 rfl ?_
  refine q_iadd C dL_law_1107 ?_
  refine q_chk (fun h205 => ?_)
  refine q_sld C hsc dL_law_1108 h205 ?_
  refine q_aload_n C 0 dL_law_1109 rfl rfl ?_
  refine q_iload_n C 3 dL_law_1110 rfl rfl ?_
  refine q_iconst C (3 : Int32) dL_law_1111 rfl ?_
  refine q_iadd C dL_law_1112 ?_
  refine q_chk (fun h206 => ?_)
  refine q_sld C hsc dL_law_1113 h206 ?_
  refine q_chk (fun h209 => ?_)
  refine q_cVL (As := (fun P => [.int (xs ((v3 + (1 : Int32))).toNatClampNeg), .int (xs ((v3 + (2 : Int32))).toNatClampNeg), .int (xs ((v3 + (3 : Int32))).toNatClampNeg)])) C [] (sX11_ahead n r1 ((xs ((v3 + (1 : Int32))).toNatClampNeg)) ((xs ((v3 + (2 : Int32))).toNatClampNeg)) ((xs ((v3 + (3 : Int32))).toNatClampNeg))) fcL_112 rfl (fun _ => rfl) ⟨Nat.le_of_ble_eq_true rfl, Nat.le_of_ble_eq_true rfl⟩ ⟨Nat.le_of_ble_eq_true rfl, Nat.le_of_ble_eq_true rfl⟩ (Nat.le_of_ble_eq_true rfl) dL_law_1114 h209 (fun w207 X1114_208 => ?_)
  refine q_aload_n C 2 dL_law_1117 rfl rfl ?_
  refine q_aload_n C 0 dL_law_1118 rfl rfl ?_
  refine q_iload_n C 3 dL_law_1119 rfl rfl ?_
  refine q_iconst C (1 : Int32) dL_law_1120 rfl ?_
  refine q_iadd C dL_law_1121 ?_
  refine q_sld C hsc dL_law_1122 h204 ?_
  refine q_aload_n C 0 dL_law_1123 rfl rfl ?_
  refine q_iload_n C 3 dL_law_1124 rfl rfl ?_
  refine q_iconst C (2 : Int32) dL_law_1125 rfl ?_
  refine q_iadd C dL_law_1126 ?_
  refine q_sld C hsc dL_law_1127 h205 ?_
  refine q_aload_n C 0 dL_law_1128 rfl rfl ?_
  refine q_iload_n C 3 dL_law_1129 rfl rfl ?_
  refine q_iconst C (3 : Int32) dL_law_1130 rfl ?_
  refine q_iadd C dL_law_1131 ?_
  refine q_sld C hsc dL_law_1132 h206 ?_
  refine q_chk (fun h212 => ?_)
  refine q_cVL (As := (fun P => [.int (xs ((v3 + (1 : Int32))).toNatClampNeg), .int (xs ((v3 + (2 : Int32))).toNatClampNeg), .int (xs ((v3 + (3 : Int32))).toNatClampNeg)])) C [.long w207] (sX12_ahead n r2 ((xs ((v3 + (1 : Int32))).toNatClampNeg)) ((xs ((v3 + (2 : Int32))).toNatClampNeg)) ((xs ((v3 + (3 : Int32))).toNatClampNeg))) fcL_115 rfl (fun _ => rfl) ⟨Nat.le_of_ble_eq_true rfl, Nat.le_of_ble_eq_true rfl⟩ ⟨Nat.le_of_ble_eq_true rfl, Nat.le_of_ble_eq_true rfl⟩ (Nat.le_of_ble_eq_true rfl) dL_law_1133 h212 (fun w210 X1133_211 => ?_)
  refine q_lcmp C dL_law_1136 ?_
  refine q_if_eq C 1402 dL_law_1137 (by decide) (fun _ => ?_) (fun _ => ?_)
  · exact gL_law_L1402 C n xs L hsc k18 hk18 r1 r2 v3 X1133_211
  · refine q_iconst C (0 : Int32) dL_law_1140 rfl ?_
    exact Sm.none
theorem gL_law_L1142 {E : q_E} (C : Cx E code R_law 4 ret room_1 q_X0) (n : Nat) (xs : Nat → Int32) (L : Nat) {b : Nat} (hsc : q_sc E b L xs) (k18 : Nat → Nat → Int32 → Mm → Option (Unit × Mm)) (hk18 : ∀ (r1 : Nat) (r2 : Nat) (v3 : Int32) (X : Mm), Sm E (q_lfin E) 381 76856 18 [(0, .ref b), (1, .ref (q_P E + r1)), (2, .ref (q_P E + r2)), (3, .int v3)] [] X (k18 r1 r2 v3 X)) (r1 : Nat) (r2 : Nat) (v3 : Int32) (X : Mm) : Sm E (q_lfin E) 381 76856 1142 [(0, .ref b), (1, .ref (q_P E + r1)), (2, .ref (q_P E + r2)), (3, .int v3)] [] X (fL_law_L1142 n xs L k18 r1 r2 v3 X) := by
  unfold fL_law_L1142
  refine q_aload_n C 1 dL_law_1142 rfl rfl ?_
  refine q_aload_n C 0 dL_law_1143 rfl rfl ?_
  refine q_iload_n C 3 dL_law_1144 rfl rfl ?_
  refine q_iconst C (1 : Int32) dL_law_1145 rfl ?_
  refine q_iadd C dL_law_1146 ?_
  refine q_chk (fun h213 => ?_)
  refine q_sld C hsc dL_law_1147 h213 ?_
  refine q_aload_n C 0 dL_law_1148 rfl rfl ?_
  refine q_iload_n C 3 dL_law_1149 rfl rfl ?_
  refine q_iconst C (2 : Int32) dL_law_1150 rfl ?_
  refine q_iadd C dL_law_1151 ?_
  refine q_chk (fun h214 => ?_)
  refine q_sld C hsc dL_law_1152 h214 ?_
  refine q_chk (fun h217 => ?_)
  refine q_cVL (As := (fun P => [.int (xs ((v3 + (1 : Int32))).toNatClampNeg), .int (xs ((v3 + (2 : Int32))).toNatClampNeg)])) C [] (sX11_purseAhead n r1 ((xs ((v3 + (1 : Int32))).toNatClampNeg)) ((xs ((v3 + (2 : Int32))).toNatClampNeg))) fcL_116 rfl (fun _ => rfl) ⟨Nat.le_of_ble_eq_true rfl, Nat.le_of_ble_eq_true rfl⟩ ⟨Nat.le_of_ble_eq_true rfl, Nat.le_of_ble_eq_true rfl⟩ (Nat.le_of_ble_eq_true rfl) dL_law_1153 h217 (fun w215 X1153_216 => ?_)
  refine q_aload_n C 2 dL_law_1156 rfl rfl ?_
  refine q_aload_n C 0 dL_law_1157 rfl rfl ?_
  refine q_iload_n C 3 dL_law_1158 rfl rfl ?_
  refine q_iconst C (1 : Int32) dL_law_1159 rfl ?_
  refine q_iadd C dL_law_1160 ?_
  refine q_sld C hsc dL_law_1161 h213 ?_
  refine q_aload_n C 0 dL_law_1162 rfl rfl ?_
  refine q_iload_n C 3 dL_law_1163 rfl rfl ?_
  refine q_iconst C (2 : Int32) dL_law_1164 rfl ?_
  refine q_iadd C dL_law_1165 ?_
  refine q_sld C hsc dL_law_1166 h214 ?_
  refine q_chk (fun h220 => ?_)
  refine q_cVL (As := (fun P => [.int (xs ((v3 + (1 : Int32))).toNatClampNeg), .int (xs ((v3 + (2 : Int32))).toNatClampNeg)])) C [.long w215] (sX12_purseAhead n r2 ((xs ((v3 + (1 : Int32))).toNatClampNeg)) ((xs ((v3 + (2 : Int32))).toNatClampNeg))) fcL_119 rfl (fun _ => rfl) ⟨Nat.le_of_ble_eq_true rfl, Nat.le_of_ble_eq_true rfl⟩ ⟨Nat.le_of_ble_eq_true rfl, Nat.le_of_ble_eq_true rfl⟩ (Nat.le_of_ble_eq_true rfl) dL_law_1167 h220 (fun w218 X1167_219 => ?_)
  refine q_lcmp C dL_law_1170 ?_
  refine q_if_eq C 1402 dL_law_1171 (by decide) (fun _ => ?_) (fun _ => ?_)
  · exact gL_law_L1402 C n xs L hsc k18 hk18 r1 r2 v3 X1167_219
  · refine q_iconst C (0 : Int32) dL_law_1174 rfl ?_
    exact Sm.none
theorem gL_law_L1176 {E : q_E} (C : Cx E code R_law 4 ret room_1 q_X0) (n : Nat) (xs : Nat → Int32) (L : Nat) {b : Nat} (hsc : q_sc E b L xs) (k18 : Nat → Nat → Int32 → Mm → Option (Unit × Mm)) (hk18 : ∀ (r1 : Nat) (r2 : Nat) (v3 : Int32) (X : Mm), Sm E (q_lfin E) 381 76856 18 [(0, .ref b), (1, .ref (q_P E + r1)), (2, .ref (q_P E + r2)), (3, .int v3)] [] X (k18 r1 r2 v3 X)) (r1 : Nat) (r2 : Nat) (v3 : Int32) (X : Mm) : Sm E (q_lfin E) 381 76856 1176 [(0, .ref b), (1, .ref (q_P E + r1)), (2, .ref (q_P E + r2)), (3, .int v3)] [] X (fL_law_L1176 n xs L k18 r1 r2 v3 X) := by
  unfold fL_law_L1176
  refine q_aload_n C 1 dL_law_1176 rfl rfl ?_
  refine q_aload_n C 0 dL_law_1177 rfl rfl ?_
  refine q_iload_n C 3 dL_law_1178 rfl rfl ?_
  refine q_iconst C (1 : Int32) dL_law_1179 rfl ?_
  refine q_iadd C dL_law_1180 ?_
  refine q_chk (fun h221 => ?_)
  refine q_sld C hsc dL_law_1181 h221 ?_
  refine q_chk (fun h224 => ?_)
  refine q_cVI (As := (fun P => [.int (xs ((v3 + (1 : Int32))).toNatClampNeg)])) C [] (sX11_waits n r1 ((xs ((v3 + (1 : Int32))).toNatClampNeg))) fcL_120 rfl (fun _ => rfl) ⟨Nat.le_of_ble_eq_true rfl, Nat.le_of_ble_eq_true rfl⟩ ⟨Nat.le_of_ble_eq_true rfl, Nat.le_of_ble_eq_true rfl⟩ (Nat.le_of_ble_eq_true rfl) dL_law_1182 h224 (fun w222 X1182_223 => ?_)
  refine q_aload_n C 2 dL_law_1185 rfl rfl ?_
  refine q_aload_n C 0 dL_law_1186 rfl rfl ?_
  refine q_iload_n C 3 dL_law_1187 rfl rfl ?_
  refine q_iconst C (1 : Int32) dL_law_1188 rfl ?_
  refine q_iadd C dL_law_1189 ?_
  refine q_sld C hsc dL_law_1190 h221 ?_
  refine q_chk (fun h227 => ?_)
  refine q_cVI (As := (fun P => [.int (xs ((v3 + (1 : Int32))).toNatClampNeg)])) C [.int w222] (sX12_waits n r2 ((xs ((v3 + (1 : Int32))).toNatClampNeg))) fcL_123 rfl (fun _ => rfl) ⟨Nat.le_of_ble_eq_true rfl, Nat.le_of_ble_eq_true rfl⟩ ⟨Nat.le_of_ble_eq_true rfl, Nat.le_of_ble_eq_true rfl⟩ (Nat.le_of_ble_eq_true rfl) dL_law_1191 h227 (fun w225 X1191_226 => ?_)
  refine q_icmp_eq C 1402 dL_law_1194 (by decide) (fun _ => ?_) (fun _ => ?_)
  · exact gL_law_L1402 C n xs L hsc k18 hk18 r1 r2 v3 X1191_226
  · refine q_iconst C (0 : Int32) dL_law_1197 rfl ?_
    exact Sm.none
theorem gL_law_L1199 {E : q_E} (C : Cx E code R_law 4 ret room_1 q_X0) (n : Nat) (xs : Nat → Int32) (L : Nat) {b : Nat} (hsc : q_sc E b L xs) (k18 : Nat → Nat → Int32 → Mm → Option (Unit × Mm)) (hk18 : ∀ (r1 : Nat) (r2 : Nat) (v3 : Int32) (X : Mm), Sm E (q_lfin E) 381 76856 18 [(0, .ref b), (1, .ref (q_P E + r1)), (2, .ref (q_P E + r2)), (3, .int v3)] [] X (k18 r1 r2 v3 X)) (r1 : Nat) (r2 : Nat) (v3 : Int32) (X : Mm) : Sm E (q_lfin E) 381 76856 1199 [(0, .ref b), (1, .ref (q_P E + r1)), (2, .ref (q_P E + r2)), (3, .int v3)] [] X (fL_law_L1199 n xs L k18 r1 r2 v3 X) := by
  unfold fL_law_L1199
  refine q_aload_n C 1 dL_law_1199 rfl rfl ?_
  refine q_aload_n C 0 dL_law_1200 rfl rfl ?_
  refine q_iload_n C 3 dL_law_1201 rfl rfl ?_
  refine q_iconst C (1 : Int32) dL_law_1202 rfl ?_
  refine q_iadd C dL_law_1203 ?_
  refine q_chk (fun h228 => ?_)
  refine q_sld C hsc dL_law_1204 h228 ?_
  refine q_aload_n C 0 dL_law_1205 rfl rfl ?_
  refine q_iload_n C 3 dL_law_1206 rfl rfl ?_
  refine q_iconst C (2 : Int32) dL_law_1207 rfl ?_
  refine q_iadd C dL_law_1208 ?_
  refine q_chk (fun h229 => ?_)
  refine q_sld C hsc dL_law_1209 h229 ?_
  refine q_chk (fun h232 => ?_)
  refine q_cVL (As := (fun P => [.int (xs ((v3 + (1 : Int32))).toNatClampNeg), .int (xs ((v3 + (2 : Int32))).toNatClampNeg)])) C [] (sX11_wants n r1 ((xs ((v3 + (1 : Int32))).toNatClampNeg)) ((xs ((v3 + (2 : Int32))).toNatClampNeg))) fcL_124 rfl (fun _ => rfl) ⟨Nat.le_of_ble_eq_true rfl, Nat.le_of_ble_eq_true rfl⟩ ⟨Nat.le_of_ble_eq_true rfl, Nat.le_of_ble_eq_true rfl⟩ (Nat.le_of_ble_eq_true rfl) dL_law_1210 h232 (fun w230 X1210_231 => ?_)
  refine q_aload_n C 2 dL_law_1213 rfl rfl ?_
  refine q_aload_n C 0 dL_law_1214 rfl rfl ?_
  refine q_iload_n C 3 dL_law_1215 rfl rfl ?_
  refine q_iconst C (1 : Int32) dL_law_1216 rfl ?_
  refine q_iadd C dL_law_1217 ?_
  refine q_sld C hsc dL_law_1218 h228 ?_
  refine q_aload_n C 0 dL_law_1219 rfl rfl ?_
  refine q_iload_n C 3 dL_law_1220 rfl rfl ?_
  refine q_iconst C (2 : Int32) dL_law_1221 rfl ?_
  refine q_iadd C dL_law_1222 ?_
  refine q_sld C hsc dL_law_1223 h229 ?_
  refine q_chk (fun h235 => ?_)
  refine q_cVL (As := (fun P => [.int (xs ((v3 + (1 : Int32))).toNatClampNeg), .int (xs ((v3 + (2 : Int32))).toNatClampNeg)])) C [.long w230] (sX12_wants n r2 ((xs ((v3 + (1 : Int32))).toNatClampNeg)) ((xs ((v3 + (2 : Int32))).toNatClampNeg))) fcL_127 rfl (fun _ => rfl) ⟨Nat.le_of_ble_eq_true rfl, Nat.le_of_ble_eq_true rfl⟩ ⟨Nat.le_of_ble_eq_true rfl, Nat.le_of_ble_eq_true rfl⟩ (Nat.le_of_ble_eq_true rfl) dL_law_1224 h235 (fun w233 X1224_234 => ?_)
  refine q_lcmp C dL_law_1227 ?_
  refine q_if_eq C 1402 dL_law_1228 (by decide) (fun _ => ?_) (fun _ => ?_)
  · exact gL_law_L1402 C n xs L hsc k18 hk18 r1 r2 v3 X1224_234
  · refine q_iconst C (0 : Int32) dL_law_1231 rfl ?_
    exact Sm.none
theorem gL_law_L1233 {E : q_E} (C : Cx E code R_law 4 ret room_1 q_X0) (n : Nat) (xs : Nat → Int32) (L : Nat) {b : Nat} (hsc : q_sc E b L xs) (k18 : Nat → Nat → Int32 → Mm → Option (Unit × Mm)) (hk18 : ∀ (r1 : Nat) (r2 : Nat) (v3 : Int32) (X : Mm), Sm E (q_lfin E) 381 76856 18 [(0, .ref b), (1, .ref (q_P E + r1)), (2, .ref (q_P E + r2)), (3, .int v3)] [] X (k18 r1 r2 v3 X)) (r1 : Nat) (r2 : Nat) (v3 : Int32) (X : Mm) : Sm E (q_lfin E) 381 76856 1233 [(0, .ref b), (1, .ref (q_P E + r1)), (2, .ref (q_P E + r2)), (3, .int v3)] [] X (fL_law_L1233 n xs L k18 r1 r2 v3 X) := by
  unfold fL_law_L1233
  refine q_aload_n C 1 dL_law_1233 rfl rfl ?_
  refine q_aload_n C 0 dL_law_1234 rfl rfl ?_
  refine q_iload_n C 3 dL_law_1235 rfl rfl ?_
  refine q_iconst C (1 : Int32) dL_law_1236 rfl ?_
  refine q_iadd C dL_law_1237 ?_
  refine q_chk (fun h236 => ?_)
  refine q_sld C hsc dL_law_1238 h236 ?_
  refine q_aload_n C 0 dL_law_1239 rfl rfl ?_
  refine q_iload_n C 3 dL_law_1240 rfl rfl ?_
  refine q_iconst C (2 : Int32) dL_law_1241 rfl ?_
  refine q_iadd C dL_law_1242 ?_
  refine q_chk (fun h237 => ?_)
  refine q_sld C hsc dL_law_1243 h237 ?_
  refine q_aload_n C 0 dL_law_1244 rfl rfl ?_
  refine q_iload_n C 3 dL_law_1245 rfl rfl ?_
  refine q_iconst C (3 : Int32) dL_law_1246 rfl ?_
  refine q_iadd C dL_law_1247 ?_
  refine q_chk (fun h238 => ?_)
  refine q_sld C hsc dL_law_1248 h238 ?_
  refine q_chk (fun h241 => ?_)
  refine q_cVI (As := (fun P => [.int (xs ((v3 + (1 : Int32))).toNatClampNeg), .int (xs ((v3 + (2 : Int32))).toNatClampNeg), .int (xs ((v3 + (3 : Int32))).toNatClampNeg)])) C [] (sX11_carries n r1 ((xs ((v3 + (1 : Int32))).toNatClampNeg)) ((xs ((v3 + (2 : Int32))).toNatClampNeg)) ((xs ((v3 + (3 : Int32))).toNatClampNeg))) fcL_128 rfl (fun _ => rfl) ⟨Nat.le_of_ble_eq_true rfl, Nat.le_of_ble_eq_true rfl⟩ ⟨Nat.le_of_ble_eq_true rfl, Nat.le_of_ble_eq_true rfl⟩ (Nat.le_of_ble_eq_true rfl) dL_law_1249 h241 (fun w239 X1249_240 => ?_)
  refine q_aload_n C 2 dL_law_1252 rfl rfl ?_
  refine q_aload_n C 0 dL_law_1253 rfl rfl ?_
  refine q_iload_n C 3 dL_law_1254 rfl rfl ?_
  refine q_iconst C (1 : Int32) dL_law_1255 rfl ?_
  refine q_iadd C dL_law_1256 ?_
  refine q_sld C hsc dL_law_1257 h236 ?_
  refine q_aload_n C 0 dL_law_1258 rfl rfl ?_
  refine q_iload_n C 3 dL_law_1259 rfl rfl ?_
  refine q_iconst C (2 : Int32) dL_law_1260 rfl ?_
  refine q_iadd C dL_law_1261 ?_
  refine q_sld C hsc dL_law_1262 h237 ?_
  refine q_aload_n C 0 dL_law_1263 rfl rfl ?_
  refine q_iload_n C 3 dL_law_1264 rfl rfl ?_
  refine q_iconst C (3 : Int32) dL_law_1265 rfl ?_
  refine q_iadd C dL_law_1266 ?_
  refine q_sld C hsc dL_law_1267 h238 ?_
  refine q_chk (fun h244 => ?_)
  refine q_cVI (As := (fun P => [.int (xs ((v3 + (1 : Int32))).toNatClampNeg), .int (xs ((v3 + (2 : Int32))).toNatClampNeg), .int (xs ((v3 + (3 : Int32))).toNatClampNeg)])) C [.int w239] (sX12_carries n r2 ((xs ((v3 + (1 : Int32))).toNatClampNeg)) ((xs ((v3 + (2 : Int32))).toNatClampNeg)) ((xs ((v3 + (3 : Int32))).toNatClampNeg))) fcL_132 rfl (fun _ => rfl) ⟨Nat.le_of_ble_eq_true rfl, Nat.le_of_ble_eq_true rfl⟩ ⟨Nat.le_of_ble_eq_true rfl, Nat.le_of_ble_eq_true rfl⟩ (Nat.le_of_ble_eq_true rfl) dL_law_1268 h244 (fun w242 X1268_243 => ?_)
  refine q_icmp_eq C 1402 dL_law_1271 (by decide) (fun _ => ?_) (fun _ => ?_)
  · exact gL_law_L1402 C n xs L hsc k18 hk18 r1 r2 v3 X1268_243
  · refine q_iconst C (0 : Int32) dL_law_1274 rfl ?_
    exact Sm.none
theorem gL_law_L1276 {E : q_E} (C : Cx E code R_law 4 ret room_1 q_X0) (n : Nat) (xs : Nat → Int32) (L : Nat) {b : Nat} (hsc : q_sc E b L xs) (k18 : Nat → Nat → Int32 → Mm → Option (Unit × Mm)) (hk18 : ∀ (r1 : Nat) (r2 : Nat) (v3 : Int32) (X : Mm), Sm E (q_lfin E) 381 76856 18 [(0, .ref b), (1, .ref (q_P E + r1)), (2, .ref (q_P E + r2)), (3, .int v3)] [] X (k18 r1 r2 v3 X)) (r1 : Nat) (r2 : Nat) (v3 : Int32) (X : Mm) : Sm E (q_lfin E) 381 76856 1276 [(0, .ref b), (1, .ref (q_P E + r1)), (2, .ref (q_P E + r2)), (3, .int v3)] [] X (fL_law_L1276 n xs L k18 r1 r2 v3 X) := by
  unfold fL_law_L1276
  refine q_aload_n C 1 dL_law_1276 rfl rfl ?_
  refine q_aload_n C 0 dL_law_1277 rfl rfl ?_
  refine q_iload_n C 3 dL_law_1278 rfl rfl ?_
  refine q_iconst C (1 : Int32) dL_law_1279 rfl ?_
  refine q_iadd C dL_law_1280 ?_
  refine q_chk (fun h245 => ?_)
  refine q_sld C hsc dL_law_1281 h245 ?_
  refine q_aload_n C 0 dL_law_1282 rfl rfl ?_
  refine q_iload_n C 3 dL_law_1283 rfl rfl ?_
  refine q_iconst C (2 : Int32) dL_law_1284 rfl ?_
  refine q_iadd C dL_law_1285 ?_
  refine q_chk (fun h246 => ?_)
  refine q_sld C hsc dL_law_1286 h246 ?_
  refine q_chk (fun h249 => ?_)
  refine q_cVL (As := (fun P => [.int (xs ((v3 + (1 : Int32))).toNatClampNeg), .int (xs ((v3 + (2 : Int32))).toNatClampNeg)])) C [] (sX11_worst n r1 ((xs ((v3 + (1 : Int32))).toNatClampNeg)) ((xs ((v3 + (2 : Int32))).toNatClampNeg))) fcL_133 rfl (fun _ => rfl) ⟨Nat.le_of_ble_eq_true rfl, Nat.le_of_ble_eq_true rfl⟩ ⟨Nat.le_of_ble_eq_true rfl, Nat.le_of_ble_eq_true rfl⟩ (Nat.le_of_ble_eq_true rfl) dL_law_1287 h249 (fun w247 X1287_248 => ?_)
  refine q_aload_n C 2 dL_law_1290 rfl rfl ?_
  refine q_aload_n C 0 dL_law_1291 rfl rfl ?_
  refine q_iload_n C 3 dL_law_1292 rfl rfl ?_
  refine q_iconst C (1 : Int32) dL_law_1293 rfl ?_
  refine q_iadd C dL_law_1294 ?_
  refine q_sld C hsc dL_law_1295 h245 ?_
  refine q_aload_n C 0 dL_law_1296 rfl rfl ?_
  refine q_iload_n C 3 dL_law_1297 rfl rfl ?_
  refine q_iconst C (2 : Int32) dL_law_1298 rfl ?_
  refine q_iadd C dL_law_1299 ?_
  refine q_sld C hsc dL_law_1300 h246 ?_
  refine q_chk (fun h252 => ?_)
  refine q_cVL (As := (fun P => [.int (xs ((v3 + (1 : Int32))).toNatClampNeg), .int (xs ((v3 + (2 : Int32))).toNatClampNeg)])) C [.long w247] (sX12_worst n r2 ((xs ((v3 + (1 : Int32))).toNatClampNeg)) ((xs ((v3 + (2 : Int32))).toNatClampNeg))) fcL_136 rfl (fun _ => rfl) ⟨Nat.le_of_ble_eq_true rfl, Nat.le_of_ble_eq_true rfl⟩ ⟨Nat.le_of_ble_eq_true rfl, Nat.le_of_ble_eq_true rfl⟩ (Nat.le_of_ble_eq_true rfl) dL_law_1301 h252 (fun w250 X1301_251 => ?_)
  refine q_lcmp C dL_law_1304 ?_
  refine q_if_eq C 1402 dL_law_1305 (by decide) (fun _ => ?_) (fun _ => ?_)
  · exact gL_law_L1402 C n xs L hsc k18 hk18 r1 r2 v3 X1301_251
  · refine q_iconst C (0 : Int32) dL_law_1308 rfl ?_
    exact Sm.none
theorem gL_law_L1310 {E : q_E} (C : Cx E code R_law 4 ret room_1 q_X0) (n : Nat) (xs : Nat → Int32) (L : Nat) {b : Nat} (hsc : q_sc E b L xs) (k18 : Nat → Nat → Int32 → Mm → Option (Unit × Mm)) (hk18 : ∀ (r1 : Nat) (r2 : Nat) (v3 : Int32) (X : Mm), Sm E (q_lfin E) 381 76856 18 [(0, .ref b), (1, .ref (q_P E + r1)), (2, .ref (q_P E + r2)), (3, .int v3)] [] X (k18 r1 r2 v3 X)) (r1 : Nat) (r2 : Nat) (v3 : Int32) (X : Mm) : Sm E (q_lfin E) 381 76856 1310 [(0, .ref b), (1, .ref (q_P E + r1)), (2, .ref (q_P E + r2)), (3, .int v3)] [] X (fL_law_L1310 n xs L k18 r1 r2 v3 X) := by
  unfold fL_law_L1310
  refine q_aload_n C 1 dL_law_1310 rfl rfl ?_
  refine q_aload_n C 0 dL_law_1311 rfl rfl ?_
  refine q_iload_n C 3 dL_law_1312 rfl rfl ?_
  refine q_iconst C (1 : Int32) dL_law_1313 rfl ?_
  refine q_iadd C dL_law_1314 ?_
  refine q_chk (fun h253 => ?_)
  refine q_sld C hsc dL_law_1315 h253 ?_
  refine q_chk (fun h256 => ?_)
  refine q_cVI (As := (fun P => [.int (xs ((v3 + (1 : Int32))).toNatClampNeg)])) C [] (sX11_show n r1 ((xs ((v3 + (1 : Int32))).toNatClampNeg))) fcL_137 rfl (fun _ => rfl) ⟨Nat.le_of_ble_eq_true rfl, Nat.le_of_ble_eq_true rfl⟩ ⟨Nat.le_of_ble_eq_true rfl, Nat.le_of_ble_eq_true rfl⟩ (Nat.le_of_ble_eq_true rfl) dL_law_1316 h256 (fun w254 X1316_255 => ?_)
  refine q_aload_n C 2 dL_law_1319 rfl rfl ?_
  refine q_aload_n C 0 dL_law_1320 rfl rfl ?_
  refine q_iload_n C 3 dL_law_1321 rfl rfl ?_
  refine q_iconst C (1 : Int32) dL_law_1322 rfl ?_
  refine q_iadd C dL_law_1323 ?_
  refine q_sld C hsc dL_law_1324 h253 ?_
  refine q_chk (fun h259 => ?_)
  refine q_cVI (As := (fun P => [.int (xs ((v3 + (1 : Int32))).toNatClampNeg)])) C [.int w254] (sX12_show n r2 ((xs ((v3 + (1 : Int32))).toNatClampNeg))) fcL_140 rfl (fun _ => rfl) ⟨Nat.le_of_ble_eq_true rfl, Nat.le_of_ble_eq_true rfl⟩ ⟨Nat.le_of_ble_eq_true rfl, Nat.le_of_ble_eq_true rfl⟩ (Nat.le_of_ble_eq_true rfl) dL_law_1325 h259 (fun w257 X1325_258 => ?_)
  refine q_icmp_eq C 1402 dL_law_1328 (by decide) (fun _ => ?_) (fun _ => ?_)
  · exact gL_law_L1402 C n xs L hsc k18 hk18 r1 r2 v3 X1325_258
  · refine q_iconst C (0 : Int32) dL_law_1331 rfl ?_
    exact Sm.none
theorem gL_law_L1333 {E : q_E} (C : Cx E code R_law 4 ret room_1 q_X0) (n : Nat) (xs : Nat → Int32) (L : Nat) {b : Nat} (hsc : q_sc E b L xs) (k18 : Nat → Nat → Int32 → Mm → Option (Unit × Mm)) (hk18 : ∀ (r1 : Nat) (r2 : Nat) (v3 : Int32) (X : Mm), Sm E (q_lfin E) 381 76856 18 [(0, .ref b), (1, .ref (q_P E + r1)), (2, .ref (q_P E + r2)), (3, .int v3)] [] X (k18 r1 r2 v3 X)) (r1 : Nat) (r2 : Nat) (v3 : Int32) (X : Mm) : Sm E (q_lfin E) 381 76856 1333 [(0, .ref b), (1, .ref (q_P E + r1)), (2, .ref (q_P E + r2)), (3, .int v3)] [] X (fL_law_L1333 n xs L k18 r1 r2 v3 X) := by
  unfold fL_law_L1333
  refine q_aload_n C 1 dL_law_1333 rfl rfl ?_
  refine q_aload_n C 0 dL_law_1334 rfl rfl ?_
  refine q_iload_n C 3 dL_law_1335 rfl rfl ?_
  refine q_iconst C (1 : Int32) dL_law_1336 rfl ?_
  refine q_iadd C dL_law_1337 ?_
  refine q_chk (fun h260 => ?_)
  refine q_sld C hsc dL_law_1338 h260 ?_
  refine q_chk (fun h263 => ?_)
  refine q_cVI (As := (fun P => [.int (xs ((v3 + (1 : Int32))).toNatClampNeg)])) C [] (sX11_out r1 ((xs ((v3 + (1 : Int32))).toNatClampNeg))) fcL_141 rfl (fun _ => rfl) ⟨Nat.le_of_ble_eq_true rfl, Nat.le_of_ble_eq_true rfl⟩ ⟨Nat.le_of_ble_eq_true rfl, Nat.le_of_ble_eq_true rfl⟩ (Nat.le_of_ble_eq_true rfl) dL_law_1339 h263 (fun w261 X1339_262 => ?_)
  refine q_aload_n C 2 dL_law_1342 rfl rfl ?_
  refine q_aload_n C 0 dL_law_1343 rfl rfl ?_
  refine q_iload_n C 3 dL_law_1344 rfl rfl ?_
  refine q_iconst C (1 : Int32) dL_law_1345 rfl ?_
  refine q_iadd C dL_law_1346 ?_
  refine q_sld C hsc dL_law_1347 h260 ?_
  refine q_chk (fun h266 => ?_)
  refine q_cVI (As := (fun P => [.int (xs ((v3 + (1 : Int32))).toNatClampNeg)])) C [.int w261] (sX12_out r2 ((xs ((v3 + (1 : Int32))).toNatClampNeg))) fcL_144 rfl (fun _ => rfl) ⟨Nat.le_of_ble_eq_true rfl, Nat.le_of_ble_eq_true rfl⟩ ⟨Nat.le_of_ble_eq_true rfl, Nat.le_of_ble_eq_true rfl⟩ (Nat.le_of_ble_eq_true rfl) dL_law_1348 h266 (fun w264 X1348_265 => ?_)
  refine q_icmp_eq C 1402 dL_law_1351 (by decide) (fun _ => ?_) (fun _ => ?_)
  · exact gL_law_L1402 C n xs L hsc k18 hk18 r1 r2 v3 X1348_265
  · refine q_iconst C (0 : Int32) dL_law_1354 rfl ?_
    exact Sm.none
theorem gL_law_L1356 {E : q_E} (C : Cx E code R_law 4 ret room_1 q_X0) (n : Nat) (xs : Nat → Int32) (L : Nat) {b : Nat} (hsc : q_sc E b L xs) (k18 : Nat → Nat → Int32 → Mm → Option (Unit × Mm)) (hk18 : ∀ (r1 : Nat) (r2 : Nat) (v3 : Int32) (X : Mm), Sm E (q_lfin E) 381 76856 18 [(0, .ref b), (1, .ref (q_P E + r1)), (2, .ref (q_P E + r2)), (3, .int v3)] [] X (k18 r1 r2 v3 X)) (r1 : Nat) (r2 : Nat) (v3 : Int32) (X : Mm) : Sm E (q_lfin E) 381 76856 1356 [(0, .ref b), (1, .ref (q_P E + r1)), (2, .ref (q_P E + r2)), (3, .int v3)] [] X (fL_law_L1356 n xs L k18 r1 r2 v3 X) := by
  unfold fL_law_L1356
  refine q_aload_n C 1 dL_law_1356 rfl rfl ?_
  refine q_aload_n C 0 dL_law_1357 rfl rfl ?_
  refine q_iload_n C 3 dL_law_1358 rfl rfl ?_
  refine q_iconst C (1 : Int32) dL_law_1359 rfl ?_
  refine q_iadd C dL_law_1360 ?_
  refine q_chk (fun h267 => ?_)
  refine q_sld C hsc dL_law_1361 h267 ?_
  refine q_chk (fun h270 => ?_)
  refine q_cVI (As := (fun P => [.int (xs ((v3 + (1 : Int32))).toNatClampNeg)])) C [] (sX11_named n r1 ((xs ((v3 + (1 : Int32))).toNatClampNeg))) fcL_145 rfl (fun _ => rfl) ⟨Nat.le_of_ble_eq_true rfl, Nat.le_of_ble_eq_true rfl⟩ ⟨Nat.le_of_ble_eq_true rfl, Nat.le_of_ble_eq_true rfl⟩ (Nat.le_of_ble_eq_true rfl) dL_law_1362 h270 (fun w268 X1362_269 => ?_)
  refine q_aload_n C 2 dL_law_1365 rfl rfl ?_
  refine q_aload_n C 0 dL_law_1366 rfl rfl ?_
  refine q_iload_n C 3 dL_law_1367 rfl rfl ?_
  refine q_iconst C (1 : Int32) dL_law_1368 rfl ?_
  refine q_iadd C dL_law_1369 ?_
  refine q_sld C hsc dL_law_1370 h267 ?_
  refine q_chk (fun h273 => ?_)
  refine q_cVI (As := (fun P => [.int (xs ((v3 + (1 : Int32))).toNatClampNeg)])) C [.int w268] (sX12_named n r2 ((xs ((v3 + (1 : Int32))).toNatClampNeg))) fcL_148 rfl (fun _ => rfl) ⟨Nat.le_of_ble_eq_true rfl, Nat.le_of_ble_eq_true rfl⟩ ⟨Nat.le_of_ble_eq_true rfl, Nat.le_of_ble_eq_true rfl⟩ (Nat.le_of_ble_eq_true rfl) dL_law_1371 h273 (fun w271 X1371_272 => ?_)
  refine q_icmp_eq C 1402 dL_law_1374 (by decide) (fun _ => ?_) (fun _ => ?_)
  · exact gL_law_L1402 C n xs L hsc k18 hk18 r1 r2 v3 X1371_272
  · refine q_iconst C (0 : Int32) dL_law_1377 rfl ?_
    exact Sm.none
theorem gL_law_L1379 {E : q_E} (C : Cx E code R_law 4 ret room_1 q_X0) (n : Nat) (xs : Nat → Int32) (L : Nat) {b : Nat} (hsc : q_sc E b L xs) (k18 : Nat → Nat → Int32 → Mm → Option (Unit × Mm)) (hk18 : ∀ (r1 : Nat) (r2 : Nat) (v3 : Int32) (X : Mm), Sm E (q_lfin E) 381 76856 18 [(0, .ref b), (1, .ref (q_P E + r1)), (2, .ref (q_P E + r2)), (3, .int v3)] [] X (k18 r1 r2 v3 X)) (r1 : Nat) (r2 : Nat) (v3 : Int32) (X : Mm) : Sm E (q_lfin E) 381 76856 1379 [(0, .ref b), (1, .ref (q_P E + r1)), (2, .ref (q_P E + r2)), (3, .int v3)] [] X (fL_law_L1379 n xs L k18 r1 r2 v3 X) := by
  unfold fL_law_L1379
  refine q_aload_n C 1 dL_law_1379 rfl rfl ?_
  refine q_aload_n C 0 dL_law_1380 rfl rfl ?_
  refine q_iload_n C 3 dL_law_1381 rfl rfl ?_
  refine q_iconst C (1 : Int32) dL_law_1382 rfl ?_
  refine q_iadd C dL_law_1383 ?_
  refine q_chk (fun h274 => ?_)
  refine q_sld C hsc dL_law_1384 h274 ?_
  refine q_chk (fun h277 => ?_)
  refine q_cVI (As := (fun P => [.int (xs ((v3 + (1 : Int32))).toNatClampNeg)])) C [] (sX11_look n r1 ((xs ((v3 + (1 : Int32))).toNatClampNeg))) fcL_149 rfl (fun _ => rfl) ⟨Nat.le_of_ble_eq_true rfl, Nat.le_of_ble_eq_true rfl⟩ ⟨Nat.le_of_ble_eq_true rfl, Nat.le_of_ble_eq_true rfl⟩ (Nat.le_of_ble_eq_true rfl) dL_law_1385 h277 (fun w275 X1385_276 => ?_)
  refine q_aload_n C 2 dL_law_1388 rfl rfl ?_
  refine q_aload_n C 0 dL_law_1389 rfl rfl ?_
  refine q_iload_n C 3 dL_law_1390 rfl rfl ?_
  refine q_iconst C (1 : Int32) dL_law_1391 rfl ?_
  refine q_iadd C dL_law_1392 ?_
  refine q_sld C hsc dL_law_1393 h274 ?_
  refine q_chk (fun h280 => ?_)
  refine q_cVI (As := (fun P => [.int (xs ((v3 + (1 : Int32))).toNatClampNeg)])) C [.int w275] (sX12_look n r2 ((xs ((v3 + (1 : Int32))).toNatClampNeg))) fcL_152 rfl (fun _ => rfl) ⟨Nat.le_of_ble_eq_true rfl, Nat.le_of_ble_eq_true rfl⟩ ⟨Nat.le_of_ble_eq_true rfl, Nat.le_of_ble_eq_true rfl⟩ (Nat.le_of_ble_eq_true rfl) dL_law_1394 h280 (fun w278 X1394_279 => ?_)
  refine q_icmp_eq C 1402 dL_law_1397 (by decide) (fun _ => ?_) (fun _ => ?_)
  · exact gL_law_L1402 C n xs L hsc k18 hk18 r1 r2 v3 X1394_279
  · refine q_iconst C (0 : Int32) dL_law_1400 rfl ?_
    exact Sm.none
theorem gL_law_L18 {E : q_E} (C : Cx E code R_law 4 ret room_1 q_X0) (n : Nat) (xs : Nat → Int32) (L : Nat) {b : Nat} (hsc : q_sc E b L xs) : ∀ (j : Nat) (r1 : Nat) (r2 : Nat) (v3 : Int32) (X : Mm), Sm E (q_lfin E) 381 76856 18 [(0, .ref b), (1, .ref (q_P E + r1)), (2, .ref (q_P E + r2)), (3, .int v3)] [] X (fL_law_L18 n xs L j r1 r2 v3 X) := by
  intro j
  induction j with
  | zero => intros; exact Sm.none
  | succ j ih =>
    intro r1 r2 v3 X
    rw [fL_law_L18]
    refine q_iload_n C 3 dL_law_18 rfl rfl ?_
    refine q_aload_n C 0 dL_law_19 rfl rfl ?_
    refine q_slen C hsc dL_law_20 ?_
    refine q_bipush C (8 : Int32) dL_law_21 rfl ?_
    refine q_isub C dL_law_23 ?_
    refine q_icmp_gt C 1408 dL_law_24 (by decide) (fun _ => ?_) (fun _ => ?_)
    · refine q_iconst C (1 : Int32) dL_law_1408 rfl ?_
      exact q_lawret C ⟨Nat.le_of_ble_eq_true rfl, Nat.le_of_ble_eq_true rfl⟩ dL_law_1409
    · refine q_aload_n C 0 dL_law_27 rfl rfl ?_
      refine q_iload_n C 3 dL_law_28 rfl rfl ?_
      refine q_chk (fun h9 => ?_)
      refine q_sld C hsc dL_law_29 h9 ?_
      refine q_bipush C (31 : Int32) dL_law_30 rfl ?_
      refine q_iand C dL_law_32 ?_
      refine q_ite (fun e0 => ?_) (fun e0 => ?_)
      · refine q_tabIn C (v := 0) 176 dL_law_33 (by rw [e0]; rfl) (by decide) (by decide) rfl (by decide) ?_
        exact gL_law_L176 C n xs L hsc (fL_law_L18 n xs L j) ih r1 r2 v3 X
      · refine q_ite (fun e1 => ?_) (fun e1 => ?_)
        · refine q_tabIn C (v := 1) 239 dL_law_33 (by rw [e1]; rfl) (by decide) (by decide) rfl (by decide) ?_
          exact gL_law_L239 C n xs L hsc (fL_law_L18 n xs L j) ih r1 r2 v3 X
        · refine q_ite (fun e2 => ?_) (fun e2 => ?_)
          · refine q_tabIn C (v := 2) 262 dL_law_33 (by rw [e2]; rfl) (by decide) (by decide) rfl (by decide) ?_
            exact gL_law_L262 C n xs L hsc (fL_law_L18 n xs L j) ih r1 r2 v3 X
          · refine q_ite (fun e3 => ?_) (fun e3 => ?_)
            · refine q_tabIn C (v := 3) 275 dL_law_33 (by rw [e3]; rfl) (by decide) (by decide) rfl (by decide) ?_
              exact gL_law_L275 C n xs L hsc (fL_law_L18 n xs L j) ih r1 r2 v3 X
            · refine q_ite (fun e4 => ?_) (fun e4 => ?_)
              · refine q_tabIn C (v := 4) 288 dL_law_33 (by rw [e4]; rfl) (by decide) (by decide) rfl (by decide) ?_
                exact gL_law_L288 C n xs L hsc (fL_law_L18 n xs L j) ih r1 r2 v3 X
              · refine q_ite (fun e5 => ?_) (fun e5 => ?_)
                · refine q_tabIn C (v := 5) 311 dL_law_33 (by rw [e5]; rfl) (by decide) (by decide) rfl (by decide) ?_
                  exact gL_law_L311 C n xs L hsc (fL_law_L18 n xs L j) ih r1 r2 v3 X
                · refine q_ite (fun e6 => ?_) (fun e6 => ?_)
                  · refine q_tabIn C (v := 6) 386 dL_law_33 (by rw [e6]; rfl) (by decide) (by decide) rfl (by decide) ?_
                    exact gL_law_L386 C n xs L hsc (fL_law_L18 n xs L j) ih r1 r2 v3 X
                  · refine q_ite (fun e7 => ?_) (fun e7 => ?_)
                    · refine q_tabIn C (v := 7) 449 dL_law_33 (by rw [e7]; rfl) (by decide) (by decide) rfl (by decide) ?_
                      exact gL_law_L449 C n xs L hsc (fL_law_L18 n xs L j) ih r1 r2 v3 X
                    · refine q_ite (fun e8 => ?_) (fun e8 => ?_)
                      · refine q_tabIn C (v := 8) 524 dL_law_33 (by rw [e8]; rfl) (by decide) (by decide) rfl (by decide) ?_
                        exact gL_law_L524 C n xs L hsc (fL_law_L18 n xs L j) ih r1 r2 v3 X
                      · refine q_ite (fun e9 => ?_) (fun e9 => ?_)
                        · refine q_tabIn C (v := 9) 611 dL_law_33 (by rw [e9]; rfl) (by decide) (by decide) rfl (by decide) ?_
                          exact gL_law_L611 C n xs L hsc (fL_law_L18 n xs L j) ih r1 r2 v3 X
                        · refine q_ite (fun e10 => ?_) (fun e10 => ?_)
                          · refine q_tabIn C (v := 10) 674 dL_law_33 (by rw [e10]; rfl) (by decide) (by decide) rfl (by decide) ?_
                            exact gL_law_L674 C n xs L hsc (fL_law_L18 n xs L j) ih r1 r2 v3 X
                          · refine q_ite (fun e11 => ?_) (fun e11 => ?_)
                            · refine q_tabIn C (v := 11) 727 dL_law_33 (by rw [e11]; rfl) (by decide) (by decide) rfl (by decide) ?_
                              exact gL_law_L727 C n xs L hsc (fL_law_L18 n xs L j) ih r1 r2 v3 X
                            · refine q_ite (fun e12 => ?_) (fun e12 => ?_)
                              · refine q_tabIn C (v := 12) 750 dL_law_33 (by rw [e12]; rfl) (by decide) (by decide) rfl (by decide) ?_
                                exact gL_law_L750 C n xs L hsc (fL_law_L18 n xs L j) ih r1 r2 v3 X
                              · refine q_ite (fun e13 => ?_) (fun e13 => ?_)
                                · refine q_tabIn C (v := 13) 763 dL_law_33 (by rw [e13]; rfl) (by decide) (by decide) rfl (by decide) ?_
                                  exact gL_law_L763 C n xs L hsc (fL_law_L18 n xs L j) ih r1 r2 v3 X
                                · refine q_ite (fun e14 => ?_) (fun e14 => ?_)
                                  · refine q_tabIn C (v := 14) 797 dL_law_33 (by rw [e14]; rfl) (by decide) (by decide) rfl (by decide) ?_
                                    exact gL_law_L797 C n xs L hsc (fL_law_L18 n xs L j) ih r1 r2 v3 X
                                  · refine q_ite (fun e15 => ?_) (fun e15 => ?_)
                                    · refine q_tabIn C (v := 15) 821 dL_law_33 (by rw [e15]; rfl) (by decide) (by decide) rfl (by decide) ?_
                                      exact gL_law_L821 C n xs L hsc (fL_law_L18 n xs L j) ih r1 r2 v3 X
                                    · refine q_ite (fun e16 => ?_) (fun e16 => ?_)
                                      · refine q_tabIn C (v := 16) 855 dL_law_33 (by rw [e16]; rfl) (by decide) (by decide) rfl (by decide) ?_
                                        exact gL_law_L855 C n xs L hsc (fL_law_L18 n xs L j) ih r1 r2 v3 X
                                      · refine q_ite (fun e17 => ?_) (fun e17 => ?_)
                                        · refine q_tabIn C (v := 17) 888 dL_law_33 (by rw [e17]; rfl) (by decide) (by decide) rfl (by decide) ?_
                                          exact gL_law_L888 C n xs L hsc (fL_law_L18 n xs L j) ih r1 r2 v3 X
                                        · refine q_ite (fun e18 => ?_) (fun e18 => ?_)
                                          · refine q_tabIn C (v := 18) 932 dL_law_33 (by rw [e18]; rfl) (by decide) (by decide) rfl (by decide) ?_
                                            exact gL_law_L932 C n xs L hsc (fL_law_L18 n xs L j) ih r1 r2 v3 X
                                          · refine q_ite (fun e19 => ?_) (fun e19 => ?_)
                                            · refine q_tabIn C (v := 19) 976 dL_law_33 (by rw [e19]; rfl) (by decide) (by decide) rfl (by decide) ?_
                                              exact gL_law_L976 C n xs L hsc (fL_law_L18 n xs L j) ih r1 r2 v3 X
                                            · refine q_ite (fun e20 => ?_) (fun e20 => ?_)
                                              · refine q_tabIn C (v := 20) 1010 dL_law_33 (by rw [e20]; rfl) (by decide) (by decide) rfl (by decide) ?_
                                                exact gL_law_L1010 C n xs L hsc (fL_law_L18 n xs L j) ih r1 r2 v3 X
                                              · refine q_ite (fun e21 => ?_) (fun e21 => ?_)
                                                · refine q_tabIn C (v := 21) 1054 dL_law_33 (by rw [e21]; rfl) (by decide) (by decide) rfl (by decide) ?_
                                                  exact gL_law_L1054 C n xs L hsc (fL_law_L18 n xs L j) ih r1 r2 v3 X
                                                · refine q_ite (fun e22 => ?_) (fun e22 => ?_)
                                                  · refine q_tabIn C (v := 22) 1098 dL_law_33 (by rw [e22]; rfl) (by decide) (by decide) rfl (by decide) ?_
                                                    exact gL_law_L1098 C n xs L hsc (fL_law_L18 n xs L j) ih r1 r2 v3 X
                                                  · refine q_ite (fun e23 => ?_) (fun e23 => ?_)
                                                    · refine q_tabIn C (v := 23) 1142 dL_law_33 (by rw [e23]; rfl) (by decide) (by decide) rfl (by decide) ?_
                                                      exact gL_law_L1142 C n xs L hsc (fL_law_L18 n xs L j) ih r1 r2 v3 X
                                                    · refine q_ite (fun e24 => ?_) (fun e24 => ?_)
                                                      · refine q_tabIn C (v := 24) 1176 dL_law_33 (by rw [e24]; rfl) (by decide) (by decide) rfl (by decide) ?_
                                                        exact gL_law_L1176 C n xs L hsc (fL_law_L18 n xs L j) ih r1 r2 v3 X
                                                      · refine q_ite (fun e25 => ?_) (fun e25 => ?_)
                                                        · refine q_tabIn C (v := 25) 1199 dL_law_33 (by rw [e25]; rfl) (by decide) (by decide) rfl (by decide) ?_
                                                          exact gL_law_L1199 C n xs L hsc (fL_law_L18 n xs L j) ih r1 r2 v3 X
                                                        · refine q_ite (fun e26 => ?_) (fun e26 => ?_)
                                                          · refine q_tabIn C (v := 26) 1233 dL_law_33 (by rw [e26]; rfl) (by decide) (by decide) rfl (by decide) ?_
                                                            exact gL_law_L1233 C n xs L hsc (fL_law_L18 n xs L j) ih r1 r2 v3 X
                                                          · refine q_ite (fun e27 => ?_) (fun e27 => ?_)
                                                            · refine q_tabIn C (v := 27) 1276 dL_law_33 (by rw [e27]; rfl) (by decide) (by decide) rfl (by decide) ?_
                                                              exact gL_law_L1276 C n xs L hsc (fL_law_L18 n xs L j) ih r1 r2 v3 X
                                                            · refine q_ite (fun e28 => ?_) (fun e28 => ?_)
                                                              · refine q_tabIn C (v := 28) 1310 dL_law_33 (by rw [e28]; rfl) (by decide) (by decide) rfl (by decide) ?_
                                                                exact gL_law_L1310 C n xs L hsc (fL_law_L18 n xs L j) ih r1 r2 v3 X
                                                              · refine q_ite (fun e29 => ?_) (fun e29 => ?_)
                                                                · refine q_tabIn C (v := 29) 1333 dL_law_33 (by rw [e29]; rfl) (by decide) (by decide) rfl (by decide) ?_
                                                                  exact gL_law_L1333 C n xs L hsc (fL_law_L18 n xs L j) ih r1 r2 v3 X
                                                                · refine q_ite (fun e30 => ?_) (fun e30 => ?_)
                                                                  · refine q_tabIn C (v := 30) 1356 dL_law_33 (by rw [e30]; rfl) (by decide) (by decide) rfl (by decide) ?_
                                                                    exact gL_law_L1356 C n xs L hsc (fL_law_L18 n xs L j) ih r1 r2 v3 X
                                                                  · refine q_ite (fun e31 => ?_) (fun e31 => ?_)
                                                                    · refine q_tabIn C (v := 31) 1379 dL_law_33 (by rw [e31]; rfl) (by decide) (by decide) rfl (by decide) ?_
                                                                      exact gL_law_L1379 C n xs L hsc (fL_law_L18 n xs L j) ih r1 r2 v3 X
                                                                    · have n0 := q_ne e0 (i := 0) rfl
                                                                      have n1 := q_ne e1 (i := 1) rfl
                                                                      have n2 := q_ne e2 (i := 2) rfl
                                                                      have n3 := q_ne e3 (i := 3) rfl
                                                                      have n4 := q_ne e4 (i := 4) rfl
                                                                      have n5 := q_ne e5 (i := 5) rfl
                                                                      have n6 := q_ne e6 (i := 6) rfl
                                                                      have n7 := q_ne e7 (i := 7) rfl
                                                                      have n8 := q_ne e8 (i := 8) rfl
                                                                      have n9 := q_ne e9 (i := 9) rfl
                                                                      have n10 := q_ne e10 (i := 10) rfl
                                                                      have n11 := q_ne e11 (i := 11) rfl
                                                                      have n12 := q_ne e12 (i := 12) rfl
                                                                      have n13 := q_ne e13 (i := 13) rfl
                                                                      have n14 := q_ne e14 (i := 14) rfl
                                                                      have n15 := q_ne e15 (i := 15) rfl
                                                                      have n16 := q_ne e16 (i := 16) rfl
                                                                      have n17 := q_ne e17 (i := 17) rfl
                                                                      have n18 := q_ne e18 (i := 18) rfl
                                                                      have n19 := q_ne e19 (i := 19) rfl
                                                                      have n20 := q_ne e20 (i := 20) rfl
                                                                      have n21 := q_ne e21 (i := 21) rfl
                                                                      have n22 := q_ne e22 (i := 22) rfl
                                                                      have n23 := q_ne e23 (i := 23) rfl
                                                                      have n24 := q_ne e24 (i := 24) rfl
                                                                      have n25 := q_ne e25 (i := 25) rfl
                                                                      have n26 := q_ne e26 (i := 26) rfl
                                                                      have n27 := q_ne e27 (i := 27) rfl
                                                                      have n28 := q_ne e28 (i := 28) rfl
                                                                      have n29 := q_ne e29 (i := 29) rfl
                                                                      have n30 := q_ne e30 (i := 30) rfl
                                                                      have n31 := q_ne e31 (i := 31) rfl
                                                                      refine q_tabOut C 1402 dL_law_33 (by omega) (by decide) ?_
                                                                      exact gL_law_L1402 C n xs L hsc (fL_law_L18 n xs L j) ih r1 r2 v3 X
theorem sL_law {E : q_E} (C : Cx E code R_law 4 ret room_1 q_X0) (n : Nat) (xs : Nat → Int32) (L : Nat) {b : Nat} (hsc : q_sc E b L xs) (X : Mm) : Sm E (q_lfin E) 0 0 0 [(0, .ref b)] [] X (fL_law n xs L X) := by
  unfold fL_law
  refine q_new C fnL_7 ⟨Nat.le_of_ble_eq_true rfl, Nat.le_of_ble_eq_true rfl⟩ dL_law_0 ?_
  refine q_nmr (fun rN2 => ?_)
  refine q_nmX (fun X0_1 => ?_)
  refine q_dup C dL_law_3 rfl ?_
  refine q_callI (As := (fun P => [])) (st := [.ref (q_P E + rN2)]) C (sX11_init rN2) fcL_9 rfl (fun _ => rfl) ⟨Nat.le_of_ble_eq_true rfl, Nat.le_of_ble_eq_true rfl⟩ ⟨Nat.le_of_ble_eq_true rfl, Nat.le_of_ble_eq_true rfl⟩ (Nat.le_of_ble_eq_true rfl) dL_law_4 (fun X4_4 => ?_)
  show Sm E (q_lfin E) 365 32542 7 [(0, .ref b)] [.ref (q_P E + rN2)] X4_4 _
  refine q_astore_n C [(1, .ref (q_P E + rN2)), (0, .ref b)] dL_law_7 rfl (Nat.le_of_ble_eq_true rfl) rfl ?_
  refine q_new C fnL_10 ⟨Nat.le_of_ble_eq_true rfl, Nat.le_of_ble_eq_true rfl⟩ dL_law_8 ?_
  refine q_nmr (fun rN6 => ?_)
  refine q_nmX (fun X8_5 => ?_)
  refine q_dup C dL_law_11 rfl ?_
  refine q_callI (As := (fun P => [])) (st := [.ref (q_P E + rN6)]) C (sX12_init rN6) fcL_12 rfl (fun _ => rfl) ⟨Nat.le_of_ble_eq_true rfl, Nat.le_of_ble_eq_true rfl⟩ ⟨Nat.le_of_ble_eq_true rfl, Nat.le_of_ble_eq_true rfl⟩ (Nat.le_of_ble_eq_true rfl) dL_law_12 (fun X12_8 => ?_)
  show Sm E (q_lfin E) 381 76856 15 [(1, .ref (q_P E + rN2)), (0, .ref b)] [.ref (q_P E + rN6)] X12_8 _
  refine q_astore_n C [(2, .ref (q_P E + rN6)), (1, .ref (q_P E + rN2)), (0, .ref b)] dL_law_15 rfl (Nat.le_of_ble_eq_true rfl) rfl ?_
  refine q_iconst C (0 : Int32) dL_law_16 rfl ?_
  refine q_istore_n C [(3, .int (0 : Int32)), (2, .ref (q_P E + rN6)), (1, .ref (q_P E + rN2)), (0, .ref b)] dL_law_17 rfl (Nat.le_of_ble_eq_true rfl) rfl ?_
  refine q_sub C [(0, .ref b), (1, .ref (q_P E + rN2)), (2, .ref (q_P E + rN6)), (3, .int (0 : Int32))] [3, 2, 1, 0] rfl ?_
  exact gL_law_L18 C n xs L hsc n rN2 rN6 (0 : Int32) X12_8
