/-! the keywords' String -/
def q_isK (E : q_E) (a : Nat) : Prop := match E with
  | (_, _, _, _, s, _, _, _, _, _, _, P, _, _, _, _) => ∃ aK aV : Nat → Nat, a = aK 0 ∧ vk_S 1 [q_kb.length] [q_kb] aK aV (fun q => P < q) s s.heap ∧ vk_R "RecordClaims$Tape" 68 q_kw (aK 0) s
def q_kw_at (i : Int32) : Int32 := q_kb.getD i.toNatClampNeg 0
section
variable {E : q_E} {cc : ByteArray} {mL' : Nat} {ret : Option FieldType} {R0 : Room} {X0 : Mm} {α : Type} {Qf : α → Mm → State → Prop} {k n pc : Nat} {lv : List (Nat × Value)} {X : Mm} {t : Option (α × Mm)}
theorem q_ldcS (C : Cx E cc RX9 mL' ret R0 X0) {st : List Value} (hd : decode cc pc = .ok (.ldc 68, 2)) (g : ∀ a : Nat, q_isK E a → Sm E Qf k n (pc + 2) lv (.ref a :: st) X t) : Sm E Qf k n pc lv st X t := by
  obtain ⟨p, l, e, R, s, m, args, below, meth, c, nL, P, D, cs, n0, s0⟩ := E
  obtain ⟨⟨hx, hb, hml, hown, hts⟩, hlk, hK, hz0, hXs, hnl, hrt, hR, h0, h1⟩ := C
  obtain ⟨⟨aK, aV, hS1, hR1⟩, -⟩ := hXs
  intro r1 hr hn hs H locs ls hW hS hl
  exact va_ldcS hx hb (own := "RecordClaims$Tape") hown hR1 hd (g (aK 0) ⟨aK, aV, rfl, hS1, hR1⟩ r1 hr hn hs H locs ls hW hS hl)
theorem q_strlen (C : Cx E cc RX9 mL' ret R0 X0) {a : Nat} (h : q_isK E a) (st : List Value) (hR : 6 ≤ R0.frames ∧ 120 ≤ R0.locals) (hd : decode cc pc = .ok (.invokevirtual 70, 3)) (g : Sm E Qf k n (pc + 3) lv (.int 113 :: st) X t) : Sm E Qf k n pc lv (.ref a :: st) X t := by
  sorry
theorem q_strchar (C : Cx E cc RX9 mL' ret R0 X0) {a : Nat} {i : Int32} (h : q_isK E a) (st : List Value) (hR : 6 ≤ R0.frames ∧ 120 ≤ R0.locals) (hd : decode cc pc = .ok (.invokevirtual 75, 3)) (h1 : 0 ≤ i.toInt ∧ i.toInt < 113) (g : Sm E Qf k n (pc + 3) lv (.int (q_kw_at i) :: st) X t) : Sm E Qf k n pc lv (.int i :: .ref a :: st) X t := by
  sorry
theorem q_plains : plainName "java/lang/String" = true ∧ plainName "java/lang/StringLatin1" = true ∧ plainName "jdk/internal/util/Preconditions" = true := by decide +kernel
end
