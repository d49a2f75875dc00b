/-! THE RELATION: a place of the reference's row holds what a State's cell holds -/
/-- cells of longs -/
def jT (a : Nat) : Bool := a == 1 || a == 2 || a == 7 || a == 8 || a == 28 || a == 29 || (31 ≤ a && a ≤ 36) || a == 40
def cw (w : Wt) (a k : Nat) : Int64 := if jT a then w.2 a k else (w.1 a k).toInt64
/-- the cell of an EVENT's number -/
def oE : Nat → Nat
| 0 => 14 | 1 => 15 | 2 => 22 | 3 => 23 | 4 => 24 | 5 => 25 | 6 => 26 | 7 => 16 | 8 => 17 | 9 => 18 | 10 => 19 | 11 => 20 | 12 => 21 | 13 => 28 | _ => 29
theorem oE_b (k : Nat) : 14 ≤ oE k ∧ oE k ≤ 29 ∧ oE k ≠ 27 := by
  unfold oE
  split <;> omega
theorem oE_i' : ∀ k, k < 15 → ∀ j, j < 15 → oE k = oE j → k = j := by decide
theorem oE_i {k j : Nat} (hk : k < 15) (hj : j < 15) (h : oE k = oE j) : k = j := oE_i' k hk j hj h
def Pl (T G : Nat) (C : Nat → Nat) (K : Nat → Int32) (p a k : Nat) : Prop :=
    (a = 1 ∧ k = p ∧ p < 50) ∨ (a = 2 ∧ p = 50 + k ∧ k < 10) ∨ (p = 60 ∧ a = 3 ∧ k = 9) ∨ (p = 61 ∧ a = 13 ∧ k = 16) ∨ (p = 62 ∧ a = 0 ∧ k = 8) ∨
    (∃ j, p = 64 + 9 * k + j ∧ j < 9 ∧ a = 4 + j ∧ k < T) ∨ (∃ j, p = 604 + 500 * k + j ∧ j < 15 ∧ a = oE j ∧ k < G ∧ (j = 7 → K k = 3) ∧ (j = 12 → K k = 2)) ∨
    (∃ e i j, p = 604 + 500 * e + (20 + 6 * i + j) ∧ j < 6 ∧ i < 10 ∧ a = 31 + j ∧ k = 10 * e + i ∧ e < G) ∨
    (∃ e i j, p = 604 + 500 * e + (80 + 7 * i + j) ∧ j < 5 ∧ i < 60 ∧ a = 38 + j ∧ k = 60 * e + i ∧ e < G ∧ i < C e)
section
variable {T G : Nat} {C : Nat → Nat} {K : Nat → Int32}
theorem Pl.sh (i : Nat) (h : i < 50) : Pl T G C K i 1 i := Or.inl ⟨rfl, rfl, h⟩
theorem Pl.pu (i : Nat) (h : i < 10) : Pl T G C K (50 + i) 2 i := Or.inr (Or.inl ⟨rfl, rfl, h⟩)
theorem Pl.m0 : Pl T G C K 60 3 9 := Or.inr (Or.inr (Or.inl ⟨rfl, rfl, rfl⟩))
theorem Pl.m1 : Pl T G C K 61 13 16 := Or.inr (Or.inr (Or.inr (Or.inl ⟨rfl, rfl, rfl⟩)))
theorem Pl.m2 : Pl T G C K 62 0 8 := Or.inr (Or.inr (Or.inr (Or.inr (Or.inl ⟨rfl, rfl, rfl⟩))))
theorem Pl.tr (t k : Nat) (h1 : t < T) (h2 : k < 9) : Pl T G C K (aT t k) (4 + k) t := Or.inr (Or.inr (Or.inr (Or.inr (Or.inr (Or.inl ⟨k, rfl, h2, rfl, h1⟩)))))
theorem Pl.ev (e k : Nat) (h1 : e < G) (h2 : k < 15) (h3 : k = 7 → K e = 3) (h4 : k = 12 → K e = 2) : Pl T G C K (aE e k) (oE k) e := Or.inr (Or.inr (Or.inr (Or.inr (Or.inr (Or.inr (Or.inl ⟨k, rfl, h2, rfl, h1, h3, h4⟩))))))
theorem Pl.ho (e h k : Nat) (h1 : e < G) (h2 : h < 10) (h3 : k < 6) : Pl T G C K (aH e h k) (31 + k) (10 * e + h) := Or.inr (Or.inr (Or.inr (Or.inr (Or.inr (Or.inr (Or.inr (Or.inl ⟨e, h, k, rfl, h3, h2, rfl, rfl, h1⟩)))))))
theorem Pl.cl (e i k : Nat) (h1 : e < G) (h2 : i < C e) (h3 : i < 60) (h4 : k < 5) : Pl T G C K (aC e i k) (38 + k) (60 * e + i) := Or.inr (Or.inr (Or.inr (Or.inr (Or.inr (Or.inr (Or.inr (Or.inr ⟨e, i, k, rfl, h4, h3, rfl, rfl, h1, h2⟩)))))))
end
/-- the cell of a place, the place of a cell -/
def pdec (p : Nat) : Nat × Nat := if p < 50 then (1, p) else if p < 60 then (2, p - 50) else if p = 60 then (3, 9) else if p = 61 then (13, 16) else if p = 62 then (0, 8) else if p < 604 then (4 + (p - 64) % 9, (p - 64) / 9) else
  if (p - 604) % 500 < 15 then (oE ((p - 604) % 500), (p - 604) / 500) else if (p - 604) % 500 < 80 then (31 + ((p - 604) % 500 - 20) % 6, 10 * ((p - 604) / 500) + ((p - 604) % 500 - 20) / 6) else (38 + ((p - 604) % 500 - 80) % 7, 60 * ((p - 604) / 500) + ((p - 604) % 500 - 80) / 7)
def oD : Nat → Nat
| 14 => 0 | 15 => 1 | 22 => 2 | 23 => 3 | 24 => 4 | 25 => 5 | 26 => 6 | 16 => 7 | 17 => 8 | 18 => 9 | 19 => 10 | 20 => 11 | 21 => 12 | 28 => 13 | _ => 14
theorem oD_oE : ∀ k, k < 15 → oD (oE k) = k := by decide
def penc (a k : Nat) : Nat := if a = 1 then k else if a = 2 then 50 + k else if a = 3 then 60 else if a = 13 then 61 else if a = 0 then 62 else if a < 13 then 64 + 9 * k + (a - 4) else if a < 30 then 604 + 500 * k + oD a else
  if a < 37 then 604 + 500 * (k / 10) + (20 + 6 * (k % 10) + (a - 31)) else 604 + 500 * (k / 60) + (80 + 7 * (k % 60) + (a - 38))
theorem oD_b (a : Nat) : oD a < 15 := by
  unfold oD
  split <;> omega
theorem Pl.code {T G : Nat} {C : Nat → Nat} {K : Nat → Int32} (hT : T ≤ 60) (hG : G ≤ 8) {p a k : Nat} (h : Pl T G C K p a k) : pdec p = (a, k) ∧ penc a k = p := by
  unfold Pl at h
  rcases h with ⟨h1, h2, h3⟩ | ⟨h1, h2, h3⟩ | ⟨h1, h2, h3⟩ | ⟨h1, h2, h3⟩ | ⟨h1, h2, h3⟩ | ⟨j, h1, h2, h3, h4⟩ | ⟨j, h1, h2, h3, h4, -⟩ | ⟨e, i, j, h1, h2, h3, h4, h5, h6⟩ | ⟨e, i, j, h1, h2, h3, h4, h5, h6, -⟩
  · subst h1 h2
    exact ⟨if_pos h3, rfl⟩
  · subst h1 h2
    refine ⟨?_, rfl⟩
    rw [pdec, if_neg (by omega), if_pos (by omega), show 50 + k - 50 = k by omega]
  · subst h1 h2 h3
    exact ⟨rfl, rfl⟩
  · subst h1 h2 h3
    exact ⟨rfl, rfl⟩
  · subst h1 h2 h3
    exact ⟨rfl, rfl⟩
  · subst h1 h3
    constructor
    · rw [pdec, if_neg (by omega), if_neg (by omega), if_neg (by omega), if_neg (by omega), if_neg (by omega), if_pos (by omega), show (64 + 9 * k + j - 64) % 9 = j by omega, show (64 + 9 * k + j - 64) / 9 = k by omega]
    · rw [penc, if_neg (by omega), if_neg (by omega), if_neg (by omega), if_neg (by omega), if_neg (by omega), if_pos (by omega), show 4 + j - 4 = j by omega]
  · subst h1 h3
    have b := oE_b j
    constructor
    · rw [pdec, if_neg (by omega), if_neg (by omega), if_neg (by omega), if_neg (by omega), if_neg (by omega), if_neg (by omega), show (604 + 500 * k + j - 604) % 500 = j by omega, show (604 + 500 * k + j - 604) / 500 = k by omega, if_pos h2]
    · rw [penc, if_neg (by omega), if_neg (by omega), if_neg (by omega), if_neg (by omega), if_neg (by omega), if_neg (by omega), if_pos (by omega), oD_oE j h2]
  · subst h1 h4 h5
    constructor
    · rw [pdec, if_neg (by omega), if_neg (by omega), if_neg (by omega), if_neg (by omega), if_neg (by omega), if_neg (by omega), show (604 + 500 * e + (20 + 6 * i + j) - 604) % 500 = 20 + 6 * i + j by omega, show (604 + 500 * e + (20 + 6 * i + j) - 604) / 500 = e by omega, if_neg (by omega), if_pos (by omega), show (20 + 6 * i + j - 20) % 6 = j by omega, show (20 + 6 * i + j - 20) / 6 = i by omega]
    · rw [penc, if_neg (by omega), if_neg (by omega), if_neg (by omega), if_neg (by omega), if_neg (by omega), if_neg (by omega), if_neg (by omega), if_pos (by omega), show (10 * e + i) / 10 = e by omega, show (10 * e + i) % 10 = i by omega, show 31 + j - 31 = j by omega]
  · subst h1 h4 h5
    constructor
    · rw [pdec, if_neg (by omega), if_neg (by omega), if_neg (by omega), if_neg (by omega), if_neg (by omega), if_neg (by omega), show (604 + 500 * e + (80 + 7 * i + j) - 604) % 500 = 80 + 7 * i + j by omega, show (604 + 500 * e + (80 + 7 * i + j) - 604) / 500 = e by omega, if_neg (by omega), if_neg (by omega), show (80 + 7 * i + j - 80) % 7 = j by omega, show (80 + 7 * i + j - 80) / 7 = i by omega]
    · rw [penc, if_neg (by omega), if_neg (by omega), if_neg (by omega), if_neg (by omega), if_neg (by omega), if_neg (by omega), if_neg (by omega), if_neg (by omega), show (60 * e + i) / 60 = e by omega, show (60 * e + i) % 60 = i by omega, show 38 + j - 38 = j by omega]
theorem Pl.inj {T G : Nat} {C C' : Nat → Nat} {K K' : Nat → Int32} (hT : T ≤ 60) (hG : G ≤ 8) {p a k p' a' k' : Nat} (h : Pl T G C K p a k) (h' : Pl T G C' K' p' a' k') : p = p' ↔ a = a' ∧ k = k' := by
  have h := h.code hT hG
  have h' := h'.code hT hG
  constructor
  · intro e
    subst e
    have e := h.1.symm.trans h'.1
    exact ⟨congrArg Prod.fst e, congrArg Prod.snd e⟩
  · rintro ⟨rfl, rfl⟩
    exact h.2.symm.trans h'.2
/-- the row of the reference holds what the State's cells hold -/
def Cn (w : Wt) (e : Nat) : Nat := (w.1 26 e).toNatClampNeg
def Rl (T G : Nat) (f : Nat → Int64) (w : Wt) : Prop := T ≤ 60 ∧ G ≤ 8 ∧ ∀ p a k, Pl T G (Cn w) (w.1 14) p a k → f p = cw w a k
section
variable {T G : Nat} {f : Nat → Int64} {w : Wt}
theorem cw_uI {a k : Nat} {v : Int32} (ha : jT a = false) : cw (uI w a k v) a k = v.toInt64 := by
  unfold cw
  rw [if_neg (by rw [ha]; decide), uI_1, if_pos ⟨rfl, rfl⟩]
theorem cw_uIo {a k b j : Nat} {v : Int32} (h : ¬ (b = a ∧ j = k)) : cw (uI w a k v) b j = cw w b j := by
  unfold cw
  rw [uI_1, if_neg h, uI_2]
theorem cw_uJ {a k : Nat} {v : Int64} (ha : jT a = true) : cw (uJ w a k v) a k = v := by
  unfold cw
  rw [if_pos ha, uJ_2, if_pos ⟨rfl, rfl⟩]
theorem cw_uJo {a k b j : Nat} {v : Int64} (h : ¬ (b = a ∧ j = k)) : cw (uJ w a k v) b j = cw w b j := by
  unfold cw
  rw [uJ_2, if_neg h, uJ_1]
theorem Rl.wI (R : Rl T G f w) {p a k : Nat} (h : Pl T G (Cn w) (w.1 14) p a k) (ha : jT a = false) (h14 : a ≠ 14 ∧ a ≠ 26) {v : Int32} {u : Int64} (hu : u = v.toInt64) : Rl T G (q_u1 f p u) (uI w a k v) := by
  refine ⟨R.1, R.2.1, fun q b j hq => ?_⟩
  have e : (uI w a k v).1 14 = w.1 14 := funext fun i => by rw [uI_1, if_neg (fun x => h14.1 x.1.symm)]
  have e2 : Cn (uI w a k v) = Cn w := funext fun i => by unfold Cn; rw [uI_1, if_neg (fun x => h14.2 x.1.symm)]
  rw [e, e2] at hq
  by_cases hp : q = p
  · obtain ⟨rfl, rfl⟩ := (Pl.inj R.1 R.2.1 hq h).mp hp
    rw [hp, q_u1_s, cw_uI ha, hu]
  · rw [q_u1_n _ _ hp, cw_uIo (fun x => hp ((Pl.inj R.1 R.2.1 hq h).mpr x))]
    exact R.2.2 _ _ _ hq
theorem Rl.wJ (R : Rl T G f w) {p a k : Nat} (h : Pl T G (Cn w) (w.1 14) p a k) (ha : jT a = true) {v u : Int64} (hu : u = v) : Rl T G (q_u1 f p u) (uJ w a k v) := by
  refine ⟨R.1, R.2.1, fun q b j hq => ?_⟩
  by_cases hp : q = p
  · obtain ⟨rfl, rfl⟩ := (Pl.inj R.1 R.2.1 hq h).mp hp
    rw [hp, q_u1_s, cw_uJ ha, hu]
  · rw [q_u1_n _ _ hp, cw_uJo (fun x => hp ((Pl.inj R.1 R.2.1 hq h).mpr x))]
    exact R.2.2 _ _ _ hq
/-- a cell that no place holds -/
theorem Rl.oI (R : Rl T G f w) {a k : Nat} {v : Int32} (h : ∀ p, ¬ Pl T G (Cn w) (w.1 14) p a k) (h14 : a ≠ 14 ∧ a ≠ 26) : Rl T G f (uI w a k v) := by
  refine ⟨R.1, R.2.1, fun q b j hq => ?_⟩
  have e : (uI w a k v).1 14 = w.1 14 := funext fun i => by rw [uI_1, if_neg (fun x => h14.1 x.1.symm)]
  have e2 : Cn (uI w a k v) = Cn w := funext fun i => by unfold Cn; rw [uI_1, if_neg (fun x => h14.2 x.1.symm)]
  rw [e, e2] at hq
  rw [cw_uIo]
  · exact R.2.2 _ _ _ hq
  · rintro ⟨rfl, rfl⟩
    exact h _ hq
theorem Rl.oJ (R : Rl T G f w) {a k : Nat} {v : Int64} (h : ∀ p, ¬ Pl T G (Cn w) (w.1 14) p a k) : Rl T G f (uJ w a k v) := by
  refine ⟨R.1, R.2.1, fun q b j hq => ?_⟩
  rw [cw_uJo]
  · exact R.2.2 _ _ _ hq
  · rintro ⟨rfl, rfl⟩
    exact h _ hq
/-- a place that holds no cell -/
theorem Rl.oF (R : Rl T G f w) {p : Nat} {v : Int64} (h : ∀ a k, ¬ Pl T G (Cn w) (w.1 14) p a k) : Rl T G (q_u1 f p v) w := by
  refine ⟨R.1, R.2.1, fun q b j hq => ?_⟩
  rw [q_u1_n]
  · exact R.2.2 _ _ _ hq
  · rintro rfl
    exact h _ _ hq
theorem Rl.sh (R : Rl T G f w) {i : Nat} (h : i < 50) : f i = w.2 1 i := R.2.2 _ _ _ (Pl.sh i h)
theorem Rl.pu (R : Rl T G f w) {i : Nat} (h : i < 10) : f (50 + i) = w.2 2 i := R.2.2 _ _ _ (Pl.pu i h)
theorem Rl.m0 (R : Rl T G f w) : f 60 = (w.1 3 9).toInt64 := R.2.2 _ _ _ Pl.m0
theorem Rl.m1 (R : Rl T G f w) : f 61 = (w.1 13 16).toInt64 := R.2.2 _ _ _ Pl.m1
theorem Rl.m2 (R : Rl T G f w) : f 62 = (w.1 0 8).toInt64 := R.2.2 _ _ _ Pl.m2
theorem Rl.t0 (R : Rl T G f w) {t : Nat} (h : t < T) : f (aT t 0) = (w.1 4 t).toInt64 := R.2.2 _ _ _ (Pl.tr t 0 h (by decide))
theorem Rl.t1 (R : Rl T G f w) {t : Nat} (h : t < T) : f (aT t 1) = (w.1 5 t).toInt64 := R.2.2 _ _ _ (Pl.tr t 1 h (by decide))
theorem Rl.t2 (R : Rl T G f w) {t : Nat} (h : t < T) : f (aT t 2) = (w.1 6 t).toInt64 := R.2.2 _ _ _ (Pl.tr t 2 h (by decide))
theorem Rl.t3 (R : Rl T G f w) {t : Nat} (h : t < T) : f (aT t 3) = w.2 7 t := R.2.2 _ _ _ (Pl.tr t 3 h (by decide))
theorem Rl.t4 (R : Rl T G f w) {t : Nat} (h : t < T) : f (aT t 4) = w.2 8 t := R.2.2 _ _ _ (Pl.tr t 4 h (by decide))
theorem Rl.t5 (R : Rl T G f w) {t : Nat} (h : t < T) : f (aT t 5) = (w.1 9 t).toInt64 := R.2.2 _ _ _ (Pl.tr t 5 h (by decide))
theorem Rl.t6 (R : Rl T G f w) {t : Nat} (h : t < T) : f (aT t 6) = (w.1 10 t).toInt64 := R.2.2 _ _ _ (Pl.tr t 6 h (by decide))
theorem Rl.t7 (R : Rl T G f w) {t : Nat} (h : t < T) : f (aT t 7) = (w.1 11 t).toInt64 := R.2.2 _ _ _ (Pl.tr t 7 h (by decide))
theorem Rl.t8 (R : Rl T G f w) {t : Nat} (h : t < T) : f (aT t 8) = (w.1 12 t).toInt64 := R.2.2 _ _ _ (Pl.tr t 8 h (by decide))
theorem Rl.e0 (R : Rl T G f w) {e : Nat} (h : e < G) : f (aE e 0) = (w.1 14 e).toInt64 := R.2.2 _ _ _ (Pl.ev e 0 h (by decide) (fun h => absurd h (by decide)) (fun h => absurd h (by decide)))
theorem Rl.e1 (R : Rl T G f w) {e : Nat} (h : e < G) : f (aE e 1) = (w.1 15 e).toInt64 := R.2.2 _ _ _ (Pl.ev e 1 h (by decide) (fun h => absurd h (by decide)) (fun h => absurd h (by decide)))
theorem Rl.e2 (R : Rl T G f w) {e : Nat} (h : e < G) : f (aE e 2) = (w.1 22 e).toInt64 := R.2.2 _ _ _ (Pl.ev e 2 h (by decide) (fun h => absurd h (by decide)) (fun h => absurd h (by decide)))
theorem Rl.e3 (R : Rl T G f w) {e : Nat} (h : e < G) : f (aE e 3) = (w.1 23 e).toInt64 := R.2.2 _ _ _ (Pl.ev e 3 h (by decide) (fun h => absurd h (by decide)) (fun h => absurd h (by decide)))
theorem Rl.e4 (R : Rl T G f w) {e : Nat} (h : e < G) : f (aE e 4) = (w.1 24 e).toInt64 := R.2.2 _ _ _ (Pl.ev e 4 h (by decide) (fun h => absurd h (by decide)) (fun h => absurd h (by decide)))
theorem Rl.e5 (R : Rl T G f w) {e : Nat} (h : e < G) : f (aE e 5) = (w.1 25 e).toInt64 := R.2.2 _ _ _ (Pl.ev e 5 h (by decide) (fun h => absurd h (by decide)) (fun h => absurd h (by decide)))
theorem Rl.e6 (R : Rl T G f w) {e : Nat} (h : e < G) : f (aE e 6) = (w.1 26 e).toInt64 := R.2.2 _ _ _ (Pl.ev e 6 h (by decide) (fun h => absurd h (by decide)) (fun h => absurd h (by decide)))
theorem Rl.e7 (R : Rl T G f w) {e : Nat} (h : e < G) (hk : w.1 14 e = 3) : f (aE e 7) = (w.1 16 e).toInt64 := R.2.2 _ _ _ (Pl.ev e 7 h (by decide) (fun _ => hk) (fun h => absurd h (by decide)))
theorem Rl.e8 (R : Rl T G f w) {e : Nat} (h : e < G) : f (aE e 8) = (w.1 17 e).toInt64 := R.2.2 _ _ _ (Pl.ev e 8 h (by decide) (fun h => absurd h (by decide)) (fun h => absurd h (by decide)))
theorem Rl.e9 (R : Rl T G f w) {e : Nat} (h : e < G) : f (aE e 9) = (w.1 18 e).toInt64 := R.2.2 _ _ _ (Pl.ev e 9 h (by decide) (fun h => absurd h (by decide)) (fun h => absurd h (by decide)))
theorem Rl.e10 (R : Rl T G f w) {e : Nat} (h : e < G) : f (aE e 10) = (w.1 19 e).toInt64 := R.2.2 _ _ _ (Pl.ev e 10 h (by decide) (fun h => absurd h (by decide)) (fun h => absurd h (by decide)))
theorem Rl.e11 (R : Rl T G f w) {e : Nat} (h : e < G) : f (aE e 11) = (w.1 20 e).toInt64 := R.2.2 _ _ _ (Pl.ev e 11 h (by decide) (fun h => absurd h (by decide)) (fun h => absurd h (by decide)))
theorem Rl.e12 (R : Rl T G f w) {e : Nat} (h : e < G) (hk : w.1 14 e = 2) : f (aE e 12) = (w.1 21 e).toInt64 := R.2.2 _ _ _ (Pl.ev e 12 h (by decide) (fun h => absurd h (by decide)) (fun _ => hk))
theorem Rl.e13 (R : Rl T G f w) {e : Nat} (h : e < G) : f (aE e 13) = w.2 28 e := R.2.2 _ _ _ (Pl.ev e 13 h (by decide) (fun h => absurd h (by decide)) (fun h => absurd h (by decide)))
theorem Rl.e14 (R : Rl T G f w) {e : Nat} (h : e < G) : f (aE e 14) = w.2 29 e := R.2.2 _ _ _ (Pl.ev e 14 h (by decide) (fun h => absurd h (by decide)) (fun h => absurd h (by decide)))
theorem Rl.h0 (R : Rl T G f w) {e i : Nat} (h : e < G) (hi : i < 10) : f (aH e i 0) = w.2 31 (10 * e + i) := R.2.2 _ _ _ (Pl.ho e i 0 h hi (by decide))
theorem Rl.h1 (R : Rl T G f w) {e i : Nat} (h : e < G) (hi : i < 10) : f (aH e i 1) = w.2 32 (10 * e + i) := R.2.2 _ _ _ (Pl.ho e i 1 h hi (by decide))
theorem Rl.h2 (R : Rl T G f w) {e i : Nat} (h : e < G) (hi : i < 10) : f (aH e i 2) = w.2 33 (10 * e + i) := R.2.2 _ _ _ (Pl.ho e i 2 h hi (by decide))
theorem Rl.h3 (R : Rl T G f w) {e i : Nat} (h : e < G) (hi : i < 10) : f (aH e i 3) = w.2 34 (10 * e + i) := R.2.2 _ _ _ (Pl.ho e i 3 h hi (by decide))
theorem Rl.h4 (R : Rl T G f w) {e i : Nat} (h : e < G) (hi : i < 10) : f (aH e i 4) = w.2 35 (10 * e + i) := R.2.2 _ _ _ (Pl.ho e i 4 h hi (by decide))
theorem Rl.h5 (R : Rl T G f w) {e i : Nat} (h : e < G) (hi : i < 10) : f (aH e i 5) = w.2 36 (10 * e + i) := R.2.2 _ _ _ (Pl.ho e i 5 h hi (by decide))
theorem Rl.c0 (R : Rl T G f w) {e i : Nat} (h : e < G) (hi : i < Cn w e) (hi6 : i < 60) : f (aC e i 0) = (w.1 38 (60 * e + i)).toInt64 := R.2.2 _ _ _ (Pl.cl e i 0 h hi hi6 (by decide))
theorem Rl.c1 (R : Rl T G f w) {e i : Nat} (h : e < G) (hi : i < Cn w e) (hi6 : i < 60) : f (aC e i 1) = (w.1 39 (60 * e + i)).toInt64 := R.2.2 _ _ _ (Pl.cl e i 1 h hi hi6 (by decide))
theorem Rl.c2 (R : Rl T G f w) {e i : Nat} (h : e < G) (hi : i < Cn w e) (hi6 : i < 60) : f (aC e i 2) = w.2 40 (60 * e + i) := R.2.2 _ _ _ (Pl.cl e i 2 h hi hi6 (by decide))
theorem Rl.c3 (R : Rl T G f w) {e i : Nat} (h : e < G) (hi : i < Cn w e) (hi6 : i < 60) : f (aC e i 3) = (w.1 41 (60 * e + i)).toInt64 := R.2.2 _ _ _ (Pl.cl e i 3 h hi hi6 (by decide))
theorem Rl.c4 (R : Rl T G f w) {e i : Nat} (h : e < G) (hi : i < Cn w e) (hi6 : i < 60) : f (aC e i 4) = (w.1 42 (60 * e + i)).toInt64 := R.2.2 _ _ _ (Pl.cl e i 4 h hi hi6 (by decide))
end
section
variable {X : Mm}
theorem r_at0 (t : Nat) : fX12_at 366 (nI t) 0 X = some (nI (aT t 0), X) := by unfold fX12_at; rw [show (0 : Int32) = nI 0 from rfl, at_nI]
theorem r_at1 (t : Nat) : fX12_at 366 (nI t) 1 X = some (nI (aT t 1), X) := by unfold fX12_at; rw [show (1 : Int32) = nI 1 from rfl, at_nI]
theorem r_at2 (t : Nat) : fX12_at 366 (nI t) 2 X = some (nI (aT t 2), X) := by unfold fX12_at; rw [show (2 : Int32) = nI 2 from rfl, at_nI]
theorem r_at3 (t : Nat) : fX12_at 366 (nI t) 3 X = some (nI (aT t 3), X) := by unfold fX12_at; rw [show (3 : Int32) = nI 3 from rfl, at_nI]
theorem r_at4 (t : Nat) : fX12_at 366 (nI t) 4 X = some (nI (aT t 4), X) := by unfold fX12_at; rw [show (4 : Int32) = nI 4 from rfl, at_nI]
theorem r_at5 (t : Nat) : fX12_at 366 (nI t) 5 X = some (nI (aT t 5), X) := by unfold fX12_at; rw [show (5 : Int32) = nI 5 from rfl, at_nI]
theorem r_at6 (t : Nat) : fX12_at 366 (nI t) 6 X = some (nI (aT t 6), X) := by unfold fX12_at; rw [show (6 : Int32) = nI 6 from rfl, at_nI]
theorem r_at7 (t : Nat) : fX12_at 366 (nI t) 7 X = some (nI (aT t 7), X) := by unfold fX12_at; rw [show (7 : Int32) = nI 7 from rfl, at_nI]
theorem r_at8 (t : Nat) : fX12_at 366 (nI t) 8 X = some (nI (aT t 8), X) := by unfold fX12_at; rw [show (8 : Int32) = nI 8 from rfl, at_nI]
theorem r_of0 (e : Nat) : fX12_of 366 (nI e) 0 X = some (nI (aE e 0), X) := by unfold fX12_of; rw [show (0 : Int32) = nI 0 from rfl, of_nI]
theorem r_of1 (e : Nat) : fX12_of 366 (nI e) 1 X = some (nI (aE e 1), X) := by unfold fX12_of; rw [show (1 : Int32) = nI 1 from rfl, of_nI]
theorem r_of2 (e : Nat) : fX12_of 366 (nI e) 2 X = some (nI (aE e 2), X) := by unfold fX12_of; rw [show (2 : Int32) = nI 2 from rfl, of_nI]
theorem r_of3 (e : Nat) : fX12_of 366 (nI e) 3 X = some (nI (aE e 3), X) := by unfold fX12_of; rw [show (3 : Int32) = nI 3 from rfl, of_nI]
theorem r_of4 (e : Nat) : fX12_of 366 (nI e) 4 X = some (nI (aE e 4), X) := by unfold fX12_of; rw [show (4 : Int32) = nI 4 from rfl, of_nI]
theorem r_of5 (e : Nat) : fX12_of 366 (nI e) 5 X = some (nI (aE e 5), X) := by unfold fX12_of; rw [show (5 : Int32) = nI 5 from rfl, of_nI]
theorem r_of6 (e : Nat) : fX12_of 366 (nI e) 6 X = some (nI (aE e 6), X) := by unfold fX12_of; rw [show (6 : Int32) = nI 6 from rfl, of_nI]
theorem r_of7 (e : Nat) : fX12_of 366 (nI e) 7 X = some (nI (aE e 7), X) := by unfold fX12_of; rw [show (7 : Int32) = nI 7 from rfl, of_nI]
theorem r_of8 (e : Nat) : fX12_of 366 (nI e) 8 X = some (nI (aE e 8), X) := by unfold fX12_of; rw [show (8 : Int32) = nI 8 from rfl, of_nI]
theorem r_of9 (e : Nat) : fX12_of 366 (nI e) 9 X = some (nI (aE e 9), X) := by unfold fX12_of; rw [show (9 : Int32) = nI 9 from rfl, of_nI]
theorem r_of10 (e : Nat) : fX12_of 366 (nI e) 10 X = some (nI (aE e 10), X) := by unfold fX12_of; rw [show (10 : Int32) = nI 10 from rfl, of_nI]
theorem r_of11 (e : Nat) : fX12_of 366 (nI e) 11 X = some (nI (aE e 11), X) := by unfold fX12_of; rw [show (11 : Int32) = nI 11 from rfl, of_nI]
theorem r_of12 (e : Nat) : fX12_of 366 (nI e) 12 X = some (nI (aE e 12), X) := by unfold fX12_of; rw [show (12 : Int32) = nI 12 from rfl, of_nI]
theorem r_of13 (e : Nat) : fX12_of 366 (nI e) 13 X = some (nI (aE e 13), X) := by unfold fX12_of; rw [show (13 : Int32) = nI 13 from rfl, of_nI]
theorem r_of14 (e : Nat) : fX12_of 366 (nI e) 14 X = some (nI (aE e 14), X) := by unfold fX12_of; rw [show (14 : Int32) = nI 14 from rfl, of_nI]
theorem r_oH0 (e h : Nat) (hX : mT X 366 = 12) : fX12_ofHolder 366 (nI e) (nI h) 0 X = some (nI (aH e h 0), X) := by unfold fX12_ofHolder fX12_of; rw [if_pos hX, show (20 : Int32) = nI 20 from rfl, show (6 : Int32) = nI 6 from rfl, show (0 : Int32) = nI 0 from rfl, pk_mul, nI_add, nI_add, of_nI]; rfl
theorem r_oH1 (e h : Nat) (hX : mT X 366 = 12) : fX12_ofHolder 366 (nI e) (nI h) 1 X = some (nI (aH e h 1), X) := by unfold fX12_ofHolder fX12_of; rw [if_pos hX, show (20 : Int32) = nI 20 from rfl, show (6 : Int32) = nI 6 from rfl, show (1 : Int32) = nI 1 from rfl, pk_mul, nI_add, nI_add, of_nI]; rfl
theorem r_oH2 (e h : Nat) (hX : mT X 366 = 12) : fX12_ofHolder 366 (nI e) (nI h) 2 X = some (nI (aH e h 2), X) := by unfold fX12_ofHolder fX12_of; rw [if_pos hX, show (20 : Int32) = nI 20 from rfl, show (6 : Int32) = nI 6 from rfl, show (2 : Int32) = nI 2 from rfl, pk_mul, nI_add, nI_add, of_nI]; rfl
theorem r_oH3 (e h : Nat) (hX : mT X 366 = 12) : fX12_ofHolder 366 (nI e) (nI h) 3 X = some (nI (aH e h 3), X) := by unfold fX12_ofHolder fX12_of; rw [if_pos hX, show (20 : Int32) = nI 20 from rfl, show (6 : Int32) = nI 6 from rfl, show (3 : Int32) = nI 3 from rfl, pk_mul, nI_add, nI_add, of_nI]; rfl
theorem r_oH4 (e h : Nat) (hX : mT X 366 = 12) : fX12_ofHolder 366 (nI e) (nI h) 4 X = some (nI (aH e h 4), X) := by unfold fX12_ofHolder fX12_of; rw [if_pos hX, show (20 : Int32) = nI 20 from rfl, show (6 : Int32) = nI 6 from rfl, show (4 : Int32) = nI 4 from rfl, pk_mul, nI_add, nI_add, of_nI]; rfl
theorem r_oH5 (e h : Nat) (hX : mT X 366 = 12) : fX12_ofHolder 366 (nI e) (nI h) 5 X = some (nI (aH e h 5), X) := by unfold fX12_ofHolder fX12_of; rw [if_pos hX, show (20 : Int32) = nI 20 from rfl, show (6 : Int32) = nI 6 from rfl, show (5 : Int32) = nI 5 from rfl, pk_mul, nI_add, nI_add, of_nI]; rfl
theorem r_oC0 (e i : Nat) (hX : mT X 366 = 12) : fX12_ofClaim 366 (nI e) (nI i) 0 X = some (nI (aC e i 0), X) := by unfold fX12_ofClaim fX12_of; rw [if_pos hX, show (80 : Int32) = nI 80 from rfl, show (7 : Int32) = nI 7 from rfl, show (0 : Int32) = nI 0 from rfl, pk_mul, nI_add, nI_add, of_nI]; rfl
theorem r_oC1 (e i : Nat) (hX : mT X 366 = 12) : fX12_ofClaim 366 (nI e) (nI i) 1 X = some (nI (aC e i 1), X) := by unfold fX12_ofClaim fX12_of; rw [if_pos hX, show (80 : Int32) = nI 80 from rfl, show (7 : Int32) = nI 7 from rfl, show (1 : Int32) = nI 1 from rfl, pk_mul, nI_add, nI_add, of_nI]; rfl
theorem r_oC2 (e i : Nat) (hX : mT X 366 = 12) : fX12_ofClaim 366 (nI e) (nI i) 2 X = some (nI (aC e i 2), X) := by unfold fX12_ofClaim fX12_of; rw [if_pos hX, show (80 : Int32) = nI 80 from rfl, show (7 : Int32) = nI 7 from rfl, show (2 : Int32) = nI 2 from rfl, pk_mul, nI_add, nI_add, of_nI]; rfl
theorem r_oC3 (e i : Nat) (hX : mT X 366 = 12) : fX12_ofClaim 366 (nI e) (nI i) 3 X = some (nI (aC e i 3), X) := by unfold fX12_ofClaim fX12_of; rw [if_pos hX, show (80 : Int32) = nI 80 from rfl, show (7 : Int32) = nI 7 from rfl, show (3 : Int32) = nI 3 from rfl, pk_mul, nI_add, nI_add, of_nI]; rfl
theorem r_oC4 (e i : Nat) (hX : mT X 366 = 12) : fX12_ofClaim 366 (nI e) (nI i) 4 X = some (nI (aC e i 4), X) := by unfold fX12_ofClaim fX12_of; rw [if_pos hX, show (80 : Int32) = nI 80 from rfl, show (7 : Int32) = nI 7 from rfl, show (4 : Int32) = nI 4 from rfl, pk_mul, nI_add, nI_add, of_nI]; rfl
end
