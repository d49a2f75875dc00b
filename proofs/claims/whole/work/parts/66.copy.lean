/-! STATE: it is copied; what two States have alike -/
def vI (w : Wt) (a : Nat) (f : Nat → Int32) : Wt := (q_u1 w.1 a f, w.2)
def vJ (w : Wt) (a : Nat) (f : Nat → Int64) : Wt := (w.1, q_u1 w.2 a f)
theorem vI_1 (w : Wt) (a : Nat) (f : Nat → Int32) (b : Nat) : (vI w a f).1 b = if b = a then f else w.1 b := rfl
theorem vI_2 (w : Wt) (a : Nat) (f : Nat → Int32) : (vI w a f).2 = w.2 := rfl
theorem vJ_2 (w : Wt) (a : Nat) (f : Nat → Int64) (b : Nat) : (vJ w a f).2 b = if b = a then f else w.2 b := rfl
theorem vJ_1 (w : Wt) (a : Nat) (f : Nat → Int64) : (vJ w a f).1 = w.1 := rfl
theorem uI_1r (w : Wt) (a k : Nat) (v : Int32) (b : Nat) : (uI w a k v).1 b = if b = a then q_u1 (w.1 a) k v else w.1 b := rfl
theorem wI_pW {s : Nat} {w : Wt} {X : Mm} (a : Nat) (f : Nat → Int32) (h : a ≤ 42) : wI (pW s w X) (s + a) f = pW s (vI w a f) X := by
  unfold wI pW vI
  simp only [mN, mT, mL, mI, mJ, mR, mS]
  congr 4
  funext c k
  unfold q_u1
  by_cases h1 : c = s + a
  · subst h1
    rw [if_pos rfl, if_pos (by omega), if_pos (by omega)]
  · rw [if_neg h1]
    show (if s ≤ c ∧ c ≤ s + 42 then w.1 (c - s) k else mI X c k) = (if s ≤ c ∧ c ≤ s + 42 then (if c - s = a then f else w.1 (c - s)) k else mI X c k)
    by_cases h2 : s ≤ c ∧ c ≤ s + 42
    · rw [if_pos h2, if_pos h2, if_neg (by omega)]
    · rw [if_neg h2, if_neg h2]
theorem wJ_pW {s : Nat} {w : Wt} {X : Mm} (a : Nat) (f : Nat → Int64) (h : a ≤ 42) : wJ (pW s w X) (s + a) f = pW s (vJ w a f) X := by
  unfold wJ pW vJ
  simp only [mN, mT, mL, mI, mJ, mR, mS]
  congr 5
  funext c k
  unfold q_u1
  by_cases h1 : c = s + a
  · subst h1
    rw [if_pos rfl, if_pos (by omega), if_pos (by omega)]
  · rw [if_neg h1]
    show (if s ≤ c ∧ c ≤ s + 42 then w.2 (c - s) k else mJ X c k) = (if s ≤ c ∧ c ≤ s + 42 then (if c - s = a then f else w.2 (c - s)) k else mJ X c k)
    by_cases h2 : s ≤ c ∧ c ≤ s + 42
    · rw [if_pos h2, if_pos h2, if_neg (by omega)]
    · rw [if_neg h2, if_neg h2]
theorem mI_pWr {s : Nat} {w : Wt} {X : Mm} (a : Nat) (h : a ≤ 42) : mI (pW s w X) (s + a) = w.1 a := funext fun k => mI_pW a k h
theorem mJ_pWr {s : Nat} {w : Wt} {X : Mm} (a : Nat) (h : a ≤ 42) : mJ (pW s w X) (s + a) = w.2 a := funext fun k => mJ_pW a k h
theorem mI_pWor {s : Nat} {w : Wt} {X : Mm} (c : Nat) (h : c < s ∨ s + 42 < c) : mI (pW s w X) c = mI X c := funext fun k => mI_pWo c k h
theorem mJ_pWor {s : Nat} {w : Wt} {X : Mm} (c : Nat) (h : c < s ∨ s + 42 < c) : mJ (pW s w X) c = mJ X c := funext fun k => mJ_pWo c k h
theorem cl0 : (0 : Int32).toNatClampNeg = 0 ∧ (8 : Int32).toNatClampNeg = 8 ∧ (10 : Int32).toNatClampNeg = 10 ∧ (50 : Int32).toNatClampNeg = 50 ∧ (60 : Int32).toNatClampNeg = 60 ∧ (80 : Int32).toNatClampNeg = 80 ∧ (480 : Int32).toNatClampNeg = 480 := by decide
theorem cl1 : ¬ (0 : Int32) < 0 ∧ ¬ (8 : Int32) < 0 ∧ ¬ (10 : Int32) < 0 ∧ ¬ (50 : Int32) < 0 ∧ ¬ (60 : Int32) < 0 ∧ ¬ (80 : Int32) < 0 ∧ ¬ (480 : Int32) < 0 := by decide
/-- the places that count -/
def iR (a k : Nat) : Prop := (a = 0 ∧ (k = 6 ∨ k = 7 ∨ k = 8)) ∨ (a = 3 ∧ k = 9) ∨ (a = 13 ∧ k = 16) ∨ ((a = 4 ∨ a = 5 ∨ a = 6 ∨ a = 9 ∨ a = 10 ∨ a = 11 ∨ a = 12) ∧ k < 60) ∨ (14 ≤ a ∧ a ≤ 27 ∧ k < 8) ∨ ((a = 38 ∨ a = 39 ∨ a = 41 ∨ a = 42) ∧ k < 480)
def jR (a k : Nat) : Prop := (a = 1 ∧ k < 50) ∨ (a = 2 ∧ k < 10) ∨ ((a = 7 ∨ a = 8) ∧ k < 60) ∨ ((a = 28 ∨ a = 29) ∧ k < 8) ∨ (31 ≤ a ∧ a ≤ 36 ∧ k < 80) ∨ (a = 40 ∧ k < 480)
def Weq (u v : Wt) : Prop := (∀ a k, iR a k → u.1 a k = v.1 a k) ∧ ∀ a k, jR a k → u.2 a k = v.2 a k
theorem Weq.refl (u : Wt) : Weq u u := ⟨fun _ _ _ => rfl, fun _ _ _ => rfl⟩
theorem Weq.symm {u v : Wt} (h : Weq u v) : Weq v u := ⟨fun a k q => (h.1 a k q).symm, fun a k q => (h.2 a k q).symm⟩
theorem Weq.trans {u v z : Wt} (h : Weq u v) (g : Weq v z) : Weq u z := ⟨fun a k q => (h.1 a k q).trans (g.1 a k q), fun a k q => (h.2 a k q).trans (g.2 a k q)⟩
def P_tr (v u : Wt) : Wt := (vI (vI (vI (vI (vJ (vJ (vI (vI (vI (uI u 3 9 (v.1 3 9)) 4 (va_cpy (v.1 4) (u.1 4) 0 0 60)) 5 (va_cpy (v.1 5) (u.1 5) 0 0 60)) 6 (va_cpy (v.1 6) (u.1 6) 0 0 60)) 7 (va_cpy (v.2 7) (u.2 7) 0 0 60)) 8 (va_cpy (v.2 8) (u.2 8) 0 0 60)) 9 (va_cpy (v.1 9) (u.1 9) 0 0 60)) 10 (va_cpy (v.1 10) (u.1 10) 0 0 60)) 11 (va_cpy (v.1 11) (u.1 11) 0 0 60)) 12 (va_cpy (v.1 12) (u.1 12) 0 0 60))
def P_ev (v u : Wt) : Wt := (vJ (vJ (vI (vI (vI (vI (vI (vI (vI (vI (vI (vI (vI (vI (vI (vI (uI u 13 16 (v.1 13 16)) 14 (va_cpy (v.1 14) (u.1 14) 0 0 8)) 15 (va_cpy (v.1 15) (u.1 15) 0 0 8)) 16 (va_cpy (v.1 16) (u.1 16) 0 0 8)) 17 (va_cpy (v.1 17) (u.1 17) 0 0 8)) 18 (va_cpy (v.1 18) (u.1 18) 0 0 8)) 19 (va_cpy (v.1 19) (u.1 19) 0 0 8)) 20 (va_cpy (v.1 20) (u.1 20) 0 0 8)) 21 (va_cpy (v.1 21) (u.1 21) 0 0 8)) 22 (va_cpy (v.1 22) (u.1 22) 0 0 8)) 23 (va_cpy (v.1 23) (u.1 23) 0 0 8)) 24 (va_cpy (v.1 24) (u.1 24) 0 0 8)) 25 (va_cpy (v.1 25) (u.1 25) 0 0 8)) 26 (va_cpy (v.1 26) (u.1 26) 0 0 8)) 27 (va_cpy (v.1 27) (u.1 27) 0 0 8)) 28 (va_cpy (v.2 28) (u.2 28) 0 0 8)) 29 (va_cpy (v.2 29) (u.2 29) 0 0 8))
def P_no (v u : Wt) : Wt := (vJ (vJ (vJ (vJ (vJ (vJ u 31 (va_cpy (v.2 31) (u.2 31) 0 0 80)) 32 (va_cpy (v.2 32) (u.2 32) 0 0 80)) 33 (va_cpy (v.2 33) (u.2 33) 0 0 80)) 34 (va_cpy (v.2 34) (u.2 34) 0 0 80)) 35 (va_cpy (v.2 35) (u.2 35) 0 0 80)) 36 (va_cpy (v.2 36) (u.2 36) 0 0 80))
def P_cl (v u : Wt) : Wt := (vI (vI (vJ (vI (vI u 38 (va_cpy (v.1 38) (u.1 38) 0 0 480)) 39 (va_cpy (v.1 39) (u.1 39) 0 0 480)) 40 (va_cpy (v.2 40) (u.2 40) 0 0 480)) 41 (va_cpy (v.1 41) (u.1 41) 0 0 480)) 42 (va_cpy (v.1 42) (u.1 42) 0 0 480))
def P_st (v u : Wt) : Wt := (vJ (vJ u 1 (va_cpy (v.2 1) (u.2 1) 0 0 50)) 2 (va_cpy (v.2 2) (u.2 2) 0 0 10))
def P_fi (v u : Wt) : Wt := (uI (uI (uI u 0 6 (v.1 0 6)) 0 7 (v.1 0 7)) 0 8 (v.1 0 8))
def N_cp (v u : Wt) : Wt := P_fi v (P_cl v (P_no v (P_ev v (P_tr v (P_st v u)))))
theorem P_st_o1 (v u : Wt) {a : Nat} (h : True) : (P_st v u).1 a = u.1 a := by
  unfold P_st
  rw [vJ_1, vJ_1]
theorem P_st_o2 (v u : Wt) {a : Nat} (h : a ≠ 1 ∧ a ≠ 2) : (P_st v u).2 a = u.2 a := by
  unfold P_st
  rw [vJ_2, if_neg (by omega), vJ_2, if_neg (by omega)]
theorem P_st_v1 (v u : Wt) {k : Nat} (hk : k < 50) : (P_st v u).2 1 k = v.2 1 k := by
  unfold P_st
  rw [vJ_2, if_neg (by omega), vJ_2, if_pos rfl, pk_cpy_in (by omega) (by omega), Nat.zero_add, Nat.sub_zero]
theorem P_st_v2 (v u : Wt) {k : Nat} (hk : k < 10) : (P_st v u).2 2 k = v.2 2 k := by
  unfold P_st
  rw [vJ_2, if_pos rfl, pk_cpy_in (by omega) (by omega), Nat.zero_add, Nat.sub_zero]
theorem P_tr_o1 (v u : Wt) {a : Nat} (h : a ≠ 3 ∧ a ≠ 4 ∧ a ≠ 5 ∧ a ≠ 6 ∧ a ≠ 9 ∧ a ≠ 10 ∧ a ≠ 11 ∧ a ≠ 12) : (P_tr v u).1 a = u.1 a := by
  unfold P_tr
  rw [vI_1, if_neg (by omega), vI_1, if_neg (by omega), vI_1, if_neg (by omega), vI_1, if_neg (by omega), vJ_1, vJ_1, vI_1, if_neg (by omega), vI_1, if_neg (by omega), vI_1, if_neg (by omega), uI_1r, if_neg (by omega)]
theorem P_tr_o2 (v u : Wt) {a : Nat} (h : a ≠ 7 ∧ a ≠ 8) : (P_tr v u).2 a = u.2 a := by
  unfold P_tr
  rw [vI_2, vI_2, vI_2, vI_2, vJ_2, if_neg (by omega), vJ_2, if_neg (by omega), vI_2, vI_2, vI_2, uI_2]
theorem P_tr_v3_9 (v u : Wt) : (P_tr v u).1 3 9 = v.1 3 9 := by
  unfold P_tr
  rw [vI_1, if_neg (by omega), vI_1, if_neg (by omega), vI_1, if_neg (by omega), vI_1, if_neg (by omega), vJ_1, vJ_1, vI_1, if_neg (by omega), vI_1, if_neg (by omega), vI_1, if_neg (by omega), uI_1, if_pos ⟨rfl, rfl⟩]
theorem P_tr_v4 (v u : Wt) {k : Nat} (hk : k < 60) : (P_tr v u).1 4 k = v.1 4 k := by
  unfold P_tr
  rw [vI_1, if_neg (by omega), vI_1, if_neg (by omega), vI_1, if_neg (by omega), vI_1, if_neg (by omega), vJ_1, vJ_1, vI_1, if_neg (by omega), vI_1, if_neg (by omega), vI_1, if_pos rfl, pk_cpy_in (by omega) (by omega), Nat.zero_add, Nat.sub_zero]
theorem P_tr_v5 (v u : Wt) {k : Nat} (hk : k < 60) : (P_tr v u).1 5 k = v.1 5 k := by
  unfold P_tr
  rw [vI_1, if_neg (by omega), vI_1, if_neg (by omega), vI_1, if_neg (by omega), vI_1, if_neg (by omega), vJ_1, vJ_1, vI_1, if_neg (by omega), vI_1, if_pos rfl, pk_cpy_in (by omega) (by omega), Nat.zero_add, Nat.sub_zero]
theorem P_tr_v6 (v u : Wt) {k : Nat} (hk : k < 60) : (P_tr v u).1 6 k = v.1 6 k := by
  unfold P_tr
  rw [vI_1, if_neg (by omega), vI_1, if_neg (by omega), vI_1, if_neg (by omega), vI_1, if_neg (by omega), vJ_1, vJ_1, vI_1, if_pos rfl, pk_cpy_in (by omega) (by omega), Nat.zero_add, Nat.sub_zero]
theorem P_tr_v7 (v u : Wt) {k : Nat} (hk : k < 60) : (P_tr v u).2 7 k = v.2 7 k := by
  unfold P_tr
  rw [vI_2, vI_2, vI_2, vI_2, vJ_2, if_neg (by omega), vJ_2, if_pos rfl, pk_cpy_in (by omega) (by omega), Nat.zero_add, Nat.sub_zero]
theorem P_tr_v8 (v u : Wt) {k : Nat} (hk : k < 60) : (P_tr v u).2 8 k = v.2 8 k := by
  unfold P_tr
  rw [vI_2, vI_2, vI_2, vI_2, vJ_2, if_pos rfl, pk_cpy_in (by omega) (by omega), Nat.zero_add, Nat.sub_zero]
theorem P_tr_v9 (v u : Wt) {k : Nat} (hk : k < 60) : (P_tr v u).1 9 k = v.1 9 k := by
  unfold P_tr
  rw [vI_1, if_neg (by omega), vI_1, if_neg (by omega), vI_1, if_neg (by omega), vI_1, if_pos rfl, pk_cpy_in (by omega) (by omega), Nat.zero_add, Nat.sub_zero]
theorem P_tr_v10 (v u : Wt) {k : Nat} (hk : k < 60) : (P_tr v u).1 10 k = v.1 10 k := by
  unfold P_tr
  rw [vI_1, if_neg (by omega), vI_1, if_neg (by omega), vI_1, if_pos rfl, pk_cpy_in (by omega) (by omega), Nat.zero_add, Nat.sub_zero]
theorem P_tr_v11 (v u : Wt) {k : Nat} (hk : k < 60) : (P_tr v u).1 11 k = v.1 11 k := by
  unfold P_tr
  rw [vI_1, if_neg (by omega), vI_1, if_pos rfl, pk_cpy_in (by omega) (by omega), Nat.zero_add, Nat.sub_zero]
theorem P_tr_v12 (v u : Wt) {k : Nat} (hk : k < 60) : (P_tr v u).1 12 k = v.1 12 k := by
  unfold P_tr
  rw [vI_1, if_pos rfl, pk_cpy_in (by omega) (by omega), Nat.zero_add, Nat.sub_zero]
theorem P_ev_o1 (v u : Wt) {a : Nat} (h : a ≠ 13 ∧ a ≠ 14 ∧ a ≠ 15 ∧ a ≠ 16 ∧ a ≠ 17 ∧ a ≠ 18 ∧ a ≠ 19 ∧ a ≠ 20 ∧ a ≠ 21 ∧ a ≠ 22 ∧ a ≠ 23 ∧ a ≠ 24 ∧ a ≠ 25 ∧ a ≠ 26 ∧ a ≠ 27) : (P_ev v u).1 a = u.1 a := by
  unfold P_ev
  rw [vJ_1, vJ_1, vI_1, if_neg (by omega), vI_1, if_neg (by omega), vI_1, if_neg (by omega), vI_1, if_neg (by omega), vI_1, if_neg (by omega), vI_1, if_neg (by omega), vI_1, if_neg (by omega), vI_1, if_neg (by omega), vI_1, if_neg (by omega), vI_1, if_neg (by omega), vI_1, if_neg (by omega), vI_1, if_neg (by omega), vI_1, if_neg (by omega), vI_1, if_neg (by omega), uI_1r, if_neg (by omega)]
theorem P_ev_o2 (v u : Wt) {a : Nat} (h : a ≠ 28 ∧ a ≠ 29) : (P_ev v u).2 a = u.2 a := by
  unfold P_ev
  rw [vJ_2, if_neg (by omega), vJ_2, if_neg (by omega), vI_2, vI_2, vI_2, vI_2, vI_2, vI_2, vI_2, vI_2, vI_2, vI_2, vI_2, vI_2, vI_2, vI_2, uI_2]
theorem P_ev_v13_16 (v u : Wt) : (P_ev v u).1 13 16 = v.1 13 16 := by
  unfold P_ev
  rw [vJ_1, vJ_1, vI_1, if_neg (by omega), vI_1, if_neg (by omega), vI_1, if_neg (by omega), vI_1, if_neg (by omega), vI_1, if_neg (by omega), vI_1, if_neg (by omega), vI_1, if_neg (by omega), vI_1, if_neg (by omega), vI_1, if_neg (by omega), vI_1, if_neg (by omega), vI_1, if_neg (by omega), vI_1, if_neg (by omega), vI_1, if_neg (by omega), vI_1, if_neg (by omega), uI_1, if_pos ⟨rfl, rfl⟩]
theorem P_ev_v14 (v u : Wt) {k : Nat} (hk : k < 8) : (P_ev v u).1 14 k = v.1 14 k := by
  unfold P_ev
  rw [vJ_1, vJ_1, vI_1, if_neg (by omega), vI_1, if_neg (by omega), vI_1, if_neg (by omega), vI_1, if_neg (by omega), vI_1, if_neg (by omega), vI_1, if_neg (by omega), vI_1, if_neg (by omega), vI_1, if_neg (by omega), vI_1, if_neg (by omega), vI_1, if_neg (by omega), vI_1, if_neg (by omega), vI_1, if_neg (by omega), vI_1, if_neg (by omega), vI_1, if_pos rfl, pk_cpy_in (by omega) (by omega), Nat.zero_add, Nat.sub_zero]
theorem P_ev_v15 (v u : Wt) {k : Nat} (hk : k < 8) : (P_ev v u).1 15 k = v.1 15 k := by
  unfold P_ev
  rw [vJ_1, vJ_1, vI_1, if_neg (by omega), vI_1, if_neg (by omega), vI_1, if_neg (by omega), vI_1, if_neg (by omega), vI_1, if_neg (by omega), vI_1, if_neg (by omega), vI_1, if_neg (by omega), vI_1, if_neg (by omega), vI_1, if_neg (by omega), vI_1, if_neg (by omega), vI_1, if_neg (by omega), vI_1, if_neg (by omega), vI_1, if_pos rfl, pk_cpy_in (by omega) (by omega), Nat.zero_add, Nat.sub_zero]
theorem P_ev_v16 (v u : Wt) {k : Nat} (hk : k < 8) : (P_ev v u).1 16 k = v.1 16 k := by
  unfold P_ev
  rw [vJ_1, vJ_1, vI_1, if_neg (by omega), vI_1, if_neg (by omega), vI_1, if_neg (by omega), vI_1, if_neg (by omega), vI_1, if_neg (by omega), vI_1, if_neg (by omega), vI_1, if_neg (by omega), vI_1, if_neg (by omega), vI_1, if_neg (by omega), vI_1, if_neg (by omega), vI_1, if_neg (by omega), vI_1, if_pos rfl, pk_cpy_in (by omega) (by omega), Nat.zero_add, Nat.sub_zero]
theorem P_ev_v17 (v u : Wt) {k : Nat} (hk : k < 8) : (P_ev v u).1 17 k = v.1 17 k := by
  unfold P_ev
  rw [vJ_1, vJ_1, vI_1, if_neg (by omega), vI_1, if_neg (by omega), vI_1, if_neg (by omega), vI_1, if_neg (by omega), vI_1, if_neg (by omega), vI_1, if_neg (by omega), vI_1, if_neg (by omega), vI_1, if_neg (by omega), vI_1, if_neg (by omega), vI_1, if_neg (by omega), vI_1, if_pos rfl, pk_cpy_in (by omega) (by omega), Nat.zero_add, Nat.sub_zero]
theorem P_ev_v18 (v u : Wt) {k : Nat} (hk : k < 8) : (P_ev v u).1 18 k = v.1 18 k := by
  unfold P_ev
  rw [vJ_1, vJ_1, vI_1, if_neg (by omega), vI_1, if_neg (by omega), vI_1, if_neg (by omega), vI_1, if_neg (by omega), vI_1, if_neg (by omega), vI_1, if_neg (by omega), vI_1, if_neg (by omega), vI_1, if_neg (by omega), vI_1, if_neg (by omega), vI_1, if_pos rfl, pk_cpy_in (by omega) (by omega), Nat.zero_add, Nat.sub_zero]
theorem P_ev_v19 (v u : Wt) {k : Nat} (hk : k < 8) : (P_ev v u).1 19 k = v.1 19 k := by
  unfold P_ev
  rw [vJ_1, vJ_1, vI_1, if_neg (by omega), vI_1, if_neg (by omega), vI_1, if_neg (by omega), vI_1, if_neg (by omega), vI_1, if_neg (by omega), vI_1, if_neg (by omega), vI_1, if_neg (by omega), vI_1, if_neg (by omega), vI_1, if_pos rfl, pk_cpy_in (by omega) (by omega), Nat.zero_add, Nat.sub_zero]
theorem P_ev_v20 (v u : Wt) {k : Nat} (hk : k < 8) : (P_ev v u).1 20 k = v.1 20 k := by
  unfold P_ev
  rw [vJ_1, vJ_1, vI_1, if_neg (by omega), vI_1, if_neg (by omega), vI_1, if_neg (by omega), vI_1, if_neg (by omega), vI_1, if_neg (by omega), vI_1, if_neg (by omega), vI_1, if_neg (by omega), vI_1, if_pos rfl, pk_cpy_in (by omega) (by omega), Nat.zero_add, Nat.sub_zero]
theorem P_ev_v21 (v u : Wt) {k : Nat} (hk : k < 8) : (P_ev v u).1 21 k = v.1 21 k := by
  unfold P_ev
  rw [vJ_1, vJ_1, vI_1, if_neg (by omega), vI_1, if_neg (by omega), vI_1, if_neg (by omega), vI_1, if_neg (by omega), vI_1, if_neg (by omega), vI_1, if_neg (by omega), vI_1, if_pos rfl, pk_cpy_in (by omega) (by omega), Nat.zero_add, Nat.sub_zero]
theorem P_ev_v22 (v u : Wt) {k : Nat} (hk : k < 8) : (P_ev v u).1 22 k = v.1 22 k := by
  unfold P_ev
  rw [vJ_1, vJ_1, vI_1, if_neg (by omega), vI_1, if_neg (by omega), vI_1, if_neg (by omega), vI_1, if_neg (by omega), vI_1, if_neg (by omega), vI_1, if_pos rfl, pk_cpy_in (by omega) (by omega), Nat.zero_add, Nat.sub_zero]
theorem P_ev_v23 (v u : Wt) {k : Nat} (hk : k < 8) : (P_ev v u).1 23 k = v.1 23 k := by
  unfold P_ev
  rw [vJ_1, vJ_1, vI_1, if_neg (by omega), vI_1, if_neg (by omega), vI_1, if_neg (by omega), vI_1, if_neg (by omega), vI_1, if_pos rfl, pk_cpy_in (by omega) (by omega), Nat.zero_add, Nat.sub_zero]
theorem P_ev_v24 (v u : Wt) {k : Nat} (hk : k < 8) : (P_ev v u).1 24 k = v.1 24 k := by
  unfold P_ev
  rw [vJ_1, vJ_1, vI_1, if_neg (by omega), vI_1, if_neg (by omega), vI_1, if_neg (by omega), vI_1, if_pos rfl, pk_cpy_in (by omega) (by omega), Nat.zero_add, Nat.sub_zero]
theorem P_ev_v25 (v u : Wt) {k : Nat} (hk : k < 8) : (P_ev v u).1 25 k = v.1 25 k := by
  unfold P_ev
  rw [vJ_1, vJ_1, vI_1, if_neg (by omega), vI_1, if_neg (by omega), vI_1, if_pos rfl, pk_cpy_in (by omega) (by omega), Nat.zero_add, Nat.sub_zero]
theorem P_ev_v26 (v u : Wt) {k : Nat} (hk : k < 8) : (P_ev v u).1 26 k = v.1 26 k := by
  unfold P_ev
  rw [vJ_1, vJ_1, vI_1, if_neg (by omega), vI_1, if_pos rfl, pk_cpy_in (by omega) (by omega), Nat.zero_add, Nat.sub_zero]
theorem P_ev_v27 (v u : Wt) {k : Nat} (hk : k < 8) : (P_ev v u).1 27 k = v.1 27 k := by
  unfold P_ev
  rw [vJ_1, vJ_1, vI_1, if_pos rfl, pk_cpy_in (by omega) (by omega), Nat.zero_add, Nat.sub_zero]
theorem P_ev_v28 (v u : Wt) {k : Nat} (hk : k < 8) : (P_ev v u).2 28 k = v.2 28 k := by
  unfold P_ev
  rw [vJ_2, if_neg (by omega), vJ_2, if_pos rfl, pk_cpy_in (by omega) (by omega), Nat.zero_add, Nat.sub_zero]
theorem P_ev_v29 (v u : Wt) {k : Nat} (hk : k < 8) : (P_ev v u).2 29 k = v.2 29 k := by
  unfold P_ev
  rw [vJ_2, if_pos rfl, pk_cpy_in (by omega) (by omega), Nat.zero_add, Nat.sub_zero]
theorem P_no_o1 (v u : Wt) {a : Nat} (h : True) : (P_no v u).1 a = u.1 a := by
  unfold P_no
  rw [vJ_1, vJ_1, vJ_1, vJ_1, vJ_1, vJ_1]
theorem P_no_o2 (v u : Wt) {a : Nat} (h : a ≠ 31 ∧ a ≠ 32 ∧ a ≠ 33 ∧ a ≠ 34 ∧ a ≠ 35 ∧ a ≠ 36) : (P_no v u).2 a = u.2 a := by
  unfold P_no
  rw [vJ_2, if_neg (by omega), vJ_2, if_neg (by omega), vJ_2, if_neg (by omega), vJ_2, if_neg (by omega), vJ_2, if_neg (by omega), vJ_2, if_neg (by omega)]
theorem P_no_v31 (v u : Wt) {k : Nat} (hk : k < 80) : (P_no v u).2 31 k = v.2 31 k := by
  unfold P_no
  rw [vJ_2, if_neg (by omega), vJ_2, if_neg (by omega), vJ_2, if_neg (by omega), vJ_2, if_neg (by omega), vJ_2, if_neg (by omega), vJ_2, if_pos rfl, pk_cpy_in (by omega) (by omega), Nat.zero_add, Nat.sub_zero]
theorem P_no_v32 (v u : Wt) {k : Nat} (hk : k < 80) : (P_no v u).2 32 k = v.2 32 k := by
  unfold P_no
  rw [vJ_2, if_neg (by omega), vJ_2, if_neg (by omega), vJ_2, if_neg (by omega), vJ_2, if_neg (by omega), vJ_2, if_pos rfl, pk_cpy_in (by omega) (by omega), Nat.zero_add, Nat.sub_zero]
theorem P_no_v33 (v u : Wt) {k : Nat} (hk : k < 80) : (P_no v u).2 33 k = v.2 33 k := by
  unfold P_no
  rw [vJ_2, if_neg (by omega), vJ_2, if_neg (by omega), vJ_2, if_neg (by omega), vJ_2, if_pos rfl, pk_cpy_in (by omega) (by omega), Nat.zero_add, Nat.sub_zero]
theorem P_no_v34 (v u : Wt) {k : Nat} (hk : k < 80) : (P_no v u).2 34 k = v.2 34 k := by
  unfold P_no
  rw [vJ_2, if_neg (by omega), vJ_2, if_neg (by omega), vJ_2, if_pos rfl, pk_cpy_in (by omega) (by omega), Nat.zero_add, Nat.sub_zero]
theorem P_no_v35 (v u : Wt) {k : Nat} (hk : k < 80) : (P_no v u).2 35 k = v.2 35 k := by
  unfold P_no
  rw [vJ_2, if_neg (by omega), vJ_2, if_pos rfl, pk_cpy_in (by omega) (by omega), Nat.zero_add, Nat.sub_zero]
theorem P_no_v36 (v u : Wt) {k : Nat} (hk : k < 80) : (P_no v u).2 36 k = v.2 36 k := by
  unfold P_no
  rw [vJ_2, if_pos rfl, pk_cpy_in (by omega) (by omega), Nat.zero_add, Nat.sub_zero]
theorem P_cl_o1 (v u : Wt) {a : Nat} (h : a ≠ 38 ∧ a ≠ 39 ∧ a ≠ 41 ∧ a ≠ 42) : (P_cl v u).1 a = u.1 a := by
  unfold P_cl
  rw [vI_1, if_neg (by omega), vI_1, if_neg (by omega), vJ_1, vI_1, if_neg (by omega), vI_1, if_neg (by omega)]
theorem P_cl_o2 (v u : Wt) {a : Nat} (h : a ≠ 40) : (P_cl v u).2 a = u.2 a := by
  unfold P_cl
  rw [vI_2, vI_2, vJ_2, if_neg (by omega), vI_2, vI_2]
theorem P_cl_v38 (v u : Wt) {k : Nat} (hk : k < 480) : (P_cl v u).1 38 k = v.1 38 k := by
  unfold P_cl
  rw [vI_1, if_neg (by omega), vI_1, if_neg (by omega), vJ_1, vI_1, if_neg (by omega), vI_1, if_pos rfl, pk_cpy_in (by omega) (by omega), Nat.zero_add, Nat.sub_zero]
theorem P_cl_v39 (v u : Wt) {k : Nat} (hk : k < 480) : (P_cl v u).1 39 k = v.1 39 k := by
  unfold P_cl
  rw [vI_1, if_neg (by omega), vI_1, if_neg (by omega), vJ_1, vI_1, if_pos rfl, pk_cpy_in (by omega) (by omega), Nat.zero_add, Nat.sub_zero]
theorem P_cl_v40 (v u : Wt) {k : Nat} (hk : k < 480) : (P_cl v u).2 40 k = v.2 40 k := by
  unfold P_cl
  rw [vI_2, vI_2, vJ_2, if_pos rfl, pk_cpy_in (by omega) (by omega), Nat.zero_add, Nat.sub_zero]
theorem P_cl_v41 (v u : Wt) {k : Nat} (hk : k < 480) : (P_cl v u).1 41 k = v.1 41 k := by
  unfold P_cl
  rw [vI_1, if_neg (by omega), vI_1, if_pos rfl, pk_cpy_in (by omega) (by omega), Nat.zero_add, Nat.sub_zero]
theorem P_cl_v42 (v u : Wt) {k : Nat} (hk : k < 480) : (P_cl v u).1 42 k = v.1 42 k := by
  unfold P_cl
  rw [vI_1, if_pos rfl, pk_cpy_in (by omega) (by omega), Nat.zero_add, Nat.sub_zero]
theorem P_fi_o1 (v u : Wt) {a : Nat} (h : a ≠ 0) : (P_fi v u).1 a = u.1 a := by
  unfold P_fi
  rw [uI_1r, if_neg (by omega), uI_1r, if_neg (by omega), uI_1r, if_neg (by omega)]
theorem P_fi_o2 (v u : Wt) {a : Nat} (h : True) : (P_fi v u).2 a = u.2 a := by
  unfold P_fi
  rw [uI_2, uI_2, uI_2]
theorem P_fi_v0_6 (v u : Wt) : (P_fi v u).1 0 6 = v.1 0 6 := by
  unfold P_fi
  rw [uI_1, if_neg (by omega), uI_1, if_neg (by omega), uI_1, if_pos ⟨rfl, rfl⟩]
theorem P_fi_v0_7 (v u : Wt) : (P_fi v u).1 0 7 = v.1 0 7 := by
  unfold P_fi
  rw [uI_1, if_neg (by omega), uI_1, if_pos ⟨rfl, rfl⟩]
theorem P_fi_v0_8 (v u : Wt) : (P_fi v u).1 0 8 = v.1 0 8 := by
  unfold P_fi
  rw [uI_1, if_pos ⟨rfl, rfl⟩]
theorem N_cp_3_9 (v u : Wt) : (N_cp v u).1 3 9 = v.1 3 9 := by
  unfold N_cp
  rw [P_fi_o1 _ _ (by decide), P_cl_o1 _ _ (by decide), P_no_o1 _ _ (by decide), P_ev_o1 _ _ (by decide), P_tr_v3_9]
theorem N_cp_4 (v u : Wt) {k : Nat} (h : k < 60) : (N_cp v u).1 4 k = v.1 4 k := by
  unfold N_cp
  rw [P_fi_o1 _ _ (by decide), P_cl_o1 _ _ (by decide), P_no_o1 _ _ (by decide), P_ev_o1 _ _ (by decide), P_tr_v4 _ _ h]
theorem N_cp_5 (v u : Wt) {k : Nat} (h : k < 60) : (N_cp v u).1 5 k = v.1 5 k := by
  unfold N_cp
  rw [P_fi_o1 _ _ (by decide), P_cl_o1 _ _ (by decide), P_no_o1 _ _ (by decide), P_ev_o1 _ _ (by decide), P_tr_v5 _ _ h]
theorem N_cp_6 (v u : Wt) {k : Nat} (h : k < 60) : (N_cp v u).1 6 k = v.1 6 k := by
  unfold N_cp
  rw [P_fi_o1 _ _ (by decide), P_cl_o1 _ _ (by decide), P_no_o1 _ _ (by decide), P_ev_o1 _ _ (by decide), P_tr_v6 _ _ h]
theorem N_cp_9 (v u : Wt) {k : Nat} (h : k < 60) : (N_cp v u).1 9 k = v.1 9 k := by
  unfold N_cp
  rw [P_fi_o1 _ _ (by decide), P_cl_o1 _ _ (by decide), P_no_o1 _ _ (by decide), P_ev_o1 _ _ (by decide), P_tr_v9 _ _ h]
theorem N_cp_10 (v u : Wt) {k : Nat} (h : k < 60) : (N_cp v u).1 10 k = v.1 10 k := by
  unfold N_cp
  rw [P_fi_o1 _ _ (by decide), P_cl_o1 _ _ (by decide), P_no_o1 _ _ (by decide), P_ev_o1 _ _ (by decide), P_tr_v10 _ _ h]
theorem N_cp_11 (v u : Wt) {k : Nat} (h : k < 60) : (N_cp v u).1 11 k = v.1 11 k := by
  unfold N_cp
  rw [P_fi_o1 _ _ (by decide), P_cl_o1 _ _ (by decide), P_no_o1 _ _ (by decide), P_ev_o1 _ _ (by decide), P_tr_v11 _ _ h]
theorem N_cp_12 (v u : Wt) {k : Nat} (h : k < 60) : (N_cp v u).1 12 k = v.1 12 k := by
  unfold N_cp
  rw [P_fi_o1 _ _ (by decide), P_cl_o1 _ _ (by decide), P_no_o1 _ _ (by decide), P_ev_o1 _ _ (by decide), P_tr_v12 _ _ h]
theorem N_cp_13_16 (v u : Wt) : (N_cp v u).1 13 16 = v.1 13 16 := by
  unfold N_cp
  rw [P_fi_o1 _ _ (by decide), P_cl_o1 _ _ (by decide), P_no_o1 _ _ (by decide), P_ev_v13_16]
theorem N_cp_14 (v u : Wt) {k : Nat} (h : k < 8) : (N_cp v u).1 14 k = v.1 14 k := by
  unfold N_cp
  rw [P_fi_o1 _ _ (by decide), P_cl_o1 _ _ (by decide), P_no_o1 _ _ (by decide), P_ev_v14 _ _ h]
theorem N_cp_15 (v u : Wt) {k : Nat} (h : k < 8) : (N_cp v u).1 15 k = v.1 15 k := by
  unfold N_cp
  rw [P_fi_o1 _ _ (by decide), P_cl_o1 _ _ (by decide), P_no_o1 _ _ (by decide), P_ev_v15 _ _ h]
theorem N_cp_16 (v u : Wt) {k : Nat} (h : k < 8) : (N_cp v u).1 16 k = v.1 16 k := by
  unfold N_cp
  rw [P_fi_o1 _ _ (by decide), P_cl_o1 _ _ (by decide), P_no_o1 _ _ (by decide), P_ev_v16 _ _ h]
theorem N_cp_17 (v u : Wt) {k : Nat} (h : k < 8) : (N_cp v u).1 17 k = v.1 17 k := by
  unfold N_cp
  rw [P_fi_o1 _ _ (by decide), P_cl_o1 _ _ (by decide), P_no_o1 _ _ (by decide), P_ev_v17 _ _ h]
theorem N_cp_18 (v u : Wt) {k : Nat} (h : k < 8) : (N_cp v u).1 18 k = v.1 18 k := by
  unfold N_cp
  rw [P_fi_o1 _ _ (by decide), P_cl_o1 _ _ (by decide), P_no_o1 _ _ (by decide), P_ev_v18 _ _ h]
theorem N_cp_19 (v u : Wt) {k : Nat} (h : k < 8) : (N_cp v u).1 19 k = v.1 19 k := by
  unfold N_cp
  rw [P_fi_o1 _ _ (by decide), P_cl_o1 _ _ (by decide), P_no_o1 _ _ (by decide), P_ev_v19 _ _ h]
theorem N_cp_20 (v u : Wt) {k : Nat} (h : k < 8) : (N_cp v u).1 20 k = v.1 20 k := by
  unfold N_cp
  rw [P_fi_o1 _ _ (by decide), P_cl_o1 _ _ (by decide), P_no_o1 _ _ (by decide), P_ev_v20 _ _ h]
theorem N_cp_21 (v u : Wt) {k : Nat} (h : k < 8) : (N_cp v u).1 21 k = v.1 21 k := by
  unfold N_cp
  rw [P_fi_o1 _ _ (by decide), P_cl_o1 _ _ (by decide), P_no_o1 _ _ (by decide), P_ev_v21 _ _ h]
theorem N_cp_22 (v u : Wt) {k : Nat} (h : k < 8) : (N_cp v u).1 22 k = v.1 22 k := by
  unfold N_cp
  rw [P_fi_o1 _ _ (by decide), P_cl_o1 _ _ (by decide), P_no_o1 _ _ (by decide), P_ev_v22 _ _ h]
theorem N_cp_23 (v u : Wt) {k : Nat} (h : k < 8) : (N_cp v u).1 23 k = v.1 23 k := by
  unfold N_cp
  rw [P_fi_o1 _ _ (by decide), P_cl_o1 _ _ (by decide), P_no_o1 _ _ (by decide), P_ev_v23 _ _ h]
theorem N_cp_24 (v u : Wt) {k : Nat} (h : k < 8) : (N_cp v u).1 24 k = v.1 24 k := by
  unfold N_cp
  rw [P_fi_o1 _ _ (by decide), P_cl_o1 _ _ (by decide), P_no_o1 _ _ (by decide), P_ev_v24 _ _ h]
theorem N_cp_25 (v u : Wt) {k : Nat} (h : k < 8) : (N_cp v u).1 25 k = v.1 25 k := by
  unfold N_cp
  rw [P_fi_o1 _ _ (by decide), P_cl_o1 _ _ (by decide), P_no_o1 _ _ (by decide), P_ev_v25 _ _ h]
theorem N_cp_26 (v u : Wt) {k : Nat} (h : k < 8) : (N_cp v u).1 26 k = v.1 26 k := by
  unfold N_cp
  rw [P_fi_o1 _ _ (by decide), P_cl_o1 _ _ (by decide), P_no_o1 _ _ (by decide), P_ev_v26 _ _ h]
theorem N_cp_27 (v u : Wt) {k : Nat} (h : k < 8) : (N_cp v u).1 27 k = v.1 27 k := by
  unfold N_cp
  rw [P_fi_o1 _ _ (by decide), P_cl_o1 _ _ (by decide), P_no_o1 _ _ (by decide), P_ev_v27 _ _ h]
theorem N_cp_38 (v u : Wt) {k : Nat} (h : k < 480) : (N_cp v u).1 38 k = v.1 38 k := by
  unfold N_cp
  rw [P_fi_o1 _ _ (by decide), P_cl_v38 _ _ h]
theorem N_cp_39 (v u : Wt) {k : Nat} (h : k < 480) : (N_cp v u).1 39 k = v.1 39 k := by
  unfold N_cp
  rw [P_fi_o1 _ _ (by decide), P_cl_v39 _ _ h]
theorem N_cp_41 (v u : Wt) {k : Nat} (h : k < 480) : (N_cp v u).1 41 k = v.1 41 k := by
  unfold N_cp
  rw [P_fi_o1 _ _ (by decide), P_cl_v41 _ _ h]
theorem N_cp_42 (v u : Wt) {k : Nat} (h : k < 480) : (N_cp v u).1 42 k = v.1 42 k := by
  unfold N_cp
  rw [P_fi_o1 _ _ (by decide), P_cl_v42 _ _ h]
theorem N_cp_0_6 (v u : Wt) : (N_cp v u).1 0 6 = v.1 0 6 := by
  unfold N_cp
  rw [P_fi_v0_6]
theorem N_cp_0_7 (v u : Wt) : (N_cp v u).1 0 7 = v.1 0 7 := by
  unfold N_cp
  rw [P_fi_v0_7]
theorem N_cp_0_8 (v u : Wt) : (N_cp v u).1 0 8 = v.1 0 8 := by
  unfold N_cp
  rw [P_fi_v0_8]
theorem N_cp_1 (v u : Wt) {k : Nat} (h : k < 50) : (N_cp v u).2 1 k = v.2 1 k := by
  unfold N_cp
  rw [P_fi_o2 _ _ (by decide), P_cl_o2 _ _ (by decide), P_no_o2 _ _ (by decide), P_ev_o2 _ _ (by decide), P_tr_o2 _ _ (by decide), P_st_v1 _ _ h]
theorem N_cp_2 (v u : Wt) {k : Nat} (h : k < 10) : (N_cp v u).2 2 k = v.2 2 k := by
  unfold N_cp
  rw [P_fi_o2 _ _ (by decide), P_cl_o2 _ _ (by decide), P_no_o2 _ _ (by decide), P_ev_o2 _ _ (by decide), P_tr_o2 _ _ (by decide), P_st_v2 _ _ h]
theorem N_cp_7 (v u : Wt) {k : Nat} (h : k < 60) : (N_cp v u).2 7 k = v.2 7 k := by
  unfold N_cp
  rw [P_fi_o2 _ _ (by decide), P_cl_o2 _ _ (by decide), P_no_o2 _ _ (by decide), P_ev_o2 _ _ (by decide), P_tr_v7 _ _ h]
theorem N_cp_8 (v u : Wt) {k : Nat} (h : k < 60) : (N_cp v u).2 8 k = v.2 8 k := by
  unfold N_cp
  rw [P_fi_o2 _ _ (by decide), P_cl_o2 _ _ (by decide), P_no_o2 _ _ (by decide), P_ev_o2 _ _ (by decide), P_tr_v8 _ _ h]
theorem N_cp_28 (v u : Wt) {k : Nat} (h : k < 8) : (N_cp v u).2 28 k = v.2 28 k := by
  unfold N_cp
  rw [P_fi_o2 _ _ (by decide), P_cl_o2 _ _ (by decide), P_no_o2 _ _ (by decide), P_ev_v28 _ _ h]
theorem N_cp_29 (v u : Wt) {k : Nat} (h : k < 8) : (N_cp v u).2 29 k = v.2 29 k := by
  unfold N_cp
  rw [P_fi_o2 _ _ (by decide), P_cl_o2 _ _ (by decide), P_no_o2 _ _ (by decide), P_ev_v29 _ _ h]
theorem N_cp_31 (v u : Wt) {k : Nat} (h : k < 80) : (N_cp v u).2 31 k = v.2 31 k := by
  unfold N_cp
  rw [P_fi_o2 _ _ (by decide), P_cl_o2 _ _ (by decide), P_no_v31 _ _ h]
theorem N_cp_32 (v u : Wt) {k : Nat} (h : k < 80) : (N_cp v u).2 32 k = v.2 32 k := by
  unfold N_cp
  rw [P_fi_o2 _ _ (by decide), P_cl_o2 _ _ (by decide), P_no_v32 _ _ h]
theorem N_cp_33 (v u : Wt) {k : Nat} (h : k < 80) : (N_cp v u).2 33 k = v.2 33 k := by
  unfold N_cp
  rw [P_fi_o2 _ _ (by decide), P_cl_o2 _ _ (by decide), P_no_v33 _ _ h]
theorem N_cp_34 (v u : Wt) {k : Nat} (h : k < 80) : (N_cp v u).2 34 k = v.2 34 k := by
  unfold N_cp
  rw [P_fi_o2 _ _ (by decide), P_cl_o2 _ _ (by decide), P_no_v34 _ _ h]
theorem N_cp_35 (v u : Wt) {k : Nat} (h : k < 80) : (N_cp v u).2 35 k = v.2 35 k := by
  unfold N_cp
  rw [P_fi_o2 _ _ (by decide), P_cl_o2 _ _ (by decide), P_no_v35 _ _ h]
theorem N_cp_36 (v u : Wt) {k : Nat} (h : k < 80) : (N_cp v u).2 36 k = v.2 36 k := by
  unfold N_cp
  rw [P_fi_o2 _ _ (by decide), P_cl_o2 _ _ (by decide), P_no_v36 _ _ h]
theorem N_cp_40 (v u : Wt) {k : Nat} (h : k < 480) : (N_cp v u).2 40 k = v.2 40 k := by
  unfold N_cp
  rw [P_fi_o2 _ _ (by decide), P_cl_v40 _ _ h]
theorem N_cp_eq (v u : Wt) : Weq (N_cp v u) v := by
  constructor
  · intro a k h
    unfold iR at h
    rcases h with ⟨rfl, rfl | rfl | rfl⟩ | ⟨rfl, rfl⟩ | ⟨rfl, rfl⟩ | ⟨rfl | rfl | rfl | rfl | rfl | rfl | rfl, h⟩ | ⟨h1, h2, h⟩ | ⟨rfl | rfl | rfl | rfl, h⟩
    · exact N_cp_0_6 v u
    · exact N_cp_0_7 v u
    · exact N_cp_0_8 v u
    · exact N_cp_3_9 v u
    · exact N_cp_13_16 v u
    · exact N_cp_4 v u h
    · exact N_cp_5 v u h
    · exact N_cp_6 v u h
    · exact N_cp_9 v u h
    · exact N_cp_10 v u h
    · exact N_cp_11 v u h
    · exact N_cp_12 v u h
    · rcases (by omega : a = 14 ∨ a = 15 ∨ a = 16 ∨ a = 17 ∨ a = 18 ∨ a = 19 ∨ a = 20 ∨ a = 21 ∨ a = 22 ∨ a = 23 ∨ a = 24 ∨ a = 25 ∨ a = 26 ∨ a = 27) with rfl | rfl | rfl | rfl | rfl | rfl | rfl | rfl | rfl | rfl | rfl | rfl | rfl | rfl
      · exact N_cp_14 v u h
      · exact N_cp_15 v u h
      · exact N_cp_16 v u h
      · exact N_cp_17 v u h
      · exact N_cp_18 v u h
      · exact N_cp_19 v u h
      · exact N_cp_20 v u h
      · exact N_cp_21 v u h
      · exact N_cp_22 v u h
      · exact N_cp_23 v u h
      · exact N_cp_24 v u h
      · exact N_cp_25 v u h
      · exact N_cp_26 v u h
      · exact N_cp_27 v u h
    · exact N_cp_38 v u h
    · exact N_cp_39 v u h
    · exact N_cp_41 v u h
    · exact N_cp_42 v u h
  · intro a k h
    unfold jR at h
    rcases h with ⟨rfl, h⟩ | ⟨rfl, h⟩ | ⟨rfl | rfl, h⟩ | ⟨rfl | rfl, h⟩ | ⟨h1, h2, h⟩ | ⟨rfl, h⟩
    · exact N_cp_1 v u h
    · exact N_cp_2 v u h
    · exact N_cp_7 v u h
    · exact N_cp_8 v u h
    · exact N_cp_28 v u h
    · exact N_cp_29 v u h
    · rcases (by omega : a = 31 ∨ a = 32 ∨ a = 33 ∨ a = 34 ∨ a = 35 ∨ a = 36) with rfl | rfl | rfl | rfl | rfl | rfl
      · exact N_cp_31 v u h
      · exact N_cp_32 v u h
      · exact N_cp_33 v u h
      · exact N_cp_34 v u h
      · exact N_cp_35 v u h
      · exact N_cp_36 v u h
    · exact N_cp_40 v u h
section
variable {bk dr s t : Nat} {X : Mm} {u : Wt}
theorem c_copy (h : Shp bk dr X) (hs : St s) (ht : St t) (hne : s ≠ t) : fX8_copyFrom t s (pW t u X) = some ((), pW t (N_cp (gW s X) u) X) := by
  have ap := st_apart s hs t ht hne
  have rI : ∀ (u : Wt) (a : Nat), a ≤ 42 → mI (pW t u X) (s + a) = mI X (s + a) := fun u a ha => mI_pWor _ (by omega)
  have rJ : ∀ (u : Wt) (a : Nat), a ≤ 42 → mJ (pW t u X) (s + a) = mJ X (s + a) := fun u a ha => mJ_pWor _ (by omega)
  have rI0 : ∀ (u : Wt), mI (pW t u X) s = mI X s := fun u => mI_pWor _ (by omega)
  have g1 : ∀ a, mI X (s + a) = (gW s X).1 a := fun a => rfl
  have g2 : ∀ a, mJ X (s + a) = (gW s X).2 a := fun a => rfl
  have g0 : mI X s = (gW s X).1 0 := rfl
  have tr : ∀ u, fX10_copyFrom (t + 3) (s + 3) (pW t u X) = some ((), pW t (P_tr (gW s X) u) X) := fun u => by
    simp only [fX10_copyFrom, q_cpok, h.1, h.2.1, h.2.2, st_T s hs, st_L s hs, st_R hs, st_T t ht, st_L t ht, st_R ht, mT_pW, mL_pW, mR_pW, rI, rJ, rI0, g1, g2, g0, mI_pWr, mJ_pWr, wI_pW, wJ_pW, sI_pW, sI_pW0, vI_1, vI_2, vJ_1, vJ_2, uI_1r, uI_2, nm, bd, ne_eq, Nat.add_eq_zero_iff, Nat.reduceEqDiff, Nat.reduceLeDiff, Nat.reduceAdd, and_false, false_and, and_true, true_and, and_self, not_false_eq_true, not_true_eq_false, reduceCtorEq, ↓reduceIte, cl0.1, cl0.2.1, cl0.2.2.1, cl0.2.2.2.1, cl0.2.2.2.2.1, cl0.2.2.2.2.2.1, cl0.2.2.2.2.2.2, cl1.1, cl1.2.1, cl1.2.2.1, cl1.2.2.2.1, cl1.2.2.2.2.1, cl1.2.2.2.2.2.1, cl1.2.2.2.2.2.2, Nat.zero_add, Nat.le_refl]
    rfl
  have ev : ∀ u, fX3_copyFrom (t + 13) (s + 13) (pW t u X) = some ((), pW t (P_ev (gW s X) u) X) := fun u => by
    simp only [fX3_copyFrom, q_cpok, h.1, h.2.1, h.2.2, st_T s hs, st_L s hs, st_R hs, st_T t ht, st_L t ht, st_R ht, mT_pW, mL_pW, mR_pW, rI, rJ, rI0, g1, g2, g0, mI_pWr, mJ_pWr, wI_pW, wJ_pW, sI_pW, sI_pW0, vI_1, vI_2, vJ_1, vJ_2, uI_1r, uI_2, nm, bd, ne_eq, Nat.add_eq_zero_iff, Nat.reduceEqDiff, Nat.reduceLeDiff, Nat.reduceAdd, and_false, false_and, and_true, true_and, and_self, not_false_eq_true, not_true_eq_false, reduceCtorEq, ↓reduceIte, cl0.1, cl0.2.1, cl0.2.2.1, cl0.2.2.2.1, cl0.2.2.2.2.1, cl0.2.2.2.2.2.1, cl0.2.2.2.2.2.2, cl1.1, cl1.2.1, cl1.2.2.1, cl1.2.2.2.1, cl1.2.2.2.2.1, cl1.2.2.2.2.2.1, cl1.2.2.2.2.2.2, Nat.zero_add, Nat.le_refl]
    rfl
  have no : ∀ u, fX6_copyFrom (t + 30) (s + 30) (pW t u X) = some ((), pW t (P_no (gW s X) u) X) := fun u => by
    simp only [fX6_copyFrom, q_cpok, h.1, h.2.1, h.2.2, st_T s hs, st_L s hs, st_R hs, st_T t ht, st_L t ht, st_R ht, mT_pW, mL_pW, mR_pW, rI, rJ, rI0, g1, g2, g0, mI_pWr, mJ_pWr, wI_pW, wJ_pW, sI_pW, sI_pW0, vI_1, vI_2, vJ_1, vJ_2, uI_1r, uI_2, nm, bd, ne_eq, Nat.add_eq_zero_iff, Nat.reduceEqDiff, Nat.reduceLeDiff, Nat.reduceAdd, and_false, false_and, and_true, true_and, and_self, not_false_eq_true, not_true_eq_false, reduceCtorEq, ↓reduceIte, cl0.1, cl0.2.1, cl0.2.2.1, cl0.2.2.2.1, cl0.2.2.2.2.1, cl0.2.2.2.2.2.1, cl0.2.2.2.2.2.2, cl1.1, cl1.2.1, cl1.2.2.1, cl1.2.2.2.1, cl1.2.2.2.2.1, cl1.2.2.2.2.2.1, cl1.2.2.2.2.2.2, Nat.zero_add, Nat.le_refl]
    rfl
  have cl : ∀ u, fX1_copyFrom (t + 37) (s + 37) (pW t u X) = some ((), pW t (P_cl (gW s X) u) X) := fun u => by
    simp only [fX1_copyFrom, q_cpok, h.1, h.2.1, h.2.2, st_T s hs, st_L s hs, st_R hs, st_T t ht, st_L t ht, st_R ht, mT_pW, mL_pW, mR_pW, rI, rJ, rI0, g1, g2, g0, mI_pWr, mJ_pWr, wI_pW, wJ_pW, sI_pW, sI_pW0, vI_1, vI_2, vJ_1, vJ_2, uI_1r, uI_2, nm, bd, ne_eq, Nat.add_eq_zero_iff, Nat.reduceEqDiff, Nat.reduceLeDiff, Nat.reduceAdd, and_false, false_and, and_true, true_and, and_self, not_false_eq_true, not_true_eq_false, reduceCtorEq, ↓reduceIte, cl0.1, cl0.2.1, cl0.2.2.1, cl0.2.2.2.1, cl0.2.2.2.2.1, cl0.2.2.2.2.2.1, cl0.2.2.2.2.2.2, cl1.1, cl1.2.1, cl1.2.2.1, cl1.2.2.2.1, cl1.2.2.2.2.1, cl1.2.2.2.2.2.1, cl1.2.2.2.2.2.2, Nat.zero_add, Nat.le_refl]
    rfl
  simp only [fX8_copyFrom, q_cpok, h.1, h.2.1, h.2.2, st_T s hs, st_L s hs, st_R hs, st_T t ht, st_L t ht, st_R ht, mT_pW, mL_pW, mR_pW, rI, rJ, rI0, g1, g2, g0, mI_pWr, mJ_pWr, wI_pW, wJ_pW, sI_pW, sI_pW0, vI_1, vI_2, vJ_1, vJ_2, uI_1r, uI_2, nm, bd, ne_eq, Nat.add_eq_zero_iff, Nat.reduceEqDiff, Nat.reduceLeDiff, Nat.reduceAdd, and_false, false_and, and_true, true_and, and_self, not_false_eq_true, not_true_eq_false, reduceCtorEq, ↓reduceIte, cl0.1, cl0.2.1, cl0.2.2.1, cl0.2.2.2.1, cl0.2.2.2.2.1, cl0.2.2.2.2.2.1, cl0.2.2.2.2.2.2, cl1.1, cl1.2.1, cl1.2.2.1, cl1.2.2.2.1, cl1.2.2.2.2.1, cl1.2.2.2.2.2.1, cl1.2.2.2.2.2.2, Nat.zero_add, Nat.le_refl, tr, ev, no, cl]
  rfl
end
