/-! THE CONSTRUCTORS (by program) -/
def z_par : List (Nat × Nat) := [(0, 0), (0, 0), (1, 0), (2, 0), (2, 2), (2, 3), (2, 4), (1, 1), (7, 0), (7, 1), (7, 2), (1, 2), (11, 0), (11, 1), (11, 2), (1, 3), (1, 4), (16, 0), (16, 1), (16, 2), (19, 0), (19, 1), (19, 2), (19, 3), (19, 4), (19, 5), (19, 6), (19, 7), (19, 8), (16, 3), (29, 0), (29, 1), (29, 2), (29, 3), (29, 4), (29, 5), (29, 6), (29, 7), (29, 8), (29, 9), (29, 10), (29, 11), (29, 12), (29, 13), (29, 14), (29, 15), (16, 4), (46, 0), (46, 1), (46, 2), (46, 3), (46, 4), (46, 5), (16, 5), (53, 0), (53, 1), (53, 2), (53, 3), (53, 4), (1, 5), (59, 0), (60, 0), (61, 0), (61, 1), (61, 2), (64, 0), (64, 1), (64, 2), (64, 3), (64, 4), (64, 5), (64, 6), (64, 7), (64, 8), (61, 3), (74, 0), (74, 1), (74, 2), (74, 3), (74, 4), (74, 5), (74, 6), (74, 7), (74, 8), (74, 9), (74, 10), (74, 11), (74, 12), (74, 13), (74, 14), (74, 15), (61, 4), (91, 0), (91, 1), (91, 2), (91, 3), (91, 4), (91, 5), (61, 5), (98, 0), (98, 1), (98, 2), (98, 3), (98, 4), (60, 1), (104, 0), (104, 1), (104, 2), (107, 0), (107, 1), (107, 2), (107, 3), (107, 4), (107, 5), (107, 6), (107, 7), (107, 8), (104, 3), (117, 0), (117, 1), (117, 2), (117, 3), (117, 4), (117, 5), (117, 6), (117, 7), (117, 8), (117, 9), (117, 10), (117, 11), (117, 12), (117, 13), (117, 14), (117, 15), (104, 4), (134, 0), (134, 1), (134, 2), (134, 3), (134, 4), (134, 5), (104, 5), (141, 0), (141, 1), (141, 2), (141, 3), (141, 4), (60, 2), (147, 0), (147, 1), (147, 2), (150, 0), (150, 1), (150, 2), (150, 3), (150, 4), (150, 5), (150, 6), (150, 7), (150, 8), (147, 3), (160, 0), (160, 1), (160, 2), (160, 3), (160, 4), (160, 5), (160, 6), (160, 7), (160, 8), (160, 9), (160, 10), (160, 11), (160, 12), (160, 13), (160, 14), (160, 15), (147, 4), (177, 0), (177, 1), (177, 2), (177, 3), (177, 4), (177, 5), (147, 5), (184, 0), (184, 1), (184, 2), (184, 3), (184, 4), (60, 3), (190, 0), (190, 1), (190, 2), (193, 0), (193, 1), (193, 2), (193, 3), (193, 4), (193, 5), (193, 6), (193, 7), (193, 8), (190, 3), (203, 0), (203, 1), (203, 2), (203, 3), (203, 4), (203, 5), (203, 6), (203, 7), (203, 8), (203, 9), (203, 10), (203, 11), (203, 12), (203, 13), (203, 14), (203, 15), (190, 4), (220, 0), (220, 1), (220, 2), (220, 3), (220, 4), (220, 5), (190, 5), (227, 0), (227, 1), (227, 2), (227, 3), (227, 4), (60, 4), (233, 0), (233, 1), (233, 2), (236, 0), (236, 1), (236, 2), (236, 3), (236, 4), (236, 5), (236, 6), (236, 7), (236, 8), (233, 3), (246, 0), (246, 1), (246, 2), (246, 3), (246, 4), (246, 5), (246, 6), (246, 7), (246, 8), (246, 9), (246, 10), (246, 11), (246, 12), (246, 13), (246, 14), (246, 15), (233, 4), (263, 0), (263, 1), (263, 2), (263, 3), (263, 4), (263, 5), (233, 5), (270, 0), (270, 1), (270, 2), (270, 3), (270, 4), (60, 5), (276, 0), (276, 1), (276, 2), (279, 0), (279, 1), (279, 2), (279, 3), (279, 4), (279, 5), (279, 6), (279, 7), (279, 8), (276, 3), (289, 0), (289, 1), (289, 2), (289, 3), (289, 4), (289, 5), (289, 6), (289, 7), (289, 8), (289, 9), (289, 10), (289, 11), (289, 12), (289, 13), (289, 14), (289, 15), (276, 4), (306, 0), (306, 1), (306, 2), (306, 3), (306, 4), (306, 5), (276, 5), (313, 0), (313, 1), (313, 2), (313, 3), (313, 4), (60, 6), (319, 0), (319, 1), (319, 2), (322, 0), (322, 1), (322, 2), (322, 3), (322, 4), (322, 5), (322, 6), (322, 7), (322, 8), (319, 3), (332, 0), (332, 1), (332, 2), (332, 3), (332, 4), (332, 5), (332, 6), (332, 7), (332, 8), (332, 9), (332, 10), (332, 11), (332, 12), (332, 13), (332, 14), (332, 15), (319, 4), (349, 0), (349, 1), (349, 2), (349, 3), (349, 4), (349, 5), (319, 5), (356, 0), (356, 1), (356, 2), (356, 3), (356, 4), (1, 6), (362, 0), (1, 7), (364, 0), (0, 0), (366, 1), (366, 2), (366, 3), (366, 4), (366, 8), (366, 9), (366, 10), (366, 11), (366, 24), (366, 25), (366, 26), (366, 29), (366, 30), (366, 32), (366, 33)]
def z_ok : Bool := (List.range 382).all fun c => (List.range 36).all fun k => z_r c k == 0 || (z_par.getD (z_r c k) (0, 0) == (c, k) && (decide (c < z_r c k) && (decide (z_r c k ≤ 381) && (z_r c k != 1 && z_r c k != 366))))
theorem z_ok_t : z_ok = true := by decide +kernel
theorem z_len : ∀ r, r ∈ z_R → r.length ≤ 36 := by decide +kernel
theorem z_fact (c k : Nat) (h : z_r c k ≠ 0) : z_par.getD (z_r c k) (0, 0) = (c, k) ∧ c < z_r c k ∧ z_r c k ≤ 381 ∧ z_r c k ≠ 1 ∧ z_r c k ≠ 366 := by
  have hc : c < 382 := by
    by_cases z : c < 382
    · exact z
    · exact absurd (show z_r c k = 0 by
        unfold z_r
        have q : z_R.length = 382 := by decide +kernel
        rw [List.getD_eq_getElem?_getD (l := z_R), List.getElem?_eq_none (by omega)]
        rfl) h
  have hk : k < 36 := by
    by_cases z : k < 36
    · exact z
    · exact absurd (show z_r c k = 0 by
        unfold z_r
        have hl : (z_R.getD c []).length ≤ 36 := by
          have q : z_R.length = 382 := by decide +kernel
          rw [List.getD_eq_getElem?_getD, List.getElem?_eq_getElem (by omega)]
          exact z_len _ (List.getElem_mem _)
        rw [List.getD_eq_getElem?_getD (l := z_R.getD c []), List.getElem?_eq_none (by omega)]
        rfl) h
  have g := z_ok_t
  unfold z_ok at g
  have g1 := List.all_eq_true.mp g c (List.mem_range.mpr hc)
  have g2 := List.all_eq_true.mp g1 k (List.mem_range.mpr hk)
  simp only [Bool.or_eq_true, Bool.and_eq_true, beq_iff_eq, decide_eq_true_eq, bne_iff_ne] at g2
  rcases g2 with g2 | ⟨g2, g3, g4, g5, g6⟩
  · exact absurd g2 h
  · exact ⟨g2, g3, g4, g5, g6⟩
theorem z_inj {c k r j : Nat} (h : z_r r j ≠ 0) (e : z_r c k = z_r r j) : c = r ∧ k = j := by
  have a := (z_fact r j h).1
  have b := (z_fact c k (by rw [e]; exact h)).1
  rw [e] at b
  exact Prod.mk.inj (b.symm.trans a)
def Gd (a : Nat) (p : List Nat) (F : Nat → Nat → Int32) (X : Mm) : Prop := mN X = a ∧ (∀ c, mT X c = if c ≤ a then sh_T c else 99) ∧ (∀ c, mL X c = if c ≤ a then sh_L c else 0) ∧ (∀ c k, mR X c k = if z_r c k ≤ a ∧ z_r c k ∉ p then z_r c k else 0) ∧ (∀ c k, mJ X c k = 0) ∧ mI X = F ∧ (∀ c, a < c → ∀ k, F c k = 0) ∧ ∀ x, x ∈ p → x ≤ a
def OK (o : Option (Unit × Mm)) (Q : Mm → Prop) : Prop := ∃ Y, o = some ((), Y) ∧ Q Y
theorem Gd.T {a : Nat} {p : List Nat} {F : Nat → Nat → Int32} {X : Mm} (h : Gd a p F X) {c : Nat} (hc : c ≤ a) : mT X c = sh_T c := by rw [h.2.1, if_pos hc]
theorem Gd.is {a : Nat} {p : List Nat} {F : Nat → Nat → Int32} {X : Mm} (h : Gd a p F X) {c t : Nat} (hc : c ≤ a) (ht : sh_T c = t) : mT X c = t := (h.T hc).trans ht
theorem Gd.new {a t n : Nat} {p : List Nat} {F : Nat → Nat → Int32} {X : Mm} (h : Gd a p F X) (ht : sh_T (a + 1) = t) (hl : sh_L (a + 1) = n) : Gd (a + 1) ((a + 1) :: p) F (q_nw X t n) := by
  obtain ⟨h1, h2, h3, h4, h5, h6, h7, h8⟩ := h
  refine ⟨by show mN X + 1 = _; rw [h1], fun c => ?_, fun c => ?_, fun c k => ?_, fun c k => ?_, ?_, fun c hc k => h7 c (by omega) k, fun x hx => ?_⟩
  · show q_u1 (mT X) (mN X + 1) t c = _
    rw [h1]
    by_cases e : c = a + 1
    · subst e; rw [q_u1_s, if_pos (Nat.le_refl _), ht]
    · rw [q_u1_n _ _ e, h2]
      by_cases l : c ≤ a
      · rw [if_pos l, if_pos (by omega)]
      · rw [if_neg l, if_neg (by omega)]
  · show q_u1 (mL X) (mN X + 1) n c = _
    rw [h1]
    by_cases e : c = a + 1
    · subst e; rw [q_u1_s, if_pos (Nat.le_refl _), hl]
    · rw [q_u1_n _ _ e, h3]
      by_cases l : c ≤ a
      · rw [if_pos l, if_pos (by omega)]
      · rw [if_neg l, if_neg (by omega)]
  · show q_u1 (mR X) (mN X + 1) (fun _ => 0) c k = _
    rw [h1]
    by_cases z : z_r c k = 0
    · rw [z]
      by_cases e : c = a + 1
      · subst e; rw [q_u1_s]; split <;> rfl
      · rw [q_u1_n _ _ e, h4, z]
        split <;> split <;> rfl
    · have f := z_fact c k z
      by_cases e : c = a + 1
      · subst e
        rw [q_u1_s, if_neg (by omega)]
      · rw [q_u1_n _ _ e, h4]
        by_cases y : z_r c k = a + 1
        · rw [if_neg (by omega), if_neg (fun q => q.2 (by rw [y]; exact List.mem_cons_self))]
        · by_cases m : z_r c k ∈ p
          · rw [if_neg (fun q => q.2 m), if_neg (fun q => q.2 (List.mem_cons_of_mem _ m))]
          · by_cases l : z_r c k ≤ a
            · rw [if_pos ⟨l, m⟩, if_pos ⟨by omega, fun q => by rcases List.mem_cons.mp q with q | q; exact y q; exact m q⟩]
            · rw [if_neg (fun q => l q.1), if_neg (fun q => by omega)]
  · show q_u1 (mJ X) (mN X + 1) (fun _ => 0) c k = 0
    by_cases e : c = mN X + 1
    · subst e; rw [q_u1_s]
    · rw [q_u1_n _ _ e]; exact h5 c k
  · show q_u1 (mI X) (mN X + 1) (fun _ => 0) = F
    funext c k
    rw [h1, h6]
    by_cases e : c = a + 1
    · subst e; rw [q_u1_s, h7 _ (by omega)]
    · rw [q_u1_n _ _ e]
  · rcases List.mem_cons.mp hx with q | q
    · omega
    · have := h8 x q; omega
theorem Gd.set {a r k v : Nat} {p : List Nat} {F : Nat → Nat → Int32} {X : Mm} (h : Gd a (v :: p) F X) (hz : z_r r k = v) (h0 : v ≠ 0) (hp : v ∉ p) : Gd a p F (sR X r k v) := by
  obtain ⟨h1, h2, h3, h4, h5, h6, h7, h8⟩ := h
  refine ⟨h1, h2, h3, fun c j => ?_, h5, h6, h7, fun x hx => h8 x (List.mem_cons_of_mem _ hx)⟩
  show q_u2 (mR X) r k v c j = _
  rw [q_u2_at]
  by_cases e : c = r ∧ j = k
  · obtain ⟨rfl, rfl⟩ := e
    rw [if_pos ⟨rfl, rfl⟩, hz, if_pos ⟨h8 v List.mem_cons_self, hp⟩]
  · rw [if_neg e, h4]
    have nv : z_r c j ≠ v := fun q => e (z_inj (by rw [hz]; exact h0) (by rw [q, hz]))
    by_cases m : z_r c j ∈ p
    · rw [if_neg (fun q => q.2 (List.mem_cons_of_mem _ m)), if_neg (fun q => q.2 m)]
    · by_cases l : z_r c j ≤ a
      · rw [if_pos ⟨l, fun q => by rcases List.mem_cons.mp q with q | q; exact nv q; exact m q⟩, if_pos ⟨l, m⟩]
      · rw [if_neg (fun q => l q.1), if_neg (fun q => l q.1)]
theorem Gd.int {a c k : Nat} {v : Int32} {p : List Nat} {F : Nat → Nat → Int32} {X : Mm} (h : Gd a p F X) (hc : c ≤ a) : Gd a p (q_u2 F c k v) (sI X c k v) := by
  obtain ⟨h1, h2, h3, h4, h5, h6, h7, h8⟩ := h
  refine ⟨h1, h2, h3, h4, h5, by show q_u2 (mI X) c k v = _; rw [h6], fun d hd j => ?_, h8⟩
  rw [q_u2_at, if_neg (by omega)]
  exact h7 d hd j
theorem Gd.fresh {a v : Nat} {p : List Nat} {F : Nat → Nat → Int32} {X : Mm} (h : Gd a p F X) (hv : a < v) : v ∉ p := fun q => by have := h.2.2.2.2.2.2.2 v q; omega
theorem st_arr {a t n r k cls : Nat} {p : List Nat} {F : Nat → Nat → Int32} {X : Mm} {K : Mm → Option (Unit × Mm)} {Q : Mm → Prop} (h : Gd a p F X) (ht : sh_T (a + 1) = t) (hl : sh_L (a + 1) = n) (hr : r ≤ a) (hc : sh_T r = cls) (hz : z_r r k = a + 1) (g : ∀ Y, Gd (a + 1) p F Y → OK (K Y) Q) :
    OK (nm (mN X + 1) fun rN => nm (q_nw X t n) fun X1 => if mT X1 r = cls then if rN ≠ 0 then nm (sR X1 r k rN) fun X2 => K X2 else none else none) Q := by
  have h1 := h.new ht hl
  have h2 := h1.set hz (by omega) (h.fresh (by omega))
  have e := h.1
  simp only [nm, e]
  rw [if_pos ((h1.T (by omega)).trans hc), if_pos (by omega)]
  exact g _ h2
theorem st_obj {a b t n r k cls : Nat} {p : List Nat} {F F' : Nat → Nat → Int32} {X : Mm} {I : Nat → Mm → Option (Unit × Mm)} {K : Mm → Option (Unit × Mm)} {Q : Mm → Prop} (h : Gd a p F X) (ht : sh_T (a + 1) = t) (hl : sh_L (a + 1) = n) (hb : a + 1 ≤ b) (hi : ∀ Y, Gd (a + 1) ((a + 1) :: p) F Y → OK (I (a + 1) Y) (Gd b ((a + 1) :: p) F')) (hr : r ≤ a) (hc : sh_T r = cls) (hz : z_r r k = a + 1) (g : ∀ Y, Gd b p F' Y → OK (K Y) Q) :
    OK (nm (mN X + 1) fun rN => nm (q_nw X t n) fun X1 => bd (I rN X1) fun _ X2 => if mT X2 r = cls then if rN ≠ 0 then nm (sR X2 r k rN) fun X3 => K X3 else none else none) Q := by
  have h1 := h.new ht hl
  have e := h.1
  obtain ⟨Y, y1, y2⟩ := hi _ h1
  have h2 := y2.set hz (by omega) (h.fresh (by omega))
  simp only [nm, e, y1, bd]
  rw [if_pos ((y2.T (by omega)).trans hc), if_pos (by omega)]
  exact g _ h2
theorem st_nm {x : Mm} {K : Mm → Option (Unit × Mm)} {Q : Mm → Prop} (g : OK (K x) Q) : OK (nm x K) Q := g
theorem st_end {X : Mm} {Q : Mm → Prop} (h : Q X) : OK (some ((), X)) Q := ⟨X, rfl, h⟩
/-! a State -/

theorem i_fX10_init {s : Nat} (hs : St s) {p : List Nat} {F : Nat → Nat → Int32} {X : Mm} (h : Gd (s + 3) p F X) : OK (fX10_init (s + 3) X) (Gd (s + 12) p F) := by
  unfold fX10_init
  refine st_arr (a := s + 3) h ((st_T s hs).2.2.2.2.1) ((st_L s hs).2.2.1) (by omega) ((st_T s hs).2.2.2.1) ((st_r s hs).2.2.2.2.2.2.1) (fun Y h => ?_)
  refine st_arr (a := s + 4) h ((st_T s hs).2.2.2.2.2.1) ((st_L s hs).2.2.2.1) (by omega) ((st_T s hs).2.2.2.1) ((st_r s hs).2.2.2.2.2.2.2.1) (fun Y h => ?_)
  refine st_arr (a := s + 5) h ((st_T s hs).2.2.2.2.2.2.1) ((st_L s hs).2.2.2.2.1) (by omega) ((st_T s hs).2.2.2.1) ((st_r s hs).2.2.2.2.2.2.2.2.1) (fun Y h => ?_)
  refine st_arr (a := s + 6) h ((st_T s hs).2.2.2.2.2.2.2.1) ((st_L s hs).2.2.2.2.2.1) (by omega) ((st_T s hs).2.2.2.1) ((st_r s hs).2.2.2.2.2.2.2.2.2.1) (fun Y h => ?_)
  refine st_arr (a := s + 7) h ((st_T s hs).2.2.2.2.2.2.2.2.1) ((st_L s hs).2.2.2.2.2.2.1) (by omega) ((st_T s hs).2.2.2.1) ((st_r s hs).2.2.2.2.2.2.2.2.2.2.1) (fun Y h => ?_)
  refine st_arr (a := s + 8) h ((st_T s hs).2.2.2.2.2.2.2.2.2.1) ((st_L s hs).2.2.2.2.2.2.2.1) (by omega) ((st_T s hs).2.2.2.1) ((st_r s hs).2.2.2.2.2.2.2.2.2.2.2.1) (fun Y h => ?_)
  refine st_arr (a := s + 9) h ((st_T s hs).2.2.2.2.2.2.2.2.2.2.1) ((st_L s hs).2.2.2.2.2.2.2.2.1) (by omega) ((st_T s hs).2.2.2.1) ((st_r s hs).2.2.2.2.2.2.2.2.2.2.2.2.1) (fun Y h => ?_)
  refine st_arr (a := s + 10) h ((st_T s hs).2.2.2.2.2.2.2.2.2.2.2.1) ((st_L s hs).2.2.2.2.2.2.2.2.2.1) (by omega) ((st_T s hs).2.2.2.1) ((st_r s hs).2.2.2.2.2.2.2.2.2.2.2.2.2.1) (fun Y h => ?_)
  refine st_arr (a := s + 11) h ((st_T s hs).2.2.2.2.2.2.2.2.2.2.2.2.1) ((st_L s hs).2.2.2.2.2.2.2.2.2.2.1) (by omega) ((st_T s hs).2.2.2.1) ((st_r s hs).2.2.2.2.2.2.2.2.2.2.2.2.2.2.1) (fun Y h => ?_)
  exact st_end h
theorem i_fX3_init {s : Nat} (hs : St s) {p : List Nat} {F : Nat → Nat → Int32} {X : Mm} (h : Gd (s + 13) p F X) : OK (fX3_init (s + 13) X) (Gd (s + 29) p F) := by
  unfold fX3_init
  refine st_arr (a := s + 13) h ((st_T s hs).2.2.2.2.2.2.2.2.2.2.2.2.2.2.1) ((st_L s hs).2.2.2.2.2.2.2.2.2.2.2.1) (by omega) ((st_T s hs).2.2.2.2.2.2.2.2.2.2.2.2.2.1) ((st_r s hs).2.2.2.2.2.2.2.2.2.2.2.2.2.2.2.1) (fun Y h => ?_)
  refine st_arr (a := s + 14) h ((st_T s hs).2.2.2.2.2.2.2.2.2.2.2.2.2.2.2.1) ((st_L s hs).2.2.2.2.2.2.2.2.2.2.2.2.1) (by omega) ((st_T s hs).2.2.2.2.2.2.2.2.2.2.2.2.2.1) ((st_r s hs).2.2.2.2.2.2.2.2.2.2.2.2.2.2.2.2.1) (fun Y h => ?_)
  refine st_arr (a := s + 15) h ((st_T s hs).2.2.2.2.2.2.2.2.2.2.2.2.2.2.2.2.1) ((st_L s hs).2.2.2.2.2.2.2.2.2.2.2.2.2.1) (by omega) ((st_T s hs).2.2.2.2.2.2.2.2.2.2.2.2.2.1) ((st_r s hs).2.2.2.2.2.2.2.2.2.2.2.2.2.2.2.2.2.1) (fun Y h => ?_)
  refine st_arr (a := s + 16) h ((st_T s hs).2.2.2.2.2.2.2.2.2.2.2.2.2.2.2.2.2.1) ((st_L s hs).2.2.2.2.2.2.2.2.2.2.2.2.2.2.1) (by omega) ((st_T s hs).2.2.2.2.2.2.2.2.2.2.2.2.2.1) ((st_r s hs).2.2.2.2.2.2.2.2.2.2.2.2.2.2.2.2.2.2.1) (fun Y h => ?_)
  refine st_arr (a := s + 17) h ((st_T s hs).2.2.2.2.2.2.2.2.2.2.2.2.2.2.2.2.2.2.1) ((st_L s hs).2.2.2.2.2.2.2.2.2.2.2.2.2.2.2.1) (by omega) ((st_T s hs).2.2.2.2.2.2.2.2.2.2.2.2.2.1) ((st_r s hs).2.2.2.2.2.2.2.2.2.2.2.2.2.2.2.2.2.2.2.1) (fun Y h => ?_)
  refine st_arr (a := s + 18) h ((st_T s hs).2.2.2.2.2.2.2.2.2.2.2.2.2.2.2.2.2.2.2.1) ((st_L s hs).2.2.2.2.2.2.2.2.2.2.2.2.2.2.2.2.1) (by omega) ((st_T s hs).2.2.2.2.2.2.2.2.2.2.2.2.2.1) ((st_r s hs).2.2.2.2.2.2.2.2.2.2.2.2.2.2.2.2.2.2.2.2.1) (fun Y h => ?_)
  refine st_arr (a := s + 19) h ((st_T s hs).2.2.2.2.2.2.2.2.2.2.2.2.2.2.2.2.2.2.2.2.1) ((st_L s hs).2.2.2.2.2.2.2.2.2.2.2.2.2.2.2.2.2.1) (by omega) ((st_T s hs).2.2.2.2.2.2.2.2.2.2.2.2.2.1) ((st_r s hs).2.2.2.2.2.2.2.2.2.2.2.2.2.2.2.2.2.2.2.2.2.1) (fun Y h => ?_)
  refine st_arr (a := s + 20) h ((st_T s hs).2.2.2.2.2.2.2.2.2.2.2.2.2.2.2.2.2.2.2.2.2.1) ((st_L s hs).2.2.2.2.2.2.2.2.2.2.2.2.2.2.2.2.2.2.1) (by omega) ((st_T s hs).2.2.2.2.2.2.2.2.2.2.2.2.2.1) ((st_r s hs).2.2.2.2.2.2.2.2.2.2.2.2.2.2.2.2.2.2.2.2.2.2.1) (fun Y h => ?_)
  refine st_arr (a := s + 21) h ((st_T s hs).2.2.2.2.2.2.2.2.2.2.2.2.2.2.2.2.2.2.2.2.2.2.1) ((st_L s hs).2.2.2.2.2.2.2.2.2.2.2.2.2.2.2.2.2.2.2.1) (by omega) ((st_T s hs).2.2.2.2.2.2.2.2.2.2.2.2.2.1) ((st_r s hs).2.2.2.2.2.2.2.2.2.2.2.2.2.2.2.2.2.2.2.2.2.2.2.1) (fun Y h => ?_)
  refine st_arr (a := s + 22) h ((st_T s hs).2.2.2.2.2.2.2.2.2.2.2.2.2.2.2.2.2.2.2.2.2.2.2.1) ((st_L s hs).2.2.2.2.2.2.2.2.2.2.2.2.2.2.2.2.2.2.2.2.1) (by omega) ((st_T s hs).2.2.2.2.2.2.2.2.2.2.2.2.2.1) ((st_r s hs).2.2.2.2.2.2.2.2.2.2.2.2.2.2.2.2.2.2.2.2.2.2.2.2.1) (fun Y h => ?_)
  refine st_arr (a := s + 23) h ((st_T s hs).2.2.2.2.2.2.2.2.2.2.2.2.2.2.2.2.2.2.2.2.2.2.2.2.1) ((st_L s hs).2.2.2.2.2.2.2.2.2.2.2.2.2.2.2.2.2.2.2.2.2.1) (by omega) ((st_T s hs).2.2.2.2.2.2.2.2.2.2.2.2.2.1) ((st_r s hs).2.2.2.2.2.2.2.2.2.2.2.2.2.2.2.2.2.2.2.2.2.2.2.2.2.1) (fun Y h => ?_)
  refine st_arr (a := s + 24) h ((st_T s hs).2.2.2.2.2.2.2.2.2.2.2.2.2.2.2.2.2.2.2.2.2.2.2.2.2.1) ((st_L s hs).2.2.2.2.2.2.2.2.2.2.2.2.2.2.2.2.2.2.2.2.2.2.1) (by omega) ((st_T s hs).2.2.2.2.2.2.2.2.2.2.2.2.2.1) ((st_r s hs).2.2.2.2.2.2.2.2.2.2.2.2.2.2.2.2.2.2.2.2.2.2.2.2.2.2.1) (fun Y h => ?_)
  refine st_arr (a := s + 25) h ((st_T s hs).2.2.2.2.2.2.2.2.2.2.2.2.2.2.2.2.2.2.2.2.2.2.2.2.2.2.1) ((st_L s hs).2.2.2.2.2.2.2.2.2.2.2.2.2.2.2.2.2.2.2.2.2.2.2.1) (by omega) ((st_T s hs).2.2.2.2.2.2.2.2.2.2.2.2.2.1) ((st_r s hs).2.2.2.2.2.2.2.2.2.2.2.2.2.2.2.2.2.2.2.2.2.2.2.2.2.2.2.1) (fun Y h => ?_)
  refine st_arr (a := s + 26) h ((st_T s hs).2.2.2.2.2.2.2.2.2.2.2.2.2.2.2.2.2.2.2.2.2.2.2.2.2.2.2.1) ((st_L s hs).2.2.2.2.2.2.2.2.2.2.2.2.2.2.2.2.2.2.2.2.2.2.2.2.1) (by omega) ((st_T s hs).2.2.2.2.2.2.2.2.2.2.2.2.2.1) ((st_r s hs).2.2.2.2.2.2.2.2.2.2.2.2.2.2.2.2.2.2.2.2.2.2.2.2.2.2.2.2.1) (fun Y h => ?_)
  refine st_arr (a := s + 27) h ((st_T s hs).2.2.2.2.2.2.2.2.2.2.2.2.2.2.2.2.2.2.2.2.2.2.2.2.2.2.2.2.1) ((st_L s hs).2.2.2.2.2.2.2.2.2.2.2.2.2.2.2.2.2.2.2.2.2.2.2.2.2.1) (by omega) ((st_T s hs).2.2.2.2.2.2.2.2.2.2.2.2.2.1) ((st_r s hs).2.2.2.2.2.2.2.2.2.2.2.2.2.2.2.2.2.2.2.2.2.2.2.2.2.2.2.2.2.1) (fun Y h => ?_)
  refine st_arr (a := s + 28) h ((st_T s hs).2.2.2.2.2.2.2.2.2.2.2.2.2.2.2.2.2.2.2.2.2.2.2.2.2.2.2.2.2.1) ((st_L s hs).2.2.2.2.2.2.2.2.2.2.2.2.2.2.2.2.2.2.2.2.2.2.2.2.2.2.1) (by omega) ((st_T s hs).2.2.2.2.2.2.2.2.2.2.2.2.2.1) ((st_r s hs).2.2.2.2.2.2.2.2.2.2.2.2.2.2.2.2.2.2.2.2.2.2.2.2.2.2.2.2.2.2.1) (fun Y h => ?_)
  exact st_end h
theorem i_fX6_init {s : Nat} (hs : St s) {p : List Nat} {F : Nat → Nat → Int32} {X : Mm} (h : Gd (s + 30) p F X) : OK (fX6_init (s + 30) X) (Gd (s + 36) p F) := by
  unfold fX6_init
  refine st_arr (a := s + 30) h ((st_T s hs).2.2.2.2.2.2.2.2.2.2.2.2.2.2.2.2.2.2.2.2.2.2.2.2.2.2.2.2.2.2.2.1) ((st_L s hs).2.2.2.2.2.2.2.2.2.2.2.2.2.2.2.2.2.2.2.2.2.2.2.2.2.2.2.1) (by omega) ((st_T s hs).2.2.2.2.2.2.2.2.2.2.2.2.2.2.2.2.2.2.2.2.2.2.2.2.2.2.2.2.2.2.1) ((st_r s hs).2.2.2.2.2.2.2.2.2.2.2.2.2.2.2.2.2.2.2.2.2.2.2.2.2.2.2.2.2.2.2.1) (fun Y h => ?_)
  refine st_arr (a := s + 31) h ((st_T s hs).2.2.2.2.2.2.2.2.2.2.2.2.2.2.2.2.2.2.2.2.2.2.2.2.2.2.2.2.2.2.2.2.1) ((st_L s hs).2.2.2.2.2.2.2.2.2.2.2.2.2.2.2.2.2.2.2.2.2.2.2.2.2.2.2.2.1) (by omega) ((st_T s hs).2.2.2.2.2.2.2.2.2.2.2.2.2.2.2.2.2.2.2.2.2.2.2.2.2.2.2.2.2.2.1) ((st_r s hs).2.2.2.2.2.2.2.2.2.2.2.2.2.2.2.2.2.2.2.2.2.2.2.2.2.2.2.2.2.2.2.2.1) (fun Y h => ?_)
  refine st_arr (a := s + 32) h ((st_T s hs).2.2.2.2.2.2.2.2.2.2.2.2.2.2.2.2.2.2.2.2.2.2.2.2.2.2.2.2.2.2.2.2.2.1) ((st_L s hs).2.2.2.2.2.2.2.2.2.2.2.2.2.2.2.2.2.2.2.2.2.2.2.2.2.2.2.2.2.1) (by omega) ((st_T s hs).2.2.2.2.2.2.2.2.2.2.2.2.2.2.2.2.2.2.2.2.2.2.2.2.2.2.2.2.2.2.1) ((st_r s hs).2.2.2.2.2.2.2.2.2.2.2.2.2.2.2.2.2.2.2.2.2.2.2.2.2.2.2.2.2.2.2.2.2.1) (fun Y h => ?_)
  refine st_arr (a := s + 33) h ((st_T s hs).2.2.2.2.2.2.2.2.2.2.2.2.2.2.2.2.2.2.2.2.2.2.2.2.2.2.2.2.2.2.2.2.2.2.1) ((st_L s hs).2.2.2.2.2.2.2.2.2.2.2.2.2.2.2.2.2.2.2.2.2.2.2.2.2.2.2.2.2.2.1) (by omega) ((st_T s hs).2.2.2.2.2.2.2.2.2.2.2.2.2.2.2.2.2.2.2.2.2.2.2.2.2.2.2.2.2.2.1) ((st_r s hs).2.2.2.2.2.2.2.2.2.2.2.2.2.2.2.2.2.2.2.2.2.2.2.2.2.2.2.2.2.2.2.2.2.2.1) (fun Y h => ?_)
  refine st_arr (a := s + 34) h ((st_T s hs).2.2.2.2.2.2.2.2.2.2.2.2.2.2.2.2.2.2.2.2.2.2.2.2.2.2.2.2.2.2.2.2.2.2.2.1) ((st_L s hs).2.2.2.2.2.2.2.2.2.2.2.2.2.2.2.2.2.2.2.2.2.2.2.2.2.2.2.2.2.2.2.1) (by omega) ((st_T s hs).2.2.2.2.2.2.2.2.2.2.2.2.2.2.2.2.2.2.2.2.2.2.2.2.2.2.2.2.2.2.1) ((st_r s hs).2.2.2.2.2.2.2.2.2.2.2.2.2.2.2.2.2.2.2.2.2.2.2.2.2.2.2.2.2.2.2.2.2.2.2.1) (fun Y h => ?_)
  refine st_arr (a := s + 35) h ((st_T s hs).2.2.2.2.2.2.2.2.2.2.2.2.2.2.2.2.2.2.2.2.2.2.2.2.2.2.2.2.2.2.2.2.2.2.2.2.1) ((st_L s hs).2.2.2.2.2.2.2.2.2.2.2.2.2.2.2.2.2.2.2.2.2.2.2.2.2.2.2.2.2.2.2.2.1) (by omega) ((st_T s hs).2.2.2.2.2.2.2.2.2.2.2.2.2.2.2.2.2.2.2.2.2.2.2.2.2.2.2.2.2.2.1) ((st_r s hs).2.2.2.2.2.2.2.2.2.2.2.2.2.2.2.2.2.2.2.2.2.2.2.2.2.2.2.2.2.2.2.2.2.2.2.2.1) (fun Y h => ?_)
  exact st_end h
theorem i_fX1_init {s : Nat} (hs : St s) {p : List Nat} {F : Nat → Nat → Int32} {X : Mm} (h : Gd (s + 37) p F X) : OK (fX1_init (s + 37) X) (Gd (s + 42) p F) := by
  unfold fX1_init
  refine st_arr (a := s + 37) h ((st_T s hs).2.2.2.2.2.2.2.2.2.2.2.2.2.2.2.2.2.2.2.2.2.2.2.2.2.2.2.2.2.2.2.2.2.2.2.2.2.2.1) ((st_L s hs).2.2.2.2.2.2.2.2.2.2.2.2.2.2.2.2.2.2.2.2.2.2.2.2.2.2.2.2.2.2.2.2.2.1) (by omega) ((st_T s hs).2.2.2.2.2.2.2.2.2.2.2.2.2.2.2.2.2.2.2.2.2.2.2.2.2.2.2.2.2.2.2.2.2.2.2.2.2.1) ((st_r s hs).2.2.2.2.2.2.2.2.2.2.2.2.2.2.2.2.2.2.2.2.2.2.2.2.2.2.2.2.2.2.2.2.2.2.2.2.2.1) (fun Y h => ?_)
  refine st_arr (a := s + 38) h ((st_T s hs).2.2.2.2.2.2.2.2.2.2.2.2.2.2.2.2.2.2.2.2.2.2.2.2.2.2.2.2.2.2.2.2.2.2.2.2.2.2.2.1) ((st_L s hs).2.2.2.2.2.2.2.2.2.2.2.2.2.2.2.2.2.2.2.2.2.2.2.2.2.2.2.2.2.2.2.2.2.2.1) (by omega) ((st_T s hs).2.2.2.2.2.2.2.2.2.2.2.2.2.2.2.2.2.2.2.2.2.2.2.2.2.2.2.2.2.2.2.2.2.2.2.2.2.1) ((st_r s hs).2.2.2.2.2.2.2.2.2.2.2.2.2.2.2.2.2.2.2.2.2.2.2.2.2.2.2.2.2.2.2.2.2.2.2.2.2.2.1) (fun Y h => ?_)
  refine st_arr (a := s + 39) h ((st_T s hs).2.2.2.2.2.2.2.2.2.2.2.2.2.2.2.2.2.2.2.2.2.2.2.2.2.2.2.2.2.2.2.2.2.2.2.2.2.2.2.2.1) ((st_L s hs).2.2.2.2.2.2.2.2.2.2.2.2.2.2.2.2.2.2.2.2.2.2.2.2.2.2.2.2.2.2.2.2.2.2.2.1) (by omega) ((st_T s hs).2.2.2.2.2.2.2.2.2.2.2.2.2.2.2.2.2.2.2.2.2.2.2.2.2.2.2.2.2.2.2.2.2.2.2.2.2.1) ((st_r s hs).2.2.2.2.2.2.2.2.2.2.2.2.2.2.2.2.2.2.2.2.2.2.2.2.2.2.2.2.2.2.2.2.2.2.2.2.2.2.2.1) (fun Y h => ?_)
  refine st_arr (a := s + 40) h ((st_T s hs).2.2.2.2.2.2.2.2.2.2.2.2.2.2.2.2.2.2.2.2.2.2.2.2.2.2.2.2.2.2.2.2.2.2.2.2.2.2.2.2.2.1) ((st_L s hs).2.2.2.2.2.2.2.2.2.2.2.2.2.2.2.2.2.2.2.2.2.2.2.2.2.2.2.2.2.2.2.2.2.2.2.2.1) (by omega) ((st_T s hs).2.2.2.2.2.2.2.2.2.2.2.2.2.2.2.2.2.2.2.2.2.2.2.2.2.2.2.2.2.2.2.2.2.2.2.2.2.1) ((st_r s hs).2.2.2.2.2.2.2.2.2.2.2.2.2.2.2.2.2.2.2.2.2.2.2.2.2.2.2.2.2.2.2.2.2.2.2.2.2.2.2.2.1) (fun Y h => ?_)
  refine st_arr (a := s + 41) h ((st_T s hs).2.2.2.2.2.2.2.2.2.2.2.2.2.2.2.2.2.2.2.2.2.2.2.2.2.2.2.2.2.2.2.2.2.2.2.2.2.2.2.2.2.2) ((st_L s hs).2.2.2.2.2.2.2.2.2.2.2.2.2.2.2.2.2.2.2.2.2.2.2.2.2.2.2.2.2.2.2.2.2.2.2.2.2) (by omega) ((st_T s hs).2.2.2.2.2.2.2.2.2.2.2.2.2.2.2.2.2.2.2.2.2.2.2.2.2.2.2.2.2.2.2.2.2.2.2.2.2.1) ((st_r s hs).2.2.2.2.2.2.2.2.2.2.2.2.2.2.2.2.2.2.2.2.2.2.2.2.2.2.2.2.2.2.2.2.2.2.2.2.2.2.2.2.2) (fun Y h => ?_)
  exact st_end h
theorem i_fX8_init {s : Nat} (hs : St s) {p : List Nat} {F : Nat → Nat → Int32} {X : Mm} (h : Gd s p F X) : OK (fX8_init s X) (Gd (s + 42) p F) := by
  unfold fX8_init
  have l3 : sh_L (s + 3) = 10 ∧ sh_L (s + 13) = 17 ∧ sh_L (s + 30) = 6 ∧ sh_L (s + 37) = 5 := by
    have g : ∀ s, s ∈ st_all → sh_L (s + 3) = 10 ∧ sh_L (s + 13) = 17 ∧ sh_L (s + 30) = 6 ∧ sh_L (s + 37) = 5 := by decide +kernel
    exact g s hs
  refine st_arr (a := s) h ((st_T s hs).2.1) ((st_L s hs).1) (by omega) ((st_T s hs).1) ((st_r s hs).1) (fun Y h => ?_)
  refine st_arr (a := s + 1) h ((st_T s hs).2.2.1) ((st_L s hs).2.1) (by omega) ((st_T s hs).1) ((st_r s hs).2.1) (fun Y h => ?_)
  refine st_obj (a := s + 2) (b := s + 12) h ((st_T s hs).2.2.2.1) (l3.1) (by omega) (fun Y h => i_fX10_init hs h) (by omega) ((st_T s hs).1) ((st_r s hs).2.2.1) (fun Y h => ?_)
  refine st_obj (a := s + 12) (b := s + 29) h ((st_T s hs).2.2.2.2.2.2.2.2.2.2.2.2.2.1) (l3.2.1) (by omega) (fun Y h => i_fX3_init hs h) (by omega) ((st_T s hs).1) ((st_r s hs).2.2.2.1) (fun Y h => ?_)
  refine st_obj (a := s + 29) (b := s + 36) h ((st_T s hs).2.2.2.2.2.2.2.2.2.2.2.2.2.2.2.2.2.2.2.2.2.2.2.2.2.2.2.2.2.2.1) (l3.2.2.1) (by omega) (fun Y h => i_fX6_init hs h) (by omega) ((st_T s hs).1) ((st_r s hs).2.2.2.2.1) (fun Y h => ?_)
  refine st_obj (a := s + 36) (b := s + 42) h ((st_T s hs).2.2.2.2.2.2.2.2.2.2.2.2.2.2.2.2.2.2.2.2.2.2.2.2.2.2.2.2.2.2.2.2.2.2.2.2.2.1) (l3.2.2.2) (by omega) (fun Y h => i_fX1_init hs h) (by omega) ((st_T s hs).1) ((st_r s hs).2.2.2.2.2.1) (fun Y h => ?_)
  exact st_end h
/-! the class -/
theorem st_sl {a j : Nat} {cj : Int32} {p : List Nat} {F : Nat → Nat → Int32} {X : Mm} {K : Mm → Option (Unit × Mm)} {Q : Mm → Prop} (h : Gd a p F X) (hb : 60 ≤ a) (hp : 60 ∉ p) (hs : St (a + 1)) (ht : sh_T (a + 1) = 8) (hl : sh_L (a + 1) = 9) (hz : z_r 60 j = a + 1) (hj : cj.toNatClampNeg = j ∧ 0 ≤ cj.toInt ∧ cj.toInt < 7 ∧ ¬ (6 : Int32) < cj) (g : ∀ Y, Gd (a + 43) p F Y → OK (K Y) Q) :
    OK (if (6 : Int32) < cj then none else if mT X 59 = 4 then if mR X 59 0 ≠ 0 then nm (mN X + 1) fun rN => nm (q_nw X 8 9) fun X1 => bd (fX8_init rN X1) fun _ X2 => if mT X2 (mR X 59 0) = 17 then if q_b X2 (mR X 59 0) cj then if mT X2 rN = 8 then nm (sR X2 (mR X 59 0) cj.toNatClampNeg rN) fun X3 => K X3 else none else none else none else none else none) Q := by
  have h1 := h.new ht hl
  have e := h.1
  have r : mR X 59 0 = 60 := by rw [h.2.2.2.1, show z_r 59 0 = 60 from rfl, if_pos ⟨hb, hp⟩]
  obtain ⟨Y, y1, y2⟩ := i_fX8_init hs h1
  rw [show a + 1 + 42 = a + 43 by omega] at y2
  have h2 := y2.set hz (by omega) (h.fresh (by omega))
  have l : mL Y 60 = 7 := by rw [y2.2.2.1, if_pos (by omega)]; rfl
  simp only [nm, e, y1, bd, r]
  rw [if_neg hj.2.2.2, if_pos (h.is (c := 59) (t := 4) (by omega) rfl), if_pos (by decide), if_pos (y2.is (c := 60) (t := 17) (by omega) rfl), if_pos ⟨hj.2.1, by rw [l]; exact hj.2.2.1⟩, if_pos (y2.is (by omega) ht), hj.1]
  exact g _ h2
theorem i_fX4_init {p : List Nat} {F : Nat → Nat → Int32} {X : Mm} (h : Gd 59 p F X) (hp : 60 ∉ p) : OK (fX4_init 59 X) (Gd 361 p F) := by
  unfold fX4_init
  refine st_arr (a := 59) h rfl rfl (by omega) rfl rfl (fun Y h => ?_)
  refine st_sl (a := 60) (j := 0) h (by omega) hp (by unfold St; decide) rfl rfl rfl (by decide) (fun Y h => ?_)
  refine st_sl (a := 103) (j := 1) h (by omega) hp (by unfold St; decide) rfl rfl rfl (by decide) (fun Y h => ?_)
  refine st_sl (a := 146) (j := 2) h (by omega) hp (by unfold St; decide) rfl rfl rfl (by decide) (fun Y h => ?_)
  refine st_sl (a := 189) (j := 3) h (by omega) hp (by unfold St; decide) rfl rfl rfl (by decide) (fun Y h => ?_)
  refine st_sl (a := 232) (j := 4) h (by omega) hp (by unfold St; decide) rfl rfl rfl (by decide) (fun Y h => ?_)
  refine st_sl (a := 275) (j := 5) h (by omega) hp (by unfold St; decide) rfl rfl rfl (by decide) (fun Y h => ?_)
  refine st_sl (a := 318) (j := 6) h (by omega) hp (by unfold St; decide) rfl rfl rfl (by decide) (fun Y h => ?_)
  rw [if_pos (by decide)]
  exact st_end h
theorem i_fX0_init_7 {p : List Nat} {F : Nat → Nat → Int32} {X : Mm} (h : Gd 7 p F X) : OK (fX0_init 7 X) (Gd 10 p F) := by
  unfold fX0_init
  refine st_arr (a := 7) h rfl rfl (by omega) rfl rfl (fun Y h => ?_)
  refine st_arr (a := 8) h rfl rfl (by omega) rfl rfl (fun Y h => ?_)
  refine st_arr (a := 9) h rfl rfl (by omega) rfl rfl (fun Y h => ?_)
  exact st_end h
theorem i_fX0_init_11 {p : List Nat} {F : Nat → Nat → Int32} {X : Mm} (h : Gd 11 p F X) : OK (fX0_init 11 X) (Gd 14 p F) := by
  unfold fX0_init
  refine st_arr (a := 11) h rfl rfl (by omega) rfl rfl (fun Y h => ?_)
  refine st_arr (a := 12) h rfl rfl (by omega) rfl rfl (fun Y h => ?_)
  refine st_arr (a := 13) h rfl rfl (by omega) rfl rfl (fun Y h => ?_)
  exact st_end h
theorem i_fX7_init_362 {p : List Nat} {F : Nat → Nat → Int32} {X : Mm} (h : Gd 362 p F X) : OK (fX7_init 362 X) (Gd 363 p F) := by
  unfold fX7_init
  refine st_arr (a := 362) h rfl rfl (by omega) rfl rfl (fun Y h => ?_)
  exact st_end h
theorem i_fX5_init_364 {p : List Nat} {F : Nat → Nat → Int32} {X : Mm} (h : Gd 364 p F X) : OK (fX5_init 364 X) (Gd 365 p F) := by
  unfold fX5_init
  refine st_arr (a := 364) h rfl rfl (by omega) rfl rfl (fun Y h => ?_)
  exact st_end h
theorem i_fX9_init {p : List Nat} {F : Nat → Nat → Int32} {X : Mm} (h : Gd 2 p F X) : OK (fX9_init 2 X) (Gd 6 p (q_u2 F 2 7 (-1))) := by
  unfold fX9_init
  refine st_arr (a := 2) h rfl rfl (by omega) rfl rfl (fun Y h => ?_)
  refine st_arr (a := 3) h rfl rfl (by omega) rfl rfl (fun Y h => ?_)
  refine st_arr (a := 4) h rfl rfl (by omega) rfl rfl (fun Y h => ?_)
  refine st_arr (a := 5) h rfl rfl (by omega) rfl rfl (fun Y h => ?_)
  rw [if_pos (h.is (c := 2) (t := 9) (by omega) rfl)]
  exact st_end (h.int (by omega))
theorem i_fX11_init {F : Nat → Nat → Int32} {X : Mm} (h : Gd 1 [1] F X) : OK (fX11_init 1 X) (Gd 365 [1] (q_u2 F 2 7 (-1))) := by
  unfold fX11_init
  refine st_obj (a := 1) (b := 6) h rfl rfl (by omega) (fun Y h => i_fX9_init h) (by omega) rfl rfl (fun Y h => ?_)
  refine st_obj (a := 6) (b := 10) h rfl rfl (by omega) (fun Y h => i_fX0_init_7 h) (by omega) rfl rfl (fun Y h => ?_)
  refine st_obj (a := 10) (b := 14) h rfl rfl (by omega) (fun Y h => i_fX0_init_11 h) (by omega) rfl rfl (fun Y h => ?_)
  refine st_obj (a := 14) (b := 15) h rfl rfl (by omega) (fun Y h => st_end h) (by omega) rfl rfl (fun Y h => ?_)
  refine st_obj (a := 15) (b := 58) h rfl rfl (by omega) (fun Y h => i_fX8_init (s := 16) (by unfold St; decide) h) (by omega) rfl rfl (fun Y h => ?_)
  refine st_obj (a := 58) (b := 361) h rfl rfl (by omega) (fun Y h => i_fX4_init h (by decide)) (by omega) rfl rfl (fun Y h => ?_)
  refine st_obj (a := 361) (b := 363) h rfl rfl (by omega) (fun Y h => i_fX7_init_362 h) (by omega) rfl rfl (fun Y h => ?_)
  refine st_obj (a := 363) (b := 365) h rfl rfl (by omega) (fun Y h => i_fX5_init_364 h) (by omega) rfl rfl (fun Y h => ?_)
  exact st_end h
/-! the reference -/
def F1 : Nat → Nat → Int32 := q_u2 (fun _ _ => 0) 2 7 (-1)
def Gl (m : Nat) (X : Mm) : Prop := ∃ F, Gd 373 [373, 366, 1] F X ∧ (∀ i, i < m → F 373 i = q_kb.getD i 0) ∧ ∀ c k, c ≠ 373 → F c k = F1 c k
theorem st_let {m : Nat} {j b : Int32} {X : Mm} {K : Mm → Option (Unit × Mm)} {Q : Mm → Prop} (h : Gl m X) (hj : j.toNatClampNeg = m ∧ 0 ≤ j.toInt ∧ j.toInt < 113) (hb : b.toInt8.toInt32 = q_kb.getD m 0) (g : ∀ Y, Gl (m + 1) Y → OK (K Y) Q) : OK (if mT X 373 = 16 then if q_b X 373 j then nm (sI X 373 j.toNatClampNeg b.toInt8.toInt32) fun Y => K Y else none else none) Q := by
  obtain ⟨F, h1, h2, h3⟩ := h
  have l : mL X 373 = 113 := by rw [h1.2.2.1, if_pos (by omega)]; rfl
  rw [if_pos (h1.is (c := 373) (t := 16) (by omega) rfl), if_pos ⟨hj.2.1, by rw [l]; exact hj.2.2⟩, hj.1, hb]
  refine g _ ⟨_, h1.int (by omega), fun i hi => ?_, fun c k hc => ?_⟩
  · rw [q_u2_at]
    by_cases e : i = m
    · subst e; rw [if_pos ⟨rfl, rfl⟩]
    · rw [if_neg (fun z => e z.2)]; exact h2 i (by omega)
  · rw [q_u2_at, if_neg (fun z => hc z.1)]; exact h3 c k hc
def Fin12 (X : Mm) : Prop := ∃ F, Gd 381 [366, 1] F X ∧ (∀ i, i < 113 → F 373 i = q_kb.getD i 0) ∧ (∀ c k, c ≠ 373 → c ≠ 366 → F c k = F1 c k) ∧ ∀ k, F 366 k = if k = 23 then -1 else 0
theorem i_fX12_init_L731 {X : Mm} (h : Gl 112 X) : OK (fX12_init_L731 366 32 112 373 373 366 X) Fin12 := by
  unfold fX12_init_L731
  refine st_let h (by decide) (by decide) (fun Y h => ?_)
  obtain ⟨F, h1, h2, h3⟩ := h
  have s := h1.set (r := 366) (k := 10) rfl (by decide) (by decide)
  rw [if_pos (h1.is (c := 366) (t := 12) (by omega) rfl), if_pos (by decide)]
  refine st_nm ?_
  refine st_arr (a := 373) s rfl rfl (by omega) rfl rfl (fun Y h => ?_)
  rw [if_pos (h.is (c := 366) (t := 12) (by omega) rfl)]
  have h := h.int (c := 366) (k := 23) (v := -1) (by omega)
  refine st_nm ?_
  refine st_arr (a := 374) h rfl rfl (by omega) rfl rfl (fun Y h => ?_)
  refine st_arr (a := 375) h rfl rfl (by omega) rfl rfl (fun Y h => ?_)
  refine st_arr (a := 376) h rfl rfl (by omega) rfl rfl (fun Y h => ?_)
  refine st_arr (a := 377) h rfl rfl (by omega) rfl rfl (fun Y h => ?_)
  refine st_arr (a := 378) h rfl rfl (by omega) rfl rfl (fun Y h => ?_)
  unfold fX12_init_L791
  refine st_arr (a := 379) h rfl rfl (by omega) rfl rfl (fun Y h => ?_)
  refine st_arr (a := 380) h rfl rfl (by omega) rfl rfl (fun Y h => ?_)
  refine st_end ⟨_, h, fun i hi => ?_, fun c k h1 h2' => ?_, fun k => ?_⟩
  · rw [q_u2_at, if_neg (by omega)]; exact h2 i (by omega)
  · rw [q_u2_at, if_neg (fun z => h2' z.1)]; exact h3 c k h1
  · rw [q_u2_at]
    by_cases e : k = 23
    · rw [if_pos ⟨rfl, e⟩, if_pos e]
    · rw [if_neg (fun z => e z.2), if_neg e, h3 _ _ (by decide)]
      unfold F1
      rw [q_u2_at, if_neg (by omega)]
theorem i_fX12_init_L685 {X : Mm} (h : Gl 105 X) : OK (fX12_init_L685 366 373 373 366 X) Fin12 := by
  unfold fX12_init_L685
  refine st_let h (by decide) (by decide) (fun Y h => ?_)
  refine st_let h (by decide) (by decide) (fun Y h => ?_)
  refine st_let h (by decide) (by decide) (fun Y h => ?_)
  refine st_let h (by decide) (by decide) (fun Y h => ?_)
  refine st_let h (by decide) (by decide) (fun Y h => ?_)
  refine st_let h (by decide) (by decide) (fun Y h => ?_)
  refine st_let h (by decide) (by decide) (fun Y h => ?_)
  exact i_fX12_init_L731 h
theorem i_fX12_init_L641 {X : Mm} (h : Gl 97 X) : OK (fX12_init_L641 366 112 97 373 373 366 X) Fin12 := by
  unfold fX12_init_L641
  refine st_let h (by decide) (by decide) (fun Y h => ?_)
  refine st_let h (by decide) (by decide) (fun Y h => ?_)
  refine st_let h (by decide) (by decide) (fun Y h => ?_)
  refine st_let h (by decide) (by decide) (fun Y h => ?_)
  refine st_let h (by decide) (by decide) (fun Y h => ?_)
  refine st_let h (by decide) (by decide) (fun Y h => ?_)
  refine st_let h (by decide) (by decide) (fun Y h => ?_)
  refine st_let h (by decide) (by decide) (fun Y h => ?_)
  exact i_fX12_init_L685 h
theorem i_fX12_init_L595 {X : Mm} (h : Gl 90 X) : OK (fX12_init_L595 366 373 373 366 X) Fin12 := by
  unfold fX12_init_L595
  refine st_let h (by decide) (by decide) (fun Y h => ?_)
  refine st_let h (by decide) (by decide) (fun Y h => ?_)
  refine st_let h (by decide) (by decide) (fun Y h => ?_)
  refine st_let h (by decide) (by decide) (fun Y h => ?_)
  refine st_let h (by decide) (by decide) (fun Y h => ?_)
  refine st_let h (by decide) (by decide) (fun Y h => ?_)
  refine st_let h (by decide) (by decide) (fun Y h => ?_)
  exact i_fX12_init_L641 h
theorem i_fX12_init_L551 {X : Mm} (h : Gl 82 X) : OK (fX12_init_L551 366 99 82 373 373 366 X) Fin12 := by
  unfold fX12_init_L551
  refine st_let h (by decide) (by decide) (fun Y h => ?_)
  refine st_let h (by decide) (by decide) (fun Y h => ?_)
  refine st_let h (by decide) (by decide) (fun Y h => ?_)
  refine st_let h (by decide) (by decide) (fun Y h => ?_)
  refine st_let h (by decide) (by decide) (fun Y h => ?_)
  refine st_let h (by decide) (by decide) (fun Y h => ?_)
  refine st_let h (by decide) (by decide) (fun Y h => ?_)
  refine st_let h (by decide) (by decide) (fun Y h => ?_)
  exact i_fX12_init_L595 h
theorem i_fX12_init_L505 {X : Mm} (h : Gl 75 X) : OK (fX12_init_L505 366 373 373 366 X) Fin12 := by
  unfold fX12_init_L505
  refine st_let h (by decide) (by decide) (fun Y h => ?_)
  refine st_let h (by decide) (by decide) (fun Y h => ?_)
  refine st_let h (by decide) (by decide) (fun Y h => ?_)
  refine st_let h (by decide) (by decide) (fun Y h => ?_)
  refine st_let h (by decide) (by decide) (fun Y h => ?_)
  refine st_let h (by decide) (by decide) (fun Y h => ?_)
  refine st_let h (by decide) (by decide) (fun Y h => ?_)
  exact i_fX12_init_L551 h
theorem i_fX12_init_L461 {X : Mm} (h : Gl 67 X) : OK (fX12_init_L461 366 114 67 373 373 366 X) Fin12 := by
  unfold fX12_init_L461
  refine st_let h (by decide) (by decide) (fun Y h => ?_)
  refine st_let h (by decide) (by decide) (fun Y h => ?_)
  refine st_let h (by decide) (by decide) (fun Y h => ?_)
  refine st_let h (by decide) (by decide) (fun Y h => ?_)
  refine st_let h (by decide) (by decide) (fun Y h => ?_)
  refine st_let h (by decide) (by decide) (fun Y h => ?_)
  refine st_let h (by decide) (by decide) (fun Y h => ?_)
  refine st_let h (by decide) (by decide) (fun Y h => ?_)
  exact i_fX12_init_L505 h
theorem i_fX12_init_L415 {X : Mm} (h : Gl 60 X) : OK (fX12_init_L415 366 373 373 366 X) Fin12 := by
  unfold fX12_init_L415
  refine st_let h (by decide) (by decide) (fun Y h => ?_)
  refine st_let h (by decide) (by decide) (fun Y h => ?_)
  refine st_let h (by decide) (by decide) (fun Y h => ?_)
  refine st_let h (by decide) (by decide) (fun Y h => ?_)
  refine st_let h (by decide) (by decide) (fun Y h => ?_)
  refine st_let h (by decide) (by decide) (fun Y h => ?_)
  refine st_let h (by decide) (by decide) (fun Y h => ?_)
  exact i_fX12_init_L461 h
theorem i_fX12_init_L371 {X : Mm} (h : Gl 52 X) : OK (fX12_init_L371 366 32 52 373 373 366 X) Fin12 := by
  unfold fX12_init_L371
  refine st_let h (by decide) (by decide) (fun Y h => ?_)
  refine st_let h (by decide) (by decide) (fun Y h => ?_)
  refine st_let h (by decide) (by decide) (fun Y h => ?_)
  refine st_let h (by decide) (by decide) (fun Y h => ?_)
  refine st_let h (by decide) (by decide) (fun Y h => ?_)
  refine st_let h (by decide) (by decide) (fun Y h => ?_)
  refine st_let h (by decide) (by decide) (fun Y h => ?_)
  refine st_let h (by decide) (by decide) (fun Y h => ?_)
  exact i_fX12_init_L415 h
theorem i_fX12_init_L325 {X : Mm} (h : Gl 45 X) : OK (fX12_init_L325 366 373 373 366 X) Fin12 := by
  unfold fX12_init_L325
  refine st_let h (by decide) (by decide) (fun Y h => ?_)
  refine st_let h (by decide) (by decide) (fun Y h => ?_)
  refine st_let h (by decide) (by decide) (fun Y h => ?_)
  refine st_let h (by decide) (by decide) (fun Y h => ?_)
  refine st_let h (by decide) (by decide) (fun Y h => ?_)
  refine st_let h (by decide) (by decide) (fun Y h => ?_)
  refine st_let h (by decide) (by decide) (fun Y h => ?_)
  exact i_fX12_init_L371 h
theorem i_fX12_init_L281 {X : Mm} (h : Gl 37 X) : OK (fX12_init_L281 366 105 37 373 373 366 X) Fin12 := by
  unfold fX12_init_L281
  refine st_let h (by decide) (by decide) (fun Y h => ?_)
  refine st_let h (by decide) (by decide) (fun Y h => ?_)
  refine st_let h (by decide) (by decide) (fun Y h => ?_)
  refine st_let h (by decide) (by decide) (fun Y h => ?_)
  refine st_let h (by decide) (by decide) (fun Y h => ?_)
  refine st_let h (by decide) (by decide) (fun Y h => ?_)
  refine st_let h (by decide) (by decide) (fun Y h => ?_)
  refine st_let h (by decide) (by decide) (fun Y h => ?_)
  exact i_fX12_init_L325 h
theorem i_fX12_init_L235 {X : Mm} (h : Gl 30 X) : OK (fX12_init_L235 366 373 373 366 X) Fin12 := by
  unfold fX12_init_L235
  refine st_let h (by decide) (by decide) (fun Y h => ?_)
  refine st_let h (by decide) (by decide) (fun Y h => ?_)
  refine st_let h (by decide) (by decide) (fun Y h => ?_)
  refine st_let h (by decide) (by decide) (fun Y h => ?_)
  refine st_let h (by decide) (by decide) (fun Y h => ?_)
  refine st_let h (by decide) (by decide) (fun Y h => ?_)
  refine st_let h (by decide) (by decide) (fun Y h => ?_)
  exact i_fX12_init_L281 h
theorem i_fX12_init_L191 {X : Mm} (h : Gl 22 X) : OK (fX12_init_L191 366 32 22 373 373 366 X) Fin12 := by
  unfold fX12_init_L191
  refine st_let h (by decide) (by decide) (fun Y h => ?_)
  refine st_let h (by decide) (by decide) (fun Y h => ?_)
  refine st_let h (by decide) (by decide) (fun Y h => ?_)
  refine st_let h (by decide) (by decide) (fun Y h => ?_)
  refine st_let h (by decide) (by decide) (fun Y h => ?_)
  refine st_let h (by decide) (by decide) (fun Y h => ?_)
  refine st_let h (by decide) (by decide) (fun Y h => ?_)
  refine st_let h (by decide) (by decide) (fun Y h => ?_)
  exact i_fX12_init_L235 h
theorem i_fX12_init_L145 {X : Mm} (h : Gl 15 X) : OK (fX12_init_L145 366 373 373 366 X) Fin12 := by
  unfold fX12_init_L145
  refine st_let h (by decide) (by decide) (fun Y h => ?_)
  refine st_let h (by decide) (by decide) (fun Y h => ?_)
  refine st_let h (by decide) (by decide) (fun Y h => ?_)
  refine st_let h (by decide) (by decide) (fun Y h => ?_)
  refine st_let h (by decide) (by decide) (fun Y h => ?_)
  refine st_let h (by decide) (by decide) (fun Y h => ?_)
  refine st_let h (by decide) (by decide) (fun Y h => ?_)
  exact i_fX12_init_L191 h
theorem i_fX12_init_L101 {X : Mm} (h : Gl 7 X) : OK (fX12_init_L101 366 112 7 373 373 366 X) Fin12 := by
  unfold fX12_init_L101
  refine st_let h (by decide) (by decide) (fun Y h => ?_)
  refine st_let h (by decide) (by decide) (fun Y h => ?_)
  refine st_let h (by decide) (by decide) (fun Y h => ?_)
  refine st_let h (by decide) (by decide) (fun Y h => ?_)
  refine st_let h (by decide) (by decide) (fun Y h => ?_)
  refine st_let h (by decide) (by decide) (fun Y h => ?_)
  refine st_let h (by decide) (by decide) (fun Y h => ?_)
  refine st_let h (by decide) (by decide) (fun Y h => ?_)
  exact i_fX12_init_L145 h
theorem i_fX12_init_L61 {X : Mm} (h : Gl 0 X) : OK (fX12_init_L61 366 373 373 366 X) Fin12 := by
  unfold fX12_init_L61
  refine st_let h (by decide) (by decide) (fun Y h => ?_)
  refine st_let h (by decide) (by decide) (fun Y h => ?_)
  refine st_let h (by decide) (by decide) (fun Y h => ?_)
  refine st_let h (by decide) (by decide) (fun Y h => ?_)
  refine st_let h (by decide) (by decide) (fun Y h => ?_)
  refine st_let h (by decide) (by decide) (fun Y h => ?_)
  refine st_let h (by decide) (by decide) (fun Y h => ?_)
  exact i_fX12_init_L101 h
theorem i_fX12_init {X : Mm} (h : Gd 366 [366, 1] F1 X) : OK (fX12_init 366 X) Fin12 := by
  unfold fX12_init
  refine st_arr (a := 366) h rfl rfl (by omega) rfl rfl (fun Y h => ?_)
  refine st_arr (a := 367) h rfl rfl (by omega) rfl rfl (fun Y h => ?_)
  refine st_arr (a := 368) h rfl rfl (by omega) rfl rfl (fun Y h => ?_)
  refine st_arr (a := 369) h rfl rfl (by omega) rfl rfl (fun Y h => ?_)
  refine st_arr (a := 370) h rfl rfl (by omega) rfl rfl (fun Y h => ?_)
  refine st_arr (a := 371) h rfl rfl (by omega) rfl rfl (fun Y h => ?_)
  have e := h.1
  have h1 := h.new (t := 16) (n := 113) rfl rfl
  simp only [nm, e]
  exact i_fX12_init_L61 ⟨F1, h1, fun i hi => absurd hi (Nat.not_lt_zero i), fun _ _ _ => rfl⟩
