/-! BOUNDS: paying -/
theorem lN_of {v : Int64} (h : 0 ≤ v.toInt) : ∃ k : Nat, (k : Int) = v.toInt ∧ v = lN k := ⟨v.toInt.toNat, by omega, Int64.toInt_inj.mp (by have := Int64.toInt_lt v; rw [pk_lT (by omega)]; omega)⟩
theorem N_give_row (h e i : Nat) (v : Int64) (w : Wt) : (N_give h e i v w).2 1 = q_u1 (w.2 1) i (w.2 1 i + N_sf e v w) := by
  have a : (N_give h e i v w).2 1 = (N_add i (N_sf e v w) w).2 1 := by
    funext k
    unfold N_give
    rw [N_issue_o _ _ _ _ (by decide), N_pu_2 _ _ _ (by decide)]
  rw [a, N_add_row]
theorem N_give_o (h e i : Nat) (v : Int64) (w : Wt) {a : Nat} (z : a ≠ 1 ∧ a ≠ 2 ∧ a ≠ 28 ∧ a ≠ 29) (k : Nat) : (N_give h e i v w).2 a k = w.2 a k := by
  unfold N_give
  rw [N_issue_o _ _ _ _ ⟨z.2.2.1, z.2.2.2⟩, N_pu_2 _ _ _ z.2.1, N_add_2 _ _ _ z.1]
/-- of all HOLDERS -/
theorem poh_b {e H : Nat} {M : Int} {w : Wt} (hH : H ≤ 10) (hp : inL (w.1 15 e) 5) (ha : inL (w.1 17 e) 10) (hb : inL (w.1 18 e) 10) (b1 : 1 ≤ w.1 18 e) (h : Sh0 M (w.2 1)) (hM : M ≤ 2 ^ 56) (hW : ∀ j, j < 10 → 0 ≤ (w.2 31 (10 * e + j)).toInt) (hWs : sm (fun j => w.2 31 (10 * e + j)) 10 ≤ 2 ^ 53) :
    Sh0 (M + 9 * sm (fun j => w.2 31 (10 * e + j)) 10) ((nf (N_poh e) H 0 w).2 1) := by
  have s := nf_inv (f := N_poh e) (P := fun i b => b.1 = w.1 ∧ (∀ k, b.2 31 k = w.2 31 k) ∧ Sh0 (M + 9 * sm (fun j => w.2 31 (10 * e + j)) i) (b.2 1)) (L := H) (fun i b hi hb => by
    obtain ⟨b1', b2, b3⟩ := hb
    have gi := hW i (by omega)
    have mi := sm_ge 10 hW i (by omega)
    have mo : sm (fun j => w.2 31 (10 * e + j)) i ≤ sm (fun j => w.2 31 (10 * e + j)) 10 := by
      have := sm_mono (g := fun j => w.2 31 (10 * e + j)) i (10 - i) (fun k hk => hW k (by omega))
      rw [show i + (10 - i) = 10 by omega] at this
      exact this
    have m0 := (sm_pos (g := fun j => w.2 31 (10 * e + j)) i (fun k hk => hW k (by omega))).1
    have sf := N_sf_b (e := e) (v := w.2 31 (10 * e + i)) (w := b) (by rw [b1']; exact ha) (by rw [b1']; exact hb) (by rw [b1']; exact b1) gi (by have : (w.2 31 (10 * e + i)).toInt ≤ 2 ^ 53 := Int.le_trans mi hWs; omega)
    refine ⟨b1', fun k => ?_, ?_⟩
    · unfold N_poh
      rw [N_give_o _ _ _ _ _ (by decide)]
      exact b2 k
    · unfold N_poh
      rw [N_give_row, b2, sm, b1']
      have i5 := (i5_ix (a := nI i) (p := w.1 15 e) (inL_nI (by omega) (by decide)) hp).2.2
      have := (b3.add (j := ix (nI i) (w.1 15 e)) (v := N_sf e (w.2 31 (10 * e + i)) b) (by omega) i5 sf.1)
      exact this.le (by show _ ≤ M + 9 * (sm (fun j => w.2 31 (10 * e + j)) i + (w.2 31 (10 * e + i)).toInt); omega)) H 0 w (by omega) ⟨rfl, fun _ => rfl, by rw [sm]; exact h.le (by omega)⟩
  have e10 : sm (fun j => w.2 31 (10 * e + j)) H ≤ sm (fun j => w.2 31 (10 * e + j)) 10 := by
    have := sm_mono (g := fun j => w.2 31 (10 * e + j)) H (10 - H) (fun k hk => hW k (by omega))
    rw [show H + (10 - H) = 10 by omega] at this
    exact this
  have r := s.2.2
  rw [Nat.zero_add] at r
  exact r.le (by omega)
theorem N_pc_row (e i : Nat) (w : Wt) : (N_pc e i w).2 1 = (N_pc1 e i w).2 1 := by
  unfold N_pc
  rw [uI_2, N_mv_row]
/-- a CLAIM that is paid -/
theorem pc_b {e i : Nat} {M : Int} {w : Wt} (hf : inL (w.1 38 (60 * e + i)) 10) (ht : inL (w.1 39 (60 * e + i)) 10) (hp : inL (w.1 15 e) 5) (ha : inL (w.1 17 e) 10) (hb : inL (w.1 18 e) 10) (b1 : 1 ≤ w.1 18 e) (h : Sh0 M (w.2 1)) (hM : M ≤ 2 ^ 61) (h40 : 0 ≤ (w.2 40 (60 * e + i)).toInt ∧ (w.2 40 (60 * e + i)).toInt ≤ 2 ^ 58) (hB : N_pcB e i w) : Sh0 M ((N_pc e i w).2 1) := by
  have sf := N_sf_b ha hb b1 h40.1 h40.2
  have i1 := (i5_ix hf hp).2.2
  have i2 := (i5_ix ht hp).2.2
  unfold N_pcB at hB
  have le := Int64.le_iff_toInt_le.mp (cv_ge.mp hB)
  rw [N_pc_row]
  unfold N_pc1
  rw [N_add_row, N_add_row]
  exact h.move hM i1 i2 sf.1 le
/-! RIGHTS -/
def smZ (f : Nat → Int) : Nat → Int
| 0 => 0
| m + 1 => smZ f m + f m
theorem smZ_add (f g : Nat → Int) : ∀ m, smZ (fun j => f j + g j) m = smZ f m + smZ g m := by
  intro m
  induction m with
  | zero => rfl
  | succ m ih => rw [smZ, smZ, smZ, ih]; omega
theorem smZ_c {f g : Nat → Int} : ∀ m, (∀ j, j < m → f j = g j) → smZ f m = smZ g m := by
  intro m
  induction m with
  | zero => intro _; rfl
  | succ m ih => intro h; rw [smZ, smZ, ih (fun j hj => h j (by omega)), h m (by omega)]
theorem smZ_one (p : Nat) (x : Int) : ∀ m, smZ (fun j => if p = j then x else 0) m = if p < m then x else 0 := by
  intro m
  induction m with
  | zero => rfl
  | succ m ih =>
    rw [smZ, ih]
    by_cases e : p = m
    · subst e; rw [if_neg (by omega), if_pos rfl, if_pos (by omega)]; omega
    · rw [if_neg e]
      by_cases l : p < m
      · rw [if_pos l, if_pos (by omega)]; omega
      · rw [if_neg l, if_neg (by omega)]; omega
theorem smZ_mono {f : Nat → Int} (m : Nat) : ∀ d, (∀ h, h < m + d → 0 ≤ f h) → smZ f m ≤ smZ f (m + d) := by
  intro d
  induction d with
  | zero => intro _; exact Int.le_refl _
  | succ d ih =>
    intro hg
    have := ih (fun h hh => hg h (by omega))
    have l := hg (m + d) (by omega)
    rw [← Nat.add_assoc, smZ]
    omega
theorem smZ_sm (g : Nat → Int64) : ∀ m, smZ (fun j => 9 * (g j).toInt) m = 9 * sm g m := by
  intro m
  induction m with
  | zero => rfl
  | succ m ih => rw [smZ, sm, ih]; omega
/-- what comes to a HOLDER by CLAIMS, nine times -/
def Qz (e j : Nat) (w : Wt) : Nat → Int
| 0 => 0
| i + 1 => Qz e j w i + if w.1 39 (60 * e + i) = nI j then 9 * (w.2 40 (60 * e + i)).toInt else 0
theorem Qz_b {e C : Nat} {w : Wt} {K : Int} (hs : ∀ i, i < C → 0 ≤ (w.2 40 (60 * e + i)).toInt ∧ 9 * (w.2 40 (60 * e + i)).toInt ≤ K) (j : Nat) : ∀ m, m ≤ C → 0 ≤ Qz e j w m ∧ Qz e j w m ≤ (m : Int) * K := by
  intro m
  induction m with
  | zero => intro _; exact ⟨Int.le_refl _, by rw [Qz]; omega⟩
  | succ m ih =>
    intro hm
    have i1 := ih (by omega)
    have s := hs m (by omega)
    have e1 : ((m + 1 : Nat) : Int) * K = (m : Int) * K + K := by rw [Int.natCast_add, Int.add_mul]; simp
    rw [Qz, e1]
    split <;> omega
theorem Qz_sum {e C H : Nat} {w : Wt} {K : Int} (hH : H ≤ 10) (ht : ∀ i, i < C → inL (w.1 39 (60 * e + i)) H) (hs : ∀ i, i < C → 0 ≤ (w.2 40 (60 * e + i)).toInt ∧ 9 * (w.2 40 (60 * e + i)).toInt ≤ K) : ∀ m, m ≤ C → smZ (fun j => Qz e j w m) 10 ≤ (m : Int) * K := by
  intro m
  induction m with
  | zero => intro _; show smZ (fun j => 0) 10 ≤ _; rw [show smZ (fun _ => 0) 10 = 0 by decide]; omega
  | succ m ih =>
    intro hm
    have i1 := ih (by omega)
    have s := hs m (by omega)
    obtain ⟨p, hp, ep⟩ := inL_of (ht m (by omega)) (by omega)
    have e1 : ((m + 1 : Nat) : Int) * K = (m : Int) * K + K := by rw [Int.natCast_add, Int.add_mul]; simp
    have e2 : smZ (fun j => Qz e j w (m + 1)) 10 = smZ (fun j => Qz e j w m + if p = j then 9 * (w.2 40 (60 * e + m)).toInt else 0) 10 := smZ_c 10 (fun j hj => by
      show Qz e j w m + (if w.1 39 (60 * e + m) = nI j then 9 * (w.2 40 (60 * e + m)).toInt else 0) = _
      rw [ep]
      by_cases z : p = j
      · subst z; rw [if_pos rfl, if_pos rfl]
      · rw [if_neg z, if_neg (fun y => z ((nI_eq (by omega) (by omega)).mp y))])
    rw [e2, smZ_add, smZ_one, if_pos (by omega), e1]
    omega
theorem N_ro_b {e j C : Nat} {w : Wt} {K : Int} (ha : inL (w.1 17 e) 10) (hb : inL (w.1 18 e) 10) (b1 : 1 ≤ w.1 18 e) (hK : K ≤ 2 ^ 53) (hC : C ≤ 60) (hs : ∀ i, i < C → 0 ≤ (w.2 40 (60 * e + i)).toInt ∧ 9 * (w.2 40 (60 * e + i)).toInt ≤ K) (hK0 : 0 ≤ K) (hW : 0 ≤ (w.2 31 (10 * e + j)).toInt) (hW2 : (w.2 31 (10 * e + j)).toInt ≤ 2 ^ 53) :
    (N_ro C e j w).toInt ≤ 9 * (w.2 31 (10 * e + j)).toInt + Qz e j w C := by
  have s0 := N_sf_b (e := e) (w := w) ha hb b1 hW (by omega)
  have g : ∀ m i (v : Int64), i + m = C → -((i : Int) * K) ≤ v.toInt → v.toInt ≤ 9 * (w.2 31 (10 * e + j)).toInt + Qz e j w i → (nf (N_ro1 e j w) m i v).toInt ≤ 9 * (w.2 31 (10 * e + j)).toInt + Qz e j w C := by
    intro m
    induction m with
    | zero => intro i v hi _ h2; rw [show C = i by omega]; exact h2
    | succ m ih =>
      intro i v hi h1 h2
      have si := hs i (by omega)
      have sf := N_sf_b (e := e) (w := w) (v := w.2 40 (60 * e + i)) ha hb b1 si.1 (by omega)
      have q := Qz_b hs j i (by omega)
      have e1 : ((i + 1 : Nat) : Int) * K = (i : Int) * K + K := by rw [Int.natCast_add, Int.add_mul]; simp
      have iK : (i : Int) * K ≤ 60 * 2 ^ 53 := Int.le_trans (Int.mul_le_mul_of_nonneg_right (show (i : Int) ≤ 60 by omega) hK0) (by omega)
      have q1 : Qz e j w (i + 1) = Qz e j w i + if w.1 39 (60 * e + i) = nI j then 9 * (w.2 40 (60 * e + i)).toInt else 0 := rfl
      have st : N_ro1 e j w i v = if w.1 38 (60 * e + i) = nI j then (if w.1 39 (60 * e + i) = nI j then v + N_sf e (w.2 40 (60 * e + i)) w else v) - N_sf e (w.2 40 (60 * e + i)) w else if w.1 39 (60 * e + i) = nI j then v + N_sf e (w.2 40 (60 * e + i)) w else v := rfl
      rw [nf]
      generalize N_sf e (w.2 40 (60 * e + i)) w = x at *
      have p : (v + x).toInt = v.toInt + x.toInt := Jvm.Kit.i64_add (by omega) (by omega)
      have m1 : (v - x).toInt = v.toInt - x.toInt := Jvm.Kit.i64_sub (by omega) (by omega)
      have pm : (v + x - x).toInt = v.toInt := by rw [Jvm.Kit.i64_sub (by rw [p]; omega) (by rw [p]; omega), p]; omega
      refine ih (i + 1) _ (by omega) ?_ ?_
      · rw [e1, st]
        by_cases z1 : w.1 38 (60 * e + i) = nI j
        · rw [if_pos z1]
          by_cases z2 : w.1 39 (60 * e + i) = nI j
          · rw [if_pos z2, pm]; omega
          · rw [if_neg z2, m1]; omega
        · rw [if_neg z1]
          by_cases z2 : w.1 39 (60 * e + i) = nI j
          · rw [if_pos z2, p]; omega
          · rw [if_neg z2]; omega
      · rw [q1, st]
        by_cases z1 : w.1 38 (60 * e + i) = nI j
        · rw [if_pos z1]
          by_cases z2 : w.1 39 (60 * e + i) = nI j
          · rw [if_pos z2, if_pos z2, pm]; omega
          · rw [if_neg z2, if_neg z2, m1]; omega
        · rw [if_neg z1]
          by_cases z2 : w.1 39 (60 * e + i) = nI j
          · rw [if_pos z2, if_pos z2, p]; omega
          · rw [if_neg z2, if_neg z2]; omega
  exact g C 0 _ (by omega) (by have := s0.1; simp; exact s0.1) (by rw [Qz]; omega)
