/-! TEXTS: tokens -/
def isB (c : Int32) : Bool := decide (c = 32 ∨ c = 10)
def isL (c : Int32) : Bool := decide (97 ≤ c ∧ c ≤ 122)
def isD (c : Int32) : Bool := decide (48 ≤ c ∧ c ≤ 57)
/-- the end of a run -/
def rn (P : Int32 → Bool) (b : Nat → Int32) : Nat → Nat → Nat
| 0, p => p
| m + 1, p => if P (b p) then rn P b m (p + 1) else p
theorem rn_b (P : Int32 → Bool) (b : Nat → Int32) : ∀ m p, p ≤ rn P b m p ∧ rn P b m p ≤ p + m ∧ (∀ q, p ≤ q → q < rn P b m p → P (b q) = true) ∧ (rn P b m p < p + m → P (b (rn P b m p)) = false) := by
  intro m
  induction m with
  | zero => intro p; exact ⟨Nat.le_refl _, Nat.le_refl _, fun q h1 h2 => absurd h2 (by rw [rn]; omega), fun h => absurd h (by rw [rn]; omega)⟩
  | succ m ih =>
    intro p
    rw [rn]
    by_cases z : P (b p) = true
    · rw [if_pos z]
      obtain ⟨i1, i2, i3, i4⟩ := ih (p + 1)
      refine ⟨by omega, by omega, fun q h1 h2 => ?_, fun h => i4 (by omega)⟩
      by_cases e : q = p
      · subst e; exact z
      · exact i3 q (by omega) h2
    · rw [if_neg z]
      exact ⟨Nat.le_refl _, by omega, fun q h1 h2 => by omega, fun _ => by simpa using z⟩
theorem rn_1 {P : Int32 → Bool} {b : Nat → Int32} {L p : Nat} (hp : p < L) (z : P (b p) = true) : rn P b (L - p) p = rn P b (L - (p + 1)) (p + 1) := by
  obtain ⟨m, hm⟩ : ∃ m, L - p = m + 1 := ⟨L - p - 1, by omega⟩
  rw [hm, rn, if_pos z, show L - (p + 1) = m by omega]
theorem rn_0 {P : Int32 → Bool} {b : Nat → Int32} {L p : Nat} (hp : p < L) (z : ¬ P (b p) = true) : rn P b (L - p) p = p := by
  obtain ⟨m, hm⟩ : ∃ m, L - p = m + 1 := ⟨L - p - 1, by omega⟩
  rw [hm, rn, if_neg z]
theorem rn_e {P : Int32 → Bool} {b : Nat → Int32} {L p : Nat} (hp : L ≤ p) : rn P b (L - p) p = p := by
  rw [show L - p = 0 by omega, rn]
section
variable (b : Nat → Int32) (L : Nat)
def sk (p : Nat) : Nat := rn isB b (L - p) p
/-- where a token ends that begins at q -/
def te (q : Nat) : Nat := if L ≤ q then q else if isL (b q) then rn isL b (L - q) q else if isD (b q) then rn isD b (L - q) q else q + 1
def sp : Nat → Nat
| 0 => 0
| i + 1 => te b L (sk b L (sp i))
def fr (i : Nat) : Nat := sk b L (sp b L i)
def ltr (c : Int32) : Nat := c.toInt.toNat - 96
/-- the letters from q on, so many -/
def lts (b : Nat → Int32) : Nat → Nat → List Nat
| 0, _ => []
| m + 1, q => ltr (b q) :: lts b m (q + 1)
/-- the number of so many digits from q on -/
def dgs (b : Nat → Int32) : Nat → Nat → Nat → Nat
| 0, _, v => v
| m + 1, q, v => dgs b m (q + 1) (10 * v + ((b q).toInt.toNat - 48))
/-- the keywords -/
def kws : List (List Nat) := [[8, 15, 12, 4, 5, 18], [16, 1, 16, 5, 18], [8, 1, 19], [20, 18, 1, 4, 5], [23, 9, 20, 8, 9, 14], [13, 15, 14, 5, 25], [7, 9, 6, 20], [18, 9, 7, 8, 20, 19], [20, 21, 18, 14], [9, 14, 20, 15], [6, 15, 18], [1, 20], [23, 15, 18, 20, 8], [21, 14, 20, 9, 12], [16, 12, 21, 19], [3, 1, 19, 8], [5, 24], [18, 5, 3, 15, 18, 4], [16, 1, 25], [3, 8, 15, 15, 19, 5], [4, 1, 25, 19]]
def kwi (l : List Nat) : List (List Nat) → Nat → Int32
| [], _ => -1
| k :: r, w => if k = l then nI w else kwi l r (w + 1)
def kw (l : List Nat) : Int32 := kwi l kws 0
def wd (i : Nat) : Nat := te b L (fr b L i) - fr b L i
def wlt (i : Nat) : List Nat := lts b (wd b L i) (fr b L i)
/-- the class's kinds and values of tokens -/
def kd (i : Nat) : Int32 := if L ≤ fr b L i then 0 else if isL (b (fr b L i)) then (if 6 < wd b L i then 5 else if kw (wlt b L i) = -1 then 2 else 1)
  else if isD (b (fr b L i)) then (if 9 < wd b L i then 5 else 3) else if b (fr b L i) = 59 then 4 else 5
def vl (i : Nat) : Int32 := if isL (b (fr b L i)) then (if kw (wlt b L i) = -1 then nI (c5 (wlt b L i)) else kw (wlt b L i)) else nI (dgs b (wd b L i) (fr b L i) 0)
end
section
variable {b : Nat → Int32} {L : Nat}
theorem sk_b (p : Nat) (hp : p ≤ L) : p ≤ sk b L p ∧ sk b L p ≤ L ∧ (sk b L p < L → isB (b (sk b L p)) = false) := by
  have r := rn_b isB b (L - p) p
  unfold sk
  exact ⟨r.1, by omega, fun h => r.2.2.2 (by omega)⟩
theorem te_b (q : Nat) (hq : q ≤ L) : te b L q ≤ L ∧ q ≤ te b L q ∧ (q < L → q < te b L q) := by
  unfold te
  by_cases z : L ≤ q
  · rw [if_pos z]; exact ⟨hq, Nat.le_refl _, fun h => by omega⟩
  · rw [if_neg z]
    by_cases l : isL (b q) = true
    · rw [if_pos l]
      have r := rn_b isL b (L - q) q
      refine ⟨by omega, r.1, fun h => ?_⟩
      rw [rn_1 h l]
      have := (rn_b isL b (L - (q + 1)) (q + 1)).1
      omega
    · rw [if_neg l]
      by_cases d : isD (b q) = true
      · rw [if_pos d]
        have r := rn_b isD b (L - q) q
        refine ⟨by omega, r.1, fun h => ?_⟩
        rw [rn_1 h d]
        have := (rn_b isD b (L - (q + 1)) (q + 1)).1
        omega
      · rw [if_neg d]; exact ⟨by omega, by omega, fun h => by omega⟩
theorem sp_le : ∀ i, sp b L i ≤ L ∧ fr b L i ≤ L ∧ sp b L i ≤ fr b L i := by
  intro i
  induction i with
  | zero =>
    have s := sk_b (b := b) (L := L) 0 (Nat.zero_le _)
    exact ⟨Nat.zero_le _, s.2.1, Nat.zero_le _⟩
  | succ i ih =>
    have t := te_b (b := b) (L := L) (fr b L i) ih.2.1
    have s := sk_b (b := b) (L := L) (sp b L (i + 1)) t.1
    exact ⟨t.1, s.2.1, s.1⟩
theorem sp_next (i : Nat) : sp b L (i + 1) = te b L (fr b L i) := rfl
theorem fr_next (i : Nat) : te b L (fr b L i) ≤ fr b L (i + 1) := (sp_le (b := b) (L := L) (i + 1)).2.2
theorem wd_pos {i : Nat} (h : fr b L i < L) : 1 ≤ wd b L i ∧ fr b L i + wd b L i = sp b L (i + 1) := by
  have t := te_b (b := b) (L := L) (fr b L i) (by omega)
  have := t.2.2 h
  unfold wd
  rw [sp_next]
  omega
/-- as many tokens as bytes at most -/
theorem sp_ge : ∀ i, (∀ j, j < i → fr b L j < L) → i ≤ sp b L i := by
  intro i
  induction i with
  | zero => intro _; exact Nat.le_refl _
  | succ i ih =>
    intro h
    have i1 := ih (fun j hj => h j (by omega))
    have t := (te_b (b := b) (L := L) (fr b L i) (sp_le i).2.1).2.2 (h i (by omega))
    have s := (sp_le (b := b) (L := L) i).2.2
    rw [sp_next]
    omega
theorem fr_end {i : Nat} (h : fr b L i = L) : ∀ d, fr b L (i + d) = L := by
  intro d
  induction d with
  | zero => exact h
  | succ d ih =>
    have t : te b L L = L := by unfold te; rw [if_pos (Nat.le_refl _)]
    have e : sp b L (i + d + 1) = L := by rw [sp_next, ih, t]
    show sk b L (sp b L (i + d + 1)) = L
    rw [e]
    exact rn_e (Nat.le_refl _)
theorem K_ex : ∃ K, K ≤ L ∧ fr b L K = L ∧ ∀ j, j < K → fr b L j < L := by
  have ex : ∃ K, fr b L K = L := by
    refine ⟨L, ?_⟩
    by_cases z : fr b L L = L
    · exact z
    · have : ∀ j, j ≤ L → fr b L j < L := fun j hj => by
        have l := (sp_le (b := b) (L := L) j).2.1
        by_cases y : fr b L j = L
        · have := fr_end y (L - j)
          rw [show j + (L - j) = L by omega] at this
          exact absurd this z
        · omega
      have g := sp_ge (b := b) (L := L) L (fun j hj => this j (by omega))
      have s := sp_le (b := b) (L := L) L
      have := this L (Nat.le_refl _)
      omega
  obtain ⟨K, h1, h2⟩ := pk_least (fun K => fr b L K = L) ex
  have h3 : ∀ j, j < K → fr b L j < L := fun j hj => by
    have := (sp_le (b := b) (L := L) j).2.1
    have := h2 j hj
    omega
  refine ⟨K, ?_, h1, h3⟩
  have := sp_ge K h3
  have := (sp_le (b := b) (L := L) K).1
  omega
end
