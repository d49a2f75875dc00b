/-! DEEDS: an EVENT -/
def N_ev0 (d : Nat → Int32) (e : Nat) (w : Wt) : Wt := uI (uJ (uJ (uI (uI (uI (uI (uI (uI (uI (uI (uI (uI (uI (uI (uI (uI w 14 e (d 0)) 15 e (d 1)) 16 e (d 7)) 17 e (d 8)) 18 e (d 9)) 19 e (d 10)) 20 e (d 11)) 21 e (d 12)) 22 e (d 13)) 23 e (d 14)) 24 e (d 15)) 25 e 0) 26 e 0) 27 e 0) 28 e 0) 29 e 0) 13 16 (nI (e + 1))
theorem N_ev0_1 (d : Nat → Int32) (e : Nat) (w : Wt) {a k : Nat} (h : a ≠ 13 ∧ (14 ≤ a → a ≤ 27 → k ≠ e)) : (N_ev0 d e w).1 a k = w.1 a k := by
  unfold N_ev0
  rw [uI_1, if_neg (by omega), uJ_1, uJ_1, uI_1, if_neg (by omega), uI_1, if_neg (by omega), uI_1, if_neg (by omega), uI_1, if_neg (by omega), uI_1, if_neg (by omega), uI_1, if_neg (by omega), uI_1, if_neg (by omega), uI_1, if_neg (by omega), uI_1, if_neg (by omega), uI_1, if_neg (by omega), uI_1, if_neg (by omega), uI_1, if_neg (by omega), uI_1, if_neg (by omega), uI_1, if_neg (by omega)]
theorem N_ev0_2 (d : Nat → Int32) (e : Nat) (w : Wt) {a k : Nat} (h : (a = 28 ∨ a = 29) → k ≠ e) : (N_ev0 d e w).2 a k = w.2 a k := by
  unfold N_ev0
  rw [uI_2, uJ_2, if_neg (by omega), uJ_2, if_neg (by omega), uI_2, uI_2, uI_2, uI_2, uI_2, uI_2, uI_2, uI_2, uI_2, uI_2, uI_2, uI_2, uI_2, uI_2]
theorem N_ev0_v14 (d : Nat → Int32) (e : Nat) (w : Wt) : (N_ev0 d e w).1 14 e = (d 0) := by
  unfold N_ev0
  rw [uI_1, if_neg (by omega), uJ_1, uJ_1, uI_1, if_neg (by omega), uI_1, if_neg (by omega), uI_1, if_neg (by omega), uI_1, if_neg (by omega), uI_1, if_neg (by omega), uI_1, if_neg (by omega), uI_1, if_neg (by omega), uI_1, if_neg (by omega), uI_1, if_neg (by omega), uI_1, if_neg (by omega), uI_1, if_neg (by omega), uI_1, if_neg (by omega), uI_1, if_neg (by omega), uI_1, if_pos ⟨rfl, rfl⟩]
theorem N_ev0_v15 (d : Nat → Int32) (e : Nat) (w : Wt) : (N_ev0 d e w).1 15 e = (d 1) := by
  unfold N_ev0
  rw [uI_1, if_neg (by omega), uJ_1, uJ_1, uI_1, if_neg (by omega), uI_1, if_neg (by omega), uI_1, if_neg (by omega), uI_1, if_neg (by omega), uI_1, if_neg (by omega), uI_1, if_neg (by omega), uI_1, if_neg (by omega), uI_1, if_neg (by omega), uI_1, if_neg (by omega), uI_1, if_neg (by omega), uI_1, if_neg (by omega), uI_1, if_neg (by omega), uI_1, if_pos ⟨rfl, rfl⟩]
theorem N_ev0_v16 (d : Nat → Int32) (e : Nat) (w : Wt) : (N_ev0 d e w).1 16 e = (d 7) := by
  unfold N_ev0
  rw [uI_1, if_neg (by omega), uJ_1, uJ_1, uI_1, if_neg (by omega), uI_1, if_neg (by omega), uI_1, if_neg (by omega), uI_1, if_neg (by omega), uI_1, if_neg (by omega), uI_1, if_neg (by omega), uI_1, if_neg (by omega), uI_1, if_neg (by omega), uI_1, if_neg (by omega), uI_1, if_neg (by omega), uI_1, if_neg (by omega), uI_1, if_pos ⟨rfl, rfl⟩]
theorem N_ev0_v17 (d : Nat → Int32) (e : Nat) (w : Wt) : (N_ev0 d e w).1 17 e = (d 8) := by
  unfold N_ev0
  rw [uI_1, if_neg (by omega), uJ_1, uJ_1, uI_1, if_neg (by omega), uI_1, if_neg (by omega), uI_1, if_neg (by omega), uI_1, if_neg (by omega), uI_1, if_neg (by omega), uI_1, if_neg (by omega), uI_1, if_neg (by omega), uI_1, if_neg (by omega), uI_1, if_neg (by omega), uI_1, if_neg (by omega), uI_1, if_pos ⟨rfl, rfl⟩]
theorem N_ev0_v18 (d : Nat → Int32) (e : Nat) (w : Wt) : (N_ev0 d e w).1 18 e = (d 9) := by
  unfold N_ev0
  rw [uI_1, if_neg (by omega), uJ_1, uJ_1, uI_1, if_neg (by omega), uI_1, if_neg (by omega), uI_1, if_neg (by omega), uI_1, if_neg (by omega), uI_1, if_neg (by omega), uI_1, if_neg (by omega), uI_1, if_neg (by omega), uI_1, if_neg (by omega), uI_1, if_neg (by omega), uI_1, if_pos ⟨rfl, rfl⟩]
theorem N_ev0_v19 (d : Nat → Int32) (e : Nat) (w : Wt) : (N_ev0 d e w).1 19 e = (d 10) := by
  unfold N_ev0
  rw [uI_1, if_neg (by omega), uJ_1, uJ_1, uI_1, if_neg (by omega), uI_1, if_neg (by omega), uI_1, if_neg (by omega), uI_1, if_neg (by omega), uI_1, if_neg (by omega), uI_1, if_neg (by omega), uI_1, if_neg (by omega), uI_1, if_neg (by omega), uI_1, if_pos ⟨rfl, rfl⟩]
theorem N_ev0_v20 (d : Nat → Int32) (e : Nat) (w : Wt) : (N_ev0 d e w).1 20 e = (d 11) := by
  unfold N_ev0
  rw [uI_1, if_neg (by omega), uJ_1, uJ_1, uI_1, if_neg (by omega), uI_1, if_neg (by omega), uI_1, if_neg (by omega), uI_1, if_neg (by omega), uI_1, if_neg (by omega), uI_1, if_neg (by omega), uI_1, if_neg (by omega), uI_1, if_pos ⟨rfl, rfl⟩]
theorem N_ev0_v21 (d : Nat → Int32) (e : Nat) (w : Wt) : (N_ev0 d e w).1 21 e = (d 12) := by
  unfold N_ev0
  rw [uI_1, if_neg (by omega), uJ_1, uJ_1, uI_1, if_neg (by omega), uI_1, if_neg (by omega), uI_1, if_neg (by omega), uI_1, if_neg (by omega), uI_1, if_neg (by omega), uI_1, if_neg (by omega), uI_1, if_pos ⟨rfl, rfl⟩]
theorem N_ev0_v22 (d : Nat → Int32) (e : Nat) (w : Wt) : (N_ev0 d e w).1 22 e = (d 13) := by
  unfold N_ev0
  rw [uI_1, if_neg (by omega), uJ_1, uJ_1, uI_1, if_neg (by omega), uI_1, if_neg (by omega), uI_1, if_neg (by omega), uI_1, if_neg (by omega), uI_1, if_neg (by omega), uI_1, if_pos ⟨rfl, rfl⟩]
theorem N_ev0_v23 (d : Nat → Int32) (e : Nat) (w : Wt) : (N_ev0 d e w).1 23 e = (d 14) := by
  unfold N_ev0
  rw [uI_1, if_neg (by omega), uJ_1, uJ_1, uI_1, if_neg (by omega), uI_1, if_neg (by omega), uI_1, if_neg (by omega), uI_1, if_neg (by omega), uI_1, if_pos ⟨rfl, rfl⟩]
theorem N_ev0_v24 (d : Nat → Int32) (e : Nat) (w : Wt) : (N_ev0 d e w).1 24 e = (d 15) := by
  unfold N_ev0
  rw [uI_1, if_neg (by omega), uJ_1, uJ_1, uI_1, if_neg (by omega), uI_1, if_neg (by omega), uI_1, if_neg (by omega), uI_1, if_pos ⟨rfl, rfl⟩]
theorem N_ev0_v25 (d : Nat → Int32) (e : Nat) (w : Wt) : (N_ev0 d e w).1 25 e = 0 := by
  unfold N_ev0
  rw [uI_1, if_neg (by omega), uJ_1, uJ_1, uI_1, if_neg (by omega), uI_1, if_neg (by omega), uI_1, if_pos ⟨rfl, rfl⟩]
theorem N_ev0_v26 (d : Nat → Int32) (e : Nat) (w : Wt) : (N_ev0 d e w).1 26 e = 0 := by
  unfold N_ev0
  rw [uI_1, if_neg (by omega), uJ_1, uJ_1, uI_1, if_neg (by omega), uI_1, if_pos ⟨rfl, rfl⟩]
theorem N_ev0_v27 (d : Nat → Int32) (e : Nat) (w : Wt) : (N_ev0 d e w).1 27 e = 0 := by
  unfold N_ev0
  rw [uI_1, if_neg (by omega), uJ_1, uJ_1, uI_1, if_pos ⟨rfl, rfl⟩]
theorem N_ev0_v28 (d : Nat → Int32) (e : Nat) (w : Wt) : (N_ev0 d e w).2 28 e = 0 := by
  unfold N_ev0
  rw [uI_2, uJ_2, if_neg (by omega), uJ_2, if_pos ⟨rfl, rfl⟩]
theorem N_ev0_v29 (d : Nat → Int32) (e : Nat) (w : Wt) : (N_ev0 d e w).2 29 e = 0 := by
  unfold N_ev0
  rw [uI_2, uJ_2, if_pos ⟨rfl, rfl⟩]
theorem N_ev0_v13 (d : Nat → Int32) (e : Nat) (w : Wt) : (N_ev0 d e w).1 13 16 = nI (e + 1) := by
  unfold N_ev0
  rw [uI_1, if_pos ⟨rfl, rfl⟩]
def N_wi (e h : Nat) (w : Wt) : Wt := uJ (uJ (uJ (uJ (uJ (uJ w 31 (10 * e + h) 0) 32 (10 * e + h) 0) 33 (10 * e + h) 0) 34 (10 * e + h) 0) 35 (10 * e + h) 0) 36 (10 * e + h) 0
def N_ev (d : Nat → Int32) (e : Nat) (w : Wt) : Wt := nf (N_wi e) 10 0 (N_ev0 d e w)
theorem N_ev_fr (d : Nat → Int32) (e : Nat) (w : Wt) : (N_ev d e w).1 = (N_ev0 d e w).1 ∧ (∀ a k, (31 ≤ a → a ≤ 36 → (k < 10 * e ∨ 10 * e + 10 ≤ k)) → (N_ev d e w).2 a k = (N_ev0 d e w).2 a k) ∧ ∀ a h, 31 ≤ a → a ≤ 36 → h < 10 → (N_ev d e w).2 a (10 * e + h) = 0 := by
  have s := nf_inv (f := N_wi e) (P := fun i b => b.1 = (N_ev0 d e w).1 ∧ (∀ a k, (31 ≤ a → a ≤ 36 → (k < 10 * e ∨ 10 * e + 10 ≤ k)) → b.2 a k = (N_ev0 d e w).2 a k) ∧ ∀ a h, 31 ≤ a → a ≤ 36 → h < i → b.2 a (10 * e + h) = 0) (L := 10) (fun i b hi hb => by
    obtain ⟨b1, b2, b3⟩ := hb
    unfold N_wi
    refine ⟨b1, fun a k h => ?_, fun a h h1 h2 h3 => ?_⟩
    · rw [uJ_2, if_neg (by omega), uJ_2, if_neg (by omega), uJ_2, if_neg (by omega), uJ_2, if_neg (by omega), uJ_2, if_neg (by omega), uJ_2, if_neg (by omega)]
      exact b2 a k h
    · by_cases z : h = i
      · subst z
        rw [uJ_2, uJ_2, uJ_2, uJ_2, uJ_2, uJ_2]
        by_cases y1 : a = 36
        · rw [if_pos ⟨y1, rfl⟩]
        rw [if_neg (fun q => y1 q.1)]
        by_cases y2 : a = 35
        · rw [if_pos ⟨y2, rfl⟩]
        rw [if_neg (fun q => y2 q.1)]
        by_cases y3 : a = 34
        · rw [if_pos ⟨y3, rfl⟩]
        rw [if_neg (fun q => y3 q.1)]
        by_cases y4 : a = 33
        · rw [if_pos ⟨y4, rfl⟩]
        rw [if_neg (fun q => y4 q.1)]
        by_cases y5 : a = 32
        · rw [if_pos ⟨y5, rfl⟩]
        rw [if_neg (fun q => y5 q.1), if_pos ⟨by omega, rfl⟩]
      · rw [uJ_2, if_neg (by omega), uJ_2, if_neg (by omega), uJ_2, if_neg (by omega), uJ_2, if_neg (by omega), uJ_2, if_neg (by omega), uJ_2, if_neg (by omega)]
        exact b3 a h h1 h2 (by omega)) 10 0 (N_ev0 d e w) (by omega) ⟨rfl, fun _ _ _ => rfl, fun a h _ _ hh => by omega⟩
  exact s
/-- the reference's row behind a new EVENT -/
def PE (d : Nat → Int32) (e : Nat) (f g : Nat → Int64) : Prop := (∀ p, (p < 604 + 500 * e ∨ 604 + 500 * e + 500 ≤ p) → p ≠ 61 → g p = f p) ∧ g 61 = (nI (e + 1)).toInt64 ∧ (∀ k, 15 ≤ k → k < 500 → g (604 + 500 * e + k) = 0) ∧
  g (604 + 500 * e + 0) = (d 0).toInt64 ∧ g (604 + 500 * e + 1) = (d 1).toInt64 ∧ g (604 + 500 * e + 2) = (d 13).toInt64 ∧ g (604 + 500 * e + 3) = (d 14).toInt64 ∧ g (604 + 500 * e + 4) = (d 15).toInt64 ∧ g (604 + 500 * e + 5) = 0 ∧ g (604 + 500 * e + 6) = 0 ∧ (d 0 = 3 → g (604 + 500 * e + 7) = (d 7).toInt64) ∧ g (604 + 500 * e + 8) = (d 8).toInt64 ∧ g (604 + 500 * e + 9) = (d 9).toInt64 ∧ g (604 + 500 * e + 10) = (d 10).toInt64 ∧ g (604 + 500 * e + 11) = (d 11).toInt64 ∧ (d 0 = 2 → g (604 + 500 * e + 12) = (d 12).toInt64) ∧ g (604 + 500 * e + 13) = 0 ∧ g (604 + 500 * e + 14) = 0
theorem Rl.event {T G : Nat} {f g : Nat → Int64} {w : Wt} (R : Rl T G f w) (hG : G < 8) {d : Nat → Int32} (hg : PE d G f g) : Rl T (G + 1) g (N_ev d G w) := by
  obtain ⟨g1, g2, g3, v0, v1, v2, v3, v4, v5, v6, v7, v8, v9, v10, v11, v12, v13, v14⟩ := hg
  obtain ⟨n1, n2, n3⟩ := N_ev_fr d G w
  have e14 : ∀ i, (N_ev d G w).1 14 i = if i = G then d 0 else w.1 14 i := fun i => by
    rw [n1]
    by_cases h : i = G
    · rw [h, N_ev0_v14, if_pos rfl]
    · rw [N_ev0_1 d G w (by omega), if_neg h]
  have eC : ∀ i, Cn (N_ev d G w) i = if i = G then 0 else Cn w i := fun i => by
    unfold Cn
    rw [n1]
    by_cases h : i = G
    · rw [h, N_ev0_v26, if_pos rfl]; rfl
    · rw [N_ev0_1 d G w (by omega), if_neg h]
  have same : ∀ {a k}, (a ≠ 13 ∧ (14 ≤ a → a ≤ 29 → k ≠ G) ∧ (31 ≤ a → a ≤ 36 → (k < 10 * G ∨ 10 * G + 10 ≤ k))) → cw (N_ev d G w) a k = cw w a k := fun {a k} h => by
    unfold cw
    rw [n1, n2 a k (by omega), N_ev0_2 d G w (by omega), N_ev0_1 d G w (by omega)]
  have vI : ∀ {a k}, jT a = false → cw (N_ev d G w) a k = ((N_ev0 d G w).1 a k).toInt64 := fun {a k} h => by
    unfold cw
    rw [h, n1]
    rfl
  have vJ : ∀ {a k}, jT a = true → (31 ≤ a → a ≤ 36 → (k < 10 * G ∨ 10 * G + 10 ≤ k)) → cw (N_ev d G w) a k = (N_ev0 d G w).2 a k := fun {a k} h h2 => by
    unfold cw
    rw [h, n2 a k h2]
    rfl
  refine R.grow R.1 (by omega) fun p a k hp => ?_
  unfold Pl at hp
  rcases hp with ⟨h1, h2, h3⟩ | ⟨h1, h2, h3⟩ | ⟨h1, h2, h3⟩ | ⟨h1, h2, h3⟩ | ⟨h1, h2, h3⟩ | ⟨j, h1, h2, h3, h4⟩ | ⟨j, h1, h2, h3, h4, h5, h6⟩ | ⟨e, i, j, h1, h2, h3, h4, h5, h6⟩ | ⟨e, i, j, h1, h2, h3, h4, h5, h6, h7⟩
  · exact Or.inl ⟨Or.inl ⟨h1, h2, h3⟩, g1 p (by omega) (by omega), same (by omega)⟩
  · exact Or.inl ⟨Or.inr (Or.inl ⟨h1, h2, h3⟩), g1 p (by omega) (by omega), same (by omega)⟩
  · exact Or.inl ⟨Or.inr (Or.inr (Or.inl ⟨h1, h2, h3⟩)), g1 p (by omega) (by omega), same (by omega)⟩
  · right
    rw [h1, h2, h3, g2, vI (by decide), N_ev0_v13]
  · exact Or.inl ⟨Or.inr (Or.inr (Or.inr (Or.inr (Or.inl ⟨h1, h2, h3⟩)))), g1 p (by omega) (by omega), same (by omega)⟩
  · have := R.1
    exact Or.inl ⟨Or.inr (Or.inr (Or.inr (Or.inr (Or.inr (Or.inl ⟨j, h1, h2, h3, h4⟩))))), g1 p (by omega) (by omega), same (by omega)⟩
  · by_cases hk : k = G
    · right
      subst hk
      rw [e14, if_pos rfl] at h5 h6
      rw [h1, h3]
      match j, h2 with
      | 0, _ =>
        show g (604 + 500 * k + 0) = cw (N_ev d k w) 14 k
        rw [v0, vI (by decide), N_ev0_v14]
      | 1, _ =>
        show g (604 + 500 * k + 1) = cw (N_ev d k w) 15 k
        rw [v1, vI (by decide), N_ev0_v15]
      | 2, _ =>
        show g (604 + 500 * k + 2) = cw (N_ev d k w) 22 k
        rw [v2, vI (by decide), N_ev0_v22]
      | 3, _ =>
        show g (604 + 500 * k + 3) = cw (N_ev d k w) 23 k
        rw [v3, vI (by decide), N_ev0_v23]
      | 4, _ =>
        show g (604 + 500 * k + 4) = cw (N_ev d k w) 24 k
        rw [v4, vI (by decide), N_ev0_v24]
      | 5, _ =>
        show g (604 + 500 * k + 5) = cw (N_ev d k w) 25 k
        rw [v5, vI (by decide), N_ev0_v25]
        decide
      | 6, _ =>
        show g (604 + 500 * k + 6) = cw (N_ev d k w) 26 k
        rw [v6, vI (by decide), N_ev0_v26]
        decide
      | 7, _ =>
        show g (604 + 500 * k + 7) = cw (N_ev d k w) 16 k
        rw [v7 (h5 rfl), vI (by decide), N_ev0_v16]
      | 8, _ =>
        show g (604 + 500 * k + 8) = cw (N_ev d k w) 17 k
        rw [v8, vI (by decide), N_ev0_v17]
      | 9, _ =>
        show g (604 + 500 * k + 9) = cw (N_ev d k w) 18 k
        rw [v9, vI (by decide), N_ev0_v18]
      | 10, _ =>
        show g (604 + 500 * k + 10) = cw (N_ev d k w) 19 k
        rw [v10, vI (by decide), N_ev0_v19]
      | 11, _ =>
        show g (604 + 500 * k + 11) = cw (N_ev d k w) 20 k
        rw [v11, vI (by decide), N_ev0_v20]
      | 12, _ =>
        show g (604 + 500 * k + 12) = cw (N_ev d k w) 21 k
        rw [v12 (h6 rfl), vI (by decide), N_ev0_v21]
      | 13, _ =>
        show g (604 + 500 * k + 13) = cw (N_ev d k w) 28 k
        rw [v13, vJ (by decide) (by omega), N_ev0_v28]
      | 14, _ =>
        show g (604 + 500 * k + 14) = cw (N_ev d k w) 29 k
        rw [v14, vJ (by decide) (by omega), N_ev0_v29]
      | j + 15, hj => omega
    · have b := oE_b j
      rw [e14, if_neg hk] at h5 h6
      exact Or.inl ⟨Or.inr (Or.inr (Or.inr (Or.inr (Or.inr (Or.inr (Or.inl ⟨j, h1, h2, h3, by omega, h5, h6⟩)))))), g1 p (by omega) (by omega), same (by omega)⟩
  · by_cases he : e = G
    · right
      subst he
      rw [h1, h4, h5, show 604 + 500 * e + (20 + 6 * i + j) = 604 + 500 * e + (20 + 6 * i + j) from rfl, g3 _ (by omega) (by omega)]
      unfold cw
      rw [if_pos (show jT (31 + j) = true by
        match j, h2 with
        | 0, _ => decide
        | 1, _ => decide
        | 2, _ => decide
        | 3, _ => decide
        | 4, _ => decide
        | 5, _ => decide
        | j + 6, hj => omega), n3 _ _ (by omega) (by omega) h3]
    · exact Or.inl ⟨Or.inr (Or.inr (Or.inr (Or.inr (Or.inr (Or.inr (Or.inr (Or.inl ⟨e, i, j, h1, h2, h3, h4, h5, by omega⟩))))))), g1 p (by omega) (by omega), same (by omega)⟩
  · rw [eC] at h7
    by_cases he : e = G
    · rw [if_pos he] at h7
      omega
    · rw [if_neg he] at h7
      exact Or.inl ⟨Or.inr (Or.inr (Or.inr (Or.inr (Or.inr (Or.inr (Or.inr (Or.inr ⟨e, i, j, h1, h2, h3, h4, h5, by omega, h7⟩))))))), g1 p (by omega) (by omega), same (by omega)⟩
theorem r_ofk (e k : Nat) (X : Mm) : fX12_of 366 (nI e) (nI k) X = some (nI (aE e k), X) := by
  unfold fX12_of
  rw [of_nI]
section
variable {bk dr T G H P : Nat} {X : Mm} {f : Nat → Int64} {w : Wt} {d : Nat → Int32}
theorem m_tells (h : Shp bk dr X) (R : Rl T G f w) (hG : w.1 13 16 = nI G) (hG8 : G < 8) {n : Nat} (hn : 512 ≤ n) (k0 k1 k2 k3 k4 : Int32) : Ex (fX12_tells n 366 k0 k1 k2 k3 k4 (wJ X 367 f)) fun r Y => r = nI G ∧ ∃ g, Y = wJ X 367 g ∧ (∀ p, (p < 604 + 500 * G ∨ 604 + 500 * G + 500 ≤ p) → p ≠ 61 → g p = f p) ∧ g 61 = (nI (G + 1)).toInt64 ∧
    g (aE G 0) = k0.toInt64 ∧ g (aE G 1) = k1.toInt64 ∧ g (aE G 2) = k2.toInt64 ∧ g (aE G 3) = k3.toInt64 ∧ g (aE G 4) = k4.toInt64 ∧ ∀ k, 5 ≤ k → k < 500 → g (aE G k) = 0 := by
  have e8 := hG8
  simp only [fX12_tells, h.1, h.2.1, h.2.2, li_T, li_L, li_R, nm, bd, q_b, ne_eq, Nat.reduceEqDiff, reduceCtorEq, and_false, false_and, and_true, true_and, and_self, not_false_eq_true, not_true_eq_false, ↓reduceIte, mT_wJ, mL_wJ, mR_wJ, mI_wJ, mJ_wJ, sJ_wJ, Nat.reduceLT, l60.1, l60.2.1, l60.2.2, l61.1, l61.2.1, l61.2.2, l62.1, l62.2.1, l62.2.2, m_em h R, hG]
  refine loop_ex (F := fun j i Y => fX12_tells_L9 n j 366 k0 k1 k2 k3 k4 (nI G) i Y) (N := fun _ (u : Unit) => u) (I := fun i _ Y => ∃ g, Y = wJ X 367 g ∧ (∀ p, (p < 604 + 500 * G ∨ 604 + 500 * G + 500 ≤ p) → g p = f p) ∧ ∀ k, k < i → g (aE G k) = 0) 500
    ?_ 500 0 (wJ X 367 f) () n (by omega) (by omega) ⟨f, rfl, fun _ _ => rfl, fun k hk => by omega⟩ ?_
  · rintro j i Y a hi ⟨g, rfl, g1, g2⟩ nxt
    have e3 : ¬ (500 : Int32) ≤ nI i := nI_ge (a := i) (b := 500) hi (by decide)
    have q1 : (nI (aE G i)).toNatClampNeg = aE G i := nI_clamp (by unfold aE; omega)
    have q2 := inL_nI (j := aE G i) (n := 4604) (by unfold aE; omega) (by decide)
    show Ex (fX12_tells_L9 n (j + 1) 366 k0 k1 k2 k3 k4 (nI G) (nI i) (wJ X 367 g)) _
    rw [fX12_tells_L9]
    simp only [h.1, h.2.1, h.2.2, li_T, li_L, li_R, nm, bd, q_b, ne_eq, Nat.reduceEqDiff, reduceCtorEq, and_false, false_and, and_true, true_and, and_self, not_false_eq_true, not_true_eq_false, ↓reduceIte, mT_wJ, mL_wJ, mR_wJ, mI_wJ, mJ_wJ, sJ_wJ, Nat.reduceLT, l60.1, l60.2.1, l60.2.2, l61.1, l61.2.1, l61.2.2, l62.1, l62.2.1, l62.2.2, e3, r_ofk, q1, q2.1, q2.2, nI_1]
    refine nxt _ ⟨_, rfl, fun p hp => ?_, fun k hk => ?_⟩
    · rw [q_u1_n _ _ (by unfold aE; omega)]
      exact g1 p hp
    · by_cases z : k = i
      · rw [z, q_u1_s]
      · rw [q_u1_n _ _ (by unfold aE; omega)]
        exact g2 k (by omega)
  · rintro j Y ⟨g, rfl, g1, g2⟩
    have e3 : (500 : Int32) ≤ nI 500 := by decide
    show Ex (fX12_tells_L9 n (j + 1) 366 k0 k1 k2 k3 k4 (nI G) (nI 500) (wJ X 367 g)) _
    rw [fX12_tells_L9]
    simp only [h.1, h.2.1, h.2.2, li_T, li_L, li_R, nm, bd, q_b, ne_eq, Nat.reduceEqDiff, reduceCtorEq, and_false, false_and, and_true, true_and, and_self, not_false_eq_true, not_true_eq_false, ↓reduceIte, mT_wJ, mL_wJ, mR_wJ, mI_wJ, mJ_wJ, sJ_wJ, Nat.reduceLT, l60.1, l60.2.1, l60.2.2, l61.1, l61.2.1, l61.2.2, l62.1, l62.2.1, l62.2.2, e3, r_of0, r_of1, r_of2, r_of3, r_of4, r_of5, r_of6, r_of7, r_of8, r_of9, r_of10, r_of11, r_of12, r_of13, r_of14, bE1 e8, bE2 e8, bE3 e8, nI_1]
    refine .ret ⟨rfl, _, rfl, fun p hp hp2 => ?_, q_u1_s _ _ _, ?_, ?_, ?_, ?_, ?_, fun k h1 h2 => ?_⟩
    · rw [q_u1_n _ _ hp2, q_u1_n _ _ (by unfold aE; omega), q_u1_n _ _ (by unfold aE; omega), q_u1_n _ _ (by unfold aE; omega), q_u1_n _ _ (by unfold aE; omega), q_u1_n _ _ (by unfold aE; omega)]
      exact g1 p hp
    · rw [q_u1_n _ _ (by unfold aE; omega), q_u1_n _ _ (by unfold aE; omega), q_u1_n _ _ (by unfold aE; omega), q_u1_n _ _ (by unfold aE; omega), q_u1_n _ _ (by unfold aE; omega), q_u1_s]
    · rw [q_u1_n _ _ (by unfold aE; omega), q_u1_n _ _ (by unfold aE; omega), q_u1_n _ _ (by unfold aE; omega), q_u1_n _ _ (by unfold aE; omega), q_u1_s]
    · rw [q_u1_n _ _ (by unfold aE; omega), q_u1_n _ _ (by unfold aE; omega), q_u1_n _ _ (by unfold aE; omega), q_u1_s]
    · rw [q_u1_n _ _ (by unfold aE; omega), q_u1_n _ _ (by unfold aE; omega), q_u1_s]
    · rw [q_u1_n _ _ (by unfold aE; omega), q_u1_s]
    · rw [q_u1_n _ _ (by unfold aE; omega), q_u1_n _ _ (by unfold aE; omega), q_u1_n _ _ (by unfold aE; omega), q_u1_n _ _ (by unfold aE; omega), q_u1_n _ _ (by unfold aE; omega), q_u1_n _ _ (by unfold aE; omega)]
      exact g2 k h2
theorem m_terms (h : Shp bk dr X) {e : Nat} (e8 : e < 8) (a b c x : Int32) (g : Nat → Int64) : fX12_terms 366 (nI e) a b c x (wJ X 367 g) = some ((), wJ X 367 (q_u1 (q_u1 (q_u1 (q_u1 g (aE e 8) a.toInt64) (aE e 9) b.toInt64) (aE e 10) c.toInt64) (aE e 11) x.toInt64)) := by
  simp only [fX12_terms, h.1, h.2.1, h.2.2, li_T, li_L, li_R, nm, bd, q_b, ne_eq, Nat.reduceEqDiff, reduceCtorEq, and_false, false_and, and_true, true_and, and_self, not_false_eq_true, not_true_eq_false, ↓reduceIte, mT_wJ, mL_wJ, mR_wJ, mI_wJ, mJ_wJ, sJ_wJ, Nat.reduceLT, l60.1, l60.2.1, l60.2.2, l61.1, l61.2.1, l61.2.2, l62.1, l62.2.1, l62.2.2, r_of8, r_of9, r_of10, r_of11, bE1 e8, bE2 e8, bE3 e8]
/-- a new EVENT and its terms -/
theorem m_newE (h : Shp bk dr X) (R : Rl T G f w) (hG : w.1 13 16 = nI G) (hG8 : G < 8) {n : Nat} (hn : 512 ≤ n) {B : Type} {K : Int32 → Mm → Option (B × Mm)} {Q : B → Mm → Prop} (a b c x : Int32) (k0 k1 k2 k3 k4 : Int32)
    (nxt : ∀ g, ((∀ p, (p < 604 + 500 * G ∨ 604 + 500 * G + 500 ≤ p) → p ≠ 61 → g p = f p) ∧ g 61 = (nI (G + 1)).toInt64 ∧ (∀ k, 5 ≤ k → k < 500 → (k < 8 ∨ 12 ≤ k) → g (604 + 500 * G + k) = 0) ∧ g (604 + 500 * G + 0) = k0.toInt64 ∧ g (604 + 500 * G + 1) = k1.toInt64 ∧ g (604 + 500 * G + 2) = k2.toInt64 ∧ g (604 + 500 * G + 3) = k3.toInt64 ∧ g (604 + 500 * G + 4) = k4.toInt64 ∧
      g (604 + 500 * G + 8) = a.toInt64 ∧ g (604 + 500 * G + 9) = b.toInt64 ∧ g (604 + 500 * G + 10) = c.toInt64 ∧ g (604 + 500 * G + 11) = x.toInt64) → Ex (K (nI G) (wJ X 367 g)) Q) :
    Ex (bd (fX12_tells n 366 k0 k1 k2 k3 k4 (wJ X 367 f)) fun r Y => if mT Y 366 = 12 then bd (fX12_terms 366 r a b c x Y) fun _ Z => K r Z else none) Q := by
  refine Ex.bd (m_tells h R hG hG8 hn k0 k1 k2 k3 k4) ?_
  rintro _ _ ⟨rfl, g, rfl, g1, g2, g3, g4, g5, g6, g7, g8⟩
  simp only [h.1, h.2.1, h.2.2, li_T, li_L, li_R, nm, bd, q_b, ne_eq, Nat.reduceEqDiff, reduceCtorEq, and_false, false_and, and_true, true_and, and_self, not_false_eq_true, not_true_eq_false, ↓reduceIte, mT_wJ, mL_wJ, mR_wJ, mI_wJ, mJ_wJ, sJ_wJ, Nat.reduceLT, l60.1, l60.2.1, l60.2.2, l61.1, l61.2.1, l61.2.2, l62.1, l62.2.1, l62.2.2, m_terms h hG8]
  unfold aE at g3 g4 g5 g6 g7 g8 ⊢
  refine nxt _ ⟨fun p h1 h2 => ?_, ?_, fun k h1 h2 h3 => ?_, ?_, ?_, ?_, ?_, ?_, ?_, ?_, ?_, ?_⟩
  · rw [q_u1_n _ _ (by omega), q_u1_n _ _ (by omega), q_u1_n _ _ (by omega), q_u1_n _ _ (by omega)]; exact g1 p h1 h2
  · rw [q_u1_n _ _ (by omega), q_u1_n _ _ (by omega), q_u1_n _ _ (by omega), q_u1_n _ _ (by omega)]; exact g2
  · rw [q_u1_n _ _ (by omega), q_u1_n _ _ (by omega), q_u1_n _ _ (by omega), q_u1_n _ _ (by omega)]; exact g8 k h1 h2
  · rw [q_u1_n _ _ (by omega), q_u1_n _ _ (by omega), q_u1_n _ _ (by omega), q_u1_n _ _ (by omega)]; exact g3
  · rw [q_u1_n _ _ (by omega), q_u1_n _ _ (by omega), q_u1_n _ _ (by omega), q_u1_n _ _ (by omega)]; exact g4
  · rw [q_u1_n _ _ (by omega), q_u1_n _ _ (by omega), q_u1_n _ _ (by omega), q_u1_n _ _ (by omega)]; exact g5
  · rw [q_u1_n _ _ (by omega), q_u1_n _ _ (by omega), q_u1_n _ _ (by omega), q_u1_n _ _ (by omega)]; exact g6
  · rw [q_u1_n _ _ (by omega), q_u1_n _ _ (by omega), q_u1_n _ _ (by omega), q_u1_n _ _ (by omega)]; exact g7
  · rw [q_u1_n _ _ (by omega), q_u1_n _ _ (by omega), q_u1_n _ _ (by omega), q_u1_s]
  · rw [q_u1_n _ _ (by omega), q_u1_n _ _ (by omega), q_u1_s]
  · rw [q_u1_n _ _ (by omega), q_u1_s]
  · rw [q_u1_s]
end
