/-! BOUNDS: RIGHTS paid, all paid, a TURN -/
theorem N_ro_cg {C e j : Nat} {w u : Wt} (h1 : w.1 = u.1) (h31 : ∀ k, w.2 31 k = u.2 31 k) (h40 : ∀ k, w.2 40 k = u.2 40 k) : N_ro C e j w = N_ro C e j u := by
  have s : N_ro1 e j w = N_ro1 e j u := by
    funext i v
    unfold N_ro1
    rw [h1, h40, N_sf_eq (e := e) (w := w) (u := u) (fun a _ => by rw [h1])]
  unfold N_ro
  rw [s, h31, N_sf_eq (e := e) (w := w) (u := u) (fun a _ => by rw [h1])]
theorem N_prh_o (C e h : Nat) (w : Wt) {a : Nat} (z : a = 7 ∨ a = 8 ∨ a = 31 ∨ a = 40) (k : Nat) : (N_prh C e h w).2 a k = w.2 a k := by
  unfold N_prh
  split
  · unfold N_ur
    rw [N_issue_o _ _ _ _ (by omega), N_pu_2 _ _ _ (by omega), N_add_2 _ _ _ (by omega)]
    unfold urW
    rw [uJ_2, if_neg (by omega), uJ_2, if_neg (by omega), uJ_2, if_neg (by omega)]
  · unfold N_op
    rw [N_issue_o _ _ _ _ (by omega), uJ_2, if_neg (by omega), N_pu_2 _ _ _ (by omega)]
theorem prh_b {C e h : Nat} {M X : Int} {w : Wt} (hp : inL (w.1 15 e) 5) (hh : h < 10) (S : Sh0 M (w.2 1)) (hM : M + X ≤ 2 ^ 60) (t0 : 0 ≤ (w.2 32 (10 * e + h)).toInt) (hX : (N_ro C e h w).toInt ≤ X) (hX0 : 0 ≤ X) : Sh0 (M + X) ((N_prh C e h w).2 1) := by
  have i5 := (i5_ix (a := nI h) (p := w.1 15 e) (inL_nI hh (by decide)) hp).2.2
  unfold N_prh
  by_cases z : 0 ≤ lg_cmp (N_ro C e h w) 0
  · rw [if_pos z]
    have z' := Int64.le_iff_toInt_le.mp (cv_ge.mp z)
    rw [i64_z] at z'
    have r : (N_ur e h (N_ro C e h w) w).2 1 = q_u1 (w.2 1) (ix (nI h) (w.1 15 e)) (w.2 1 (ix (nI h) (w.1 15 e)) + urT (10 * e + h) (N_ro C e h w) w) := by
      have a : (N_ur e h (N_ro C e h w) w).2 1 = (N_add (ix (nI h) (w.1 15 e)) (urT (10 * e + h) (N_ro C e h w) w) (urW (10 * e + h) (N_ro C e h w) w)).2 1 := by
        funext k
        unfold N_ur
        rw [N_issue_o _ _ _ _ (by decide), N_pu_2 _ _ _ (by decide)]
      have b : (urW (10 * e + h) (N_ro C e h w) w).2 1 = w.2 1 := by
        funext k
        unfold urW
        rw [uJ_2, if_neg (by omega), uJ_2, if_neg (by omega), uJ_2, if_neg (by omega)]
      rw [a, N_add_row, b]
    rw [r]
    have tk : 0 ≤ (urT (10 * e + h) (N_ro C e h w) w).toInt ∧ (urT (10 * e + h) (N_ro C e h w) w).toInt ≤ X := by
      unfold urT
      by_cases y : N_ro C e h w < w.2 32 (10 * e + h)
      · rw [if_pos y]; omega
      · rw [if_neg y]
        have : ¬ (N_ro C e h w).toInt < (w.2 32 (10 * e + h)).toInt := fun q => y (Int64.lt_iff_toInt_lt.mpr q)
        omega
    exact (S.add (j := ix (nI h) (w.1 15 e)) (v := urT (10 * e + h) (N_ro C e h w) w) (by omega) i5 tk.1).le (by omega)
  · rw [if_neg z]
    have r : (N_op e h (N_ro C e h w) w).2 1 = w.2 1 := by
      funext k
      unfold N_op
      rw [N_issue_o _ _ _ _ (by decide), uJ_2, if_neg (by omega), N_pu_2 _ _ _ (by decide)]
    rw [r]
    exact S.le (by omega)
theorem pr_b {e C H : Nat} {M K : Int} {w : Wt} (hH : H ≤ 10) (hp : inL (w.1 15 e) 5) (ha : inL (w.1 17 e) 10) (hb : inL (w.1 18 e) 10) (b1 : 1 ≤ w.1 18 e) (S : Sh0 M (w.2 1)) (hM : M ≤ 2 ^ 56) (hW : ∀ j, j < 10 → 0 ≤ (w.2 31 (10 * e + j)).toInt) (hWs : sm (fun j => w.2 31 (10 * e + j)) 10 ≤ 2 ^ 53)
    (ht : ∀ j, j < 10 → 0 ≤ w.2 32 (10 * e + j)) (hK : 0 ≤ K) (hK2 : K ≤ 2 ^ 53) (hC : C ≤ 60) (hto : ∀ i, i < C → inL (w.1 39 (60 * e + i)) H) (hs : ∀ i, i < C → 0 ≤ (w.2 40 (60 * e + i)).toInt ∧ 9 * (w.2 40 (60 * e + i)).toInt ≤ K) :
    Sh0 (M + 9 * sm (fun j => w.2 31 (10 * e + j)) 10 + 60 * K) ((N_pr H C e w).2 1) := by
  have Y0 : ∀ j, j < 10 → 0 ≤ 9 * (w.2 31 (10 * e + j)).toInt + Qz e j w C := fun j hj => by have := hW j hj; have := (Qz_b hs j C (Nat.le_refl _)).1; omega
  have CK : (C : Int) * K ≤ 60 * K := Int.mul_le_mul_of_nonneg_right (show (C : Int) ≤ 60 by omega) hK
  have tot : smZ (fun j => 9 * (w.2 31 (10 * e + j)).toInt + Qz e j w C) 10 ≤ 9 * sm (fun j => w.2 31 (10 * e + j)) 10 + 60 * K := by
    have a := smZ_add (fun j => 9 * (w.2 31 (10 * e + j)).toInt) (fun j => Qz e j w C) 10
    have b := smZ_sm (fun j => w.2 31 (10 * e + j)) 10
    have c := Qz_sum hH hto hs C (Nat.le_refl _)
    rw [a]
    have b' : smZ (fun j => 9 * (w.2 31 (10 * e + j)).toInt) 10 = 9 * sm (fun j => w.2 31 (10 * e + j)) 10 := b
    omega
  have part : ∀ i, i ≤ 10 → smZ (fun j => 9 * (w.2 31 (10 * e + j)).toInt + Qz e j w C) i ≤ smZ (fun j => 9 * (w.2 31 (10 * e + j)).toInt + Qz e j w C) 10 := fun i hi => by
    have := smZ_mono (f := fun j => 9 * (w.2 31 (10 * e + j)).toInt + Qz e j w C) i (10 - i) (fun k hk => Y0 k (by omega))
    rw [show i + (10 - i) = 10 by omega] at this
    exact this
  have p0 : ∀ i, i ≤ 10 → 0 ≤ smZ (fun j => 9 * (w.2 31 (10 * e + j)).toInt + Qz e j w C) i := fun i hi => by
    have := smZ_mono (f := fun j => 9 * (w.2 31 (10 * e + j)).toInt + Qz e j w C) 0 i (fun k hk => Y0 k (by omega))
    rw [Nat.zero_add] at this
    exact this
  have s := nf_inv (f := N_prh C e) (P := fun i b => b.1 = w.1 ∧ (∀ a k, (a = 7 ∨ a = 8 ∨ a = 31 ∨ a = 40) → b.2 a k = w.2 a k) ∧ (∀ j, b.2 32 (10 * e + j) = w.2 32 (10 * e + j)) ∧ Sh0 (M + smZ (fun j => 9 * (w.2 31 (10 * e + j)).toInt + Qz e j w C) i) (b.2 1)) (L := H) (fun i b hi hb' => by
    obtain ⟨c1, c2, c3, c4⟩ := hb'
    have ro : N_ro C e i b = N_ro C e i w := N_ro_cg c1 (fun k => c2 31 k (by omega)) (fun k => c2 40 k (by omega))
    have wi := sm_ge 10 hW i (by omega)
    have rb := N_ro_b (e := e) (j := i) (w := w) ha hb b1 hK2 hC hs hK (hW i (by omega)) (by have : (w.2 31 (10 * e + i)).toInt ≤ _ := wi; omega)
    have y0 := Y0 i (by omega)
    have pi := part (i + 1) (by omega)
    rw [smZ] at pi
    refine ⟨(N_prh_1 C e i b).trans c1, fun a k z => by rw [N_prh_o _ _ _ _ z]; exact c2 a k z, fun j => by rw [N_prh_2 _ _ _ _ (Or.inl rfl)]; exact c3 j, ?_⟩
    have := prh_b (C := C) (e := e) (h := i) (w := b) (X := 9 * (w.2 31 (10 * e + i)).toInt + Qz e i w C) (by rw [c1]; exact hp) (by omega) c4 (by omega) (by rw [c3]; have := Int64.le_iff_toInt_le.mp (ht i (by omega)); rw [i64_z] at this; exact this) (by rw [ro]; exact rb) y0
    exact this.le (by rw [smZ]; omega)) H 0 w (by omega) ⟨rfl, fun _ _ _ => rfl, fun _ => rfl, by rw [smZ]; exact S.le (by omega)⟩
  have e2 : (N_pr H C e w).2 1 = (nf (N_prh C e) H 0 w).2 1 := by
    have := nf_inv (f := N_prc e) (P := fun _ b => b.2 = (nf (N_prh C e) H 0 w).2) (L := C) (fun i b _ hb => hb) C 0 (nf (N_prh C e) H 0 w) (by omega) rfl
    unfold N_pr
    rw [this]
  rw [e2]
  have r := s.2.2.2
  rw [Nat.zero_add] at r
  have := part H (by omega)
  exact r.le (by omega)
theorem N_pr_o {e C H : Nat} {w : Wt} {a : Nat} (z : a = 7 ∨ a = 8 ∨ a = 31 ∨ a = 40) (k : Nat) : (N_pr H C e w).2 a k = w.2 a k := by
  have s := nf_inv (f := N_prh C e) (P := fun _ b => ∀ k, b.2 a k = w.2 a k) (L := H) (fun i b _ hb k => by rw [N_prh_o _ _ _ _ z]; exact hb k) H 0 w (by omega) (fun _ => rfl)
  have := nf_inv (f := N_prc e) (P := fun _ b => b.2 = (nf (N_prh C e) H 0 w).2) (L := C) (fun i b _ hb => hb) C 0 (nf (N_prh C e) H 0 w) (by omega) rfl
  unfold N_pr
  rw [this]
  exact s k
/-- MONEY, a GIFT paid -/
theorem po_b {e C H : Nat} {M : Int} {w : Wt} (hH : H ≤ 10) (hp : inL (w.1 15 e) 5) (ha : inL (w.1 17 e) 10) (hb : inL (w.1 18 e) 10) (b1 : 1 ≤ w.1 18 e) (S : Sh0 M (w.2 1)) (hM : M ≤ 2 ^ 56) (hW : ∀ j, j < 10 → 0 ≤ (w.2 31 (10 * e + j)).toInt) (hWs : sm (fun j => w.2 31 (10 * e + j)) 10 ≤ 2 ^ 53) (hC : C ≤ 60)
    (hft : ∀ i, i < C → inL (w.1 38 (60 * e + i)) 10 ∧ inL (w.1 39 (60 * e + i)) 10) (hs : ∀ i, i < C → 0 ≤ (w.2 40 (60 * e + i)).toInt ∧ (w.2 40 (60 * e + i)).toInt ≤ 2 ^ 58) :
    Sh0 (M + 9 * sm (fun j => w.2 31 (10 * e + j)) 10) ((N_po H C e w).2 1) := by
  have s := poh_b (H := H) hH hp ha hb b1 S hM hW hWs
  have f := N_poh_fr (e := e) (H := H) (w := w)
  have q := nf_inv (f := N_poc e) (P := fun _ b => (∀ a k, a ≠ 42 → a ≠ 27 → b.1 a k = w.1 a k) ∧ (∀ k, b.2 40 k = w.2 40 k) ∧ Sh0 (M + 9 * sm (fun j => w.2 31 (10 * e + j)) 10) (b.2 1)) (L := C) (fun i b hi hb' => by
    obtain ⟨c1, c2, c3⟩ := hb'
    refine ⟨fun a k h1 h2 => by rw [N_poc_1 e i b h1 h2]; exact c1 a k h1 h2, fun k => by rw [N_poc_2 e i b (by decide) (by decide)]; exact c2 k, ?_⟩
    unfold N_poc
    split
    · rename_i hB
      exact pc_b (by rw [c1 _ _ (by decide) (by decide)]; exact (hft i hi).1) (by rw [c1 _ _ (by decide) (by decide)]; exact (hft i hi).2) (by rw [c1 _ _ (by decide) (by decide)]; exact hp) (by rw [c1 _ _ (by decide) (by decide)]; exact ha) (by rw [c1 _ _ (by decide) (by decide)]; exact hb) (by rw [c1 _ _ (by decide) (by decide)]; exact b1) c3 (by omega) (by rw [c2]; exact hs i hi) hB
    · exact c3) C 0 (nf (N_poh e) H 0 w) (by omega) ⟨fun a k _ _ => by rw [f.1], fun k => f.2 40 k (by decide) (by decide) (by decide) (by decide), s⟩
  exact q.2.2
/-- a TURN -/
theorem tph_b {e H : Nat} {M : Int} {w : Wt} (hH : H ≤ 10) (hp : inL (w.1 15 e) 5) (hq : inL (w.1 16 e) 5) (ha : inL (w.1 17 e) 10) (hb : inL (w.1 18 e) 10) (b1 : 1 ≤ w.1 18 e) (S : Sh0 M (w.2 1)) (hM : 9 * M ≤ 2 ^ 57) : Sh0 (9 * M) ((nf (N_tph e) H 0 w).2 1) := by
  obtain ⟨p, p5, ep⟩ := inL_of hp (by decide)
  obtain ⟨q, q5, eq⟩ := inL_of hq (by decide)
  have s := nf_inv (f := N_tph e) (P := fun i b => b.1 = w.1 ∧ Pt (9 * M) (5 * i) (b.2 1)) (L := H) (fun i b hi hb' => by
    obtain ⟨c1, c2⟩ := hb'
    refine ⟨by unfold N_tph; rw [N_give_1, N_add_1]; exact c1, ?_⟩
    have gi := c2.1 (5 * i + p) (by omega)
    have gl := sm_ge 50 c2.1 (5 * i + p) (by omega)
    have sl : sm (b.2 1) 50 ≤ 9 * M := by
      have := c2.2
      have m1 : sm (b.2 1) (5 * i) ≤ sm (b.2 1) 50 := by
        have := sm_mono (g := b.2 1) (5 * i) (50 - 5 * i) (fun k hk => c2.1 k (by omega))
        rw [show 5 * i + (50 - 5 * i) = 50 by omega] at this
        exact this
      omega
    have e1 : N_sf e (b.2 1 (5 * i + p)) (N_add (5 * i + p) (-(b.2 1 (5 * i + p))) b) = N_sf e (b.2 1 (5 * i + p)) b := N_sf_eq fun a _ => by rw [N_add_1]
    have sf := N_sf_b (e := e) (v := b.2 1 (5 * i + p)) (w := b) (by rw [c1]; exact ha) (by rw [c1]; exact hb) (by rw [c1]; exact b1) gi (by omega)
    unfold N_tph
    rw [N_give_row, N_add_row, c1, ep, eq, ix_nI (by omega) p5, ix_nI (by omega) q5, e1]
    exact c2.step (by omega) (by omega) p5 q5 sf.1 sf.2) H 0 w (by omega) ⟨rfl, S.1, by
      have := S.2
      show 0 + 9 * (sm (w.2 1) 50 - 0) ≤ 9 * M
      omega⟩
  obtain ⟨-, r1, r2⟩ := s
  refine ⟨r1, ?_⟩
  have m1 : sm ((nf (N_tph e) H 0 w).2 1) (5 * (0 + H)) ≤ sm ((nf (N_tph e) H 0 w).2 1) 50 := by
    have := sm_mono (g := (nf (N_tph e) H 0 w).2 1) (5 * (0 + H)) (50 - 5 * (0 + H)) (fun k hk => r1 k (by omega))
    rw [show 5 * (0 + H) + (50 - 5 * (0 + H)) = 50 by omega] at this
    exact this
  omega
theorem N_tpt_row (e t : Nat) (w : Wt) : (N_tpt e t w).2 1 = w.2 1 ∧ (∀ k, k ≠ t → (N_tpt e t w).2 7 k = w.2 7 k) ∧ ((N_tpt e t w).2 7 t = w.2 7 t ∨ (N_tpt e t w).2 7 t = N_sf e (w.2 7 t) w) := by
  unfold N_tpt
  split
  · split
    · have h7 : ∀ k, (N_tt e t w).2 7 k = if k = t then N_sf e (w.2 7 t) (uI w 6 t (w.1 16 e)) else w.2 7 k := by
        intro k
        have z : (N_tt2 e t w).2 7 k = if k = t then N_sf e (w.2 7 t) (uI w 6 t (w.1 16 e)) else w.2 7 k := by
          unfold N_tt2 N_tt1
          rw [uJ_2, if_neg (by omega), uJ_2, uI_2]
          by_cases y : k = t
          · rw [if_pos ⟨rfl, y⟩, if_pos y]
          · rw [if_neg (fun x => y x.2), if_neg y]
        unfold N_tt
        split
        · unfold N_fin
          rw [uI_2, uI_2, N_mv_2 _ _ _ _ (by decide)]
          exact z
        · exact z
      refine ⟨funext fun k => N_tt_2 e t w (by decide) (by decide) (by decide) k, fun k hk => by rw [h7, if_neg hk], Or.inr ?_⟩
      rw [h7, if_pos rfl, N_sf_uI (by decide)]
    · exact ⟨rfl, fun _ _ => rfl, Or.inl rfl⟩
  · exact ⟨rfl, fun _ _ => rfl, Or.inl rfl⟩
theorem tp_b {T G H e : Nat} {M K : Int} {w : Wt} (hH : H ≤ 10) (hp : inL (w.1 15 e) 5) (hq : inL (w.1 16 e) 5) (ha : inL (w.1 17 e) 10) (hb : inL (w.1 18 e) 10) (b1 : 1 ≤ w.1 18 e) (S : Sh0 M (w.2 1)) (hM : 9 * M ≤ 2 ^ 57) (hK : K ≤ 2 ^ 53) (h7 : ∀ t, t < T → 0 ≤ (w.2 7 t).toInt ∧ (w.2 7 t).toInt ≤ K) :
    Sh0 (9 * M) ((N_tp T G H e w).2 1) ∧ ∀ t, t < T → 0 ≤ ((N_tp T G H e w).2 7 t).toInt ∧ ((N_tp T G H e w).2 7 t).toInt ≤ 9 * K := by
  have s1 := tph_b hH hp hq ha hb b1 S hM
  have f1 := nf_inv (f := N_tph e) (P := fun _ b => b.1 = w.1 ∧ ∀ k, b.2 7 k = w.2 7 k) (L := H) (fun i b _ hb => ⟨by unfold N_tph; rw [N_give_1, N_add_1]; exact hb.1, fun k => by
    unfold N_tph
    rw [N_give_o _ _ _ _ _ (by decide), N_add_2 _ _ _ (by decide)]
    exact hb.2 k⟩) H 0 w (by omega) ⟨rfl, fun _ => rfl⟩
  have s2 := nf_inv (f := N_tpt e) (P := fun i b => (∀ a k, a ≠ 6 → a ≠ 11 → a ≠ 12 → b.1 a k = w.1 a k) ∧ b.2 1 = (nf (N_tph e) H 0 w).2 1 ∧ (∀ t, i ≤ t → t < T → b.2 7 t = w.2 7 t) ∧ ∀ t, t < i → t < T → 0 ≤ (b.2 7 t).toInt ∧ (b.2 7 t).toInt ≤ 9 * K) (L := T) (fun i b hi hb' => by
    obtain ⟨c1, c2, c3, c4⟩ := hb'
    obtain ⟨r1, r2, r3⟩ := N_tpt_row e i b
    refine ⟨fun a k z1 z2 z3 => by rw [N_tpt_1 _ _ _ z2 z3 z1]; exact c1 a k z1 z2 z3, r1.trans c2, fun t h1 h2 => by rw [r2 t (by omega)]; exact c3 t (by omega) h2, fun t h1 h2 => ?_⟩
    by_cases z : t = i
    · subst z
      have o := h7 t hi
      have c := c3 t (Nat.le_refl _) hi
      rcases r3 with r3 | r3
      · rw [r3, c]; omega
      · have sf := N_sf_b (e := e) (v := w.2 7 t) (w := b) (by rw [c1 _ _ (by decide) (by decide) (by decide)]; exact ha) (by rw [c1 _ _ (by decide) (by decide) (by decide)]; exact hb) (by rw [c1 _ _ (by decide) (by decide) (by decide)]; exact b1) o.1 (by omega)
        rw [r3, c]; omega
    · rw [r2 t z]; exact c4 t (by omega) h2) T 0 (nf (N_tph e) H 0 w) (by omega) ⟨fun a k _ _ _ => by rw [f1.1], rfl, fun t _ _ => f1.2 t, fun t h1 _ => absurd h1 (Nat.not_lt_zero t)⟩
  have s3 := nf_inv (f := N_drop e) (P := fun _ b => b.2 = (nf (N_tpt e) T 0 (nf (N_tph e) H 0 w)).2) (L := G) (fun i b _ hb => by
    unfold N_drop
    split
    · exact hb
    · exact hb) G 0 (nf (N_tpt e) T 0 (nf (N_tph e) H 0 w)) (by omega) rfl
  have e2 : (N_tp T G H e w).2 = (nf (N_tpt e) T 0 (nf (N_tph e) H 0 w)).2 := by
    unfold N_tp
    rw [uI_2, s3]
  rw [e2]
  obtain ⟨-, q2, -, q4⟩ := s2
  rw [Nat.zero_add] at q4
  exact ⟨by rw [q2]; exact s1, fun t ht => q4 t ht ht⟩
