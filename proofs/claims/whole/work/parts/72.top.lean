/-! THE TOP RELATION of class and reference -/
def DS (H P n : Nat) (d : Nat → Int32) (op : Mm → Option (Int32 × Mm)) (good : Int32 → Int32 → Wt → Prop) (bad : Int32) : Prop :=
  ∀ (bk dr : Nat) (X : Mm) (f : Nat → Int64) (w : Wt), Shp bk dr X → mI X 15 = d → H ≤ 10 → P ≤ 5 → SR H P f w →
    (∃ r w', r ≠ -1 ∧ fX8_perform n 16 15 (pW 16 w X) = some (r, pW 16 w' X) ∧ ∀ Z, Shp bk dr Z → mI Z 366 6 = nI H → mI Z 366 7 = nI P → ∃ r' f', op (wJ Z 367 f) = some (r', wJ Z 367 f') ∧ good r r' w' ∧ SR H P f' w') ∨
    (fX8_perform n 16 15 (pW 16 w X) = some (-1, pW 16 w X) ∧ ∀ Z, Shp bk dr Z → mI Z 366 6 = nI H → mI Z 366 7 = nI P → op (wJ Z 367 f) = some (bad, wJ Z 367 f))
theorem nI_nm1 {j : Nat} (h : j < 1000) : nI j ≠ (-1 : Int32) := fun z => by
  have := congrArg Int32.toInt z
  rw [nI_toInt (by omega)] at this
  have e : (-1 : Int32).toInt = -1 := by decide
  omega
section
variable {H P n : Nat} {d : Nat → Int32}
theorem DS.trade (hk : d 0 = 4) : DS H P n d (fun Y => fX12_trades 366 (d 2) (d 3) (d 1) (d 4) (d 5) (d 6) Y) (fun r r' _ => r = r') (-1) := by
  intro bk dr X f w h hd hH hP ⟨T, G, R, iv, iw⟩
  have c := c_trade h St.now iv.1.1 R.1 iv.1.2.2.2.2.1 iw.1 hd hk n
  by_cases k : kT H P T d
  · refine Or.inl ⟨_, _, nI_nm1 (by have := R.1; omega), c.1 k, fun Z hZ h6 h7 => ⟨_, _, (m_trade hZ R iv.1.1 h6 hH h7 hP).1 k, rfl, T + 1, G, R.trade k.2.2.2.2.2.2.2 d, iv.tr k hP, iw.tr iv k⟩⟩
  · exact Or.inr ⟨c.2 k, fun Z hZ h6 h7 => (m_trade hZ R iv.1.1 h6 hH h7 hP).2 k⟩
theorem DS.event {op : Mm → Option (Int32 × Mm)} (hn : 512 ≤ n) (hk : d 0 = 0 ∨ d 0 = 1 ∨ d 0 = 2 ∨ d 0 = 3) (hz : d 0 = 0 → d 8 = 0 ∧ d 9 = 1 ∧ d 11 = 0)
    (hop : ∀ (bk dr T G : Nat) (Z : Mm) (f : Nat → Int64) (w : Wt), Shp bk dr Z → Rl T G f w → w.1 13 16 = nI G → mI Z 366 7 = nI P → P ≤ 5 → (kE P G (w.1 0 8) d → Ex (op (wJ Z 367 f)) fun r Y => r = nI G ∧ RX Z T (G + 1) (N_ev d G w) Y) ∧ (¬ kE P G (w.1 0 8) d → op (wJ Z 367 f) = some (-1, wJ Z 367 f))) : DS H P n d op (fun r r' _ => r = r') (-1) := by
  intro bk dr X f w h hd hH hP ⟨T, G, R, iv, iw⟩
  have c := c_event h St.now iv.1.2.2.1 R.2.1 iw.1 hd hk (n := n) (by omega)
  by_cases k : kE P G (w.1 0 8) d
  · refine Or.inl ⟨_, _, nI_nm1 (by have := R.2.1; omega), c.1 k, fun Z hZ h6 h7 => ?_⟩
    obtain ⟨r, Y, e, rfl, f', rfl, R'⟩ := (hop bk dr T G Z f w hZ R iv.1.2.2.1 h7 hP).1 k
    exact ⟨_, f', e, rfl, T, G + 1, R', iv.ev k hP (fun y => ⟨(hz y).1, (hz y).2.1⟩), iw.ev k hk hz⟩
  · exact Or.inr ⟨c.2 k, fun Z hZ h6 h7 => (hop bk dr T G Z f w hZ R iv.1.2.2.1 h7 hP).2 k⟩
theorem DS.pays (hn : 512 ≤ n) (h0 : d 0 = 0) (h8 : d 8 = 0) (h9 : d 9 = 1) (h11 : d 11 = 0) : DS H P n d (fun Y => fX12_pays n 366 (d 1) (d 10) (d 13) (d 14) (d 15) Y) (fun r r' _ => r = r') (-1) :=
  DS.event hn (Or.inl h0) (fun _ => ⟨h8, h9, h11⟩) fun bk dr T G Z f w hZ R hG h7 hP => m_pays hZ R hG h7 hP hn h0 h8 h9 h11
theorem DS.gives (hn : 512 ≤ n) (h0 : d 0 = 1) (h10 : d 10 = 0) : DS H P n d (fun Y => fX12_gives n 366 (d 1) (d 8) (d 9) (d 11) (d 13) (d 14) (d 15) Y) (fun r r' _ => r = r') (-1) :=
  DS.event hn (Or.inr (Or.inl h0)) (fun z => absurd (h0.symm.trans z) (by decide)) fun bk dr T G Z f w hZ R hG h7 hP => m_gives hZ R hG h7 hP hn h0 h10
theorem DS.offers (hn : 512 ≤ n) (h0 : d 0 = 2) : DS H P n d (fun Y => fX12_offers n 366 (d 1) (d 8) (d 9) (d 10) (d 11) (d 12) (d 13) (d 14) (d 15) Y) (fun r r' _ => r = r') (-1) :=
  DS.event hn (Or.inr (Or.inr (Or.inl h0))) (fun z => absurd (h0.symm.trans z) (by decide)) fun bk dr T G Z f w hZ R hG h7 hP => m_offers hZ R hG h7 hP hn h0
theorem DS.turns (hn : 512 ≤ n) (h0 : d 0 = 3) (h13 : d 13 = d 14) (h15 : d 15 = d 14) : DS H P n d (fun Y => fX12_turns n 366 (d 1) (d 7) (d 8) (d 9) (d 10) (d 11) (d 14) Y) (fun r r' _ => r = r') (-1) :=
  DS.event hn (Or.inr (Or.inr (Or.inr h0))) (fun z => absurd (h0.symm.trans z) (by decide)) fun bk dr T G Z f w hZ R hG h7 hP => m_turns hZ R hG h7 hP hn h0 h13 h15
theorem DS.choose (h0 : d 0 = 5) : DS H P n d (fun Y => fX12_chooses 366 (d 16) (d 2) (d 17) (d 18) Y) (fun _ r' _ => r' = 1) 0 := by
  intro bk dr X f w h hd hH hP ⟨T, G, R, iv, iw⟩
  have c := c_choice h St.now iv.1.2.2.1 R.2.1 iv.1.2.2.2.2.1 hH hd h0 n
  have hst : ∀ e, e < G → inL (w.1 25 e) 4 := fun e he => (iw.2.2.2.2.1 e he).1
  by_cases k : kC H G w d
  · refine Or.inl ⟨_, _, by decide, c.1 k, fun Z hZ h6 h7 => ?_⟩
    obtain ⟨r, Y, e, rfl, f', rfl, R'⟩ := (m_choose hZ R iv.1.2.2.1 hst h6 hH).1 k
    exact ⟨_, f', e, rfl, T, G, R', iv.ch k.2.2.1.1 k.2.2.2.1.1, iw.ch⟩
  · exact Or.inr ⟨c.2 k, fun Z hZ h6 h7 => (m_choose hZ R iv.1.2.2.1 hst h6 hH).2 k⟩
theorem DS.days (hn : 1200 ≤ n) (h0 : d 0 = 6) : DS H P n d (fun Y => fX12_pass n 366 (d 19) Y) (fun r r' w' => r' = 1 ∧ r = w'.1 0 8) 0 := by
  intro bk dr X f w h hd hH hP ⟨T, G, R, iv, iw⟩
  obtain ⟨y, y9, hy⟩ := iw.2.2.1
  have c := c_days h St.now iv.1 hy y9 hd h0 hn
  by_cases k : 1 ≤ d 19 ∧ d 19 ≤ 99 ∧ w.1 0 8 + d 19 ≤ 999
  · obtain ⟨k1, k2, k3⟩ := k
    have i100 := inL_cc (v := d 19) (l := 1) (n := 99) (m := 100) ⟨k1, k2⟩ (by decide) (by decide) (by decide)
    obtain ⟨m, hm, em⟩ := inL_of i100 (by decide)
    rw [em] at k1 k2 k3
    have m1 : 1 ≤ m := by
      rw [show (1 : Int32) = nI 1 from rfl, nI_leI (by omega) (by omega)] at k1
      exact k1
    have m3 : y + m ≤ 999 := by
      rw [hy, nI_add, show (999 : Int32) = nI 999 from rfl, nI_leI (by omega) (by omega)] at k3
      exact k3
    refine Or.inl ⟨_, _, nI_nm1 (by omega), c.1 m em m1 (by omega) m3, fun Z hZ h6 h7 => ?_⟩
    obtain ⟨r, Y, e, rfl, ⟨f', rfl, R'⟩, iv', hday⟩ := m_pass_yes (n := n) hZ R h6 iv hy m1 (by omega) m3 (by omega)
    refine ⟨_, f', by rw [em]; exact e, ⟨rfl, hday.symm⟩, T, G, R', iv', iw.days h iv hy m3⟩
  · exact Or.inr ⟨c.2 k, fun Z hZ h6 h7 => m_pass_no hZ R n _ k⟩
end
/-- names as letters 1 .. 26 -/
def c5 (l : List Nat) : Nat := l.foldl (fun a x => 32 * a + x) 0
def c27 (l : List Nat) : Nat := l.foldl (fun a x => 27 * a + x) 0
def Nm (l : List Nat) : Prop := 1 ≤ l.length ∧ l.length ≤ 6 ∧ ∀ x ∈ l, 1 ≤ x ∧ x ≤ 26
def HiR (H P : Nat) (X : Mm) : Prop := ∃ nx c, nx < 7 ∧ c ≤ 6 ∧ mI X 59 1 = nI nx ∧ mI X 59 2 = nI c ∧ mI X 366 5 = nI c ∧ ∀ j, j < c → SR H P (fun k => mJ X 370 (4604 * j + k)) (gW (61 + 43 * ((nx + 7 - c + j) % 7)) X)
def NaR (q : Nat) (r : Nat) (n : Nat) (X : Mm) : Prop := ∃ nh : Nat → List Nat, ∀ i, i < n → Nm (nh i) ∧ mI X q i = nI (c5 (nh i)) ∧ mJ X r i = lN (c27 (nh i))
def NmR (bk H P : Nat) (X : Mm) : Prop := mI X bk 3 = nI H ∧ mI X bk 4 = nI P ∧ NaR (bk + 1) 371 H X ∧ NaR (bk + 2) 372 P X
def TpR (X : Mm) : Prop := ∃ L, L ≤ 700 ∧ mI X 2 1 = nI L ∧ mI X 366 12 = nI L ∧ ∀ i, i < 700 → mI X 374 i = mI X 3 i ∧ -128 ≤ (mI X 3 i).toInt ∧ (mI X 3 i).toInt ≤ 127
def FaR (X : Mm) : Prop := mI X 2 6 = mI X 366 22 ∧ mI X 2 7 = mI X 366 23
def ShR (X : Mm) : Prop := ∃ L, L ≤ 300 ∧ mI X 362 1 = nI L ∧ mI X 366 34 = nI L ∧ ∀ i, i < L → mI X 363 i = mI X 381 i
def LtR (X : Mm) : Prop := ∀ i, i < 113 → mI X 373 i = q_kb.getD i 0
def Bks (bk dr : Nat) : Prop := (bk = 7 ∧ dr = 11) ∨ (bk = 11 ∧ dr = 7)
/-- class and reference at the same point -/
def Tp (bk dr H P : Nat) (X : Mm) : Prop := Shp bk dr X ∧ Bks bk dr ∧ H ≤ 10 ∧ P ≤ 5 ∧ mI X 366 6 = nI H ∧ mI X 366 7 = nI P ∧ SR H P (mJ X 367) (gW 16 X) ∧ HiR H P X ∧ NmR bk H P X ∧ TpR X ∧ FaR X ∧ ShR X ∧ LtR X
/-- what the relation speaks of -/
def rlI (c k : Nat) : Prop := (c = 2 ∧ (k = 1 ∨ k = 6 ∨ k = 7)) ∨ c = 3 ∨ (7 ≤ c ∧ c ≤ 14) ∨ (16 ≤ c ∧ c ≤ 361) ∨ (c = 362 ∧ k = 1) ∨ c = 363 ∨ (c = 366 ∧ (k = 5 ∨ k = 6 ∨ k = 7 ∨ k = 12 ∨ k = 22 ∨ k = 23 ∨ k = 34)) ∨ c = 373 ∨ c = 374 ∨ c = 381
def rlJ (c : Nat) : Prop := (16 ≤ c ∧ c ≤ 361) ∨ c = 367 ∨ c = 370 ∨ c = 371 ∨ c = 372
theorem Weq.of {s s' : Nat} {X Y : Mm} (hI : ∀ a k, a ≤ 42 → mI Y (s' + a) k = mI X (s + a) k) (hJ : ∀ a k, a ≤ 42 → mJ Y (s' + a) k = mJ X (s + a) k) : Weq (gW s X) (gW s' Y) :=
  ⟨fun a k h => (hI a k (by unfold iR at h; omega)).symm, fun a k h => (hJ a k (by unfold jR at h; omega)).symm⟩
theorem Weq.pW {s : Nat} {w : Wt} {X : Mm} : Weq w (gW s (pW s w X)) :=
  ⟨fun a k h => (mI_pW a k (by unfold iR at h; omega)).symm, fun a k h => (mJ_pW a k (by unfold jR at h; omega)).symm⟩
theorem Tp.same {bk dr H P : Nat} {X Y : Mm} (h : Tp bk dr H P X) (hS : Shp bk dr Y) (hI : ∀ c k, rlI c k → mI Y c k = mI X c k) (hJ : ∀ c, rlJ c → ∀ k, mJ Y c k = mJ X c k) : Tp bk dr H P Y := by
  obtain ⟨h1, h2, h3, h4, h5, h6, h7, ⟨nx, c, g1, g2, g3, g4, g5, g6⟩, ⟨n1, n2, ⟨nh, n3⟩, ⟨np, n4⟩⟩, ⟨L, t1, t2, t3, t4⟩, ⟨f1, f2⟩, ⟨M, s1, s2, s3, s4⟩, l⟩ := h
  have hb : bk = 7 ∨ bk = 11 := by rcases h2 with z | z <;> omega
  refine ⟨hS, h2, h3, h4, by rw [hI _ _ (by unfold rlI; omega)]; exact h5, by rw [hI _ _ (by unfold rlI; omega)]; exact h6, ?_, ⟨nx, c, g1, g2, by rw [hI _ _ (by unfold rlI; omega)]; exact g3, by rw [hI _ _ (by unfold rlI; omega)]; exact g4, by rw [hI _ _ (by unfold rlI; omega)]; exact g5, fun j hj => ?_⟩, ⟨by rw [hI _ _ (by unfold rlI; omega)]; exact n1, by rw [hI _ _ (by unfold rlI; omega)]; exact n2, ⟨nh, fun i hi => ?_⟩, ⟨np, fun i hi => ?_⟩⟩, ⟨L, t1, by rw [hI _ _ (by unfold rlI; omega)]; exact t2, by rw [hI _ _ (by unfold rlI; omega)]; exact t3, fun i hi => ?_⟩, ⟨?_, ?_⟩, ⟨M, s1, by rw [hI _ _ (by unfold rlI; omega)]; exact s2, by rw [hI _ _ (by unfold rlI; omega)]; exact s3, fun i hi => ?_⟩, fun i hi => ?_⟩
  · exact h7.weq (Weq.of (fun a k ha => hI _ _ (by unfold rlI; omega)) (fun a k ha => hJ _ (by unfold rlJ; omega) k)) (fun p _ => hJ _ (by unfold rlJ; omega) p)
  · exact (g6 j hj).weq (Weq.of (fun a k ha => hI _ _ (by unfold rlI; omega)) (fun a k ha => hJ _ (by unfold rlJ; omega) k)) (fun p _ => hJ _ (by unfold rlJ; omega) _)
  · rw [hI _ _ (by unfold rlI; omega), hJ _ (by unfold rlJ; omega)]; exact n3 i hi
  · rw [hI _ _ (by unfold rlI; omega), hJ _ (by unfold rlJ; omega)]; exact n4 i hi
  · rw [hI _ _ (by unfold rlI; omega), hI _ _ (by unfold rlI; omega)]; exact t4 i hi
  · rw [hI _ _ (by unfold rlI; omega), hI _ _ (by unfold rlI; omega)]; exact f1
  · rw [hI _ _ (by unfold rlI; omega), hI _ _ (by unfold rlI; omega)]; exact f2
  · rw [hI _ _ (by unfold rlI; omega), hI _ _ (by unfold rlI; omega)]; exact s4 i hi
  · rw [hI _ _ (by unfold rlI; omega)]; exact l i hi
/-- 'told' of the reference counts for nothing -/
theorem Tp.told {bk dr H P : Nat} {X : Mm} (h : Tp bk dr H P X) (v : Int32) : Tp bk dr H P (sI X 366 0 v) :=
  h.same h.1 (fun c k hr => by rw [mI_sI, if_neg (by unfold rlI at hr; omega)]) (fun c _ k => rfl)
