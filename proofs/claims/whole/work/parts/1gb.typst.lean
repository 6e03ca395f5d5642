/-! THE ORDERS ARE TYPED: what statements need -/
def YL (m : Mem) (y : yS) : Prop := (0 ≤ y.2.1 ∧ y.2.1 ≤ y.2.2.2.2 ∧ y.2.2.2.2 ≤ 1510) ∧ ∀ k : Nat, (k : Int) < m 57 4 → y.2.2.1 k = -1 ∨ (0 ≤ y.2.2.1 k ∧ y.2.2.1 k < y.2.1 ∧ y.2.2.2.1 (y.2.2.1 k).toNat = (k : Int))
/-- a label that stands where the pile is empty -/
def Sd (m : Mem) (b0 : Nat) (s : xSt) (y : yS) (l : Int) : Prop := (0 ≤ l ∧ l < (y.1.length : Int)) ∧ ((b0 : Int) ≤ y.1.getD l.toNat 0 ∧ y.1.getD l.toNat 0 ≤ (s.1.length : Int)) ∧ hgt m s.1 (y.1.getD l.toNat 0).toNat = 0
/-- a handler that stands -/
def Hd (b0 : Nat) (s : xSt) (y : yS) (l : Int) : Prop := (0 ≤ l ∧ l < (y.1.length : Int)) ∧ ((b0 : Int) ≤ y.1.getD l.toNat 0 ∧ y.1.getD l.toNat 0 < (s.1.length : Int)) ∧ ((s.1.getD (y.1.getD l.toNat 0).toNat (0, 0, 0)).1 = 23 ∨ (s.1.getD (y.1.getD l.toNat 0).toNat (0, 0, 0)).1 = 26)
def LPs (m : Mem) (b0 : Nat) (s : xSt) (y : yS) (H : Int) (U : Int → Prop) (o l : Int) : Prop := (isR o → l = H ∨ Hd b0 s y l) ∧ (isJ o → U l ∨ Sd m b0 s y l) ∧ (¬ isR o → ¬ isJ o → l = -1)
def TQ (m : Mem) (p : Int) (b0 : Nat) (H : Int) (X : Nat → Prop) (U : Int → Prop) (c c' : zS) (δ b lb : Int) : Prop := (c.1.1.length ≤ c'.1.1.length ∧ (c'.1.1.length : Int) ≤ (c.1.1.length : Int) + b) ∧ (∀ k, k < c.1.1.length → c'.1.1.getD k (0, 0, 0) = c.1.1.getD k (0, 0, 0)) ∧ c'.1.2.1 = c.1.2.1 + δ ∧ HI m c'.1 ∧ (c.1.2.2.1 ≤ c'.1.2.2.1 ∧ (c.1.2.2.1 ≤ 3000 → c'.1.2.2.1 ≤ 3000)) ∧ (c.2.1.length ≤ c'.2.1.length ∧ (c'.2.1.length : Int) ≤ (c.2.1.length : Int) + lb) ∧ ((∀ k, k < c.2.1.length → ¬ X k → c'.2.1.getD k 0 = c.2.1.getD k 0) ∧ (∀ k, k < c.2.1.length → X k → c.2.1.getD k 0 = -1)) ∧ (YL m c'.2 ∧ c'.2.2.1 ≤ c.2.2.1 + b ∧ c.2.2.1 ≤ c'.2.2.1 ∧ c.2.2.2.2.2 ≤ c'.2.2.2.2.2) ∧ (∀ k, c.1.1.length ≤ k → k < c'.1.1.length → OpT m p c'.2.2.2.2.2 (c'.1.1.getD k (0, 0, 0)).1 (c'.1.1.getD k (0, 0, 0)).2.1 (hgt m c'.1.1 k) ∧ hgt m c'.1.1 (k + 1) ≤ c'.1.2.2.1 ∧ LPs m b0 c'.1 c'.2 H U (c'.1.1.getD k (0, 0, 0)).1 (c'.1.1.getD k (0, 0, 0)).2.2)
section Tst
variable {m : Mem} {p0 H e : Int} {b0 : Nat} {X X1 X2 : Nat → Prop} {U U1 U2 : Int → Prop} {c c1 c2 : zS} {s s1 s2 : xSt} {y y1 y2 : yS}
theorem Sd_mo {l : Int} (h : Sd m b0 s y l) (hl : s.1.length ≤ s2.1.length) (hp : ∀ k, k < s.1.length → s2.1.getD k (0, 0, 0) = s.1.getD k (0, 0, 0)) (hy : y.1.length ≤ y2.1.length) (hg : y2.1.getD l.toNat 0 = y.1.getD l.toNat 0) : Sd m b0 s2 y2 l := by
  obtain ⟨h1, h2, h3⟩ := h
  refine ⟨by omega, by rw [hg]; omega, ?_⟩
  rw [hg]
  exact (hgt_c (m := m) (l := s.1) (l2 := s2.1) _ (fun j hj => hp j (by omega))).trans h3
theorem Hd_mo {l : Int} (h : Hd b0 s y l) (hl : s.1.length ≤ s2.1.length) (hp : ∀ k, k < s.1.length → s2.1.getD k (0, 0, 0) = s.1.getD k (0, 0, 0)) (hy : y.1.length ≤ y2.1.length) (hg : y2.1.getD l.toNat 0 = y.1.getD l.toNat 0) : Hd b0 s2 y2 l := by
  obtain ⟨h1, h2, h3⟩ := h
  refine ⟨by omega, by rw [hg]; omega, ?_⟩
  rw [hg, hp _ (by omega)]
  exact h3
theorem OpT_ml {ml ml2 o a h : Int} (hT : OpT m p0 ml o a h) (hm : ml ≤ ml2) : OpT m p0 ml2 o a h := by
  obtain ⟨t1, t2, t3, t4, t5⟩ := hT
  exact ⟨t1, t2, t3, fun w => by have := t4 w; omega, t5⟩
theorem TQ_rf (hI : HI m c.1) (hY : YL m c.2) : TQ m p0 b0 H (fun _ => False) U c c 0 0 0 := ⟨⟨Nat.le_refl _, by omega⟩, fun _ _ => rfl, by omega, hI, ⟨Int.le_refl _, fun h => h⟩, ⟨Nat.le_refl _, by omega⟩, ⟨fun _ _ _ => rfl, fun _ _ w => w.elim⟩, ⟨hY, by omega, Int.le_refl _, Int.le_refl _⟩, fun k a b => absurd a (by omega)⟩
theorem TQ_tr {d1 d2 a1 a2 l1 l2 : Int} (h1 : TQ m p0 b0 H X1 U c c1 d1 a1 l1) (h2 : TQ m p0 b0 H X2 U c1 c2 d2 a2 l2) : TQ m p0 b0 H (fun k => X1 k ∨ X2 k) U c c2 (d1 + d2) (a1 + a2) (l1 + l2) := by
  obtain ⟨⟨u1, u2⟩, u3, u4, u5, u6, ⟨u7, u8⟩, ⟨u9, u10⟩, ⟨u11, u12, u13, u14⟩, u15⟩ := h1
  obtain ⟨⟨v1, v2⟩, v3, v4, v5, v6, ⟨v7, v8⟩, ⟨v9, v10⟩, ⟨v11, v12, v13, v14⟩, v15⟩ := h2
  refine ⟨⟨by omega, by omega⟩, fun k hk => (v3 k (by omega)).trans (u3 k hk), by omega, v5, by omega, ⟨by omega, by omega⟩, ⟨fun k hk hx => ?_, fun k hk hx => ?_⟩, ⟨v11, by omega, by omega, by omega⟩, fun k k1 k2 => ?_⟩
  · rw [v9 k (by omega) (fun w => hx (Or.inr w)), u9 k hk (fun w => hx (Or.inl w))]
  · by_cases c : X1 k
    · exact u10 k hk c
    · rw [← u9 k hk c]
      exact v10 k (by omega) (hx.resolve_left c)
  · by_cases hk : k < c1.1.1.length
    · obtain ⟨w1, w2, w3⟩ := u15 k k1 hk
      have e1 := v3 k hk
      have e2 := hgt_c (m := m) (l := c1.1.1) (l2 := c2.1.1) k (fun j hj => v3 j (by omega))
      have e3 := hgt_c (m := m) (l := c1.1.1) (l2 := c2.1.1) (k + 1) (fun j hj => v3 j (by omega))
      rw [e1, e2, e3]
      obtain ⟨x1, x2, x3⟩ := w3
      refine ⟨OpT_ml w1 v14, by omega, fun r => ?_, fun r => ?_, x3⟩
      · rcases x1 r with z | z
        · exact Or.inl z
        · refine Or.inr (Hd_mo z v1 v3 v7 (v9 _ (by have := z.1; omega) (fun w => ?_)))
          have := v10 _ (by have := z.1; omega) w
          have := z.2.1
          omega
      · rcases x2 r with z | z
        · exact Or.inl z
        · refine Or.inr (Sd_mo z v1 v3 v7 (v9 _ (by have := z.1; omega) (fun w => ?_)))
          have := v10 _ (by have := z.1; omega) w
          have := z.2.1
          omega
    · exact v15 k (by omega) k2
theorem TQ_b {d d2 a a2 l l2 : Int} (h : TQ m p0 b0 H X U c c1 d a l) (hd : d = d2) (ha : a ≤ a2) (hl : l ≤ l2) : TQ m p0 b0 H X U c c1 d2 a2 l2 := by
  subst hd
  obtain ⟨⟨u1, u2⟩, u3, u4, u5, u6, ⟨u7, u8⟩, u9, ⟨u11, u12, u13⟩, u15⟩ := h
  exact ⟨⟨u1, by omega⟩, u3, u4, u5, u6, ⟨u7, by omega⟩, u9, ⟨u11, by omega, u13⟩, u15⟩
/-- labels that were set: only those that stood already count -/
theorem TQ_X {d a l : Int} (h : TQ m p0 b0 H X U c c1 d a l) (hx : ∀ k, k < c.2.1.length → (X k ↔ X1 k)) : TQ m p0 b0 H X1 U c c1 d a l := by
  obtain ⟨u1, u3, u4, u5, u6, u7, ⟨u8, u9⟩, u11, u15⟩ := h
  exact ⟨u1, u3, u4, u5, u6, u7, ⟨fun k hk w => u8 k hk (fun z => w ((hx k hk).mp z)), fun k hk w => u9 k hk ((hx k hk).mpr w)⟩, u11, u15⟩
/-- labels that were used and stand now -/
theorem TQ_U {d a l : Int} (h : TQ m p0 b0 H X U c c1 d a l) (hu : ∀ x, U x → U1 x ∨ Sd m b0 c1.1 c1.2 x) : TQ m p0 b0 H X U1 c c1 d a l := by
  obtain ⟨u1, u3, u4, u5, u6, u7, u8, u11, u15⟩ := h
  refine ⟨u1, u3, u4, u5, u6, u7, u8, u11, fun k k1 k2 => ?_⟩
  obtain ⟨w1, w2, x1, x2, x3⟩ := u15 k k1 k2
  exact ⟨w1, w2, x1, fun r => (x2 r).elim (fun z => hu _ z) Or.inr, x3⟩
/-- a handler that stands now -/
theorem TQ_H {H2 d a l : Int} (h : TQ m p0 b0 H X U c c1 d a l) (hh : Hd b0 c1.1 c1.2 H) : TQ m p0 b0 H2 X U c c1 d a l := by
  obtain ⟨u1, u3, u4, u5, u6, u7, u8, u11, u15⟩ := h
  refine ⟨u1, u3, u4, u5, u6, u7, u8, u11, fun k k1 k2 => ?_⟩
  obtain ⟨w1, w2, x1, x2, x3⟩ := u15 k k1 k2
  exact ⟨w1, w2, fun r => Or.inr ((x1 r).elim (fun z => by rw [z]; exact hh) id), x2, x3⟩
theorem TQ_em {o a l : Int} (hI : HI m c.1) (hY : YL m c.2) (h3 : c.1.1.length < 3000) (hb : -1000000 ≤ c.1.2.1 ∧ c.1.2.1 ≤ 2995) (ho : o ≠ 17) (hT : OpT m p0 c.2.2.2.2.2 o a c.1.2.1) (hL : LPs m b0 (em o a l c.1) c.2 H U o l) : TQ m p0 b0 H (fun _ => False) U c (em o a l c.1, c.2) (psh o) 1 0 := by
  have hp := psh_b hT.1.1 (by have := hT.1.2; omega)
  have ew : w32 (c.1.2.1 + psh o) = c.1.2.1 + psh o := w32_of (by omega) (by omega)
  have q := fun k => getD_ap (l := c.1.1) (x := (o, a, l)) (k := k) h3
  have hl : (em o a l c.1).1.length = c.1.1.length + 1 := (q 0).1
  have pr : ∀ k, k < c.1.1.length → (em o a l c.1).1.getD k (0, 0, 0) = c.1.1.getD k (0, 0, 0) := fun k hk => (q k).2.1 hk
  have hk0 : hgt m (em o a l c.1).1 c.1.1.length = c.1.2.1 := by
    rw [hgt_c (m := m) (l := c.1.1) c.1.1.length pr]
    exact hI.symm
  have hx : (em o a l c.1).1.getD c.1.1.length (0, 0, 0) = (o, a, l) := (q _).2.2 rfl
  have hk1 : hgt m (em o a l c.1).1 (c.1.1.length + 1) = c.1.2.1 + psh o := by
    show hst m (hgt m (em o a l c.1).1 c.1.1.length) ((em o a l c.1).1.getD c.1.1.length (0, 0, 0)) = _
    rw [hk0, hx]
    unfold hst
    rw [if_neg (by have := hT.1.1; show ¬ o = 0; omega), if_neg ho]
    show c.1.2.1 + psh o - 0 = _
    omega
  have hmx : (em o a l c.1).2.2.1 = imax c.1.2.2.1 (c.1.2.1 + psh o) := by
    show imax c.1.2.2.1 (w32 (c.1.2.1 + psh o)) = _
    rw [ew]
  have hm := imax_l (a := c.1.2.2.1) (b := c.1.2.1 + psh o)
  refine ⟨⟨by show _ ≤ (em o a l c.1).1.length; omega, by show ((em o a l c.1).1.length : Int) ≤ _; omega⟩, pr, ew, ?_, ⟨by show _ ≤ (em o a l c.1).2.2.1; rw [hmx]; exact hm.1, fun w => by show (em o a l c.1).2.2.1 ≤ 3000; rw [hmx]; exact imax_b w (by omega)⟩, ⟨Nat.le_refl _, by show (c.2.1.length : Int) ≤ _; omega⟩, ⟨fun _ _ _ => rfl, fun _ _ w => w.elim⟩, ⟨hY, by show c.2.2.1 ≤ _; omega, Int.le_refl _, Int.le_refl _⟩, fun k k1 k2 => ?_⟩
  · show w32 (c.1.2.1 + psh o) = hgt m (em o a l c.1).1 (em o a l c.1).1.length
    rw [hl, hk1, ew]
  · have k2 : k < (em o a l c.1).1.length := k2
    have hk : k = c.1.1.length := by omega
    subst hk
    show OpT m p0 c.2.2.2.2.2 ((em o a l c.1).1.getD c.1.1.length (0, 0, 0)).1 ((em o a l c.1).1.getD c.1.1.length (0, 0, 0)).2.1 (hgt m (em o a l c.1).1 c.1.1.length) ∧ hgt m (em o a l c.1).1 (c.1.1.length + 1) ≤ (em o a l c.1).2.2.1 ∧ LPs m b0 (em o a l c.1) c.2 H U ((em o a l c.1).1.getD c.1.1.length (0, 0, 0)).1 ((em o a l c.1).1.getD c.1.1.length (0, 0, 0)).2.2
    rw [hk0, hk1, hx, hmx]
    exact ⟨hT, hm.2, hL⟩
theorem hgt_w {Hh : Int} {l : xO} : ∀ k, hgt (sww Hh y m) l k = hgt m l k
  | 0 => rfl
  | k + 1 => by
    show hst m (hgt (sww Hh y m) l k) (l.getD k (0, 0, 0)) = hst m (hgt m l k) (l.getD k (0, 0, 0))
    rw [hgt_w k]
/-- an expression stands in a statement -/
theorem TQ_x {ml d b : Int} (h : TX (sww H y m) p0 ml H s s1 d b) (hm : ml ≤ y2.2.2.2.2) (hY : YL m y2) (h0 : 0 ≤ b) : TQ m p0 b0 H (fun _ => False) U (s, y2) (s1, y2) d b 0 := by
  obtain ⟨a1, a2, a3, a4, a5, a6⟩ := h
  refine ⟨a1, a2, a3, ?_, a5, ⟨Nat.le_refl _, by show (y2.1.length : Int) ≤ (y2.1.length : Int) + 0; omega⟩, ⟨fun _ _ _ => rfl, fun _ _ w => w.elim⟩, ⟨hY, by show y2.2.1 ≤ y2.2.1 + b; omega, Int.le_refl _, Int.le_refl _⟩, fun k k1 k2 => ?_⟩
  · unfold HI at a4
    rw [hgt_w] at a4
    exact a4
  · obtain ⟨w1, w2, w3, w4, w5⟩ := a6 k k1 k2
    rw [hgt_w] at w1 w2
    have w1' : OpT m p0 ml (s1.1.getD k (0, 0, 0)).1 (s1.1.getD k (0, 0, 0)).2.1 (hgt m s1.1 k) := w1
    exact ⟨OpT_ml w1' hm, w2, fun r => Or.inl (w3 r), fun r => absurd r w4, fun r _ => w5 r⟩
/-- new labels -/
theorem TQ_nl {r : Nat} (hI : HI m c.1) (hY : YL m c.2) : TQ m p0 b0 H (fun _ => False) U c (c.1, (c.2.1 ++ List.replicate r (-1), c.2.2)) 0 0 r := by
  have hl : (c.2.1 ++ List.replicate r (-1 : Int)).length = c.2.1.length + r := by rw [List.length_append, List.length_replicate]
  refine ⟨⟨Nat.le_refl _, by show (c.1.1.length : Int) ≤ _; omega⟩, fun _ _ => rfl, by show c.1.2.1 = _; omega, hI, ⟨Int.le_refl _, fun h => h⟩, ⟨by show _ ≤ (c.2.1 ++ List.replicate r (-1 : Int)).length; omega, by show ((c.2.1 ++ List.replicate r (-1 : Int)).length : Int) ≤ _; omega⟩, ⟨fun k hk _ => ?_, fun _ _ w => w.elim⟩, ⟨hY, by show c.2.2.1 ≤ _; omega, Int.le_refl _, Int.le_refl _⟩, fun k a b => absurd b (by show ¬ k < c.1.1.length; omega)⟩
  show (c.2.1 ++ List.replicate r (-1 : Int)).getD k 0 = c.2.1.getD k 0
  rw [List.getD_eq_getElem?_getD, List.getElem?_append_left hk, ← List.getD_eq_getElem?_getD]
theorem gD_nl {r k : Nat} (h1 : y.1.length ≤ k) (h2 : k < y.1.length + r) : (y.1 ++ List.replicate r (-1 : Int)).getD k 0 = -1 := by
  rw [List.getD_eq_getElem?_getD, List.getElem?_append_right h1, List.getElem?_replicate, if_pos (by omega)]
  rfl
/-- a label gets its place -/
theorem TQ_sl {l : Int} (hI : HI m c.1) (hY : YL m c.2) (h0 : 0 ≤ l) (h1 : l < (c.2.1.length : Int)) (hu : c.2.1.getD l.toNat 0 = -1) : TQ m p0 b0 H (fun k => k = l.toNat) U c (c.1, slb l (c.1.1.length : Int) c.2) 0 0 0 := by
  have e0 : slb l (c.1.1.length : Int) c.2 = (c.2.1.set l.toNat (c.1.1.length : Int), c.2.2) := if_pos ⟨h0, h1⟩
  have hl := slb_l (y := c.2) (l := l) (v := (c.1.1.length : Int))
  refine ⟨⟨Nat.le_refl _, by show (c.1.1.length : Int) ≤ _; omega⟩, fun _ _ => rfl, by show c.1.2.1 = _; omega, hI, ⟨Int.le_refl _, fun h => h⟩, ⟨by show _ ≤ (slb l (c.1.1.length : Int) c.2).1.length; omega, by show ((slb l (c.1.1.length : Int) c.2).1.length : Int) ≤ _; omega⟩, ⟨fun k hk hx => ?_, fun k hk hx => ?_⟩, ?_, fun k a b => absurd b (by show ¬ k < c.1.1.length; omega)⟩
  · show (slb l (c.1.1.length : Int) c.2).1.getD k 0 = _
    rw [slb_g h0 h1, if_neg hx]
  · rw [hx]
    exact hu
  · show YL m (slb l (c.1.1.length : Int) c.2) ∧ (slb l (c.1.1.length : Int) c.2).2.1 ≤ c.2.2.1 + 0 ∧ c.2.2.1 ≤ (slb l (c.1.1.length : Int) c.2).2.1 ∧ c.2.2.2.2.2 ≤ (slb l (c.1.1.length : Int) c.2).2.2.2.2
    rw [e0]
    exact ⟨hY, by show c.2.2.1 ≤ _; omega, Int.le_refl _, Int.le_refl _⟩
theorem Sd_sl {l : Int} (hI : HI m c.1) (h0 : 0 ≤ l) (h1 : l < (c.2.1.length : Int)) (hb : b0 ≤ c.1.1.length) (hz : c.1.2.1 = 0) : Sd m b0 c.1 (slb l (c.1.1.length : Int) c.2) l := by
  refine ⟨⟨h0, by rw [slb_l]; exact h1⟩, ?_, ?_⟩
  · rw [slb_g h0 h1, if_pos rfl]
    omega
  · rw [slb_g h0 h1, if_pos rfl, Int.toNat_natCast]
    exact hI.symm.trans hz
/-- locals change -/
theorem TQ_y (hI : HI m c.1) (h1 : y2.1 = c.2.1) (hY : YL m y2) (h2 : c.2.2.1 ≤ y2.2.1) (h3 : c.2.2.2.2.2 ≤ y2.2.2.2.2) {b : Int} (h4 : y2.2.1 ≤ c.2.2.1 + b) (hb : 0 ≤ b) : TQ m p0 b0 H (fun _ => False) U c (c.1, y2) 0 b 0 := by
  refine ⟨⟨Nat.le_refl _, by show (c.1.1.length : Int) ≤ _; omega⟩, fun _ _ => rfl, by show c.1.2.1 = _; omega, hI, ⟨Int.le_refl _, fun h => h⟩, ⟨by show _ ≤ y2.1.length; rw [h1]; exact Nat.le_refl _, by show (y2.1.length : Int) ≤ _; rw [h1]; omega⟩, ⟨fun k hk _ => by show y2.1.getD k 0 = _; rw [h1], fun _ _ w => w.elim⟩, ⟨hY, h4, h2, h3⟩, fun k a b => absurd b (by show ¬ k < c.1.1.length; omega)⟩
theorem YL_mk {i : Int} (hY : YL m y) (hc : y.2.1 < 1510) : YL m (ymk m i y) ∧ (ymk m i y).2.1 = y.2.1 + 1 ∧ (ymk m i y).1 = y.1 ∧ y.2.2.2.2 ≤ (ymk m i y).2.2.2.2 ∧ y.2.1 < (ymk m i y).2.2.2.2 := by
  have e0 : ymk m i y = (y.1, y.2.1 + 1, (if 0 ≤ idT m i ∧ idT m i < m 57 4 then vput y.2.2.1 (idT m i).toNat y.2.1 else y.2.2.1), vput y.2.2.2.1 y.2.1.toNat (idT m i), imax y.2.2.2.2 (y.2.1 + 1)) := if_neg (by omega)
  have hm := imax_l (a := y.2.2.2.2) (b := y.2.1 + 1)
  obtain ⟨⟨h1, h2, h2b⟩, h3⟩ := hY
  rw [e0]
  refine ⟨⟨⟨by show 0 ≤ y.2.1 + 1; omega, by show y.2.1 + 1 ≤ imax y.2.2.2.2 (y.2.1 + 1); omega, imax_b h2b (by omega)⟩, fun k hk => ?_⟩, rfl, rfl, hm.1, by show y.2.1 < imax y.2.2.2.2 (y.2.1 + 1); omega⟩
  show (if 0 ≤ idT m i ∧ idT m i < m 57 4 then vput y.2.2.1 (idT m i).toNat y.2.1 else y.2.2.1) k = -1 ∨ (0 ≤ (if 0 ≤ idT m i ∧ idT m i < m 57 4 then vput y.2.2.1 (idT m i).toNat y.2.1 else y.2.2.1) k ∧ (if 0 ≤ idT m i ∧ idT m i < m 57 4 then vput y.2.2.1 (idT m i).toNat y.2.1 else y.2.2.1) k < y.2.1 + 1 ∧ vput y.2.2.2.1 y.2.1.toNat (idT m i) ((if 0 ≤ idT m i ∧ idT m i < m 57 4 then vput y.2.2.1 (idT m i).toNat y.2.1 else y.2.2.1) k).toNat = (k : Int))
  have old : y.2.2.1 k = -1 ∨ (0 ≤ y.2.2.1 k ∧ y.2.2.1 k < y.2.1 + 1 ∧ vput y.2.2.2.1 y.2.1.toNat (idT m i) (y.2.2.1 k).toNat = (k : Int)) := by
    rcases h3 k hk with z | ⟨z1, z2, z3⟩
    · exact Or.inl z
    · refine Or.inr ⟨z1, by omega, ?_⟩
      unfold vput
      rw [if_neg (by omega)]
      exact z3
  by_cases c : 0 ≤ idT m i ∧ idT m i < m 57 4
  · rw [if_pos c]
    by_cases ck : k = (idT m i).toNat
    · have ev : vput y.2.2.1 (idT m i).toNat y.2.1 k = y.2.1 := by
        unfold vput
        rw [if_pos ck]
      rw [ev]
      refine Or.inr ⟨h1, by omega, ?_⟩
      unfold vput
      rw [if_pos rfl]
      omega
    · have ev : vput y.2.2.1 (idT m i).toNat y.2.1 k = y.2.2.1 k := by
        unfold vput
        rw [if_neg ck]
      rw [ev]
      exact old
  · rw [if_neg c]
    exact old
theorem YL_fg : ∀ (k : Nat) (y : yS), YL m y → (k : Int) ≤ y.2.1 → YL m (fgN m k y) ∧ (fgN m k y).2.2.2.2 = y.2.2.2.2
  | 0, y => fun h _ => ⟨h, rfl⟩
  | k + 1, y => fun h hk => by
    obtain ⟨⟨h1, h2, h2b⟩, h3⟩ := h
    refine YL_fg k (y.1, y.2.1 - 1, (if 0 ≤ y.2.2.2.1 (y.2.1 - 1).toNat ∧ y.2.2.2.1 (y.2.1 - 1).toNat < m 57 4 then vput y.2.2.1 (y.2.2.2.1 (y.2.1 - 1).toNat).toNat (-1) else y.2.2.1), y.2.2.2.1, y.2.2.2.2) ⟨⟨by show 0 ≤ y.2.1 - 1; omega, by show y.2.1 - 1 ≤ y.2.2.2.2; omega, h2b⟩, fun j hj => ?_⟩ (by show (k : Int) ≤ y.2.1 - 1; omega)
    generalize hi : y.2.2.2.1 (y.2.1 - 1).toNat = id at *
    show (if 0 ≤ id ∧ id < m 57 4 then vput y.2.2.1 id.toNat (-1) else y.2.2.1) j = -1 ∨ (0 ≤ (if 0 ≤ id ∧ id < m 57 4 then vput y.2.2.1 id.toNat (-1) else y.2.2.1) j ∧ (if 0 ≤ id ∧ id < m 57 4 then vput y.2.2.1 id.toNat (-1) else y.2.2.1) j < y.2.1 - 1 ∧ y.2.2.2.1 ((if 0 ≤ id ∧ id < m 57 4 then vput y.2.2.1 id.toNat (-1) else y.2.2.1) j).toNat = (j : Int))
    rcases h3 j hj with z | ⟨z1, z2, z3⟩
    · left
      by_cases c : 0 ≤ id ∧ id < m 57 4
      · rw [if_pos c]
        unfold vput
        split
        · rfl
        · exact z
      · rw [if_neg c]
        exact z
    · by_cases cj : y.2.2.1 j = y.2.1 - 1
      · rw [cj, hi] at z3
        left
        rw [if_pos (by omega)]
        unfold vput
        rw [if_pos (by omega)]
      · by_cases c : 0 ≤ id ∧ id < m 57 4
        · rw [if_pos c]
          by_cases ck : j = id.toNat
          · left
            unfold vput
            rw [if_pos ck]
          · have ev : vput y.2.2.1 id.toNat (-1) j = y.2.2.1 j := by
              unfold vput
              rw [if_neg ck]
            rw [ev]
            exact Or.inr ⟨z1, by omega, z3⟩
        · rw [if_neg c]
          exact Or.inr ⟨z1, by omega, z3⟩
end Tst
