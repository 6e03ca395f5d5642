/-! THE ORDERS ARE TYPED: the whole text -/
section Tto
variable {m m0 : Mem} {e : Int} {V : Int → Int} {cd : Nat}
theorem kI_K (K : Kp m0 m) : kI m = kI m0 := by
  funext i
  unfold kI
  rw [K.1 57 4 (by decide) (by decide), K.1 59 _ (by decide) (by decide)]
theorem nmI_K (K : Kp m0 m) : nmI m = nmI m0 := by
  funext i
  unfold nmI
  rw [K.1 57 4 (by decide) (by decide), K.1 60 _ (by decide) (by decide)]
theorem idT_K (K : Kp m0 m) : idT m = idT m0 := by
  funext i
  unfold idT
  rw [K.1 51 5 (by decide) (by decide), K.1 55 _ (by decide) (by decide)]
theorem prm_K (K : Kp m0 m) : prm m = prm m0 := by
  funext i
  unfold prm
  rw [K.1 57 7 (by decide) (by decide), K.1 64 _ (by decide) (by decide)]
theorem hgt_K (K : Kp m0 m) {l : xO} : ∀ k, hgt m l k = hgt m0 l k
  | 0 => rfl
  | k + 1 => by
    show hst m (hgt m l k) (l.getD k (0, 0, 0)) = hst m0 (hgt m0 l k) (l.getD k (0, 0, 0))
    rw [hgt_K K k]
    unfold hst
    rw [prm_K K]
theorem OpT_K (K : Kp m0 m) {p ml o a h : Int} (hT : OpT m p ml o a h) : OpT m0 p ml o a h := by
  unfold OpT pops at hT ⊢
  rw [prm_K K, K.1 57 5 (by decide) (by decide), K.1 57 6 (by decide) (by decide), K.1 57 7 (by decide) (by decide), K.1 63 _ (by decide) (by decide)] at hT
  exact hT
theorem XC0_K (K : Kp m0 m) (C : XC0 m0 e) : XC0 m e := by
  unfold XC0 at C ⊢
  rw [kI_K K, nmI_K K, idT_K K, Kp_kd K, K.1 57 5 (by decide) (by decide), K.1 57 6 (by decide) (by decide), K.1 57 7 (by decide) (by decide), K.1 51 5 (by decide) (by decide)]
  refine ⟨fun id => ?_, C.2.1, C.2.2.1, fun i h0 h1 => ?_⟩
  · rw [K.1 63 _ (by decide) (by decide)]
    exact C.1 id
  · rw [K.1 54 _ (by decide) (by decide)]
    exact C.2.2.2 i h0 h1
theorem YL_K (K : Kp m0 m) {y : yS} : YL m y ↔ YL m0 y := by
  unfold YL
  rw [K.1 57 4 (by decide) (by decide)]
theorem PcT_K (K : Kp m0 m) {s : xSt} {y : yS} {b0 b1 : Nat} {p told ml mx : Int} (h : PcT m s y b0 b1 p told ml mx) : PcT m0 s y b0 b1 p told ml mx := by
  obtain ⟨h1, h2, h3, h4, h5, h6, h7, h8⟩ := h
  refine ⟨h1, h2, h3, h4, h5, by rw [← hgt_K K]; exact h6, by rw [← hgt_K K]; exact h7, fun k k1 k2 => ?_⟩
  obtain ⟨q1, q2, q3, q4, q5⟩ := h8 k k1 k2
  rw [hgt_K K] at q1 q2
  exact ⟨OpT_K K q1, q2, q3, fun w => by have := q4 w; rw [hgt_K K] at this; exact this, q5⟩
theorem PcT_x {s s2 : xSt} {y y2 : yS} {b0 b1 : Nat} {p told ml mx : Int} (h : PcT m s y b0 b1 p told ml mx) (hl : s.1.length ≤ s2.1.length) (hp : ∀ k, k < s.1.length → s2.1.getD k (0, 0, 0) = s.1.getD k (0, 0, 0)) (hy : y.1.length ≤ y2.1.length) (hg : ∀ k, k < y.1.length → y2.1.getD k 0 = y.1.getD k 0) : PcT m s2 y2 b0 b1 p told ml mx := by
  obtain ⟨h1, h2, h3, h4, h5, h6, h7, h8⟩ := h
  have hh : ∀ k, k ≤ s.1.length → hgt m s2.1 k = hgt m s.1 k := fun k hk => hgt_c (m := m) (l := s.1) (l2 := s2.1) k (fun j hj => hp j (by omega))
  refine ⟨⟨h1.1, by omega⟩, by rw [hp _ (by omega)]; exact h2, by rw [hp _ (by omega)]; exact h3, by rw [hp _ (by omega)]; exact h4, h5, by rw [hh _ (by omega)]; exact h6, by rw [hh _ (by omega)]; exact h7, fun k k1 k2 => ?_⟩
  obtain ⟨q1, q2, q3, q4, q5⟩ := h8 k k1 k2
  rw [hp k (by omega), hh k (by omega), hh (k + 1) (by omega)]
  refine ⟨q1, q2, fun w => ?_, fun w => ?_, q5⟩
  · obtain ⟨w1, w2, w3⟩ := q3 w
    rw [hg _ (by omega), hp _ (by omega)]
    exact ⟨by omega, w2, w3⟩
  · obtain ⟨w1, w2, w3⟩ := q4 w
    rw [hg _ (by omega), hh _ (by omega)]
    exact ⟨by omega, w2, w3⟩
theorem NF_xPr {K : Int → Int} {a : xT} {p r : Int} {s : xSt} {y : yS} (hP : PH K V a p r) (h : NF (xPr cd m a s y).1) : NF s := by
  obtain ⟨i, pa, i2, ra, bk, rfl, r1, s1, g1, g2, g3, g4⟩ := inv_H hP
  have n5 : NF (p5 m bk (p2 m i2 ra (p1 m i pa s y).1) (p1 m i pa s y).2).1 := h
  have n4 := NF_stS (c := (em 0 (m 68 4) (-1) (p2 m i2 ra (p1 m i pa s y).1), nlb (p1 m i pa s y).2)) n5
  have n2 : NF (p2 m i2 ra (p1 m i pa s y).1) := n4
  have n1 : NF (p1 m i pa s y).1 := by
    unfold p2 at n2
    by_cases c : i2 = 0
    · rw [if_pos c] at n2
      exact n2
    · rw [if_neg c] at n2
      exact rsF_inv (m := m) (Q := fun s1 => NF s1 → NF (p1 m i pa s y).1) NF_k ra 0 _ (fun g => g) n2
  unfold p1 at n1
  by_cases c : i = 0
  · rw [if_pos c] at n1
    exact n1
  · rw [if_neg c] at n1
    exact prF_inv (m := m) (Q := fun s1 => NF s1 → NF s) NF_k pa ((s.1, 0, 0, s.2.2.2.1, s.2.2.2.2), (y.1, 0, y.2.2.1, y.2.2.2.1, 0)) (fun g => g) n1
theorem NF_xTo {K : Int → Int} : ∀ (k : Nat) (t : xT), tsz t < k → ∀ (p : Int) (c : wS), PT K V t p e → NF (xTo cd t c).1 → NF c.1 := by
  intro k
  induction k with
  | zero => intro t ht; exact absurd ht (Nat.not_lt_zero _)
  | succ k ih =>
    intro t ht p c h nf
    rcases inv_T h with ⟨i, a, b, rfl, g1, g2⟩ | ⟨a, b, rfl, g1, g2, g3, g4⟩ | ⟨a, b, rfl, g1, g2, g3, g4, g5, g6, g7⟩ | ⟨a, b, rfl, g1, r, g2, g3, g4⟩ | ⟨a, b, rfl, g1, g2, g3, r, g4, g5⟩
    · exact nf
    · rw [tsz_nd] at ht
      exact ih b (by omega) _ c g4 nf
    · rw [tsz_nd] at ht
      exact ih b (by omega) _ c g7 nf
    · rw [tsz_nd] at ht
      exact ih b (by omega) _ c g4 nf
    · rw [tsz_nd] at ht
      exact NF_xPr g4 (ih b (by omega) _ _ g5 nf)
/-- the procs of a text -/
def PG (m0 : Mem) (cd : Nat) (c : wS) (fe : Nat → Nat) (np : Nat) : Prop := c.2.2.2 68 4 = (np : Int) ∧ fe 0 = 0 ∧ fe np = c.1.1.length ∧ np ≤ 1500 ∧ ∀ p, p < np → ∃ told ml mx, PcT m0 c.1 c.2.1 (fe p) (fe (p + 1)) (p : Int) told ml mx ∧ (p < 40 → c.2.2.2 (cd + 5) p = told ∧ c.2.2.2 (cd + 6) p = ml + 2 ∧ c.2.2.2 (cd + 7) p = ml + 2 - told + mx + 3 ∧ c.2.2.2 (cd + 8) p = (fe p : Int)) ∧ (c.2.2.2 68 15 = 0 → ml - told ≤ 16)
theorem q8_15 {told first ml mx : Int} (hc : cd = 83 ∨ cd = 93) : p8 cd told first ml mx m 68 15 = if 16 < w32 (ml - told) then 1 else m 68 15 := by
  unfold p8
  rw [put_ss, if_pos rfl, if_neg (by decide), kpP_o (Or.inr (by omega))]
  split
  · rfl
  · rfl
theorem q8_4 {told first ml mx : Int} : p8 cd told first ml mx m 68 4 = w32 (m 68 4 + 1) := rfl
theorem q8_o {told first ml mx : Int} {a k : Nat} (ha : a ≠ 68) (h : k ≠ (m 68 4).toNat ∨ ¬ (a = cd + 5 ∨ a = cd + 6 ∨ a = cd + 7 ∨ a = cd + 8)) : p8 cd told first ml mx m a k = m a k := by
  unfold p8
  rw [put_ss, if_neg ha, kpP_o (by rw [lg_4]; exact h)]
  split
  · rw [put_ss, if_neg ha]
  · rfl
theorem q8_n {told first ml mx : Int} (hc : cd = 83 ∨ cd = 93) (h0 : 0 ≤ m 68 4) (h1 : m 68 4 < 40) : p8 cd told first ml mx m (cd + 5) (m 68 4).toNat = told ∧ p8 cd told first ml mx m (cd + 6) (m 68 4).toNat = w32 (ml + 2) ∧ p8 cd told first ml mx m (cd + 7) (m 68 4).toNat = w32 (w32 (w32 (w32 (ml + 2) - told) + mx) + 3) ∧ p8 cd told first ml mx m (cd + 8) (m 68 4).toNat = first := by
  have e : ∀ a k, a ≠ 68 → p8 cd told first ml mx m a k = kpP cd told first ml mx (if 16 < w32 (ml - told) then put m 68 15 1 else m) a k := fun a k ha => by
    unfold p8
    rw [put_ss, if_neg ha]
  have z := kpP_n (cd := cd) (told := told) (first := first) (ml := ml) (mx := mx) (mc := if 16 < w32 (ml - told) then put m 68 15 1 else m) (by rw [lg_4]; exact h0) (by rw [lg_4]; exact h1)
  rw [lg_4] at z
  rw [e _ _ (by omega), e _ _ (by omega), e _ _ (by omega), e _ _ (by omega)]
  exact z
theorem TyTo (hc : cd = 83 ∨ cd = 93) (C : XC0 m0 e) : ∀ (k : Nat) (t : xT), tsz t < k → ∀ (p : Int) (c : wS) (fe : Nat → Nat) (np : Nat), PT (kd c.2.2.2) V t p e → 0 ≤ p → Kp m0 c.2.2.2 → PG m0 cd c fe np → (∀ k : Nat, (k : Int) < m0 57 4 → c.2.1.2.2.1 k = -1) → (c.1.1.length : Int) + (e - p) ≤ 2980 → (c.2.1.1.length : Int) + 2 * (e - p) < 2980 → (np : Int) + (e - p) ≤ 1490 → NF (xTo cd t c).1 → ∃ fe' np', PG m0 cd (xTo cd t c) fe' np' := by
  intro k
  induction k with
  | zero => intro t ht; exact absurd ht (Nat.not_lt_zero _)
  | succ k ih =>
    intro t ht p c fe np h hp K G hY hlen hlab hnp nf
    have l0 := PT_le (tsz t + 1) t (by omega) _ _ h
    rcases inv_T h with ⟨i, a, b, rfl, g1, g2⟩ | ⟨a, b, rfl, g1, g2, g3, g4⟩ | ⟨a, b, rfl, g1, g2, g3, g4, g5, g6, g7⟩ | ⟨a, b, rfl, g1, r, g2, g3, g4⟩ | ⟨a, b, rfl, g1, g2, g3, r, g4, g5⟩
    · exact ⟨fe, np, G⟩
    · rw [tsz_nd] at ht
      exact ih b (by omega) _ c fe np g4 (by omega) K G hY (by omega) (by omega) (by omega) nf
    · rw [tsz_nd] at ht
      exact ih b (by omega) _ c fe np g7 (by omega) K G hY (by omega) (by omega) (by omega) nf
    · rw [tsz_nd] at ht
      have := PN_n a g2
      exact ih b (by omega) _ c fe np g4 (by omega) K G hY (by omega) (by omega) (by omega) nf
    · rw [tsz_nd] at ht
      have hph := PH_lt g4
      have hle := PT_le (tsz b + 1) b (by omega) _ _ g5
      have Kx := Kp_xPr (cd := cd) hc (m := c.2.2.2) (s := c.1) (y := c.2.1) g4
      have nf : NF (xTo cd b (xPr cd c.2.2.2 a c.1 c.2.1)).1 := nf
      have n1 := NF_xTo (tsz b + 1) b (by omega) _ _ g5 nf
      obtain ⟨G1, G2, G3, G4, G5⟩ := G
      obtain ⟨told, ml, mx, t1, t2, t3, t4, t5, t6, t7, t8⟩ := TyPr (cd := cd) (XC0_K K C) g4 hp (by omega) G1 (by omega) (by omega) (by omega) (fun k hk => hY k (by rw [K.1 57 4 (by decide) (by decide)] at hk; exact hk)) n1
      have t2 := PcT_K K t2
      have t2c := t2
      obtain ⟨tb1, -, -, -, ⟨tt1, tt2, tt3, tt4, tt5⟩, -⟩ := t2c
      have g5' : PT (kd (xPr cd c.2.2.2 a c.1 c.2.1).2.2.2) V b r e := by rw [Kp_kd Kx]; exact g5
      have e4 : w32 (c.2.2.2 68 4 + 1) = ((np + 1 : Nat) : Int) := by
        rw [G1, w32_of (by omega) (by omega)]
        omega
      have w1 : w32 (ml - told) = ml - told := w32_of (by omega) (by omega)
      have w2 : w32 (ml + 2) = ml + 2 := w32_of (by omega) (by omega)
      have w3 : w32 (w32 (w32 (ml + 2 - told) + mx) + 3) = ml + 2 - told + mx + 3 := by
        rw [w32_of (x := ml + 2 - told) (by omega) (by omega), w32_of (x := ml + 2 - told + mx) (by omega) (by omega), w32_of (by omega) (by omega)]
      have np0 : (c.2.2.2 68 4).toNat = np := by rw [G1]; exact Int.toNat_natCast np
      have lgn : c.1.1.length + 4 ≤ (xPr cd c.2.2.2 a c.1 c.2.1).1.1.length := tb1.1
      refine ih b (by omega) r (xPr cd c.2.2.2 a c.1 c.2.1) (fun q => if q ≤ np then fe q else (xPr cd c.2.2.2 a c.1 c.2.1).1.1.length) (np + 1) g5' (by omega) (Kp_tr K Kx) ⟨?_, ?_, ?_, by omega, fun q hq => ?_⟩ (fun k hk => t8 k (by rw [K.1 57 4 (by decide) (by decide)]; exact hk)) (by omega) (by omega) (by omega) nf
      · rw [t3, q8_4, e4]
      · show (if 0 ≤ np then fe 0 else _) = 0
        rw [if_pos (Nat.zero_le _), G2]
      · show (if np + 1 ≤ np then fe (np + 1) else _) = _
        rw [if_neg (by omega)]
      · show ∃ told ml mx, PcT m0 _ _ (if q ≤ np then fe q else _) (if q + 1 ≤ np then fe (q + 1) else _) (q : Int) told ml mx ∧ _
        by_cases hq2 : q < np
        · obtain ⟨told2, ml2, mx2, q1, q2, q3⟩ := G5 q hq2
          rw [if_pos (by omega), if_pos (by omega)]
          refine ⟨told2, ml2, mx2, PcT_x q1 t4.1 t5 t6.1 t7, fun h40 => ?_, fun h15 => q3 ?_⟩
          · have z := q2 h40
            rw [t3, q8_o (by omega) (Or.inl (by omega)), q8_o (by omega) (Or.inl (by omega)), q8_o (by omega) (Or.inl (by omega)), q8_o (by omega) (Or.inl (by omega))]
            refine ⟨z.1, z.2.1, z.2.2.1, z.2.2.2.trans ?_⟩
            show (fe q : Int) = ((if q ≤ np then fe q else (xPr cd c.2.2.2 a c.1 c.2.1).1.1.length : Nat) : Int)
            rw [if_pos (by omega)]
          · rw [t3, q8_15 hc] at h15
            split at h15
            · exact absurd h15 (by decide)
            · exact h15
        · have hq3 : q = np := by omega
          subst hq3
          rw [if_pos (Nat.le_refl _), if_neg (by omega), G3]
          refine ⟨told, ml, mx, t2, fun h40 => ?_, fun h15 => ?_⟩
          · have z := q8_n (m := c.2.2.2) (told := told) (first := (c.1.1.length : Int)) (ml := ml) (mx := mx) hc (by omega) (by omega)
            rw [np0, w2, w3] at z
            rw [t3]
            refine ⟨z.1, z.2.1, z.2.2.1, z.2.2.2.trans ?_⟩
            show (c.1.1.length : Int) = ((if q ≤ q then fe q else (xPr cd c.2.2.2 a c.1 c.2.1).1.1.length : Nat) : Int)
            rw [if_pos (Nat.le_refl _), G3]
          · rw [t3, q8_15 hc, w1] at h15
            by_cases c : 16 < ml - told
            · rw [if_pos c] at h15
              exact absurd h15 (by decide)
            · omega
end Tto
