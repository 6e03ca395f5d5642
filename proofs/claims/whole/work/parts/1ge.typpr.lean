/-! THE ORDERS ARE TYPED: procs -/
def LPf (m : Mem) (b0 b1 : Nat) (s : xSt) (y : yS) (o l : Int) : Prop := (isR o → (0 ≤ l ∧ l < (y.1.length : Int)) ∧ ((b0 : Int) < y.1.getD l.toNat 0 ∧ y.1.getD l.toNat 0 < (b1 : Int)) ∧ ((s.1.getD (y.1.getD l.toNat 0).toNat (0, 0, 0)).1 = 23 ∨ (s.1.getD (y.1.getD l.toNat 0).toNat (0, 0, 0)).1 = 26)) ∧ (isJ o → (0 ≤ l ∧ l < (y.1.length : Int)) ∧ ((b0 : Int) < y.1.getD l.toNat 0 ∧ y.1.getD l.toNat 0 < (b1 : Int)) ∧ hgt m s.1 (y.1.getD l.toNat 0).toNat = 0) ∧ (¬ isR o → ¬ isJ o → l = -1)
/-- the orders of a proc: from its ENTER at b0 to its LEAVE before b1 -/
def PcT (m : Mem) (s : xSt) (y : yS) (b0 b1 : Nat) (p told ml mx : Int) : Prop := (b0 + 4 ≤ b1 ∧ b1 ≤ s.1.length) ∧ s.1.getD b0 (0, 0, 0) = (0, p, -1) ∧ s.1.getD (b1 - 1) (0, 0, 0) = (26, p, -1) ∧ s.1.getD (b1 - 2) (0, 0, 0) = (22, p, -1) ∧ (0 ≤ told ∧ told ≤ ml ∧ ml ≤ 1510 ∧ 0 ≤ mx ∧ mx ≤ 3000) ∧ hgt m s.1 (b0 + 1) = 0 ∧ hgt m s.1 (b1 - 1) = 0 ∧ (∀ k, b0 < k → k < b1 - 1 → OpT m p ml (s.1.getD k (0, 0, 0)).1 (s.1.getD k (0, 0, 0)).2.1 (hgt m s.1 k) ∧ hgt m s.1 (k + 1) ≤ mx ∧ LPf m b0 b1 s y (s.1.getD k (0, 0, 0)).1 (s.1.getD k (0, 0, 0)).2.2)
section Tpr
variable {m m0 : Mem} {e : Int} {V : Int → Int}
theorem TyPar (C : XC0 m e) : ∀ (k : Nat) (t : xT), tsz t < k → ∀ (p q : Int), PN (kd m) t p q → 0 ≤ p → q ≤ e → ∀ c : zS, YL m c.2 → c.2.2.1 + (q - p) ≤ 1500 → NF (prF m t c).1 → (prF m t c).1 = c.1 ∧ (prF m t c).2.1 = c.2.1 ∧ YL m (prF m t c).2 ∧ c.2.2.1 ≤ (prF m t c).2.2.1 ∧ (prF m t c).2.2.1 ≤ c.2.2.1 + (q - p) := by
  intro k
  induction k with
  | zero => intro t ht; exact absurd ht (Nat.not_lt_zero _)
  | succ k ih =>
    intro t ht p q h hp hq c hY hcn nf
    rcases inv_N h with ⟨a, b, rfl, g1, g2, g3⟩ | ⟨a, b, rfl, g1, g2, g3⟩
    · have e0 : prF m (nd 45 p a b) c = (tlS m p c.2 c.1, ymk m p c.2) := rfl
      rw [e0] at nf ⊢
      obtain ⟨Y1, Y2, Y3, Y4, Y5⟩ := YL_mk (m := m) (i := p) hY (by omega)
      have t1 := tl_n0 C hp (by omega) nf
      refine ⟨t1, Y3, Y1, ?_, ?_⟩
      · show c.2.2.1 ≤ (ymk m p c.2).2.1
        omega
      · show (ymk m p c.2).2.1 ≤ _
        omega
    · rw [tsz_nd] at ht
      have e0 : prF m (nd 46 p a b) c = prF m b (tlS m p c.2 c.1, ymk m p c.2) := rfl
      have hl := PN_n b g3
      rw [e0] at nf ⊢
      obtain ⟨Y1, Y2, Y3, Y4, Y5⟩ := YL_mk (m := m) (i := p) hY (by omega)
      have n1 : NF (tlS m p c.2 c.1) := prF_inv (m := m) (Q := fun s1 => NF s1 → NF (tlS m p c.2 c.1)) NF_k b (tlS m p c.2 c.1, ymk m p c.2) (fun g => g) nf
      have t1 := tl_n0 C hp (by omega) n1
      rw [t1] at nf ⊢
      have B := ih b (by omega) _ _ g3 (by omega) hq (c.1, ymk m p c.2) Y1 (by show (ymk m p c.2).2.1 + _ ≤ _; omega) nf
      obtain ⟨B1, B2, B3, B4, B5⟩ := B
      have B4 : (ymk m p c.2).2.1 ≤ (prF m b (c.1, ymk m p c.2)).2.2.1 := B4
      have B5 : (prF m b (c.1, ymk m p c.2)).2.2.1 ≤ (ymk m p c.2).2.1 + (q - (p + 2)) := B5
      have B2 : (prF m b (c.1, ymk m p c.2)).2.1 = (ymk m p c.2).1 := B2
      exact ⟨B1, B2.trans Y3, B3, by omega, by omega⟩
theorem TyRs (C : XC0 m e) {f : Int} : ∀ (k : Nat) (t : xT), tsz t < k → ∀ (p q : Int), PN (kd m) t p q → 0 ≤ p → q ≤ e → ∀ (n : Nat) (s : xSt), NF (rsF m f t n s) → rsF m f t n s = s := by
  intro k
  induction k with
  | zero => intro t ht; exact absurd ht (Nat.not_lt_zero _)
  | succ k ih =>
    intro t ht p q h hp hq n s nf
    have one : p ≤ e → NF (dupB m p (sq f n) (us m p 3 s)) → dupB m p (sq f n) (us m p 3 s) = s := fun hpe g => by
      have z := dup_n0 C hp hpe _ _ g
      rw [z] at g ⊢
      exact (us_n0 C hp hpe g).2
    rcases inv_N h with ⟨a, b, rfl, g1, g2, g3⟩ | ⟨a, b, rfl, g1, g2, g3⟩
    · exact one (by omega) nf
    · rw [tsz_nd] at ht
      have hl := PN_n b g3
      have e0 : rsF m f (nd 46 p a b) n s = rsF m f b (n + 1) (dupB m p (sq f n) (us m p 3 s)) := rfl
      rw [e0] at nf ⊢
      have n1 : NF (dupB m p (sq f n) (us m p 3 s)) := rsF_inv (m := m) (Q := fun s1 => NF s1 → NF (dupB m p (sq f n) (us m p 3 s))) NF_k b (n + 1) _ (fun g => g) nf
      rw [one (by omega) n1] at nf ⊢
      exact ih b (by omega) _ _ g3 (by omega) hq (n + 1) s nf
/-- one proc -/
theorem TyPr (C : XC0 m e) {cd : Nat} {a : xT} {q0 r p : Int} {s : xSt} {y : yS} (hP : PH (kd m) V a (q0 + 3) r) (h0 : 0 ≤ q0) (hr : r ≤ e) (hp : m 68 4 = p) (hlen : (s.1.length : Int) + (r - q0) ≤ 2980) (hlab : (y.1.length : Int) + 2 * (r - q0) < 2980) (hre : r - q0 ≤ 1490) (hY : ∀ k : Nat, (k : Int) < m 57 4 → y.2.2.1 k = -1) (nf : NF (xPr cd m a s y).1) : ∃ told ml mx, NF s ∧ PcT m (xPr cd m a s y).1 (xPr cd m a s y).2.1 s.1.length (xPr cd m a s y).1.1.length p told ml mx ∧ (xPr cd m a s y).2.2.2 = p8 cd told (s.1.length : Int) ml mx m ∧ (s.1.length ≤ (xPr cd m a s y).1.1.length ∧ ((xPr cd m a s y).1.1.length : Int) ≤ (s.1.length : Int) + (r - q0)) ∧ (∀ k, k < s.1.length → (xPr cd m a s y).1.1.getD k (0, 0, 0) = s.1.getD k (0, 0, 0)) ∧ (y.1.length ≤ (xPr cd m a s y).2.1.1.length ∧ ((xPr cd m a s y).2.1.1.length : Int) ≤ (y.1.length : Int) + 2 * (r - q0)) ∧ (∀ k, k < y.1.length → (xPr cd m a s y).2.1.1.getD k 0 = y.1.getD k 0) ∧ ∀ k : Nat, (k : Int) < m 57 4 → (xPr cd m a s y).2.1.2.2.1 k = -1 := by
  obtain ⟨i, pa, i2, ra, bk, rfl, r1, s1, g1, g2, g3, g4⟩ := inv_H hP
  have l4 : s1 + 2 ≤ r := by
    obtain ⟨i', a', b', rfl, ho, h30', hv, r', k1, k2, hq2⟩ := inv_8 g4
    have := P_le a' k1
    omega
  have l1 : q0 + 3 ≤ r1 := by
    rcases g1 with ⟨_, _, g⟩ | ⟨_, _, g⟩
    · omega
    · have := PN_n pa g
      omega
  have l2 : r1 + 1 ≤ s1 := by
    rcases g3 with ⟨_, _, g⟩ | ⟨_, _, g⟩
    · omega
    · have := PN_n ra g
      omega
  have ex : xPr cd m (nd 47 i pa (nd 48 i2 ra bk)) s y = ((p6 m (nln (p1 m i pa s y).2) (p5 m bk (p2 m i2 ra (p1 m i pa s y).1) (p1 m i pa s y).2)).1, p7 m (p6 m (nln (p1 m i pa s y).2) (p5 m bk (p2 m i2 ra (p1 m i pa s y).1) (p1 m i pa s y).2)).2, nln (p1 m i pa s y).2, p8 cd (p1 m i pa s y).2.2.1 (s.1.length : Int) (p7 m (p6 m (nln (p1 m i pa s y).2) (p5 m bk (p2 m i2 ra (p1 m i pa s y).1) (p1 m i pa s y).2)).2).2.2.2.2 (p6 m (nln (p1 m i pa s y).2) (p5 m bk (p2 m i2 ra (p1 m i pa s y).1) (p1 m i pa s y).2)).1.2.2.1 m) := rfl
  rw [ex] at nf ⊢
  have nf : NF (p6 m (nln (p1 m i pa s y).2) (p5 m bk (p2 m i2 ra (p1 m i pa s y).1) (p1 m i pa s y).2)).1 := nf
  have n5 : NF (p5 m bk (p2 m i2 ra (p1 m i pa s y).1) (p1 m i pa s y).2).1 := nf
  have n4 := NF_stS (c := (em 0 (m 68 4) (-1) (p2 m i2 ra (p1 m i pa s y).1), nlb (p1 m i pa s y).2)) n5
  have n2 : NF (p2 m i2 ra (p1 m i pa s y).1) := n4
  have n1 : NF (p1 m i pa s y).1 ∧ p2 m i2 ra (p1 m i pa s y).1 = (p1 m i pa s y).1 := by
    unfold p2 at n2 ⊢
    by_cases c : i2 = 0
    · rw [if_pos c] at n2 ⊢
      exact ⟨n2, rfl⟩
    · rw [if_neg c] at n2 ⊢
      rcases g3 with ⟨g, _⟩ | ⟨_, _, g⟩
      · contradiction
      · have z := TyRs C (tsz ra + 1) ra (by omega) _ _ g (by omega) (by omega) 0 (p1 m i pa s y).1 n2
        rw [z] at n2
        exact ⟨n2, z⟩
  -- the parameters
  have Y0 : YL m (y.1, 0, y.2.2.1, y.2.2.2.1, 0) := by
    refine ⟨⟨Int.le_refl 0, Int.le_refl 0, by show (0 : Int) ≤ 1510; omega⟩, fun k hk => ?_⟩
    exact Or.inl (hY k hk)
  have hp1 : (p1 m i pa s y).1 = (s.1, 0, 0, s.2.2.2.1, s.2.2.2.2) ∧ (p1 m i pa s y).2.1 = y.1 ∧ YL m (p1 m i pa s y).2 ∧ 0 ≤ (p1 m i pa s y).2.2.1 ∧ (p1 m i pa s y).2.2.1 ≤ r1 - q0 := by
    have n1 := n1.1
    unfold p1 at n1 ⊢
    by_cases c : i = 0
    · rw [if_pos c]
      exact ⟨rfl, rfl, Y0, Int.le_refl 0, by show (0 : Int) ≤ _; omega⟩
    · rw [if_neg c] at n1 ⊢
      rcases g1 with ⟨g, _⟩ | ⟨_, _, g⟩
      · contradiction
      · obtain ⟨z1, z2, z3, z4, z5⟩ := TyPar C (tsz pa + 1) pa (by omega) _ _ g (by omega) (by omega) ((s.1, 0, 0, s.2.2.2.1, s.2.2.2.2), (y.1, 0, y.2.2.1, y.2.2.2.1, 0)) Y0 (by show (0 : Int) + _ ≤ _; omega) n1
        have z4 : (0 : Int) ≤ _ := z4
        have z5 : _ ≤ (0 : Int) + (r1 - (q0 + 3)) := z5
        exact ⟨z1, z2, z3, z4, by omega⟩
  rw [n1.2] at nf n5 ⊢
  obtain ⟨a1, a2, a3, a4, a5⟩ := hp1
  have nfs : NF s := by
    have z := n1.1
    rw [a1] at z
    exact z
  rw [a1] at nf n5 ⊢
  generalize p1 m i pa s y = c1 at *
  have hl1 : c1.2.1.length = y.1.length := by rw [a2]
  have en := nln_1 (y := c1.2) (by omega)
  have hy1 := nlb_1 (y := c1.2) (by omega)
  have y1l : (nlb c1.2).1.length = y.1.length + 1 := by rw [hy1, List.length_append, List.length_replicate, hl1]
  have y1u : (nlb c1.2).1.getD (nln c1.2).toNat 0 = -1 := by rw [hy1, en]; exact gD_nl (by omega) (by omega)
  have y1o : ∀ k, k < y.1.length → (nlb c1.2).1.getD k 0 = y.1.getD k 0 := fun k hk => by
    rw [hy1]
    show (c1.2.1 ++ List.replicate 1 (-1 : Int)).getD k 0 = _
    rw [List.getD_eq_getElem?_getD, List.getElem?_append_left (by omega), ← List.getD_eq_getElem?_getD, a2]
  have Y1 : YL m (nlb c1.2) := by rw [hy1]; exact a3
  have y1c : (nlb c1.2).2.1 = c1.2.2.1 := by rw [hy1]
  have y1m : c1.2.2.1 ≤ (nlb c1.2).2.2.2.2 := by rw [hy1]; exact a3.1.2.1
  -- ENTER
  generalize hs2 : ((s.1, 0, 0, s.2.2.2.1, s.2.2.2.2) : xSt) = s2 at *
  have s2l : s2.1 = s.1 := by rw [← hs2]
  have s2p : s2.2.1 = 0 ∧ s2.2.2.1 = 0 := by rw [← hs2]; exact ⟨rfl, rfl⟩
  have ga := fun k => getD_ap (l := s2.1) (x := ((0 : Int), m 68 4, (-1 : Int))) (k := k) (by rw [s2l]; omega)
  have u0 : (em 0 (m 68 4) (-1) s2).1.length = s.1.length + 1 := by
    have z := (ga 0).1
    rw [s2l] at z
    show (ap s2.1 (0, m 68 4, -1)).length = _
    rw [s2l]
    exact z
  have u1 : (em 0 (m 68 4) (-1) s2).1.getD s.1.length (0, 0, 0) = (0, p, -1) := by
    have z := (ga s.1.length).2.2 (by rw [s2l])
    rw [hp] at z ⊢
    exact z
  have u2 : ∀ k, k < s.1.length → (em 0 (m 68 4) (-1) s2).1.getD k (0, 0, 0) = s.1.getD k (0, 0, 0) := fun k hk => by
    have z := (ga k).2.1 (by rw [s2l]; exact hk)
    rw [s2l] at z
    show (ap s2.1 (0, m 68 4, -1)).getD k (0, 0, 0) = _
    rw [s2l]
    exact z
  have u3 : (em 0 (m 68 4) (-1) s2).2.1 = 0 := by
    show w32 (s2.2.1 + psh 0) = 0
    rw [s2p.1]
    rfl
  have u4 : (em 0 (m 68 4) (-1) s2).2.2.1 = 0 := by
    show imax s2.2.2.1 (w32 (s2.2.1 + psh 0)) = 0
    rw [s2p.1, s2p.2]
    rfl
  have u5 : hgt m (em 0 (m 68 4) (-1) s2).1 (s.1.length + 1) = 0 := by
    show hst m (hgt m (em 0 (m 68 4) (-1) s2).1 s.1.length) ((em 0 (m 68 4) (-1) s2).1.getD s.1.length (0, 0, 0)) = 0
    rw [u1]
    rfl
  have u6 : HI m (em 0 (m 68 4) (-1) s2) := by
    unfold HI
    rw [u0, u5, u3]
  -- the block
  have eo : ob 8 bk s1 r = r - s1 - 2 := rfl
  have eb : bg 8 bk s1 r = 2 * (r - s1) := rfl
  have T5 := (TyQ (m := m) (p0 := p) (b0 := s.1.length + 1) (V := V) C hp (tsz bk + 1) bk (by omega) 8 0 s1 r (by omega) (by omega) g4 (by omega) hr (nln c1.2) 0 0 (em 0 (m 68 4) (-1) s2, nlb c1.2) u6 u3 Y1 (by rw [eo]; show ((em 0 (m 68 4) (-1) s2).1.length : Int) + _ ≤ _; omega) (by rw [eb]; show ((nlb c1.2).1.length : Int) + _ < _; omega) (by rw [eo]; show (nlb c1.2).2.1 + _ ≤ _; omega) (by show _ ≤ (em 0 (m 68 4) (-1) s2).1.length; omega) (fun w => absurd w (by decide)) (fun w => absurd w (by decide)) n5).1 (by decide) (by decide)
  rw [eo, eb] at T5
  have e5 : p5 m bk s2 c1.2 = stS m bk (nln c1.2) 0 0 (em 0 (m 68 4) (-1) s2, nlb c1.2) := rfl
  rw [e5] at nf ⊢
  generalize stS m bk (nln c1.2) 0 0 (em 0 (m 68 4) (-1) s2, nlb c1.2) = c5 at *
  generalize em 0 (m 68 4) (-1) s2 = s5 at *
  have v0 : (c5.1.1.length : Int) ≤ (s5.1.length : Int) + (r - s1 - 2) := T5.len
  have v1 : s5.1.length ≤ c5.1.1.length := T5.le
  have v2 : c5.1.2.1 = s5.2.1 + 0 := T5.dl
  have v3 : (nlb c1.2).1.length ≤ c5.2.1.length := T5.lle
  have v3b : (c5.2.1.length : Int) ≤ ((nlb c1.2).1.length : Int) + 2 * (r - s1) := T5.lb
  have v4 : c5.2.1.getD (nln c1.2).toNat 0 = -1 := by rw [T5.kp (nln c1.2).toNat (by show _ < (nlb c1.2).1.length; omega) (fun z => z)]; exact y1u
  -- the last orders
  have TA := TQ_em (p0 := p) (b0 := s.1.length + 1) (H := nln c1.2) (U := NoU) (c := c5) (o := 1) (a := 0) (l := -1) T5.hi T5.yl (by omega) (by omega) (by omega) ⟨by omega, by show (0 : Int) ≤ _; omega, by omega, by omega, by omega, by omega, by omega, by omega, by omega, by omega, by omega, by omega, by omega⟩ ⟨by omega, by omega, fun _ _ => rfl⟩
  have ep1 : psh 1 = 1 := rfl
  rw [ep1] at TA
  have w0 : (em 1 0 (-1) c5.1).1.length = c5.1.1.length + 1 := (getD_ap (l := c5.1.1) (x := ((1 : Int), (0 : Int), (-1 : Int))) (k := 0) (by omega)).1
  have w2 : (em 1 0 (-1) c5.1).2.1 = c5.1.2.1 + 1 := TA.dl
  have TB := TQ_em (p0 := p) (b0 := s.1.length + 1) (H := nln c1.2) (U := NoU) (c := (em 1 0 (-1) c5.1, c5.2)) (o := 22) (a := m 68 4) (l := -1) TA.hi TA.yl (by show (em 1 0 (-1) c5.1).1.length < 3000; omega) (by show _ ≤ (em 1 0 (-1) c5.1).2.1 ∧ (em 1 0 (-1) c5.1).2.1 ≤ _; omega) (by omega) ⟨by omega, by show (1 : Int) ≤ (em 1 0 (-1) c5.1).2.1; omega, by omega, by omega, by omega, by omega, by omega, by omega, by omega, fun _ => hp, by omega, by omega, by omega⟩ ⟨by omega, by omega, fun _ _ => rfl⟩
  have ep22 : psh 22 = -1 := rfl
  rw [ep22] at TB
  have gb := fun k => getD_ap (l := (em 1 0 (-1) c5.1).1) (x := ((22 : Int), m 68 4, (-1 : Int))) (k := k) (by omega)
  have x0 : (em 22 (m 68 4) (-1) (em 1 0 (-1) c5.1)).1.length = c5.1.1.length + 2 := by
    have z := (gb 0).1
    show (ap (em 1 0 (-1) c5.1).1 (22, m 68 4, -1)).length = _
    omega
  have x1 : (em 22 (m 68 4) (-1) (em 1 0 (-1) c5.1)).1.getD (c5.1.1.length + 1) (0, 0, 0) = (22, p, -1) := by
    have z := (gb (c5.1.1.length + 1)).2.2 (by omega)
    rw [hp] at z ⊢
    exact z
  have x2 : (em 22 (m 68 4) (-1) (em 1 0 (-1) c5.1)).2.1 = (em 1 0 (-1) c5.1).2.1 + -1 := TB.dl
  have x3 := TB.hi
  have TF := TQ_tr (TQ_tr T5 TA) TB
  have e6 : p6 m (nln c1.2) c5 = (em 26 (m 68 4) (-1) (em 22 (m 68 4) (-1) (em 1 0 (-1) c5.1)), slb (nln c1.2) ((em 22 (m 68 4) (-1) (em 1 0 (-1) c5.1)).1.length : Int) c5.2) := rfl
  rw [e6] at nf ⊢
  generalize em 22 (m 68 4) (-1) (em 1 0 (-1) c5.1) = s7 at *
  have gc := fun k => getD_ap (l := s7.1) (x := ((26 : Int), m 68 4, (-1 : Int))) (k := k) (by omega)
  have z0 : (em 26 (m 68 4) (-1) s7).1.length = c5.1.1.length + 3 := by
    have z := (gc 0).1
    show (ap s7.1 (26, m 68 4, -1)).length = _
    omega
  have z1 : (em 26 (m 68 4) (-1) s7).1.getD (c5.1.1.length + 2) (0, 0, 0) = (26, p, -1) := by
    have z := (gc (c5.1.1.length + 2)).2.2 (by omega)
    rw [hp] at z ⊢
    exact z
  have z2 : ∀ k, k < c5.1.1.length + 2 → (em 26 (m 68 4) (-1) s7).1.getD k (0, 0, 0) = s7.1.getD k (0, 0, 0) := fun k hk => (gc k).2.1 (by omega)
  have z4 : imax s7.2.2.1 (w32 (s7.2.1 + psh 26)) = (em 26 (m 68 4) (-1) s7).2.2.1 := rfl
  have z5 : s7.2.1 = 0 := by omega
  have z6 : s7.2.2.1 ≤ (em 26 (m 68 4) (-1) s7).2.2.1 ∧ (em 26 (m 68 4) (-1) s7).2.2.1 ≤ 3000 := by
    have hz := TF.2.2.2.2.1
    have hz1 : s7.2.2.1 ≤ 3000 := hz.2 (by show s5.2.2.1 ≤ 3000; omega)
    have hz2 : s5.2.2.1 ≤ s7.2.2.1 := hz.1
    have e26 : psh 26 = 0 := rfl
    rw [← z4, z5, e26]
    exact ⟨imax_l.1, imax_b hz1 (by show (0 : Int) ≤ 3000; omega)⟩
  have z7 : 0 ≤ (em 26 (m 68 4) (-1) s7).2.2.1 := by
    have hz2 : s5.2.2.1 ≤ s7.2.2.1 := TF.2.2.2.2.1.1
    omega
  generalize em 26 (m 68 4) (-1) s7 = s8 at *
  have y6l := slb_l (y := c5.2) (l := nln c1.2) (v := (s7.1.length : Int))
  have y6g : ∀ k, (slb (nln c1.2) (s7.1.length : Int) c5.2).1.getD k 0 = if k = (nln c1.2).toNat then (s7.1.length : Int) else c5.2.1.getD k 0 := fun k => slb_g (by omega) (by omega)
  have y6e : slb (nln c1.2) (s7.1.length : Int) c5.2 = (c5.2.1.set (nln c1.2).toNat (s7.1.length : Int), c5.2.2) := if_pos ⟨by omega, by omega⟩
  have Y6 : YL m (slb (nln c1.2) (s7.1.length : Int) c5.2) := by rw [y6e]; exact T5.yl
  have y6m : (slb (nln c1.2) (s7.1.length : Int) c5.2).2.2.2.2 = c5.2.2.2.2.2 := by rw [y6e]
  show ∃ told ml mx, NF s ∧ PcT m s8 (p7 m (slb (nln c1.2) (s7.1.length : Int) c5.2)) s.1.length s8.1.length p told ml mx ∧ p8 cd c1.2.2.1 (s.1.length : Int) (p7 m (slb (nln c1.2) (s7.1.length : Int) c5.2)).2.2.2.2 s8.2.2.1 m = p8 cd told (s.1.length : Int) ml mx m ∧ (s.1.length ≤ s8.1.length ∧ (s8.1.length : Int) ≤ (s.1.length : Int) + (r - q0)) ∧ (∀ k, k < s.1.length → s8.1.getD k (0, 0, 0) = s.1.getD k (0, 0, 0)) ∧ (y.1.length ≤ (p7 m (slb (nln c1.2) (s7.1.length : Int) c5.2)).1.length ∧ ((p7 m (slb (nln c1.2) (s7.1.length : Int) c5.2)).1.length : Int) ≤ (y.1.length : Int) + 2 * (r - q0)) ∧ (∀ k, k < y.1.length → (p7 m (slb (nln c1.2) (s7.1.length : Int) c5.2)).1.getD k 0 = y.1.getD k 0) ∧ ∀ k : Nat, (k : Int) < m 57 4 → (p7 m (slb (nln c1.2) (s7.1.length : Int) c5.2)).2.2.1 k = -1
  generalize slb (nln c1.2) (s7.1.length : Int) c5.2 = y6 at *
  have fg := fgN_n (m := m) y6.2.1.toNat y6
  have fy := YL_fg (m := m) y6.2.1.toNat y6 Y6 (by have := Y6.1.1; omega)
  have e7 : p7 m y6 = fgN m y6.2.1.toNat y6 := rfl
  rw [e7]
  have f1 := fg.1
  have f2 : (fgN m y6.2.1.toNat y6).2.1 = 0 := by rw [fg.2]; have := Y6.1.1; omega
  have f3 := fy.2
  have f4 := fy.1
  generalize fgN m y6.2.1.toNat y6 = y8 at *
  have hpre : ∀ k, k < s5.1.length → s8.1.getD k (0, 0, 0) = s5.1.getD k (0, 0, 0) := fun k hk => by
    rw [z2 k (by omega)]
    exact TF.pre k hk
  refine ⟨c1.2.2.1, y8.2.2.2.2, s8.2.2.1, nfs, ?_, rfl, ⟨by omega, by omega⟩, fun k hk => by rw [hpre k (by omega), u2 k hk], ⟨by rw [f1]; omega, by rw [f1]; omega⟩, fun k hk => ?_, fun k hk => (f4.2 k hk).elim id (fun z => by omega)⟩
  · have eb1 : s8.1.length - 1 = c5.1.1.length + 2 := by omega
    have eb2 : s8.1.length - 2 = c5.1.1.length + 1 := by omega
    have hg7 : ∀ k, k ≤ c5.1.1.length + 2 → hgt m s8.1 k = hgt m s7.1 k := fun k hk => hgt_c (m := m) (l := s7.1) (l2 := s8.1) k (fun j hj => z2 j (by omega))
    have ml1 := T5.2.2.2.2.2.2.2.1.2.2.2
    have ml2 : (nlb c1.2).2.2.2.2 ≤ c5.2.2.2.2.2 := ml1
    have hYm := f4.1
    refine ⟨⟨by omega, Nat.le_refl _⟩, by rw [hpre _ (by omega)]; exact u1, by rw [eb1]; exact z1, by rw [eb2, z2 _ (by omega)]; exact x1, ⟨a4, by omega, by omega, z7, z6.2⟩, ?_, ?_, fun k k1 k2 => ?_⟩
    · rw [← u5]
      exact hgt_c (m := m) (l := s5.1) (l2 := s8.1) _ (fun j hj => hpre j (by omega))
    · rw [eb1, hg7 _ (Nat.le_refl _), ← x0]
      have z : s7.2.1 = hgt m s7.1 s7.1.length := x3
      rw [← z]
      exact z5
    · rw [eb1] at k2
      have W := TF.2.2.2.2.2.2.2.2 k (by show s5.1.length ≤ k; omega) (by show k < s7.1.length; omega)
      obtain ⟨q1, q2, q3, q4, q5⟩ := W
      have q1 : OpT m p c5.2.2.2.2.2 (s7.1.getD k (0, 0, 0)).1 (s7.1.getD k (0, 0, 0)).2.1 (hgt m s7.1 k) := q1
      have q2 : hgt m s7.1 (k + 1) ≤ s7.2.2.1 := q2
      have q3 : isR (s7.1.getD k (0, 0, 0)).1 → (s7.1.getD k (0, 0, 0)).2.2 = nln c1.2 ∨ Hd (s.1.length + 1) s7 c5.2 (s7.1.getD k (0, 0, 0)).2.2 := q3
      have q4 : isJ (s7.1.getD k (0, 0, 0)).1 → NoU (s7.1.getD k (0, 0, 0)).2.2 ∨ Sd m (s.1.length + 1) s7 c5.2 (s7.1.getD k (0, 0, 0)).2.2 := q4
      have q5 : ¬ isR (s7.1.getD k (0, 0, 0)).1 → ¬ isJ (s7.1.getD k (0, 0, 0)).1 → (s7.1.getD k (0, 0, 0)).2.2 = -1 := q5
      rw [z2 k k2, hg7 k (by omega), hg7 (k + 1) (by omega)]
      refine ⟨OpT_ml q1 (by omega), by omega, fun hr => ?_, fun hj => ?_, q5⟩
      · generalize (s7.1.getD k (0, 0, 0)).2.2 = l at *
        rw [f1]
        rcases q3 hr with h | h
        · rw [h, y6g, if_pos rfl]
          refine ⟨by omega, by omega, ?_⟩
          rw [Int.toNat_natCast, x0, z1]
          exact Or.inr rfl
        · obtain ⟨h1, h2, h3⟩ := h
          have hne : l.toNat ≠ (nln c1.2).toNat := fun w => by
            rw [w, v4] at h2
            omega
          rw [y6g, if_neg hne]
          refine ⟨by omega, by omega, ?_⟩
          rw [z2 _ (by omega)]
          exact h3
      · generalize (s7.1.getD k (0, 0, 0)).2.2 = l at *
        rw [f1]
        rcases q4 hj with h | h
        · exact h.elim
        · obtain ⟨h1, h2, h3⟩ := h
          have hne : l.toNat ≠ (nln c1.2).toNat := fun w => by
            rw [w, v4] at h2
            omega
          rw [y6g, if_neg hne]
          refine ⟨by omega, by omega, ?_⟩
          rw [hg7 _ (by omega)]
          exact h3
  · rw [f1, y6g, if_neg (by omega), T5.kp k (by show k < (nlb c1.2).1.length; omega) (fun z => z)]
    exact y1o k hk
end Tpr
