/-! BEHIND A HANDLER'S BEGINNING come its whens, then the way on -/
def AW (l : xO) : Prop := ∀ k, k + 1 < l.length → ((l.getD k (0, 0, 0)).1 = 23 ∨ (l.getD k (0, 0, 0)).1 = 24) → ((l.getD (k + 1) (0, 0, 0)).1 = 24 ∨ (l.getD (k + 1) (0, 0, 0)).1 = 25)
def AL (l : xO) : Prop := ∀ k, k + 1 = l.length → (l.getD k (0, 0, 0)).1 ≠ 23 ∧ (l.getD k (0, 0, 0)).1 ≠ 24
def AQ (l : xO) : Prop := 3000 ≤ l.length ∨ (AW l ∧ AL l)
def AO (l : xO) : Prop := 3000 ≤ l.length ∨ AW l
section Aqs
variable {l : xO} {x : Int × Int × Int} {s : xSt} {o a lb : Int}
theorem ap_big (h : 3000 ≤ l.length) : ap l x = l := by
  unfold ap
  rw [if_neg (by omega)]
theorem AW_ap (h3 : l.length < 3000) (h : AW l) (hx : ∀ k, k + 1 = l.length → ((l.getD k (0, 0, 0)).1 = 23 ∨ (l.getD k (0, 0, 0)).1 = 24) → x.1 = 24 ∨ x.1 = 25) : AW (ap l x) := fun k hk hc => by
  obtain ⟨e1, e2, e3⟩ := getD_ap (l := l) (x := x) (k := k) h3
  obtain ⟨-, f2, f3⟩ := getD_ap (l := l) (x := x) (k := k + 1) h3
  rw [e1] at hk
  rw [e2 (by omega)] at hc
  by_cases c : k + 1 < l.length
  · rw [f2 c]
    exact h k c hc
  · rw [f3 (by omega)]
    exact hx k (by omega) hc
theorem A_em (h : AQ s.1) (h1 : o ≠ 23) (h2 : o ≠ 24) : AQ (em o a lb s).1 := by
  show AQ (ap s.1 (o, a, lb))
  rcases h with h | ⟨w, q⟩
  · rw [ap_big h]
    exact Or.inl h
  · by_cases h3 : s.1.length < 3000
    · refine Or.inr ⟨AW_ap h3 w (fun k hk hc => ?_), fun k hk => ?_⟩
      · have := q k hk
        omega
      · obtain ⟨e1, e2, e3⟩ := getD_ap (l := s.1) (x := (o, a, lb)) (k := k) h3
        rw [e3 (by omega)]
        exact ⟨h1, h2⟩
    · rw [ap_big (by omega)]
      exact Or.inl (by omega)
theorem A_23 (h : AQ s.1) : AO (em o a lb s).1 := by
  show AO (ap s.1 (o, a, lb))
  rcases h with h | ⟨w, q⟩
  · rw [ap_big h]
    exact Or.inl h
  · by_cases h3 : s.1.length < 3000
    · refine Or.inr (AW_ap h3 w (fun k hk hc => ?_))
      have := q k hk
      omega
    · rw [ap_big (by omega)]
      exact Or.inl (by omega)
theorem A_24 (h : AO s.1) : AO (em 24 a lb s).1 := by
  show AO (ap s.1 (24, a, lb))
  rcases h with h | w
  · rw [ap_big h]
    exact Or.inl h
  · by_cases h3 : s.1.length < 3000
    · exact Or.inr (AW_ap h3 w (fun k hk hc => Or.inl rfl))
    · rw [ap_big (by omega)]
      exact Or.inl (by omega)
theorem A_25 (h : AO s.1) : AQ (em 25 a lb s).1 := by
  show AQ (ap s.1 (25, a, lb))
  rcases h with h | w
  · rw [ap_big h]
    exact Or.inl h
  · by_cases h3 : s.1.length < 3000
    · refine Or.inr ⟨AW_ap h3 w (fun k hk hc => Or.inr rfl), fun k hk => ?_⟩
      obtain ⟨e1, e2, e3⟩ := getD_ap (l := s.1) (x := (25, a, lb)) (k := k) h3
      rw [e3 (by omega)]
      exact ⟨by show (25 : Int) ≠ 23; decide, by show (25 : Int) ≠ 24; decide⟩
    · rw [ap_big (by omega)]
      exact Or.inl (by omega)
end Aqs
section Aqt
variable {K V : Int → Int}
theorem us_op {m : Mem} {i k : Int} {s : xSt} : (us m i k s).1 = s.1 := by
  unfold us
  split <;> rfl
theorem tl_1 {m : Mem} {i : Int} {y : yS} {s : xSt} : (tlS m i y s).1 = s.1 := by
  unfold tlS
  by_cases q : kI m (idT m i) = 0 ∧ (if idT m i < 0 ∨ m 57 4 ≤ idT m i then -1 else y.2.2.1 (idT m i).toNat) = -1
  · rw [if_pos q]
  · rw [if_neg q]
    rfl
theorem db_1 {m : Mem} {i : Int} : ∀ (r : List Int) (s : xSt), (dupB m i r s).1 = s.1
  | [], s => rfl
  | j :: r, s => by
    show (dupB m i r (if idT m j = idT m i then bl m i s else s)).1 = s.1
    rw [db_1 r]
    split <;> rfl
theorem XA : ∀ (k : Nat) (t : xT), tsz t < k → ∀ (nt : Nat) (dep p q : Int), nt ≤ 7 → P K V t nt dep p q → ∀ (m : Mem) (s : xSt), AQ s.1 → AQ (xE m t s).1 := by
  intro k
  induction k with
  | zero => intro t ht; exact absurd ht (Nat.not_lt_zero _)
  | succ k ih =>
    intro t ht nt dep p q hnt h m s hs
    have hc : nt = 0 ∨ nt = 1 ∨ nt = 2 ∨ nt = 3 ∨ nt = 4 ∨ nt = 5 ∨ nt = 6 ∨ nt = 7 := by omega
    rcases hc with rfl | rfl | rfl | rfl | rfl | rfl | rfl | rfl
    · rcases inv_0 h with ⟨i, a, b, rfl, g1, g2⟩ | ⟨i, a, b, rfl, r, g1, g2, g3, g4⟩
      · rw [tsz_nd] at ht
        exact ih a (by omega) 1 _ _ _ (by omega) g1 m s hs
      · rw [tsz_nd] at ht
        exact A_em (ih b (by omega) 1 _ _ _ (by omega) g4 m _ (ih a (by omega) 1 _ _ _ (by omega) g1 m s hs)) (by decide) (by decide)
    · obtain ⟨i, a, b, rfl, r, g1, g2⟩ := inv_1 h
      rw [tsz_nd] at ht
      exact ih b (by omega) 2 _ _ _ (by omega) g2 m _ (ih a (by omega) 3 _ _ _ (by omega) g1 m s hs)
    · rcases inv_2 h with ⟨i, a, b, rfl, g0, r, g1, g2⟩ | ⟨i, a, b, rfl, g1, g2, g3⟩
      · rw [tsz_nd] at ht
        exact ih b (by omega) 2 _ _ _ (by omega) g2 m _ (A_em (ih a (by omega) 3 _ _ _ (by omega) g1 m s hs) (by omega) (by omega))
      · exact hs
    · obtain ⟨i, a, b, rfl, r, g1, g2⟩ := inv_3 h
      rw [tsz_nd] at ht
      exact ih b (by omega) 4 _ _ _ (by omega) g2 m _ (ih a (by omega) 5 _ _ _ (by omega) g1 m s hs)
    · rcases inv_4 h with ⟨i, a, b, rfl, g0, r, g1, g2⟩ | ⟨i, a, b, rfl, g1, g2, g3, g4⟩
      · rw [tsz_nd] at ht
        exact ih b (by omega) 4 _ _ _ (by omega) g2 m _ (A_em (ih a (by omega) 5 _ _ _ (by omega) g1 m s hs) (by omega) (by omega))
      · exact hs
    · rcases inv_5 h with ⟨i, a, b, rfl, g1, g2, g3⟩ | ⟨i, a, b, rfl, g1, g2, r, g3, g4, g5⟩ | ⟨i, a, b, rfl, g1, g2, g3⟩ | ⟨i, a, b, rfl, g1, g2⟩ | ⟨i, a, b, rfl, g1, g2, g3, g4, g5⟩ | ⟨i, a, b, rfl, g1, g2, g3, g4, r, g5, g6, g7⟩ | ⟨i, a, b, rfl, g1, g2, g3⟩
      · rw [tsz_nd] at ht
        exact A_em (ih a (by omega) 5 _ _ _ (by omega) g3 m s hs) (by decide) (by decide)
      · rw [tsz_nd] at ht
        exact ih a (by omega) 0 _ _ _ (by omega) g3 m s hs
      · exact A_em hs (by decide) (by decide)
      · exact A_em hs (by decide) (by decide)
      · rw [x_13]
        split
        · exact A_em (by rw [us_op]; exact hs) (by decide) (by decide)
        · exact A_em hs (by decide) (by decide)
      · rw [tsz_nd] at ht
        exact A_em (ih a (by omega) 0 _ _ _ (by omega) g5 m _ (by rw [us_op]; exact hs)) (by decide) (by decide)
      · rw [tsz_nd] at ht
        have z := ih a (by omega) 6 _ _ _ (by omega) g3 m (us m i 4 s) (by rw [us_op]; exact hs)
        exact A_em (s := cl m i (nA a) (xE m a (us m i 4 s))) z (by decide) (by decide)
    · rcases inv_6 h with ⟨i, a, b, rfl, g1, g2, g3, g4⟩ | ⟨i, a, b, rfl, g1, g2, g3, r, g4, g5⟩
      · exact hs
      · rw [tsz_nd] at ht
        exact ih b (by omega) 7 _ _ _ (by omega) g5 m _ (ih a (by omega) 0 _ _ _ (by omega) g4 m s hs)
    · rcases inv_7 h with ⟨i, a, b, rfl, g1, r, g4, g5⟩ | ⟨i, a, b, rfl, g1, g2⟩
      · rw [tsz_nd] at ht
        exact ih b (by omega) 7 _ _ _ (by omega) g5 m _ (ih a (by omega) 0 _ _ _ (by omega) g4 m s hs)
      · exact hs
theorem WA : ∀ (k : Nat) (t : xT), tsz t < k → ∀ (dep p q : Int), P K V t 11 dep p q → ∀ (m : Mem) (w : List Int) (c : zS), AO c.1.1 → AO (wW m t w c).1.1 := by
  intro k
  induction k with
  | zero => intro t ht; exact absurd ht (Nat.not_lt_zero _)
  | succ k ih =>
    intro t ht dep p q h m w c hc
    rcases inv_11 h with ⟨i, a, b, rfl, h1, h3, h5, r, h8, h9⟩ | ⟨i, a, b, rfl, h1, h3⟩
    · rw [tsz_nd] at ht
      refine ih b (by omega) _ _ _ h9 m (w ++ [i + 1]) (dupB m (i + 1) w (em 24 (nmI m (idT m (i + 1))) (nln c.2) (us m (i + 1) 3 c.1)), nlb c.2) ?_
      show AO (dupB m (i + 1) w (em 24 (nmI m (idT m (i + 1))) (nln c.2) (us m (i + 1) 3 c.1))).1
      rw [db_1]
      exact A_24 (by rw [us_op]; exact hc)
    · exact hc
theorem SA : ∀ (k : Nat) (t : xT), tsz t < k → ∀ (nt : Nat) (dep p q : Int), 8 ≤ nt → nt ≤ 12 → P K V t nt dep p q → ∀ (m : Mem) (H l n : Int) (c : zS), AQ c.1.1 → AQ (stS m t H l n c).1.1 := by
  intro k
  induction k with
  | zero => intro t ht; exact absurd ht (Nat.not_lt_zero _)
  | succ k ih =>
    intro t ht nt dep p q h8 h12 h m H l n c hs
    have ex : ∀ (a : xT) (dd x y : Int) (m : Mem) (s : xSt), P K V a 0 dd x y → AQ s.1 → AQ (xE m a s).1 := fun a dd x y m s g w => XA (tsz a + 1) a (by omega) 0 _ _ _ (by omega) g m s w
    have hc : nt = 8 ∨ nt = 9 ∨ nt = 10 ∨ nt = 11 ∨ nt = 12 := by omega
    rcases hc with rfl | rfl | rfl | rfl | rfl
    · obtain ⟨i, a, b, rfl, ho, h30, hv, r, h1, h3, hq2⟩ := inv_8 h
      rw [tsz_nd] at ht
      exact ih a (by omega) 9 _ _ _ (by omega) (by omega) h1 m H 0 0 c hs
    · rcases inv_9 h with ⟨i, a, b, rfl, ho, r, h1, h3⟩ | ⟨i, a, b, rfl, hpq, ho⟩
      · rw [tsz_nd] at ht
        exact ih b (by omega) 9 _ _ _ (by omega) (by omega) h3 m H 0 0 _ (ih a (by omega) 10 _ _ _ (by omega) (by omega) h1 m H 0 0 c hs)
      · exact hs
    · rcases inv_10 h with ⟨i, a, b, rfl, h1, h3, h5, h6, r, h8, h9, h10⟩ | ⟨i, a, b, rfl, h1, h3, r, h8, h9, h10⟩ | ⟨i, a, b, rfl, h1, h3, h5, r, h8, h9, h10⟩ | ⟨i, a, b, rfl, h1, h3, h5, h6, r, u, h8, h9, h10, h11, h12, h13⟩ | ⟨i, a, b, rfl, h1, r, h8, h9, h10⟩ | ⟨i, a, b, rfl, h1, r, h8, h9⟩ | ⟨i, a, b, rfl, h1, r, h8, h9⟩ | ⟨i, a, b, rfl, h1, r, h8, h9, h10⟩ | ⟨i, a, b, rfl, h1, h3, h5, h6, h7⟩ | ⟨i, a, b, rfl, h1, r, h8, h9, h10⟩ | ⟨i, a, b, rfl, h1, r, h8, h9, h10⟩
      · rw [y_23]
        show AQ (tlS m (i + 1) c.2 (em 3 c.2.2.1 (-1) (xE (sww H c.2 m) a c.1))).1
        rw [tl_1]
        exact A_em (ex a _ _ _ _ _ h8 hs) (by decide) (by decide)
      · rw [y_24]
        have z := XA (tsz a + 1) a (by omega) 6 _ _ _ (by omega) h8 (sww H c.2 m) (us m i 4 c.1) (by rw [us_op]; exact hs)
        exact A_em (A_em (s := cl m i (nA a) (xE (sww H c.2 m) a (us m i 4 c.1))) z (by decide) (by decide)) (by decide) (by decide)
      · rw [y_25]
        show AQ (if lI (sww H c.2 m) (idT m i) = -1 then em 5 (nmI m (idT m i)) (-1) (us m i 1 (xE (sww H c.2 m) a c.1)) else em 3 (lI (sww H c.2 m) (idT m i)) (-1) (xE (sww H c.2 m) a c.1)).1
        split
        · exact A_em (by rw [us_op]; exact ex a _ _ _ _ _ h8 hs) (by decide) (by decide)
        · exact A_em (ex a _ _ _ _ _ h8 hs) (by decide) (by decide)
      · rw [y_26]
        exact A_em (ex b _ _ _ _ _ h11 (ex a _ _ _ _ _ h8 (by rw [us_op]; exact hs))) (by decide) (by decide)
      · rw [tsz_nd] at ht
        rw [y_27]
        exact ih b (by omega) 8 _ _ _ (by omega) (by omega) h9 m H 0 0 _ (A_em (ex a _ _ _ _ _ h8 hs) (by decide) (by decide))
      · rw [tsz_nd] at ht
        rw [y_28]
        exact ih b (by omega) 12 _ _ _ (by omega) (by omega) h9 m H _ 0 _ (A_em (ex a _ _ _ _ _ h8 hs) (by decide) (by decide))
      · rw [tsz_nd] at ht
        rw [y_29]
        exact A_em (ih b (by omega) 8 _ _ _ (by omega) (by omega) h9 m H 0 0 _ (A_em (ex a _ _ _ _ _ h8 hs) (by decide) (by decide))) (by decide) (by decide)
      · rw [tsz_nd] at ht
        rw [y_30]
        have z1 := ih a (by omega) 8 _ _ _ (by omega) (by omega) h8 m (nln (nlb c.2)) 0 0 (c.1, nlb (nlb c.2)) hs
        have z2 := A_em (o := 15) (a := 0) (lb := nln c.2) z1 (by decide) (by decide)
        have z3 := A_23 (o := 23) (a := m 68 4) (lb := -1) z2
        exact ih b (by omega) 11 _ _ _ (by omega) (by omega) h10 m H _ _ _ (A_25 (WA (tsz b + 1) b (by omega) _ _ _ h10 m [] _ z3))
      · rw [y_33]
        exact A_em (by rw [us_op]; exact hs) (by decide) (by decide)
      · rw [y_34]
        exact A_em (ex a _ _ _ _ _ h8 hs) (by decide) (by decide)
      · rw [y_35]
        exact A_em (ex a _ _ _ _ _ h8 hs) (by decide) (by decide)
    · rcases inv_11 h with ⟨i, a, b, rfl, h1, h3, h5, r, h8, h9⟩ | ⟨i, a, b, rfl, h1, h3⟩
      · rw [tsz_nd] at ht
        rw [y_31]
        exact ih b (by omega) 11 _ _ _ (by omega) (by omega) h9 m H l _ _ (A_em (ih a (by omega) 8 _ _ _ (by omega) (by omega) h8 m H 0 0 (c.1, slb n (c.1.1.length : Int) c.2) hs) (by decide) (by decide))
      · exact hs
    · obtain ⟨i, a, b, rfl, r, h8, h9, h10⟩ := inv_12 h
      rw [tsz_nd] at ht
      rw [y_36]
      exact ih b (by omega) 8 _ _ _ (by omega) (by omega) h10 m H 0 0 _ (A_em (ih a (by omega) 8 _ _ _ (by omega) (by omega) h8 m H 0 0 c hs) (by decide) (by decide))
theorem prF_1 {m : Mem} : ∀ (k : Nat) (t : xT), tsz t < k → ∀ (p q : Int), PN K t p q → ∀ c : zS, (prF m t c).1.1 = c.1.1 := by
  intro k
  induction k with
  | zero => intro t ht; exact absurd ht (Nat.not_lt_zero _)
  | succ k ih =>
    intro t ht p q h c
    rcases inv_N h with ⟨a, b, rfl, g1, g2, g3⟩ | ⟨a, b, rfl, g1, g2, g3⟩
    · exact tl_1
    · rw [tsz_nd] at ht
      exact (ih b (by omega) _ _ g3 (tlS m p c.2 c.1, ymk m p c.2)).trans tl_1
theorem rsF_1 {m : Mem} {f : Int} : ∀ (k : Nat) (t : xT), tsz t < k → ∀ (p q : Int), PN K t p q → ∀ (n : Nat) (s : xSt), (rsF m f t n s).1 = s.1 := by
  intro k
  induction k with
  | zero => intro t ht; exact absurd ht (Nat.not_lt_zero _)
  | succ k ih =>
    intro t ht p q h n s
    rcases inv_N h with ⟨a, b, rfl, g1, g2, g3⟩ | ⟨a, b, rfl, g1, g2, g3⟩
    · show (dupB m p (sq f n) (us m p 3 s)).1 = s.1
      rw [db_1, us_op]
    · rw [tsz_nd] at ht
      refine (ih b (by omega) _ _ g3 (n + 1) (dupB m p (sq f n) (us m p 3 s))).trans ?_
      rw [db_1, us_op]
theorem AQ_To {e : Int} {cd : Nat} : ∀ (k : Nat) (t : xT), tsz t < k → ∀ (p : Int) (c : wS), PT K V t p e → AQ c.1.1 → AQ (xTo cd t c).1.1 := by
  intro k
  induction k with
  | zero => intro t ht; exact absurd ht (Nat.not_lt_zero _)
  | succ k ih =>
    intro t ht p c h hq
    rcases inv_T h with ⟨i, a, b, rfl, g1, g2⟩ | ⟨a, b, rfl, g1, g2, g3, g4⟩ | ⟨a, b, rfl, g1, g2, g3, g4, g5, g6, g7⟩ | ⟨a, b, rfl, g1, r, g2, g3, g4⟩ | ⟨a, b, rfl, g1, g2, g3, r, g4, g5⟩
    · exact hq
    · rw [tsz_nd] at ht
      exact ih b (by omega) _ c g4 hq
    · rw [tsz_nd] at ht
      exact ih b (by omega) _ c g7 hq
    · rw [tsz_nd] at ht
      exact ih b (by omega) _ c g4 hq
    · rw [tsz_nd] at ht
      refine ih b (by omega) _ (xPr cd c.2.2.2 a c.1 c.2.1) g5 ?_
      obtain ⟨i, pa, i2, ra, bk, rfl, r1, s1, k1, k2, k3, k4⟩ := inv_H g4
      have e1 : (p1 c.2.2.2 i pa c.1 c.2.1).1.1 = c.1.1 := by
        unfold p1
        by_cases z : i = 0
        · rw [if_pos z]
        · rw [if_neg z]
          rcases k1 with ⟨w, _⟩ | ⟨_, _, w⟩
          · contradiction
          · rw [prF_1 (tsz pa + 1) pa (by omega) _ _ w]
      have e2 : (p2 c.2.2.2 i2 ra (p1 c.2.2.2 i pa c.1 c.2.1).1).1 = c.1.1 := by
        unfold p2
        by_cases z : i2 = 0
        · rw [if_pos z]
          exact e1
        · rw [if_neg z]
          rcases k3 with ⟨w, _⟩ | ⟨_, _, w⟩
          · contradiction
          · rw [rsF_1 (tsz ra + 1) ra (by omega) _ _ w]
            exact e1
      have e3 : AQ (p5 c.2.2.2 bk (p2 c.2.2.2 i2 ra (p1 c.2.2.2 i pa c.1 c.2.1).1) (p1 c.2.2.2 i pa c.1 c.2.1).2).1.1 := SA (tsz bk + 1) bk (by omega) 8 _ _ _ (by omega) (by omega) k4 _ _ 0 0 _ (A_em (by rw [e2]; exact hq) (by decide) (by decide))
      exact A_em (A_em (A_em e3 (by decide) (by decide)) (by decide) (by decide)) (by decide) (by decide)
end Aqt
