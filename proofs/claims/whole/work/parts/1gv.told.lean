/-! PARAMETERS THAT ARE KEPT stay few, whatever the text -/
section Tld
variable {m : Mem} {cd : Nat} {K V : Int → Int} {e : Int}
theorem prF_cn : ∀ (k : Nat) (t : xT), tsz t < k → ∀ (p q : Int), PN K t p q → ∀ c : zS, 0 ≤ c.2.2.1 ∧ c.2.2.1 ≤ 1510 → 0 ≤ (prF m t c).2.2.1 ∧ (prF m t c).2.2.1 ≤ 1510 := by
  intro k
  induction k with
  | zero => intro t ht; exact absurd ht (Nat.not_lt_zero _)
  | succ k ih =>
    intro t ht p q h c hcn
    have one : 0 ≤ (ymk m p c.2).2.1 ∧ (ymk m p c.2).2.1 ≤ 1510 := by
      unfold ymk
      split
      · exact hcn
      · show 0 ≤ c.2.2.1 + 1 ∧ c.2.2.1 + 1 ≤ 1510
        omega
    rcases inv_N h with ⟨a, b, rfl, g1, g2, g3⟩ | ⟨a, b, rfl, g1, g2, g3⟩
    · exact one
    · rw [tsz_nd] at ht
      exact ih b (by omega) _ _ g3 (tlS m p c.2 c.1, ymk m p c.2) one
theorem p8_5 (hc : cd = 83 ∨ cd = 93) {told first ml mx : Int} {k : Nat} : p8 cd told first ml mx m (cd + 5) k = told ∨ p8 cd told first ml mx m (cd + 5) k = m (cd + 5) k := by
  have g : (if 16 < w32 (ml - told) then put m 68 15 1 else m) (cd + 5) k = m (cd + 5) k := lg_x (by omega)
  unfold p8
  rw [put_ss, if_neg (by omega)]
  unfold kpP
  by_cases c : (if 16 < w32 (ml - told) then put m 68 15 1 else m) 68 4 < 0 ∨ 40 ≤ (if 16 < w32 (ml - told) then put m 68 15 1 else m) 68 4
  · rw [if_pos c]
    exact Or.inr g
  · rw [if_neg c, put_ss, if_neg (by omega), put_ss, if_neg (by omega), put_ss, if_neg (by omega), put_ss, if_pos rfl]
    by_cases c2 : k = ((if 16 < w32 (ml - told) then put m 68 15 1 else m) 68 4).toNat
    · rw [if_pos c2]
      exact Or.inl rfl
    · rw [if_neg c2]
      exact Or.inr g
theorem PA_Pr (hc : cd = 83 ∨ cd = 93) {a : xT} {p r : Int} {s : xSt} {y : yS} (hP : PH K V a p r) (h : ∀ k, 0 ≤ m (cd + 5) k ∧ m (cd + 5) k ≤ 1600) : ∀ k, 0 ≤ (xPr cd m a s y).2.2.2 (cd + 5) k ∧ (xPr cd m a s y).2.2.2 (cd + 5) k ≤ 1600 := fun k => by
  obtain ⟨i, pa, i2, ra, bk, rfl, r1, s1, g1, g2, g3, g4⟩ := inv_H hP
  have hb : 0 ≤ (p1 m i pa s y).2.2.1 ∧ (p1 m i pa s y).2.2.1 ≤ 1510 := by
    unfold p1
    by_cases c : i = 0
    · rw [if_pos c]
      exact ⟨Int.le_refl 0, by show (0 : Int) ≤ 1510; decide⟩
    · rw [if_neg c]
      rcases g1 with ⟨g, _⟩ | ⟨_, _, g⟩
      · contradiction
      · exact prF_cn (tsz pa + 1) pa (by omega) _ _ g _ ⟨Int.le_refl 0, by show (0 : Int) ≤ 1510; decide⟩
  show 0 ≤ p8 cd (p1 m i pa s y).2.2.1 (s.1.length : Int) (p7 m (p6 m (nln (p1 m i pa s y).2) (p5 m bk (p2 m i2 ra (p1 m i pa s y).1) (p1 m i pa s y).2)).2).2.2.2.2 (p6 m (nln (p1 m i pa s y).2) (p5 m bk (p2 m i2 ra (p1 m i pa s y).1) (p1 m i pa s y).2)).1.2.2.1 m (cd + 5) k ∧ p8 cd (p1 m i pa s y).2.2.1 (s.1.length : Int) (p7 m (p6 m (nln (p1 m i pa s y).2) (p5 m bk (p2 m i2 ra (p1 m i pa s y).1) (p1 m i pa s y).2)).2).2.2.2.2 (p6 m (nln (p1 m i pa s y).2) (p5 m bk (p2 m i2 ra (p1 m i pa s y).1) (p1 m i pa s y).2)).1.2.2.1 m (cd + 5) k ≤ 1600
  rcases p8_5 (m := m) hc (told := (p1 m i pa s y).2.2.1) (first := (s.1.length : Int)) (ml := (p7 m (p6 m (nln (p1 m i pa s y).2) (p5 m bk (p2 m i2 ra (p1 m i pa s y).1) (p1 m i pa s y).2)).2).2.2.2.2) (mx := (p6 m (nln (p1 m i pa s y).2) (p5 m bk (p2 m i2 ra (p1 m i pa s y).1) (p1 m i pa s y).2)).1.2.2.1) (k := k) with z | z
  · rw [z]
    omega
  · rw [z]
    exact h k
theorem PA_To (hc : cd = 83 ∨ cd = 93) : ∀ (k : Nat) (t : xT), tsz t < k → ∀ (p : Int) (c : wS), PT K V t p e → (∀ k, 0 ≤ c.2.2.2 (cd + 5) k ∧ c.2.2.2 (cd + 5) k ≤ 1600) → ∀ k, 0 ≤ (xTo cd t c).2.2.2 (cd + 5) k ∧ (xTo cd t c).2.2.2 (cd + 5) k ≤ 1600 := by
  intro k
  induction k with
  | zero => intro t ht; exact absurd ht (Nat.not_lt_zero _)
  | succ k ih =>
    intro t ht p c h hb
    rcases inv_T h with ⟨i, a, b, rfl, g1, g2⟩ | ⟨a, b, rfl, g1, g2, g3, g4⟩ | ⟨a, b, rfl, g1, g2, g3, g4, g5, g6, g7⟩ | ⟨a, b, rfl, g1, r, g2, g3, g4⟩ | ⟨a, b, rfl, g1, g2, g3, r, g4, g5⟩
    · exact hb
    · rw [tsz_nd] at ht
      exact ih b (by omega) _ c g4 hb
    · rw [tsz_nd] at ht
      exact ih b (by omega) _ c g7 hb
    · rw [tsz_nd] at ht
      exact ih b (by omega) _ c g4 hb
    · rw [tsz_nd] at ht
      exact ih b (by omega) _ (xPr cd c.2.2.2 a c.1 c.2.1) g5 (PA_Pr hc g4 hb)
end Tld
