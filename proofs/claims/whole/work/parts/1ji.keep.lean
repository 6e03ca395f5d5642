/-! WHAT MAKE LEAVES IN THE CLASS -/
section Mk9
variable {m : Mem} {cd : Nat} {K V : Int → Int} {e : Int}
theorem p8_f (hc : cd = 83 ∨ cd = 93) {told first ml mx : Int} {a k : Nat} (h1 : a ≠ 68) (h2 : a < cd + 5 ∨ cd + 8 < a) : p8 cd told first ml mx m a k = m a k := by
  have g : (if 16 < w32 (ml - told) then put m 68 15 1 else m) a k = m a k := by
    split
    · rw [put_ss, if_neg h1]
    · rfl
  unfold p8
  rw [put_ss, if_neg h1]
  unfold kpP
  by_cases c : (if 16 < w32 (ml - told) then put m 68 15 1 else m) 68 4 < 0 ∨ 40 ≤ (if 16 < w32 (ml - told) then put m 68 15 1 else m) 68 4
  · rw [if_pos c]
    exact g
  · rw [if_neg c, put_ss, if_neg (by omega), put_ss, if_neg (by omega), put_ss, if_neg (by omega), put_ss, if_neg (by omega)]
    exact g
theorem p8_lg (hc : cd = 83 ∨ cd = 93) {told first ml mx : Int} (h : m 68 15 = 0 ∨ m 68 15 = 1) : p8 cd told first ml mx m 68 15 = 0 ∨ p8 cd told first ml mx m 68 15 = 1 := by
  have g : (if 16 < w32 (ml - told) then put m 68 15 1 else m) 68 15 = 0 ∨ (if 16 < w32 (ml - told) then put m 68 15 1 else m) 68 15 = 1 := by
    split
    · exact Or.inr rfl
    · exact h
  unfold p8
  rw [put_ss, if_pos rfl, if_neg (by decide)]
  unfold kpP
  by_cases c : (if 16 < w32 (ml - told) then put m 68 15 1 else m) 68 4 < 0 ∨ 40 ≤ (if 16 < w32 (ml - told) then put m 68 15 1 else m) 68 4
  · rw [if_pos c]
    exact g
  · rw [if_neg c, put_ss, if_neg (by omega), put_ss, if_neg (by omega), put_ss, if_neg (by omega), put_ss, if_neg (by omega)]
    exact g
theorem FP_Pr (hc : cd = 83 ∨ cd = 93) {a : xT} {p r : Int} {s : xSt} {y : yS} (hP : PH K V a p r) : (∀ x k, x ≠ 68 → (x < cd + 5 ∨ cd + 8 < x) → (xPr cd m a s y).2.2.2 x k = m x k) ∧ (m 68 15 = 0 ∨ m 68 15 = 1 → (xPr cd m a s y).2.2.2 68 15 = 0 ∨ (xPr cd m a s y).2.2.2 68 15 = 1) := by
  obtain ⟨i, pa, i2, ra, bk, rfl, -⟩ := inv_H hP
  exact ⟨fun x k h1 h2 => p8_f hc h1 h2, fun h => p8_lg hc h⟩
theorem FP_To (hc : cd = 83 ∨ cd = 93) : ∀ (k : Nat) (t : xT), tsz t < k → ∀ (p : Int) (c : wS), PT K V t p e → (∀ x k, x ≠ 68 → (x < cd + 5 ∨ cd + 8 < x) → (xTo cd t c).2.2.2 x k = c.2.2.2 x k) ∧ (c.2.2.2 68 15 = 0 ∨ c.2.2.2 68 15 = 1 → (xTo cd t c).2.2.2 68 15 = 0 ∨ (xTo cd t c).2.2.2 68 15 = 1) := by
  intro k
  induction k with
  | zero => intro t ht; exact absurd ht (Nat.not_lt_zero _)
  | succ k ih =>
    intro t ht p c h
    rcases inv_T h with ⟨i, a, b, rfl, g1, g2⟩ | ⟨a, b, rfl, g1, g2, g3, g4⟩ | ⟨a, b, rfl, g1, g2, g3, g4, g5, g6, g7⟩ | ⟨a, b, rfl, g1, r, g2, g3, g4⟩ | ⟨a, b, rfl, g1, g2, g3, r, g4, g5⟩
    · exact ⟨fun _ _ _ _ => rfl, fun h => h⟩
    · rw [tsz_nd] at ht
      exact ih b (by omega) _ c g4
    · rw [tsz_nd] at ht
      exact ih b (by omega) _ c g7
    · rw [tsz_nd] at ht
      exact ih b (by omega) _ c g4
    · rw [tsz_nd] at ht
      have z := ih b (by omega) _ (xPr cd c.2.2.2 a c.1 c.2.1) g5
      have w := FP_Pr (m := c.2.2.2) (s := c.1) (y := c.2.1) hc g4
      exact ⟨fun x k h1 h2 => (z.1 x k h1 h2).trans (w.1 x k h1 h2), fun h => z.2 (w.2 h)⟩
end Mk9
section Mk8
variable {mc m5 : Mem} {cd : Nat} {e n : Int} {t : xT} {V' b : Nat → Int} {K V : Int → Int}
/-- cells that make leaves as they are -/
theorem c6_f (hc : cd = 83 ∨ cd = 93) (hP : PT K V t 0 e) {a k : Nat} (h1 : a ≠ 61 ∧ a ≠ 68 ∧ a ≠ 69 ∧ a ≠ 70) (h2 : a < cd ∨ cd + 9 ≤ a ∨ a = cd + 4 ∨ a = cd ∧ k = 12) : c6M cd t e m5 a k = m5 a k := by
  have z := (FP_To (cd := cd) hc (tsz t + 1) t (by omega) 0 (cst cd m5) hP).1 a k h1.2.1 (by omega)
  have w : (r85 cd t m5).2.2.2 a k = m5 a k := by
    show (xTo cd t (cst cd m5)).2.2.2 a k = _
    rw [z]
    exact m85_o h1.2.1
  rw [← w]
  unfold c6M mv sww e85
  rw [if_neg h1.2.1]
  by_cases c : a = cd
  · subst c
    have hk : k = 12 := by omega
    subst hk
    rw [if_pos rfl, if_neg (by decide), if_neg h1.2.1, if_neg h1.1, if_neg h1.2.2.1, if_neg h1.2.2.2, put_ss, if_pos rfl, if_neg (by decide), put_ss, if_pos rfl, if_neg (by decide), put_ss, if_pos rfl, if_neg (by decide)]
  · rw [if_neg c, if_neg (by omega), if_neg (by omega), if_neg (by omega), if_neg h1.2.1, if_neg h1.1, if_neg h1.2.2.1, if_neg h1.2.2.2, put_ss, if_neg c, put_ss, if_neg c, put_ss, if_neg c]
theorem gE_f (hP : PT K V t 0 e) {M : Mem} {a k : Nat} (ha : a < 57 ∨ 66 < a) : gE t M a k = M a k := by
  unfold gE
  rw [put_ss, if_neg (by omega)]
  exact gT_f ha (tsz t + 1) t (by omega) M 0 hP
/-- what the class keeps up to here -/
theorem C6k (hc : cd = 83 ∨ cd = 93) (hm5 : m5 = gE t (gv e V' (mcF mc b n))) (hP : PT K V t 0 e) {a k : Nat} (h : a < 50 ∨ a = 50 ∧ k ≠ 9 ∧ k ≠ 10 ∧ k ≠ 11 ∨ a = 51 ∧ k ≠ 5 ∨ a = 52 ∨ a = 56 ∨ 70 < a ∧ (a < cd ∨ cd + 9 ≤ a ∨ a = cd + 4 ∨ a = cd ∧ k = 12)) : c6M cd t e m5 a k = mc a k := by
  rw [c6_f hc hP (by omega) (by omega), hm5, gE_f hP (by omega)]
  have z := KcF_F (m := mc) (b := b) (n := n) a k (by omega)
  rw [← z]
  unfold gv
  rw [if_neg (by omega), if_neg (by omega)]
theorem C6_50 (hc : cd = 83 ∨ cd = 93) (hm5 : m5 = gE t (gv e V' (mcF mc b n))) (hP : PT K V t 0 e) {k : Nat} : c6M cd t e m5 50 k = mcF mc b n 50 k := by
  rw [c6_f hc hP (by omega) (by omega), hm5, gE_f hP (by omega)]
  rfl
theorem mcF_50 : mcF mc b n 50 9 = 1 ∧ mcF mc b n 50 10 = 0 := by
  have K1 := KC_aF (m := tkFs (put (bgM (c0M mc)) 51 5 0) (tks b n (n + 1).toNat 0)) (k := 0) (p := n) (v := 0)
  have K2 := KC_tkFs (tks b n (n + 1).toNat 0) (put (bgM (c0M mc)) 51 5 0)
  unfold mcF
  rw [K1 50 9 (by omega), K2 50 9 (by omega), K1 50 10 (by omega), K2 50 10 (by omega), put_ss, put_ss, if_neg (by decide), if_neg (by decide)]
  unfold bgM tA bg0 c0M
  simp only [put_ss, Nat.reduceEqDiff, if_true, if_false]
  exact ⟨trivial, trivial⟩
theorem C6_68 (hm5 : m5 = gE t (gv e V' (mcF mc b n))) (hP : PT K V t 0 e) (h7 : mc 68 7 = 0) (h8 : 0 ≤ mc 68 8 ∧ mc 68 8 ≤ 1600) : c6M cd t e m5 68 7 = 0 ∧ 0 ≤ c6M cd t e m5 68 8 ∧ c6M cd t e m5 68 8 ≤ 1600 := by
  have k68 : ∀ k, m5 68 k = mc 68 k := fun k => by
    rw [hm5, gE_f hP (by omega)]
    have z := KcF_F (m := mc) (b := b) (n := n) 68 k (by omega)
    rw [← z]
    rfl
  have z := Yq_xTo (cd := cd) (tsz t + 1) t (by omega) K V 0 e (cst cd m5) hP (by
    show 0 ≤ m5 68 7 ∧ 0 ≤ m5 68 8 ∧ m5 68 8 ≤ 1600
    rw [k68, k68]
    omega) (by
    show m5 68 7 = 0
    rw [k68]
    exact h7)
  exact ⟨z.2, z.1.2⟩
theorem C6_5 (hc : cd = 83 ∨ cd = 93) (hm5 : m5 = gE t (gv e V' (mcF mc b n))) (hP : PT K V t 0 e) (h : ∀ k, 0 ≤ mc (cd + 5) k ∧ mc (cd + 5) k ≤ 1600) : ∀ k, 0 ≤ c6M cd t e m5 (cd + 5) k ∧ c6M cd t e m5 (cd + 5) k ≤ 1600 := fun k => by
  rw [c6_c hc (by omega)]
  refine PA_To hc (tsz t + 1) t (by omega) 0 (cst cd m5) hP (fun k => ?_) k
  show 0 ≤ m85 cd m5 (cd + 5) k ∧ m85 cd m5 (cd + 5) k ≤ 1600
  rw [m85_o (by omega), hm5, gE_f hP (by omega)]
  have z := KcF_F (m := mc) (b := b) (n := n) (cd + 5) k (by omega)
  have w : gv e V' (mcF mc b n) (cd + 5) k = mcF mc b n (cd + 5) k := by
    unfold gv
    rw [if_neg (by omega), if_neg (by omega)]
  rw [w, z]
  exact h k
theorem C6_B (hc : cd = 83 ∨ cd = 93) (hm5 : m5 = gE t (gv e V' (mcF mc b n))) (hP : PT K V t 0 e) (h : LyB mc cd) : LyB (c6M cd t e m5) cd := by
  obtain ⟨h1, h2, h3, h4, h5, h6⟩ := h
  refine ⟨fun k => ?_, fun k => ?_, ?_, ?_, ?_, ?_⟩
  · rw [C6k hc hm5 hP (by omega)]; exact h1 k
  · rw [C6k hc hm5 hP (by omega)]; exact h2 k
  · rw [C6k hc hm5 hP (by omega)]; exact h3
  · rw [C6k hc hm5 hP (by omega)]; exact h4
  · rw [C6k hc hm5 hP (by omega)]; exact h5
  · rw [C6k hc hm5 hP (by omega)]; exact h6
end Mk8
