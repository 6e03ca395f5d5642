/-! THE MODEL'S SECOND WALK: what expressions leave alone, whole -/
theorem Fm_eM {K V : Int → Int} : ∀ (k : Nat) (t : xT), tsz t < k → ∀ (nt : Nat) (dep p q : Int), nt ≤ 7 → P K V t nt dep p q → ∀ m : Mem, (m 158 15 = 0 ∨ m 158 15 = 1) → Fm m (eM t m) (q - p) := by
  intro k
  induction k with
  | zero => intro t ht; exact absurd ht (Nat.not_lt_zero _)
  | succ k ih =>
    intro t ht nt dep p q hnt h m hm
    have hc : nt = 0 ∨ nt = 1 ∨ nt = 2 ∨ nt = 3 ∨ nt = 4 ∨ nt = 5 ∨ nt = 6 ∨ nt = 7 := by omega
    rcases hc with rfl | rfl | rfl | rfl | rfl | rfl | rfl | rfl
    · rcases inv_0 h with ⟨i, a, b, rfl, g1, g2⟩ | ⟨i, a, b, rfl, r, g1, g2, g3, g4⟩
      · rw [tsz_nd] at ht
        exact ih a (by omega) _ _ _ _ (by decide) g1 m hm
      · rw [tsz_nd] at ht
        have f1 := ih a (by omega) _ _ _ _ (by decide) g1 m hm
        have f2 := ih b (by omega) _ _ _ _ (by decide) g4 _ f1.2.2.2.2
        exact Fm_le (Fm_tr (Fm_tr f1 f2) (Fm_emG f2.2.2.2.2)) (by omega)
    · obtain ⟨i, a, b, rfl, r, g1, g2⟩ := inv_1 h
      rw [tsz_nd] at ht
      have f1 := ih a (by omega) _ _ _ _ (by decide) g1 m hm
      have f2 := ih b (by omega) _ _ _ _ (by decide) g2 _ f1.2.2.2.2
      exact Fm_le (Fm_tr f1 f2) (by omega)
    · rcases inv_2 h with ⟨i, a, b, rfl, g0, r, g1, g2⟩ | ⟨i, a, b, rfl, g1, g2⟩
      · rw [tsz_nd] at ht
        have f1 := ih a (by omega) _ _ _ _ (by decide) g1 m hm
        have f3 := Fm_tr f1 (Fm_emH (o := i) (a := 0) (u := -1) f1.2.2.2.2)
        have f2 := ih b (by omega) _ _ _ _ (by decide) g2 _ f3.2.2.2.2
        exact Fm_le (Fm_tr f3 f2) (by omega)
      · exact Fm_le (Fm_rf hm) (by omega)
    · obtain ⟨i, a, b, rfl, r, g1, g2⟩ := inv_3 h
      rw [tsz_nd] at ht
      have f1 := ih a (by omega) _ _ _ _ (by decide) g1 m hm
      have f2 := ih b (by omega) _ _ _ _ (by decide) g2 _ f1.2.2.2.2
      exact Fm_le (Fm_tr f1 f2) (by omega)
    · rcases inv_4 h with ⟨i, a, b, rfl, g0, r, g1, g2⟩ | ⟨i, a, b, rfl, g1, g2⟩
      · rw [tsz_nd] at ht
        have f1 := ih a (by omega) _ _ _ _ (by decide) g1 m hm
        have f3 := Fm_tr f1 (Fm_emH (o := i) (a := 0) (u := -1) f1.2.2.2.2)
        have f2 := ih b (by omega) _ _ _ _ (by decide) g2 _ f3.2.2.2.2
        exact Fm_le (Fm_tr f3 f2) (by omega)
      · exact Fm_le (Fm_rf hm) (by omega)
    · rcases inv_5 h with ⟨i, a, b, rfl, g1, g2, g3⟩ | ⟨i, a, b, rfl, g1, g2, r, g3, g4, g5⟩ | ⟨i, a, b, rfl, g1, g2, g3⟩ | ⟨i, a, b, rfl, g1, g2⟩ | ⟨i, a, b, rfl, g1, g2, g3⟩ | ⟨i, a, b, rfl, g1, g2, g3, g4, r, g5, g6, g7⟩ | ⟨i, a, b, rfl, g1, g2, g3⟩
      · rw [tsz_nd] at ht
        have f1 := ih a (by omega) _ _ _ _ (by decide) g3 m hm
        exact Fm_le (Fm_tr f1 (Fm_emH f1.2.2.2.2)) (by omega)
      · rw [tsz_nd] at ht
        have f1 := ih a (by omega) _ _ _ _ (by decide) g3 m hm
        exact Fm_le f1 (by omega)
      · exact Fm_le (Fm_emG (o := 1) (a := vlT m i) (l := -1) (u := 1) (z := false) hm) (by omega)
      · exact Fm_le (Fm_emH (o := 19) (a := 0) (u := 1) hm) (by omega)
      · have f1 := Fm_plM (n := i) hm
        exact Fm_le (Fm_tr f1 (Fm_emG f1.2.2.2.2)) (by omega)
      · rw [tsz_nd] at ht
        have f0 := Fm_arM (n := i) hm
        have f1 := ih a (by omega) _ _ _ _ (by decide) g5 _ f0.2.2.2.2
        exact Fm_le (Fm_tr (Fm_tr f0 f1) (Fm_emH f1.2.2.2.2)) (by omega)
      · rw [tsz_nd] at ht
        have f0 := Fm_clM (n := i) hm
        have f1 := Fm_tr f0 (ih a (by omega) _ _ _ _ (by decide) g3 _ f0.2.2.2.2)
        have f2 := Fm_tr f1 (Fm_thM (n := i) (p := clV m i) (k := nA a) f1.2.2.2.2)
        exact Fm_le (Fm_tr f2 (Fm_emH f2.2.2.2.2)) (by omega)
    · rcases inv_6 h with ⟨i, a, b, rfl, g1, g2, g3, g4⟩ | ⟨i, a, b, rfl, g1, g2, g3, r, g4, g5⟩
      · exact Fm_le (Fm_rf hm) (by omega)
      · rw [tsz_nd] at ht
        have f1 := ih a (by omega) _ _ _ _ (by decide) g4 m hm
        have f2 := ih b (by omega) _ _ _ _ (by decide) g5 _ f1.2.2.2.2
        exact Fm_le (Fm_tr f1 f2) (by omega)
    · rcases inv_7 h with ⟨i, a, b, rfl, g1, r, g2, g3⟩ | ⟨i, a, b, rfl, g1, g2⟩
      · rw [tsz_nd] at ht
        have f1 := ih a (by omega) _ _ _ _ (by decide) g2 m hm
        have f2 := ih b (by omega) _ _ _ _ (by decide) g3 _ f1.2.2.2.2
        exact Fm_le (Fm_tr f1 f2) (by omega)
      · exact Fm_le (Fm_rf hm) (by omega)
