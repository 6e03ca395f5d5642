/-! THE CLASS'S TOPS against the model's table: gather tells what the model tells -/
theorem Kt_gN {K : Int → Int} : ∀ (k : Nat) (t : xT), tsz t < k → ∀ (m : Mem) (x r : Int), PN K t x r → Kt m (gN t m) ∧ (∀ j, j ≠ 15 → j ≠ 6 → gN t m 57 j = m 57 j) := by
  intro k
  induction k with
  | zero => intro t ht; exact absurd ht (Nat.not_lt_zero _)
  | succ k ih =>
    intro t ht m x r h
    rcases inv_N h with ⟨a, b, rfl, g1, g2, g3⟩ | ⟨a, b, rfl, g1, g2, g3⟩
    · exact ⟨Kt_gC (i := x), fun j h h' => gC_57 (i := x) j h h'⟩
    · rw [tsz_nd] at ht
      obtain ⟨c1, c2⟩ := ih b (by omega) (gC m x) (x + 2) r g3
      exact ⟨Kt_tr Kt_gC c1, fun j h h' => (c2 j h h').trans (gC_57 j h h')⟩
theorem Kt_gRs {K : Int → Int} : ∀ (k : Nat) (t : xT), tsz t < k → ∀ (m : Mem) (x r : Int), PN K t x r → Kt m (gRs t m) ∧ (∀ j, j ≠ 14 → gRs t m 57 j = m 57 j) := by
  intro k
  induction k with
  | zero => intro t ht; exact absurd ht (Nat.not_lt_zero _)
  | succ k ih =>
    intro t ht m x r h
    rcases inv_N h with ⟨a, b, rfl, g1, g2, g3⟩ | ⟨a, b, rfl, g1, g2, g3⟩
    · exact ⟨Kt_gR (i := x), fun j h => gR_57 (i := x) j h⟩
    · rw [tsz_nd] at ht
      obtain ⟨c1, c2⟩ := ih b (by omega) (gR m x) (x + 2) r g3
      exact ⟨Kt_tr Kt_gR c1, fun j h => (c2 j h).trans (gR_57 j h)⟩
theorem Kt_gRq {K V : Int → Int} {t : xT} {p q : Int} {m : Mem} (h : PH K V t p q) : Kt m (gRq t m) ∧ (∀ j, j ≠ 14 → gRq t m 57 j = m 57 j) := by
  obtain ⟨i, a, i2, b, c, rfl, r, s, g1, g2, g3, g4⟩ := inv_H h
  rcases g3 with ⟨rfl, _, _⟩ | ⟨rfl, _, g3⟩
  · exact ⟨Kt_rf, fun _ _ => rfl⟩
  · exact Kt_gRs (tsz b + 1) b (by omega) m _ _ g3
theorem TC_Rq {K V : Int → Int} {t : xT} {p q : Int} {m : Mem} {s : tS6} (h : PH K V t p q) (T : TCs m s) : TCs (gRq t m) s := by
  obtain ⟨i, a, i2, b, c, rfl, r, s', g1, g2, g3, g4⟩ := inv_H h
  rcases g3 with ⟨rfl, _, _⟩ | ⟨rfl, _, g3⟩
  · exact T
  · exact TC_Rs (tsz b + 1) b (by omega) m _ _ s g3 T
theorem TC_T {v V : Int → Int} {e : Int} (h15 : e ≤ 1500) : ∀ (k : Nat) (t : xT), tsz t < k → ∀ (m : Mem) (p : Int) (s : tS6), PT (kd m) V t p e → 0 ≤ p → 3 * m 57 5 ≤ p → VC m v e → IJ m → TCs m s → TCs (gT t m) (sT v t s) := by
  intro k
  induction k with
  | zero => intro t ht; exact absurd ht (Nat.not_lt_zero _)
  | succ k ih =>
    intro t ht m p s h h0 h5 hV hI T
    rcases inv_T h with ⟨i, a, b, rfl, g1, g2⟩ | ⟨a, b, rfl, g1, g2, g3, g4⟩ | ⟨a, b, rfl, g1, g2, g3, g4, g5, g6, g7⟩ | ⟨a, b, rfl, g1, r, g2, g3, g4⟩ | ⟨a, b, rfl, g1, g2, g3, r, g4, g5⟩
    · exact T
    · rw [tsz_nd] at ht
      have hle := PT_le (tsz b + 1) b (by omega) _ _ g4
      obtain ⟨v1, v2, v3⟩ := (hV (p + 1) (by omega) (by omega)).1 g2
      have c := TC_V (n := 1) (k := 1) hI v1 v2 (by decide) (by omega) T
      have e1 : (s.2.2.2.2.1 || decide ((1 : Int) < 1) || decide ((500 : Int) < 1)) = s.2.2.2.2.1 := by
        cases s.2.2.2.2.1 <;> rfl
      rw [v3, e1] at c
      have q1 := Kt_gV (m := m) (i := p + 1) (k := 1) (n := 1)
      exact ih b (by omega) (gV m (p + 1) 1 1) (p + 3) (sV v p s) (by rw [Kt_kd q1]; exact g4) (by omega) (by rw [gV_5 (by omega)]; omega) (VC_Kt q1 hV) (IJ_Kt q1 hI) c
    · rw [tsz_nd] at ht
      have hle := PT_le (tsz b + 1) b (by omega) _ _ g7
      obtain ⟨v1, v2, v3⟩ := (hV (p + 1) (by omega) (by omega)).1 g2
      have v4 := (hV (p + 3) (by omega) (by omega)).2 g4
      have c := TC_V (n := idT m (p + 3)) (k := 2) hI v1 v2 (by decide) (by omega) T
      have q1 := Kt_gV (m := m) (i := p + 1) (k := 2) (n := idT m (p + 3))
      have q5 := gV_5 (m := m) (i := p + 1) (k := 2) (n := idT m (p + 3)) (by omega)
      have e1 : gT (nd 42 p a b) m = gT b (gV m (p + 1) 2 (idT m (p + 3))) := rfl
      rw [e1]
      rw [v3] at c
      rw [v4] at c q1 q5 ⊢
      exact ih b (by omega) (gV m (p + 1) 2 (v (p + 3))) (p + 6) (sA v p s) (by rw [Kt_kd q1]; exact g7) (by omega) (by rw [q5]; omega) (VC_Kt q1 hV) (IJ_Kt q1 hI) c
    · rw [tsz_nd] at ht
      have hle := PT_le (tsz b + 1) b (by omega) _ _ g4
      have hnn := PN_n a g2
      obtain ⟨q1, q2⟩ := Kt_gN (tsz a + 1) a (by omega) m _ _ g2
      have c := TC_N (tsz a + 1) a (by omega) m (p + 1) r s g2 (by omega) (by omega) hV hI T
      exact ih b (by omega) (gN a m) (r + 1) (sN v a s) (by rw [Kt_kd q1]; exact g4) (by omega) (by rw [q2 5 (by decide) (by decide)]; omega) (VC_Kt q1 hV) (IJ_Kt q1 hI) c
    · rw [tsz_nd] at ht
      have hle := PT_le (tsz b + 1) b (by omega) _ _ g5
      have hph := PH_lt g4
      obtain ⟨v1, v2, v3⟩ := (hV (p + 1) (by omega) (by omega)).1 g2
      have c := TC_H (n := hN a) hI v1 v2 T
      rw [v3] at c
      have c' := TC_Rq g4 c
      have w1 := Kt_gH (m := m) (x := p + 1) (n := hN a)
      obtain ⟨q1, q2⟩ := Kt_gRq (m := gH m (p + 1) (hN a)) g4
      have q3 := Kt_tr w1 q1
      exact ih b (by omega) (gRq a (gH m (p + 1) (hN a))) r (sP v p (hN a) s) (by rw [Kt_kd q3]; exact g5) (by omega) (by rw [q2 5 (by decide), gH_57 5 (by decide) (by decide) (by decide)]; omega) (VC_Kt q3 hV) (IJ_Kt q3 hI) c'
