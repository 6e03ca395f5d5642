/-! THE MODEL'S SECOND WALK: what expressions leave alone -/
def Fm (m m' : Mem) (n : Int) : Prop := (∀ r k, r = 161 ∨ r = 162 ∨ r = 163 ∨ r = 165 ∨ r = 166 ∨ r = 167 ∨ r = 170 ∨ r = 172 ∨ r = 181 → m' r k = m r k) ∧ (∀ k, k ≠ 9 → k ≠ 10 → k ≠ 15 → k ≠ 16 → k ≠ 41 → k ≠ 52 → k ≠ 53 → m' 158 k = m 158 k) ∧ m 158 41 ≤ m' 158 41 ∧ m' 158 41 ≤ m 158 41 + n ∧ (m' 158 15 = 0 ∨ m' 158 15 = 1)
theorem Fm_rf {m : Mem} (h : m 158 15 = 0 ∨ m 158 15 = 1) : Fm m m 0 := ⟨fun _ _ _ => rfl, fun _ _ _ _ _ _ _ _ => rfl, Int.le_refl _, by omega, h⟩
theorem Fm_tr {m m1 m2 : Mem} {a b : Int} (h1 : Fm m m1 a) (h2 : Fm m1 m2 b) : Fm m m2 (a + b) := ⟨fun r k h => (h2.1 r k h).trans (h1.1 r k h), fun k a1 a2 a3 a4 a5 a6 a7 => (h2.2.1 k a1 a2 a3 a4 a5 a6 a7).trans (h1.2.1 k a1 a2 a3 a4 a5 a6 a7), Int.le_trans h1.2.2.1 h2.2.2.1, by
    have := h1.2.2.2.1
    have := h2.2.2.2.1
    omega, h2.2.2.2.2⟩
theorem Fm_le {m m1 : Mem} {a b : Int} (h1 : Fm m m1 a) (h : a ≤ b) : Fm m m1 b := ⟨h1.1, h1.2.1, h1.2.2.1, by
    have := h1.2.2.2.1
    omega, h1.2.2.2.2⟩
theorem Fm_emG {m : Mem} {o a l u : Int} {z : Bool} (h : m 158 15 = 0 ∨ m 158 15 = 1) : Fm m (emG m o a l u z) 1 := by
  unfold emG
  split
  · refine ⟨fun r k hr => emF_x r k (by omega) (by omega) (by omega) (by omega), fun k _ _ _ _ a5 a6 a7 => emF_y k a5 a6 a7, ?_, ?_, ?_⟩
    · rw [emF_41]; omega
    · rw [emF_41]; omega
    · rw [emF_y 15 (by decide) (by decide) (by decide)]; exact h
  · exact Fm_le (Fm_rf h) (by omega)
theorem Fm_emH {m : Mem} {o a u : Int} (h : m 158 15 = 0 ∨ m 158 15 = 1) : Fm m (emH m o a u) 1 := Fm_emG h
theorem Fm_bkF {m : Mem} {l : Int} : Fm m (bkF m l) 0 := by
  unfold bkF
  refine ⟨fun r k hr => ?_, fun k a1 a2 a3 _ _ _ _ => ?_, ?_, ?_, Or.inr rfl⟩
  · have hz : ¬ r = 158 := by omega
    rw [put_ss, if_neg hz, put_ss, if_neg hz, put_ss, if_neg hz]
  · rw [put_ss, if_pos rfl, if_neg a2, put_ss, if_pos rfl, if_neg a1, put_ss, if_pos rfl, if_neg a3]
  · exact Int.le_refl _
  · show m 158 41 ≤ m 158 41 + 0
    omega
theorem Fm_plM {m : Mem} {n : Int} (h : m 158 15 = 0 ∨ m 158 15 = 1) : Fm m (plM m n) 0 := by
  unfold plM
  split
  · split
    · exact Fm_rf h
    · split
      · exact Fm_rf h
      · exact Fm_bkF
  · exact Fm_rf h
theorem Fm_arM {m : Mem} {n : Int} (h : m 158 15 = 0 ∨ m 158 15 = 1) : Fm m (arM m n) 0 := by
  unfold arM
  split
  · split
    · exact Fm_rf h
    · exact Fm_bkF
  · exact Fm_rf h
theorem Fm_clM {m : Mem} {n : Int} (h : m 158 15 = 0 ∨ m 158 15 = 1) : Fm m (clM m n) 0 := by
  unfold clM
  split
  · split
    · exact Fm_rf h
    · exact Fm_bkF
  · exact Fm_rf h
theorem Fm_thM {m : Mem} {n p k : Int} (h : m 158 15 = 0 ∨ m 158 15 = 1) : Fm m (thM m n p k) 0 := by
  unfold thM
  split
  · refine ⟨fun r k hr => ?_, fun k _ _ _ a4 _ _ _ => ?_, ?_, ?_, ?_⟩
    · rw [put_ss, if_neg (by omega)]
    · rw [put_ss, if_pos rfl, if_neg a4]
    · exact Int.le_refl _
    · show m 158 41 ≤ m 158 41 + 0
      omega
    · exact h
  · exact Fm_rf h
