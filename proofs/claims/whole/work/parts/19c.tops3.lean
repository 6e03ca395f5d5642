/-! THE CLASS'S TOPS against the model's table, the whole top -/
theorem gH_16 {m : Mem} {x n : Int} : gH m x n 57 16 = bgL (tel m x 4 (m 57 7)) (8 < n) 57 16 := by
  unfold gH
  rw [put_ss, if_pos rfl, if_neg (by decide), put_ss, if_neg (by decide), put_ss, if_neg (by decide)]
theorem gH_ro {m : Mem} {x n : Int} (a j : Nat) (h1 : a ≠ 57) (h2 : a ≠ 64) (h3 : a ≠ 66) : gH m x n a j = tel m x 4 (m 57 7) a j := by
  unfold gH
  rw [put_ss, if_neg h1, put_ss, if_neg h3, put_ss, if_neg h2, bgL_ro a j h1]
theorem gH_64 {m : Mem} {x n : Int} (j : Nat) : gH m x n 64 j = if j = (m 57 7).toNat then n else m 64 j := by
  unfold gH
  rw [put_ss, if_neg (by decide), put_ss, if_neg (by decide), put_ss, if_pos rfl, bgL_ro 64 j (by decide), tel_ro 64 j (by decide) (by decide) (by decide)]
theorem TC_H {m : Mem} {s : tS6} {x n : Int} (hI : IJ m) (h0 : 0 ≤ idT m x) (h1 : idT m x < m 57 4) (T : TCs m s) : TCs (gH m x n) (s.1 ++ [(m 58 (idT m x).toNat, 4, s.2.2.2.1)], s.2.1, s.2.2.1, s.2.2.2.1 + 1, s.2.2.2.2.1, s.2.2.2.2.2 ++ [n]) := by
  obtain ⟨t1, t2, t3, t4, t5, t6, t7, t8⟩ := T
  have u := TA_tel (k := 4) (n := m 57 7) (i := x) hI h0 h1 (by decide) t1
  have w16 : tel m x 4 (m 57 7) 57 16 = m 57 16 := tel_57 16 (by decide)
  have q1 := bgL_16 (m := tel m x 4 (m 57 7)) (c := 8 < n) (by rw [w16]; exact t5)
  rw [w16] at q1
  refine ⟨?_, ?_, ?_, ?_, ?_, ?_, ?_, ?_⟩
  · rw [← t4]
    exact TA_cg (Kt_gH.2.trans (Kt_tel (m := m) (i := x) (k := 4) (n := m 57 7)).2.symm) (fun j => ⟨gH_ro 58 j (by decide) (by decide) (by decide), gH_ro 59 j (by decide) (by decide) (by decide), gH_ro 60 j (by decide) (by decide) (by decide)⟩) u
  · rw [gH_57 5 (by decide) (by decide) (by decide)]
    exact t2
  · rw [gH_57 6 (by decide) (by decide) (by decide)]
    exact t3
  · rw [gH_7, t4]
  · rw [gH_16]
    exact q1.1
  · rw [gH_16, q1.2, t6]
    show _ ↔ (s.2.2.2.2.1 = true ∨ ∃ n' ∈ s.2.2.2.2.2 ++ [n], 8 < n')
    constructor
    · rintro ((h | ⟨n', h, h'⟩) | h)
      · exact Or.inl h
      · exact Or.inr ⟨n', List.mem_append.2 (Or.inl h), h'⟩
      · exact Or.inr ⟨n, List.mem_append.2 (Or.inr (List.mem_singleton.2 rfl)), h⟩
    · rintro (h | ⟨n', h, h'⟩)
      · exact Or.inl (Or.inl h)
      · rcases List.mem_append.1 h with h | h
        · exact Or.inl (Or.inr ⟨n', h, h'⟩)
        · rw [List.mem_singleton.1 h] at h'
          exact Or.inr h'
  · show s.2.2.2.1 + 1 = ((s.2.2.2.2.2 ++ [n]).length : Int)
    rw [List.length_append, t7]
    rfl
  · intro j hj
    have hj' : j < (s.2.2.2.2.2 ++ [n]).length := hj
    rw [List.length_append, List.length_singleton] at hj'
    rw [gH_64]
    show _ = (s.2.2.2.2.2 ++ [n]).getD j 0
    have e7 : (m 57 7).toNat = s.2.2.2.2.2.length := by omega
    by_cases hq : j = (m 57 7).toNat
    · rw [if_pos hq, hq, e7, List.getD_eq_getElem?_getD, List.getElem?_append_right (Nat.le_refl _), Nat.sub_self]
      rfl
    · rw [if_neg hq, List.getD_eq_getElem?_getD, List.getElem?_append_left (by omega), ← List.getD_eq_getElem?_getD]
      exact t8 j (by omega)
theorem TC_ro {m m' : Mem} {s : tS6} (h57 : ∀ j, j ≠ 14 → m' 57 j = m 57 j) (h : ∀ a j, a = 58 ∨ a = 59 ∨ a = 60 ∨ a = 64 → m' a j = m a j) (T : TCs m s) : TCs m' s := by
  obtain ⟨t1, t2, t3, t4, t5, t6, t7, t8⟩ := T
  refine ⟨TA_cg (h57 4 (by decide)) (fun j => ⟨h 58 j (by omega), h 59 j (by omega), h 60 j (by omega)⟩) t1, ?_, ?_, ?_, ?_, ?_, t7, fun j hj => ?_⟩
  · rw [h57 5 (by decide)]; exact t2
  · rw [h57 6 (by decide)]; exact t3
  · rw [h57 7 (by decide)]; exact t4
  · rw [h57 16 (by decide)]; exact t5
  · rw [h57 16 (by decide)]; exact t6
  · rw [h 64 j (by omega)]; exact t8 j hj
theorem TC_R {m : Mem} {s : tS6} {i : Int} (T : TCs m s) : TCs (gR m i) s := TC_ro (fun j hj => gR_57 j hj) (fun a j ha => by
  unfold gR
  rw [put_ss, if_neg (by omega), put_ss, if_neg (by omega)]) T
theorem TC_Rs {K : Int → Int} : ∀ (k : Nat) (t : xT), tsz t < k → ∀ (m : Mem) (x r : Int) (s : tS6), PN K t x r → TCs m s → TCs (gRs t m) s := by
  intro k
  induction k with
  | zero => intro t ht; exact absurd ht (Nat.not_lt_zero _)
  | succ k ih =>
    intro t ht m x r s h T
    rcases inv_N h with ⟨a, b, rfl, g1, g2, g3⟩ | ⟨a, b, rfl, g1, g2, g3⟩
    · exact TC_R (i := x) T
    · rw [tsz_nd] at ht
      exact ih b (by omega) (gR m x) (x + 2) r s g3 (TC_R T)
theorem TC_N {v : Int → Int} {e : Int} : ∀ (k : Nat) (t : xT), tsz t < k → ∀ (m : Mem) (x r : Int) (s : tS6), PN (kd m) t x r → 0 ≤ x → r ≤ e → VC m v e → IJ m → TCs m s → TCs (gN t m) (sN v t s) := by
  intro k
  induction k with
  | zero => intro t ht; exact absurd ht (Nat.not_lt_zero _)
  | succ k ih =>
    intro t ht m x r s h h0 hr hV hI T
    have hnn := PN_n t h
    rcases inv_N h with ⟨a, b, rfl, g1, g2, g3⟩ | ⟨a, b, rfl, g1, g2, g3⟩
    · obtain ⟨v1, v2, v3⟩ := (hV x h0 (by omega)).1 g1
      have c := TC_C hI v1 v2 T
      rw [v3] at c
      exact c
    · rw [tsz_nd] at ht
      obtain ⟨v1, v2, v3⟩ := (hV x h0 (by omega)).1 g1
      have c := TC_C hI v1 v2 T
      rw [v3] at c
      have q1 := Kt_gC (m := m) (i := x)
      exact ih b (by omega) (gC m x) (x + 2) r (sC v x s) (by rw [Kt_kd q1]; exact g3) (by omega) hr (VC_Kt q1 hV) (IJ_Kt q1 hI) c
