/-! THE CLASS'S TOPS against the model's table, step by step -/
def TCs (m : Mem) (s : tS6) : Prop := TA m s.1 ∧ m 57 5 = s.2.1 ∧ m 57 6 + 1 = s.2.2.1 ∧ m 57 7 = s.2.2.2.1 ∧ (m 57 16 = 0 ∨ m 57 16 = 1) ∧ (m 57 16 = 1 ↔ (s.2.2.2.2.1 = true ∨ ∃ n ∈ s.2.2.2.2.2, 8 < n)) ∧ s.2.2.2.1 = s.2.2.2.2.2.length ∧ (∀ i : Nat, i < s.2.2.2.2.2.length → m 64 i = s.2.2.2.2.2.getD i 0)
theorem tel_ro {m : Mem} {i k n : Int} (a j : Nat) (h1 : a ≠ 57) (h2 : a ≠ 59) (h3 : a ≠ 60) : tel m i k n a j = m a j := by
  unfold tel
  split
  · split
    · rw [put_ss, if_neg h3, put_ss, if_neg h2]
    · rfl
  · rw [put_ss, if_neg h1]
theorem bgL_ro {m : Mem} {c : Prop} [Decidable c] (a j : Nat) (h1 : a ≠ 57) : bgL m c a j = m a j := by
  unfold bgL
  split
  · rw [put_ss, if_neg h1]
  · rfl
theorem gV_ro {m : Mem} {i k n : Int} (a j : Nat) (h1 : a ≠ 57) (h2 : a ≠ 62) (h3 : a ≠ 63) : gV m i k n a j = tel (bgL m (n < 1 ∨ 500 < n)) i k (m 57 5) a j := by
  unfold gV
  split
  · rw [put_ss, if_neg h1, put_ss, if_neg h1, put_ss, if_neg h3, put_ss, if_neg h2]
  · rw [put_ss, if_neg h1]
theorem gV_16 {m : Mem} {i k n : Int} : gV m i k n 57 16 = bgL m (n < 1 ∨ 500 < n) 57 16 := by
  unfold gV
  split
  · rw [put_ss, if_pos rfl, if_neg (by decide), put_ss, if_pos rfl, if_neg (by decide), put_ss, if_neg (by decide), put_ss, if_neg (by decide), tel_57 16 (by decide)]
  · rw [put_ss, if_pos rfl, if_neg (by decide), tel_57 16 (by decide)]
theorem bgL_16 {m : Mem} {c : Prop} [Decidable c] (h : m 57 16 = 0 ∨ m 57 16 = 1) : (bgL m c 57 16 = 0 ∨ bgL m c 57 16 = 1) ∧ (bgL m c 57 16 = 1 ↔ (m 57 16 = 1 ∨ c)) := by
  unfold bgL
  by_cases hc : c
  · rw [if_pos hc]
    exact ⟨Or.inr rfl, fun _ => Or.inr hc, fun _ => rfl⟩
  · rw [if_neg hc]
    exact ⟨h, fun z => Or.inl z, fun z => z.elim id (fun z => absurd z hc)⟩
theorem TA_bgL {m : Mem} {c : Prop} [Decidable c] {l : List (Int × Int × Int)} (T : TA m l) : TA (bgL m c) l := TA_cg (bgL_57 4 (by decide)) (fun k => ⟨bgL_ro 58 k (by decide), bgL_ro 59 k (by decide), bgL_ro 60 k (by decide)⟩) T
theorem TC_V {m : Mem} {s : tS6} {i k n : Int} (hI : IJ m) (h0 : 0 ≤ idT m i) (h1 : idT m i < m 57 4) (hk : k ≠ 0) (h5 : m 57 5 < 500) (T : TCs m s) : TCs (gV m i k n) (s.1 ++ [(m 58 (idT m i).toNat, k, s.2.1)], s.2.1 + 1, s.2.2.1, s.2.2.2.1, s.2.2.2.2.1 || decide (n < 1) || decide (500 < n), s.2.2.2.2.2) := by
  obtain ⟨t1, t2, t3, t4, t5, t6, t7, t8⟩ := T
  have q1 := bgL_16 (c := n < 1 ∨ 500 < n) t5
  have b1 := Kt_bgL (m := m) (c := n < 1 ∨ 500 < n)
  have u := TA_tel (k := k) (n := m 57 5) (i := i) (IJ_Kt b1 hI) (by rw [Kt_id b1]; exact h0) (by rw [Kt_id b1, b1.2]; exact h1) hk (TA_bgL (c := n < 1 ∨ 500 < n) t1)
  rw [Kt_id b1, b1.1 58 _ (by omega)] at u
  refine ⟨?_, ?_, ?_, ?_, ?_, ?_, t7, ?_⟩
  · rw [← t2]
    exact TA_cg (Kt_gV.2.trans ((Kt_tel (m := bgL m (n < 1 ∨ 500 < n)) (i := i) (k := k) (n := m 57 5)).2.trans b1.2).symm) (fun j => ⟨gV_ro 58 j (by decide) (by decide) (by decide), gV_ro 59 j (by decide) (by decide) (by decide), gV_ro 60 j (by decide) (by decide) (by decide)⟩) u
  · rw [gV_5 h5, t2]
  · rw [gV_57 6 (by decide) (by decide) (by decide) (by decide)]
    exact t3
  · rw [gV_57 7 (by decide) (by decide) (by decide) (by decide)]
    exact t4
  · rw [gV_16]
    exact q1.1
  · rw [gV_16, q1.2, t6]
    simp only [Bool.or_eq_true, decide_eq_true_eq]
    constructor
    · rintro ((h | h) | h | h)
      · exact Or.inl (Or.inl (Or.inl h))
      · exact Or.inr h
      · exact Or.inl (Or.inl (Or.inr h))
      · exact Or.inl (Or.inr h)
    · rintro (((h | h) | h) | h)
      · exact Or.inl (Or.inl h)
      · exact Or.inr (Or.inl h)
      · exact Or.inr (Or.inr h)
      · exact Or.inl (Or.inr h)
  · intro j hj
    rw [gV_ro 64 j (by decide) (by decide) (by decide), tel_ro 64 j (by decide) (by decide) (by decide), bgL_ro 64 j (by decide)]
    exact t8 j hj
theorem TC_C {m : Mem} {s : tS6} {i : Int} (hI : IJ m) (h0 : 0 ≤ idT m i) (h1 : idT m i < m 57 4) (T : TCs m s) : TCs (gC m i) (s.1 ++ [(m 58 (idT m i).toNat, 3, s.2.2.1)], s.2.1, s.2.2.1 + 1, s.2.2.2.1, s.2.2.2.2.1, s.2.2.2.2.2) := by
  obtain ⟨t1, t2, t3, t4, t5, t6, t7, t8⟩ := T
  have b1 : Kt m (put m 57 6 (m 57 6 + 1)) := Kt_put (by decide) (by decide)
  have u := TA_tel (k := 3) (n := m 57 6 + 1) (i := i) (IJ_Kt b1 hI) (by rw [Kt_id b1]; exact h0) (by rw [Kt_id b1, b1.2]; exact h1) (by decide) (TA_cg (m' := put m 57 6 (m 57 6 + 1)) rfl (fun k => ⟨rfl, rfl, rfl⟩) t1)
  rw [Kt_id b1, b1.1 58 _ (by omega), t3] at u
  have g16 : gC m i 57 16 = m 57 16 := gC_57 16 (by decide) (by decide)
  refine ⟨?_, ?_, ?_, ?_, ?_, ?_, t7, ?_⟩
  · unfold gC
    rw [t3]
    exact u
  · rw [gC_57 5 (by decide) (by decide)]
    exact t2
  · rw [gC_6, t3]
  · rw [gC_57 7 (by decide) (by decide)]
    exact t4
  · rw [g16]
    exact t5
  · rw [g16]
    exact t6
  · intro j hj
    unfold gC
    rw [tel_ro 64 j (by decide) (by decide) (by decide), put_ss, if_neg (by decide)]
    exact t8 j hj
