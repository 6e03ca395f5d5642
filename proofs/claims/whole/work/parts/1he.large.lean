/-! COMPILE: both find a text too large alike -/
theorem ex_eq {m5 j' m' : Mem} {s : tS6} {z : Int} (T : TCs m5 s) (S : TS j' s) (h28 : m' 158 28 = j' 158 28) (h24 : m' 158 24 = s.2.2.1) (h25 : m' 158 25 = s.2.2.2.1) (h21 : m' 158 21 = s.2.1) (h170 : ∀ k, m' 170 k = j' 170 k) (la : z = 1 ↔ ∃ k : Nat, (k : Int) < m' 158 25 ∧ 16 < m' 171 k) : (exC m5 ∨ z = 1) ↔ exM m' := by
  obtain ⟨-, t2, t3, t4, t5, t6, t7, -⟩ := T
  obtain ⟨-, -, -, -, -, s6', s7, s8⟩ := S
  have f28 : m' 158 28 = 1 ↔ s.2.2.2.2.1 = true := by
    rw [h28, s6']
    cases s.2.2.2.2.1 with
    | true => exact ⟨fun _ => rfl, fun _ => rfl⟩
    | false => exact ⟨fun w => absurd w (by decide), fun w => Bool.noConfusion w⟩
  have f8 : (∃ n ∈ s.2.2.2.2.2, 8 < n) ↔ ∃ k : Nat, (k : Int) < m' 158 25 ∧ 8 < m' 170 k := by
    constructor
    · rintro ⟨n, hn, h8⟩
      obtain ⟨k, hk, e⟩ := List.getElem_of_mem hn
      refine ⟨k, by rw [h25, s7]; omega, ?_⟩
      rw [h170, s8 k hk, List.getD_eq_getElem?_getD, List.getElem?_eq_getElem hk]
      show 8 < s.2.2.2.2.2[k]
      rw [e]
      exact h8
    · rintro ⟨k, hk, h8⟩
      have hk2 : k < s.2.2.2.2.2.length := by rw [h25, s7] at hk; omega
      rw [h170, s8 k hk2, List.getD_eq_getElem?_getD, List.getElem?_eq_getElem hk2] at h8
      exact ⟨s.2.2.2.2.2[k], List.getElem_mem hk2, h8⟩
  unfold exM
  constructor
  · rintro ((w | w | w | w) | w)
    · rcases t6.1 w with v | v
      · exact Or.inl (f28.2 v)
      · obtain ⟨k, k1, k2⟩ := f8.1 v
        exact Or.inr (Or.inr (Or.inr (Or.inr ⟨(k : Int), Int.natCast_nonneg _, k1, Or.inl (by rw [Int.toNat_natCast]; exact k2)⟩)))
    · exact Or.inr (Or.inl (by omega))
    · exact Or.inr (Or.inr (Or.inl (by omega)))
    · exact Or.inr (Or.inr (Or.inr (Or.inl (by omega))))
    · obtain ⟨k, k1, k2⟩ := la.1 w
      exact Or.inr (Or.inr (Or.inr (Or.inr ⟨(k : Int), Int.natCast_nonneg _, k1, Or.inr (by rw [Int.toNat_natCast]; exact k2)⟩)))
  · rintro (w | w | w | w | ⟨p, p0, p1, w | w⟩)
    · exact Or.inl (Or.inl (t6.2 (Or.inl (f28.1 w))))
    · exact Or.inl (Or.inr (Or.inl (by omega)))
    · exact Or.inl (Or.inr (Or.inr (Or.inl (by omega))))
    · exact Or.inl (Or.inr (Or.inr (Or.inr (by omega))))
    · exact Or.inl (Or.inl (t6.2 (Or.inr (f8.2 ⟨p.toNat, by omega, w⟩))))
    · exact Or.inr (la.2 ⟨p.toNat, by omega, w⟩)
