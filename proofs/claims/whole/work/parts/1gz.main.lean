/-! COMPILE: is there a main -/
section Mnq
variable {M j m' : Mem} {s : tS6}
theorem main_eq (T : TCs M s) (h0 : 0 ≤ M 57 4) (hI : ∀ y ∈ cds s, ∃ id : Nat, (id : Int) < M 57 4 ∧ M 58 id = y) (N : NI s) (S : TS j s) (hm : ∀ k, m' 165 k = j 165 k ∧ m' 166 k = j 166 k ∧ m' 167 k = j 167 k ∧ m' 170 k = j 170 k) (h17 : m' 158 17 = j 158 17) : (mnC M = -1 ∧ ¬ mnM m') ∨ (0 ≤ mnC M ∧ mnM m' ∧ m' 167 (topK m' 660205).toNat = mnC M) := by
  have et : topK m' 660205 = topK j 660205 := by
    unfold topK
    rw [h17, show m' 165 = j 165 from funext fun k => (hm k).1]
  have hp : (look s.1 660205).1 = 4 → 0 ≤ (look s.1 660205).2 ∧ (look s.1 660205).2 < s.2.2.2.1 := fun w => by
    obtain ⟨y, hy, hy2⟩ := look_m (l := s.1) (c := 660205) (by omega)
    have z := (N.1 y hy).2.2.1
    rw [hy2] at z
    exact z w
  rw [mnC_eq T h0 hI hp]
  unfold mnM
  rw [et]
  rcases TS_top (c := 660205) S with ⟨a, b⟩ | ⟨a1, a2, a3, a4, a5⟩
  · left
    rw [b, a]
    exact ⟨if_neg (fun w => absurd w.1 (by decide)), fun w => absurd w.1 (by decide)⟩
  · rw [(hm _).2.1, (hm _).2.2.1, (hm _).2.2.2]
    rw [a3] at hp ⊢
    generalize j 166 (topK j 660205).toNat = k at *
    generalize j 167 (topK j 660205).toNat = x at *
    have hp : k = 4 → 0 ≤ x ∧ x < s.2.2.2.1 := hp
    obtain ⟨-, -, -, -, -, -, s7, s8⟩ := S
    show ((if k = 4 ∧ s.2.2.2.2.2.getD x.toNat 0 = 0 then x else -1) = -1 ∧ ¬ (0 ≤ topK j 660205 ∧ k = 4 ∧ j 170 x.toNat = 0)) ∨ (0 ≤ (if k = 4 ∧ s.2.2.2.2.2.getD x.toNat 0 = 0 then x else -1) ∧ (0 ≤ topK j 660205 ∧ k = 4 ∧ j 170 x.toNat = 0) ∧ x = if k = 4 ∧ s.2.2.2.2.2.getD x.toNat 0 = 0 then x else -1)
    by_cases c : k = 4
    · have hx := hp c
      rw [s8 x.toNat (by omega)]
      by_cases c2 : s.2.2.2.2.2.getD x.toNat 0 = 0
      · right
        rw [if_pos ⟨c, c2⟩]
        exact ⟨hx.1, ⟨a1, c, c2⟩, rfl⟩
      · left
        rw [if_neg (fun w => c2 w.2)]
        exact ⟨rfl, fun w => c2 w.2.2⟩
    · left
      rw [if_neg (fun w => c w.1)]
      exact ⟨rfl, fun w => c w.2.1⟩
end Mnq
