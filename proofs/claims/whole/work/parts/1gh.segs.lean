/-! THE PROCS LIE ONE BEHIND THE OTHER -/
def SGs (O A : Nat → Int) (fe : Nat → Nat) (np : Nat) : Prop := fe 0 = 0 ∧ ∀ p, p < np → fe p + 4 ≤ fe (p + 1) ∧ (O (fe p) = 0 ∧ A (fe p) = (p : Int)) ∧ (O (fe (p + 1) - 1) = 26 ∧ A (fe (p + 1) - 1) = (p : Int)) ∧ ∀ k, fe p < k → k < fe (p + 1) - 1 → (1 ≤ O k ∧ O k ≤ 25) ∧ (O k = 22 ∨ O k = 23 → A k = (p : Int))
def cur (O A : Nat → Int) (c0 : Int) : Nat → Int
  | 0 => c0
  | i + 1 => if O i = 0 then A i else cur O A c0 i
def c26 (O : Nat → Int) : Nat → Nat
  | 0 => 0
  | i + 1 => c26 O i + (if O i = 26 then 1 else 0)
section Sgs
variable {O A : Nat → Int} {fe : Nat → Nat} {np : Nat} {c0 : Int}
theorem sg_find (G : SGs O A fe np) : ∀ q, q ≤ np → ∀ i, i < fe q → ∃ p, p < q ∧ fe p ≤ i ∧ i < fe (p + 1)
  | 0 => fun _ i h => by
    rw [G.1] at h
    omega
  | q + 1 => fun hq i h => by
    by_cases c : i < fe q
    · obtain ⟨p, a, b⟩ := sg_find G q (by omega) i c
      exact ⟨p, by omega, b⟩
    · exact ⟨q, by omega, by omega, h⟩
theorem sg_mo (G : SGs O A fe np) {p : Nat} : ∀ q, p ≤ q → q ≤ np → fe p ≤ fe q
  | 0 => fun h _ => by
    have : p = 0 := by omega
    subst this
    exact Nat.le_refl _
  | q + 1 => fun h hq => by
    by_cases c : p = q + 1
    · subst c
      exact Nat.le_refl _
    · have h1 : p ≤ q := by omega
      have h2 : q ≤ np := by omega
      have h3 : q < np := by omega
      have := sg_mo G q h1 h2
      have := (G.2 q h3).1
      omega
/-- an order in proc p: which it may be -/
theorem sg_op (G : SGs O A fe np) {p i : Nat} (hp : p < np) (h1 : fe p ≤ i) (h2 : i < fe (p + 1)) : (O i = 0 ∧ A i = (p : Int) ∧ i = fe p) ∨ (O i = 26 ∧ A i = (p : Int) ∧ i = fe (p + 1) - 1) ∨ ((fe p < i ∧ i < fe (p + 1) - 1) ∧ (1 ≤ O i ∧ O i ≤ 25) ∧ (O i = 22 ∨ O i = 23 → A i = (p : Int))) := by
  obtain ⟨g1, g2, g3, g4⟩ := G.2 p hp
  by_cases c : i = fe p
  · subst c
    exact Or.inl ⟨g2.1, g2.2, rfl⟩
  · by_cases c2 : i = fe (p + 1) - 1
    · subst c2
      exact Or.inr (Or.inl ⟨g3.1, g3.2, rfl⟩)
    · exact Or.inr (Or.inr ⟨⟨by omega, by omega⟩, g4 i (by omega) (by omega)⟩)
theorem sg_cur (G : SGs O A fe np) {p : Nat} (hp : p < np) : ∀ i, fe p ≤ i → i < fe (p + 1) → cur O A c0 (i + 1) = (p : Int)
  | 0 => fun h1 h2 => by
    have z := (G.2 p hp).2.1
    have e0 : fe p = 0 := by omega
    rw [e0] at z
    show (if O 0 = 0 then A 0 else c0) = _
    rw [if_pos z.1]
    exact z.2
  | i + 1 => fun h1 h2 => by
    show (if O (i + 1) = 0 then A (i + 1) else cur O A c0 (i + 1)) = _
    rcases sg_op G hp h1 h2 with ⟨a, b, c⟩ | ⟨a, b, c⟩ | ⟨a, b, c⟩
    · rw [if_pos a]
      exact b
    · have := (G.2 p hp).1
      rw [if_neg (by omega)]
      exact sg_cur G hp i (by omega) (by omega)
    · rw [if_neg (by omega)]
      exact sg_cur G hp i (by omega) (by omega)
theorem sg_26 (G : SGs O A fe np) : ∀ (p : Nat), p < np → c26 O (fe p) = p → ∀ i, fe p ≤ i → i < fe (p + 1) → c26 O i = p
  | p, hp, h0 => by
    intro i
    induction i with
    | zero =>
      intro h1 h2
      have e0 : fe p = 0 := by omega
      rw [e0] at h0
      exact h0
    | succ i ih =>
      intro h1 h2
      by_cases c : fe p = i + 1
      · rw [← c]
        exact h0
      · have z := ih (by omega) (by omega)
        show c26 O i + (if O i = 26 then 1 else 0) = p
        have : O i ≠ 26 := by
          rcases sg_op G hp (by omega) (by omega : i < fe (p + 1)) with ⟨a, b, d⟩ | ⟨a, b, d⟩ | ⟨a, b, d⟩
          · omega
          · omega
          · omega
        rw [if_neg this, z, Nat.add_zero]
theorem sg_26e (G : SGs O A fe np) : ∀ q, q ≤ np → c26 O (fe q) = q
  | 0 => fun _ => by
    rw [G.1]
    rfl
  | q + 1 => fun hq => by
    have z := sg_26e G q (by omega)
    obtain ⟨g1, g2, g3, g4⟩ := G.2 q (by omega)
    have w := sg_26 G q (by omega) z (fe (q + 1) - 1) (by omega) (by omega)
    have e : fe (q + 1) = fe (q + 1) - 1 + 1 := by omega
    rw [e]
    show c26 O (fe (q + 1) - 1) + (if O (fe (q + 1) - 1) = 26 then 1 else 0) = q + 1
    rw [if_pos g3.1, w]
theorem c26_mo {i : Nat} : ∀ j, i ≤ j → c26 O i ≤ c26 O j
  | 0 => fun h => by
    have : i = 0 := by omega
    subst this
    exact Nat.le_refl _
  | j + 1 => fun h => by
    by_cases c : i = j + 1
    · subst c
      exact Nat.le_refl _
    · have h1 : i ≤ j := by omega
      have := c26_mo j h1
      show _ ≤ c26 O j + _
      omega
end Sgs
/-! distinct numbers below a bound are few -/
theorem pig (n : Nat) : ∀ (l : List Int), l.Nodup → (∀ x ∈ l, 0 ≤ x ∧ x < (n : Int)) → l.length ≤ n := by
  induction n with
  | zero =>
    intro l _ h
    cases l with
    | nil => exact Nat.le_refl _
    | cons x l => have := h x (List.mem_cons_self ..); omega
  | succ n ih =>
    intro l hd h
    by_cases c : (n : Int) ∈ l
    · have h1 := List.length_erase_of_mem c
      have h2 := ih (l.erase (n : Int)) (hd.erase _) (fun x hx => by
        have a := h x (List.mem_of_mem_erase hx)
        have b : x ≠ (n : Int) := fun e => by
          subst e
          exact absurd hx hd.not_mem_erase
        omega)
      have : 0 < l.length := List.length_pos_of_mem c
      omega
    · have := ih l hd (fun x hx => by
        have a := h x hx
        have b : x ≠ (n : Int) := fun e => c (e ▸ hx)
        omega)
      omega
