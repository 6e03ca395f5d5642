/-! PARSE TREES by kind; their size; THE MAKER over expressions -/
def tsz : xT → Nat
  | .tag _ (.nest _ (.append a b)) => tsz a + tsz b + 1
  | _ => 0
theorem tsz_nd {k : Nat} {i : Int} {a b : xT} : tsz (nd k i a b) = tsz a + tsz b + 1 := (rfl)
section Inv
variable {K V : Int → Int} {t : xT} {dep p q : Int}
theorem P_shape : ∀ {t : xT} {nt : Nat}, P K V t nt dep p q → ∃ k i a b, t = nd k i a b
  | .tag k (.nest i (.append a b)), _, _ => ⟨k, i, a, b, rfl⟩
  | .nil, _, h => h.elim
  | .line, _, h => h.elim
  | .align _, _, h => h.elim
  | .text _, _, h => h.elim
  | .append _ _, _, h => h.elim
  | .group _ _, _, h => h.elim
  | .nest _ _, _, h => h.elim
  | .tag _ .nil, _, h => h.elim
  | .tag _ .line, _, h => h.elim
  | .tag _ (.align _), _, h => h.elim
  | .tag _ (.text _), _, h => h.elim
  | .tag _ (.append _ _), _, h => h.elim
  | .tag _ (.group _ _), _, h => h.elim
  | .tag _ (.tag _ _), _, h => h.elim
  | .tag _ (.nest _ .nil), _, h => h.elim
  | .tag _ (.nest _ .line), _, h => h.elim
  | .tag _ (.nest _ (.align _)), _, h => h.elim
  | .tag _ (.nest _ (.text _)), _, h => h.elim
  | .tag _ (.nest _ (.nest _ _)), _, h => h.elim
  | .tag _ (.nest _ (.group _ _)), _, h => h.elim
  | .tag _ (.nest _ (.tag _ _)), _, h => h.elim
theorem inv_0 (h : P K V t 0 dep p q) : (∃ i a b, t = nd 1 i a b ∧ P K V a 1 dep p q ∧ cmpOf (K q) = -1) ∨ (∃ i a b, t = nd 2 i a b ∧ ∃ r, P K V a 1 dep p r ∧ cmpOf (K r) = i ∧ i ≠ -1 ∧ P K V b 1 dep (r + 1) q) := by
  obtain ⟨k, i, a, b, rfl⟩ := P_shape h
  have h2 := h
  unfold P at h2
  split at h2
  · exact Or.inl ⟨i, a, b, rfl, h2.2⟩
  · exact Or.inr (⟨i, a, b, rfl, h2.2⟩)
  · exact absurd h2.1 (by decide)
  · exact absurd h2.1 (by decide)
  · exact absurd h2.1 (by decide)
  · exact absurd h2.1 (by decide)
  · exact absurd h2.1 (by decide)
  · exact absurd h2.1 (by decide)
  · exact absurd h2.1 (by decide)
  · exact absurd h2.1 (by decide)
  · exact absurd h2.1 (by decide)
  · exact absurd h2.1 (by decide)
  · exact absurd h2.1 (by decide)
  · exact absurd h2.1 (by decide)
  · exact absurd h2.1 (by decide)
  · exact absurd h2.1 (by decide)
  · exact absurd h2.1 (by decide)
  · exact absurd h2.1 (by decide)
  · exact absurd h2.1 (by decide)
  · exact absurd h2.1 (by decide)
  · exact absurd h2.1 (by decide)
  · exact absurd h2.1 (by decide)
  · exact absurd h2.1 (by decide)
  · exact absurd h2.1 (by decide)
  · exact absurd h2.1 (by decide)
  · exact absurd h2.1 (by decide)
  · exact absurd h2.1 (by decide)
  · exact absurd h2.1 (by decide)
  · exact absurd h2.1 (by decide)
  · exact absurd h2.1 (by decide)
  · exact absurd h2.1 (by decide)
  · exact absurd h2.1 (by decide)
  · exact absurd h2.1 (by decide)
  · exact absurd h2.1 (by decide)
  · exact absurd h2.1 (by decide)
  · exact absurd h2.1 (by decide)
  · exact h2.elim
theorem inv_1 (h : P K V t 1 dep p q) : (∃ i a b, t = nd 3 i a b ∧ ∃ r, P K V a 3 dep p r ∧ P K V b 2 dep r q) := by
  obtain ⟨k, i, a, b, rfl⟩ := P_shape h
  have h2 := h
  unfold P at h2
  split at h2
  · exact absurd h2.1 (by decide)
  · exact absurd h2.1 (by decide)
  · exact ⟨i, a, b, rfl, h2.2⟩
  · exact absurd h2.1 (by decide)
  · exact absurd h2.1 (by decide)
  · exact absurd h2.1 (by decide)
  · exact absurd h2.1 (by decide)
  · exact absurd h2.1 (by decide)
  · exact absurd h2.1 (by decide)
  · exact absurd h2.1 (by decide)
  · exact absurd h2.1 (by decide)
  · exact absurd h2.1 (by decide)
  · exact absurd h2.1 (by decide)
  · exact absurd h2.1 (by decide)
  · exact absurd h2.1 (by decide)
  · exact absurd h2.1 (by decide)
  · exact absurd h2.1 (by decide)
  · exact absurd h2.1 (by decide)
  · exact absurd h2.1 (by decide)
  · exact absurd h2.1 (by decide)
  · exact absurd h2.1 (by decide)
  · exact absurd h2.1 (by decide)
  · exact absurd h2.1 (by decide)
  · exact absurd h2.1 (by decide)
  · exact absurd h2.1 (by decide)
  · exact absurd h2.1 (by decide)
  · exact absurd h2.1 (by decide)
  · exact absurd h2.1 (by decide)
  · exact absurd h2.1 (by decide)
  · exact absurd h2.1 (by decide)
  · exact absurd h2.1 (by decide)
  · exact absurd h2.1 (by decide)
  · exact absurd h2.1 (by decide)
  · exact absurd h2.1 (by decide)
  · exact absurd h2.1 (by decide)
  · exact absurd h2.1 (by decide)
  · exact h2.elim
theorem inv_2 (h : P K V t 2 dep p q) : (∃ i a b, t = nd 4 i a b ∧ ((i = 8 ∧ K p = 43) ∨ (i = 9 ∧ K p = 45)) ∧ ∃ r, P K V a 3 dep (p + 1) r ∧ P K V b 2 dep r q) ∨ (∃ i a b, t = nd 5 i a b ∧ p = q ∧ K p ≠ 43 ∧ K p ≠ 45) := by
  obtain ⟨k, i, a, b, rfl⟩ := P_shape h
  have h2 := h
  unfold P at h2
  split at h2
  · exact absurd h2.1 (by decide)
  · exact absurd h2.1 (by decide)
  · exact absurd h2.1 (by decide)
  · exact Or.inl ⟨i, a, b, rfl, h2.2⟩
  · exact Or.inr (⟨i, a, b, rfl, h2.2⟩)
  · exact absurd h2.1 (by decide)
  · exact absurd h2.1 (by decide)
  · exact absurd h2.1 (by decide)
  · exact absurd h2.1 (by decide)
  · exact absurd h2.1 (by decide)
  · exact absurd h2.1 (by decide)
  · exact absurd h2.1 (by decide)
  · exact absurd h2.1 (by decide)
  · exact absurd h2.1 (by decide)
  · exact absurd h2.1 (by decide)
  · exact absurd h2.1 (by decide)
  · exact absurd h2.1 (by decide)
  · exact absurd h2.1 (by decide)
  · exact absurd h2.1 (by decide)
  · exact absurd h2.1 (by decide)
  · exact absurd h2.1 (by decide)
  · exact absurd h2.1 (by decide)
  · exact absurd h2.1 (by decide)
  · exact absurd h2.1 (by decide)
  · exact absurd h2.1 (by decide)
  · exact absurd h2.1 (by decide)
  · exact absurd h2.1 (by decide)
  · exact absurd h2.1 (by decide)
  · exact absurd h2.1 (by decide)
  · exact absurd h2.1 (by decide)
  · exact absurd h2.1 (by decide)
  · exact absurd h2.1 (by decide)
  · exact absurd h2.1 (by decide)
  · exact absurd h2.1 (by decide)
  · exact absurd h2.1 (by decide)
  · exact absurd h2.1 (by decide)
  · exact h2.elim
theorem inv_3 (h : P K V t 3 dep p q) : (∃ i a b, t = nd 6 i a b ∧ ∃ r, P K V a 5 dep p r ∧ P K V b 4 dep r q) := by
  obtain ⟨k, i, a, b, rfl⟩ := P_shape h
  have h2 := h
  unfold P at h2
  split at h2
  · exact absurd h2.1 (by decide)
  · exact absurd h2.1 (by decide)
  · exact absurd h2.1 (by decide)
  · exact absurd h2.1 (by decide)
  · exact absurd h2.1 (by decide)
  · exact ⟨i, a, b, rfl, h2.2⟩
  · exact absurd h2.1 (by decide)
  · exact absurd h2.1 (by decide)
  · exact absurd h2.1 (by decide)
  · exact absurd h2.1 (by decide)
  · exact absurd h2.1 (by decide)
  · exact absurd h2.1 (by decide)
  · exact absurd h2.1 (by decide)
  · exact absurd h2.1 (by decide)
  · exact absurd h2.1 (by decide)
  · exact absurd h2.1 (by decide)
  · exact absurd h2.1 (by decide)
  · exact absurd h2.1 (by decide)
  · exact absurd h2.1 (by decide)
  · exact absurd h2.1 (by decide)
  · exact absurd h2.1 (by decide)
  · exact absurd h2.1 (by decide)
  · exact absurd h2.1 (by decide)
  · exact absurd h2.1 (by decide)
  · exact absurd h2.1 (by decide)
  · exact absurd h2.1 (by decide)
  · exact absurd h2.1 (by decide)
  · exact absurd h2.1 (by decide)
  · exact absurd h2.1 (by decide)
  · exact absurd h2.1 (by decide)
  · exact absurd h2.1 (by decide)
  · exact absurd h2.1 (by decide)
  · exact absurd h2.1 (by decide)
  · exact absurd h2.1 (by decide)
  · exact absurd h2.1 (by decide)
  · exact absurd h2.1 (by decide)
  · exact h2.elim
theorem inv_4 (h : P K V t 4 dep p q) : (∃ i a b, t = nd 7 i a b ∧ ((i = 10 ∧ K p = 42) ∨ (i = 11 ∧ K p = 47) ∨ (i = 12 ∧ K p = 37)) ∧ ∃ r, P K V a 5 dep (p + 1) r ∧ P K V b 4 dep r q) ∨ (∃ i a b, t = nd 8 i a b ∧ p = q ∧ K p ≠ 42 ∧ K p ≠ 47 ∧ K p ≠ 37) := by
  obtain ⟨k, i, a, b, rfl⟩ := P_shape h
  have h2 := h
  unfold P at h2
  split at h2
  · exact absurd h2.1 (by decide)
  · exact absurd h2.1 (by decide)
  · exact absurd h2.1 (by decide)
  · exact absurd h2.1 (by decide)
  · exact absurd h2.1 (by decide)
  · exact absurd h2.1 (by decide)
  · exact Or.inl ⟨i, a, b, rfl, h2.2⟩
  · exact Or.inr (⟨i, a, b, rfl, h2.2⟩)
  · exact absurd h2.1 (by decide)
  · exact absurd h2.1 (by decide)
  · exact absurd h2.1 (by decide)
  · exact absurd h2.1 (by decide)
  · exact absurd h2.1 (by decide)
  · exact absurd h2.1 (by decide)
  · exact absurd h2.1 (by decide)
  · exact absurd h2.1 (by decide)
  · exact absurd h2.1 (by decide)
  · exact absurd h2.1 (by decide)
  · exact absurd h2.1 (by decide)
  · exact absurd h2.1 (by decide)
  · exact absurd h2.1 (by decide)
  · exact absurd h2.1 (by decide)
  · exact absurd h2.1 (by decide)
  · exact absurd h2.1 (by decide)
  · exact absurd h2.1 (by decide)
  · exact absurd h2.1 (by decide)
  · exact absurd h2.1 (by decide)
  · exact absurd h2.1 (by decide)
  · exact absurd h2.1 (by decide)
  · exact absurd h2.1 (by decide)
  · exact absurd h2.1 (by decide)
  · exact absurd h2.1 (by decide)
  · exact absurd h2.1 (by decide)
  · exact absurd h2.1 (by decide)
  · exact absurd h2.1 (by decide)
  · exact absurd h2.1 (by decide)
  · exact h2.elim
theorem inv_5 (h : P K V t 5 dep p q) : (∃ i a b, t = nd 9 i a b ∧ K p = 45 ∧ dep < 30 ∧ P K V a 5 (dep + 1) (p + 1) q) ∨ (∃ i a b, t = nd 10 i a b ∧ K p = 40 ∧ dep < 30 ∧ ∃ r, P K V a 0 (dep + 1) (p + 1) r ∧ K r = 41 ∧ q = r + 1) ∨ (∃ i a b, t = nd 11 i a b ∧ K p = 3 ∧ q = p + 1 ∧ i = p) ∨ (∃ i a b, t = nd 12 i a b ∧ K p = 16 ∧ q = p + 1) ∨ (∃ i a b, t = nd 13 i a b ∧ K p = 2 ∧ q = p + 1 ∧ K q ≠ 91 ∧ K q ≠ 40 ∧ i = p) ∨ (∃ i a b, t = nd 14 i a b ∧ K p = 2 ∧ K (p + 1) = 91 ∧ dep < 30 ∧ i = p ∧ ∃ r, P K V a 0 (dep + 1) (p + 2) r ∧ K r = 93 ∧ q = r + 1) ∨ (∃ i a b, t = nd 15 i a b ∧ K p = 2 ∧ i = p ∧ P K V a 6 dep (p + 1) q) := by
  obtain ⟨k, i, a, b, rfl⟩ := P_shape h
  have h2 := h
  unfold P at h2
  split at h2
  · exact absurd h2.1 (by decide)
  · exact absurd h2.1 (by decide)
  · exact absurd h2.1 (by decide)
  · exact absurd h2.1 (by decide)
  · exact absurd h2.1 (by decide)
  · exact absurd h2.1 (by decide)
  · exact absurd h2.1 (by decide)
  · exact absurd h2.1 (by decide)
  · exact Or.inl ⟨i, a, b, rfl, h2.2⟩
  · exact Or.inr (Or.inl ⟨i, a, b, rfl, h2.2⟩)
  · exact Or.inr (Or.inr (Or.inl ⟨i, a, b, rfl, h2.2⟩))
  · exact Or.inr (Or.inr (Or.inr (Or.inl ⟨i, a, b, rfl, h2.2⟩)))
  · exact Or.inr (Or.inr (Or.inr (Or.inr (Or.inl ⟨i, a, b, rfl, h2.2⟩))))
  · exact Or.inr (Or.inr (Or.inr (Or.inr (Or.inr (Or.inl ⟨i, a, b, rfl, h2.2⟩)))))
  · exact Or.inr (Or.inr (Or.inr (Or.inr (Or.inr (Or.inr (⟨i, a, b, rfl, h2.2⟩))))))
  · exact absurd h2.1 (by decide)
  · exact absurd h2.1 (by decide)
  · exact absurd h2.1 (by decide)
  · exact absurd h2.1 (by decide)
  · exact absurd h2.1 (by decide)
  · exact absurd h2.1 (by decide)
  · exact absurd h2.1 (by decide)
  · exact absurd h2.1 (by decide)
  · exact absurd h2.1 (by decide)
  · exact absurd h2.1 (by decide)
  · exact absurd h2.1 (by decide)
  · exact absurd h2.1 (by decide)
  · exact absurd h2.1 (by decide)
  · exact absurd h2.1 (by decide)
  · exact absurd h2.1 (by decide)
  · exact absurd h2.1 (by decide)
  · exact absurd h2.1 (by decide)
  · exact absurd h2.1 (by decide)
  · exact absurd h2.1 (by decide)
  · exact absurd h2.1 (by decide)
  · exact absurd h2.1 (by decide)
  · exact h2.elim
theorem inv_6 (h : P K V t 6 dep p q) : (∃ i a b, t = nd 16 i a b ∧ K p = 40 ∧ dep < 30 ∧ K (p + 1) = 41 ∧ q = p + 2) ∨ (∃ i a b, t = nd 17 i a b ∧ K p = 40 ∧ dep < 30 ∧ K (p + 1) ≠ 41 ∧ ∃ r, P K V a 0 (dep + 1) (p + 1) r ∧ P K V b 7 (dep + 1) r q) := by
  obtain ⟨k, i, a, b, rfl⟩ := P_shape h
  have h2 := h
  unfold P at h2
  split at h2
  · exact absurd h2.1 (by decide)
  · exact absurd h2.1 (by decide)
  · exact absurd h2.1 (by decide)
  · exact absurd h2.1 (by decide)
  · exact absurd h2.1 (by decide)
  · exact absurd h2.1 (by decide)
  · exact absurd h2.1 (by decide)
  · exact absurd h2.1 (by decide)
  · exact absurd h2.1 (by decide)
  · exact absurd h2.1 (by decide)
  · exact absurd h2.1 (by decide)
  · exact absurd h2.1 (by decide)
  · exact absurd h2.1 (by decide)
  · exact absurd h2.1 (by decide)
  · exact absurd h2.1 (by decide)
  · exact Or.inl ⟨i, a, b, rfl, h2.2⟩
  · exact Or.inr (⟨i, a, b, rfl, h2.2⟩)
  · exact absurd h2.1 (by decide)
  · exact absurd h2.1 (by decide)
  · exact absurd h2.1 (by decide)
  · exact absurd h2.1 (by decide)
  · exact absurd h2.1 (by decide)
  · exact absurd h2.1 (by decide)
  · exact absurd h2.1 (by decide)
  · exact absurd h2.1 (by decide)
  · exact absurd h2.1 (by decide)
  · exact absurd h2.1 (by decide)
  · exact absurd h2.1 (by decide)
  · exact absurd h2.1 (by decide)
  · exact absurd h2.1 (by decide)
  · exact absurd h2.1 (by decide)
  · exact absurd h2.1 (by decide)
  · exact absurd h2.1 (by decide)
  · exact absurd h2.1 (by decide)
  · exact absurd h2.1 (by decide)
  · exact absurd h2.1 (by decide)
  · exact h2.elim
theorem inv_7 (h : P K V t 7 dep p q) : (∃ i a b, t = nd 18 i a b ∧ K p = 44 ∧ ∃ r, P K V a 0 dep (p + 1) r ∧ P K V b 7 dep r q) ∨ (∃ i a b, t = nd 19 i a b ∧ K p = 41 ∧ q = p + 1) := by
  obtain ⟨k, i, a, b, rfl⟩ := P_shape h
  have h2 := h
  unfold P at h2
  split at h2
  · exact absurd h2.1 (by decide)
  · exact absurd h2.1 (by decide)
  · exact absurd h2.1 (by decide)
  · exact absurd h2.1 (by decide)
  · exact absurd h2.1 (by decide)
  · exact absurd h2.1 (by decide)
  · exact absurd h2.1 (by decide)
  · exact absurd h2.1 (by decide)
  · exact absurd h2.1 (by decide)
  · exact absurd h2.1 (by decide)
  · exact absurd h2.1 (by decide)
  · exact absurd h2.1 (by decide)
  · exact absurd h2.1 (by decide)
  · exact absurd h2.1 (by decide)
  · exact absurd h2.1 (by decide)
  · exact absurd h2.1 (by decide)
  · exact absurd h2.1 (by decide)
  · exact Or.inl ⟨i, a, b, rfl, h2.2⟩
  · exact Or.inr (⟨i, a, b, rfl, h2.2⟩)
  · exact absurd h2.1 (by decide)
  · exact absurd h2.1 (by decide)
  · exact absurd h2.1 (by decide)
  · exact absurd h2.1 (by decide)
  · exact absurd h2.1 (by decide)
  · exact absurd h2.1 (by decide)
  · exact absurd h2.1 (by decide)
  · exact absurd h2.1 (by decide)
  · exact absurd h2.1 (by decide)
  · exact absurd h2.1 (by decide)
  · exact absurd h2.1 (by decide)
  · exact absurd h2.1 (by decide)
  · exact absurd h2.1 (by decide)
  · exact absurd h2.1 (by decide)
  · exact absurd h2.1 (by decide)
  · exact absurd h2.1 (by decide)
  · exact absurd h2.1 (by decide)
  · exact h2.elim
theorem inv_8 (h : P K V t 8 dep p q) : (∃ i a b, t = nd 20 i a b ∧ K p = 123 ∧ dep < 30 ∧ V p = q - 1 ∧ ∃ r, P K V a 9 (dep + 1) (p + 1) r ∧ K r = 125 ∧ q = r + 1) := by
  obtain ⟨k, i, a, b, rfl⟩ := P_shape h
  have h2 := h
  unfold P at h2
  split at h2
  · exact absurd h2.1 (by decide)
  · exact absurd h2.1 (by decide)
  · exact absurd h2.1 (by decide)
  · exact absurd h2.1 (by decide)
  · exact absurd h2.1 (by decide)
  · exact absurd h2.1 (by decide)
  · exact absurd h2.1 (by decide)
  · exact absurd h2.1 (by decide)
  · exact absurd h2.1 (by decide)
  · exact absurd h2.1 (by decide)
  · exact absurd h2.1 (by decide)
  · exact absurd h2.1 (by decide)
  · exact absurd h2.1 (by decide)
  · exact absurd h2.1 (by decide)
  · exact absurd h2.1 (by decide)
  · exact absurd h2.1 (by decide)
  · exact absurd h2.1 (by decide)
  · exact absurd h2.1 (by decide)
  · exact absurd h2.1 (by decide)
  · exact ⟨i, a, b, rfl, h2.2⟩
  · exact absurd h2.1 (by decide)
  · exact absurd h2.1 (by decide)
  · exact absurd h2.1 (by decide)
  · exact absurd h2.1 (by decide)
  · exact absurd h2.1 (by decide)
  · exact absurd h2.1 (by decide)
  · exact absurd h2.1 (by decide)
  · exact absurd h2.1 (by decide)
  · exact absurd h2.1 (by decide)
  · exact absurd h2.1 (by decide)
  · exact absurd h2.1 (by decide)
  · exact absurd h2.1 (by decide)
  · exact absurd h2.1 (by decide)
  · exact absurd h2.1 (by decide)
  · exact absurd h2.1 (by decide)
  · exact absurd h2.1 (by decide)
  · exact h2.elim
theorem inv_9 (h : P K V t 9 dep p q) : (∃ i a b, t = nd 21 i a b ∧ K p ≠ 125 ∧ ∃ r, P K V a 10 dep p r ∧ P K V b 9 dep r q) ∨ (∃ i a b, t = nd 22 i a b ∧ p = q ∧ K p = 125) := by
  obtain ⟨k, i, a, b, rfl⟩ := P_shape h
  have h2 := h
  unfold P at h2
  split at h2
  · exact absurd h2.1 (by decide)
  · exact absurd h2.1 (by decide)
  · exact absurd h2.1 (by decide)
  · exact absurd h2.1 (by decide)
  · exact absurd h2.1 (by decide)
  · exact absurd h2.1 (by decide)
  · exact absurd h2.1 (by decide)
  · exact absurd h2.1 (by decide)
  · exact absurd h2.1 (by decide)
  · exact absurd h2.1 (by decide)
  · exact absurd h2.1 (by decide)
  · exact absurd h2.1 (by decide)
  · exact absurd h2.1 (by decide)
  · exact absurd h2.1 (by decide)
  · exact absurd h2.1 (by decide)
  · exact absurd h2.1 (by decide)
  · exact absurd h2.1 (by decide)
  · exact absurd h2.1 (by decide)
  · exact absurd h2.1 (by decide)
  · exact absurd h2.1 (by decide)
  · exact Or.inl ⟨i, a, b, rfl, h2.2⟩
  · exact Or.inr (⟨i, a, b, rfl, h2.2⟩)
  · exact absurd h2.1 (by decide)
  · exact absurd h2.1 (by decide)
  · exact absurd h2.1 (by decide)
  · exact absurd h2.1 (by decide)
  · exact absurd h2.1 (by decide)
  · exact absurd h2.1 (by decide)
  · exact absurd h2.1 (by decide)
  · exact absurd h2.1 (by decide)
  · exact absurd h2.1 (by decide)
  · exact absurd h2.1 (by decide)
  · exact absurd h2.1 (by decide)
  · exact absurd h2.1 (by decide)
  · exact absurd h2.1 (by decide)
  · exact absurd h2.1 (by decide)
  · exact h2.elim
theorem inv_10 (h : P K V t 10 dep p q) : (∃ i a b, t = nd 23 i a b ∧ K p = 4 ∧ K (p + 1) = 2 ∧ K (p + 2) = 61 ∧ i = p ∧ ∃ r, P K V a 0 dep (p + 3) r ∧ K r = 59 ∧ q = r + 1) ∨ (∃ i a b, t = nd 24 i a b ∧ K p = 2 ∧ i = p ∧ ∃ r, P K V a 6 dep (p + 1) r ∧ K r = 59 ∧ q = r + 1) ∨ (∃ i a b, t = nd 25 i a b ∧ K p = 2 ∧ K (p + 1) = 61 ∧ i = p ∧ ∃ r, P K V a 0 dep (p + 2) r ∧ K r = 59 ∧ q = r + 1) ∨ (∃ i a b, t = nd 26 i a b ∧ K p = 2 ∧ K (p + 1) = 91 ∧ dep < 30 ∧ i = p ∧ ∃ r s, P K V a 0 (dep + 1) (p + 2) r ∧ K r = 93 ∧ K (r + 1) = 61 ∧ P K V b 0 dep (r + 2) s ∧ K s = 59 ∧ q = s + 1) ∨ (∃ i a b, t = nd 27 i a b ∧ K p = 8 ∧ ∃ r, P K V a 0 dep (p + 1) r ∧ P K V b 8 dep r q ∧ K q ≠ 9) ∨ (∃ i a b, t = nd 28 i a b ∧ K p = 8 ∧ ∃ r, P K V a 0 dep (p + 1) r ∧ P K V b 12 dep r q) ∨ (∃ i a b, t = nd 29 i a b ∧ K p = 10 ∧ ∃ r, P K V a 0 dep (p + 1) r ∧ P K V b 8 dep r q) ∨ (∃ i a b, t = nd 30 i a b ∧ K p = 11 ∧ ∃ r, P K V a 8 dep (p + 1) r ∧ K r = 12 ∧ P K V b 11 dep r q) ∨ (∃ i a b, t = nd 33 i a b ∧ K p = 13 ∧ K (p + 1) = 2 ∧ K (p + 2) = 59 ∧ i = p ∧ q = p + 3) ∨ (∃ i a b, t = nd 34 i a b ∧ K p = 14 ∧ ∃ r, P K V a 0 dep (p + 1) r ∧ K r = 59 ∧ q = r + 1) ∨ (∃ i a b, t = nd 35 i a b ∧ K p = 15 ∧ ∃ r, P K V a 0 dep (p + 1) r ∧ K r = 59 ∧ q = r + 1) := by
  obtain ⟨k, i, a, b, rfl⟩ := P_shape h
  have h2 := h
  unfold P at h2
  split at h2
  · exact absurd h2.1 (by decide)
  · exact absurd h2.1 (by decide)
  · exact absurd h2.1 (by decide)
  · exact absurd h2.1 (by decide)
  · exact absurd h2.1 (by decide)
  · exact absurd h2.1 (by decide)
  · exact absurd h2.1 (by decide)
  · exact absurd h2.1 (by decide)
  · exact absurd h2.1 (by decide)
  · exact absurd h2.1 (by decide)
  · exact absurd h2.1 (by decide)
  · exact absurd h2.1 (by decide)
  · exact absurd h2.1 (by decide)
  · exact absurd h2.1 (by decide)
  · exact absurd h2.1 (by decide)
  · exact absurd h2.1 (by decide)
  · exact absurd h2.1 (by decide)
  · exact absurd h2.1 (by decide)
  · exact absurd h2.1 (by decide)
  · exact absurd h2.1 (by decide)
  · exact absurd h2.1 (by decide)
  · exact absurd h2.1 (by decide)
  · exact Or.inl ⟨i, a, b, rfl, h2.2⟩
  · exact Or.inr (Or.inl ⟨i, a, b, rfl, h2.2⟩)
  · exact Or.inr (Or.inr (Or.inl ⟨i, a, b, rfl, h2.2⟩))
  · exact Or.inr (Or.inr (Or.inr (Or.inl ⟨i, a, b, rfl, h2.2⟩)))
  · exact Or.inr (Or.inr (Or.inr (Or.inr (Or.inl ⟨i, a, b, rfl, h2.2⟩))))
  · exact Or.inr (Or.inr (Or.inr (Or.inr (Or.inr (Or.inl ⟨i, a, b, rfl, h2.2⟩)))))
  · exact Or.inr (Or.inr (Or.inr (Or.inr (Or.inr (Or.inr (Or.inl ⟨i, a, b, rfl, h2.2⟩))))))
  · exact Or.inr (Or.inr (Or.inr (Or.inr (Or.inr (Or.inr (Or.inr (Or.inl ⟨i, a, b, rfl, h2.2⟩)))))))
  · exact absurd h2.1 (by decide)
  · exact absurd h2.1 (by decide)
  · exact Or.inr (Or.inr (Or.inr (Or.inr (Or.inr (Or.inr (Or.inr (Or.inr (Or.inl ⟨i, a, b, rfl, h2.2⟩))))))))
  · exact Or.inr (Or.inr (Or.inr (Or.inr (Or.inr (Or.inr (Or.inr (Or.inr (Or.inr (Or.inl ⟨i, a, b, rfl, h2.2⟩)))))))))
  · exact Or.inr (Or.inr (Or.inr (Or.inr (Or.inr (Or.inr (Or.inr (Or.inr (Or.inr (Or.inr (⟨i, a, b, rfl, h2.2⟩))))))))))
  · exact absurd h2.1 (by decide)
  · exact h2.elim
theorem inv_11 (h : P K V t 11 dep p q) : (∃ i a b, t = nd 31 i a b ∧ K p = 12 ∧ K (p + 1) = 2 ∧ i = p ∧ ∃ r, P K V a 8 dep (p + 2) r ∧ P K V b 11 dep r q) ∨ (∃ i a b, t = nd 32 i a b ∧ p = q ∧ K p ≠ 12) := by
  obtain ⟨k, i, a, b, rfl⟩ := P_shape h
  have h2 := h
  unfold P at h2
  split at h2
  · exact absurd h2.1 (by decide)
  · exact absurd h2.1 (by decide)
  · exact absurd h2.1 (by decide)
  · exact absurd h2.1 (by decide)
  · exact absurd h2.1 (by decide)
  · exact absurd h2.1 (by decide)
  · exact absurd h2.1 (by decide)
  · exact absurd h2.1 (by decide)
  · exact absurd h2.1 (by decide)
  · exact absurd h2.1 (by decide)
  · exact absurd h2.1 (by decide)
  · exact absurd h2.1 (by decide)
  · exact absurd h2.1 (by decide)
  · exact absurd h2.1 (by decide)
  · exact absurd h2.1 (by decide)
  · exact absurd h2.1 (by decide)
  · exact absurd h2.1 (by decide)
  · exact absurd h2.1 (by decide)
  · exact absurd h2.1 (by decide)
  · exact absurd h2.1 (by decide)
  · exact absurd h2.1 (by decide)
  · exact absurd h2.1 (by decide)
  · exact absurd h2.1 (by decide)
  · exact absurd h2.1 (by decide)
  · exact absurd h2.1 (by decide)
  · exact absurd h2.1 (by decide)
  · exact absurd h2.1 (by decide)
  · exact absurd h2.1 (by decide)
  · exact absurd h2.1 (by decide)
  · exact absurd h2.1 (by decide)
  · exact Or.inl ⟨i, a, b, rfl, h2.2⟩
  · exact Or.inr (⟨i, a, b, rfl, h2.2⟩)
  · exact absurd h2.1 (by decide)
  · exact absurd h2.1 (by decide)
  · exact absurd h2.1 (by decide)
  · exact absurd h2.1 (by decide)
  · exact h2.elim
theorem inv_12 (h : P K V t 12 dep p q) : (∃ i a b, t = nd 36 i a b ∧ ∃ r, P K V a 8 dep p r ∧ K r = 9 ∧ P K V b 8 dep (r + 1) q) := by
  obtain ⟨k, i, a, b, rfl⟩ := P_shape h
  have h2 := h
  unfold P at h2
  split at h2
  · exact absurd h2.1 (by decide)
  · exact absurd h2.1 (by decide)
  · exact absurd h2.1 (by decide)
  · exact absurd h2.1 (by decide)
  · exact absurd h2.1 (by decide)
  · exact absurd h2.1 (by decide)
  · exact absurd h2.1 (by decide)
  · exact absurd h2.1 (by decide)
  · exact absurd h2.1 (by decide)
  · exact absurd h2.1 (by decide)
  · exact absurd h2.1 (by decide)
  · exact absurd h2.1 (by decide)
  · exact absurd h2.1 (by decide)
  · exact absurd h2.1 (by decide)
  · exact absurd h2.1 (by decide)
  · exact absurd h2.1 (by decide)
  · exact absurd h2.1 (by decide)
  · exact absurd h2.1 (by decide)
  · exact absurd h2.1 (by decide)
  · exact absurd h2.1 (by decide)
  · exact absurd h2.1 (by decide)
  · exact absurd h2.1 (by decide)
  · exact absurd h2.1 (by decide)
  · exact absurd h2.1 (by decide)
  · exact absurd h2.1 (by decide)
  · exact absurd h2.1 (by decide)
  · exact absurd h2.1 (by decide)
  · exact absurd h2.1 (by decide)
  · exact absurd h2.1 (by decide)
  · exact absurd h2.1 (by decide)
  · exact absurd h2.1 (by decide)
  · exact absurd h2.1 (by decide)
  · exact absurd h2.1 (by decide)
  · exact absurd h2.1 (by decide)
  · exact absurd h2.1 (by decide)
  · exact ⟨i, a, b, rfl, h2.2⟩
  · exact h2.elim
end Inv
/-- what an expression begins with -/
theorem P_first {K V : Int → Int} : ∀ (n : Nat) (t : xT) {dep p q : Int}, tsz t < n → (P K V t 0 dep p q ∨ P K V t 1 dep p q ∨ P K V t 3 dep p q ∨ P K V t 5 dep p q) → K p = 45 ∨ K p = 40 ∨ K p = 3 ∨ K p = 16 ∨ K p = 2
  | 0, _, _, _, _, h, _ => absurd h (Nat.not_lt_zero _)
  | n + 1, t, dep, p, q, hn, h => by
    rcases h with h | h | h | h
    · rcases inv_0 h with ⟨i, a, b, rfl, h1, -⟩ | ⟨i, a, b, rfl, r, h1, -⟩
      · rw [tsz_nd] at hn
        exact P_first n a (by omega) (Or.inr (Or.inl h1))
      · rw [tsz_nd] at hn
        exact P_first n a (by omega) (Or.inr (Or.inl h1))
    · obtain ⟨i, a, b, rfl, r, h1, -⟩ := inv_1 h
      rw [tsz_nd] at hn
      exact P_first n a (by omega) (Or.inr (Or.inr (Or.inl h1)))
    · obtain ⟨i, a, b, rfl, r, h1, -⟩ := inv_3 h
      rw [tsz_nd] at hn
      exact P_first n a (by omega) (Or.inr (Or.inr (Or.inr h1)))
    · rcases inv_5 h with ⟨i, a, b, -, h1, -⟩ | ⟨i, a, b, -, h1, -⟩ | ⟨i, a, b, -, h1, -⟩ | ⟨i, a, b, -, h1, -⟩ | ⟨i, a, b, -, h1, -⟩ | ⟨i, a, b, -, h1, -⟩ | ⟨i, a, b, -, h1, -⟩ <;> omega
/-- what the class's maker makes of an expression -/
def prm (m : Mem) (i : Int) : Int := if i < 0 ∨ m 57 7 ≤ i then 0 else m 64 i.toNat
def plc (m : Mem) (i : Int) : Int := if i < 0 ∨ m 51 5 ≤ i then m 51 1 else m 54 i.toNat
def nA : xT → Int
  | .tag k (.nest _ (.append _ b)) => match k with
    | 17 => nA b + 1
    | 18 => nA b + 1
    | _ => 0
  | _ => 0
def cl (m : Mem) (i n : Int) (s : xSt) : xSt := (s.1, w32 (s.2.1 - n), s.2.2.1, s.2.2.2.1, if n = prm m (nmI m (idT m i)) then s.2.2.2.2 else imin s.2.2.2.2 (plc m i))
def xE (m : Mem) : xT → xSt → xSt
  | .tag k (.nest i (.append a b)) => fun s => match k with
    | 1 => xE m a s
    | 2 => em 14 i (-1) (xE m b (xE m a s))
    | 3 => xE m b (xE m a s)
    | 4 => xE m b (em i 0 (m 68 5) (xE m a s))
    | 5 => s
    | 6 => xE m b (xE m a s)
    | 7 => xE m b (em i 0 (m 68 5) (xE m a s))
    | 8 => s
    | 9 => em 13 0 (m 68 5) (xE m a s)
    | 10 => xE m a s
    | 11 => em 1 (idT m i) (-1) s
    | 12 => em 19 0 (m 68 5) s
    | 13 => if lI m (idT m i) = -1 then em 4 (nmI m (idT m i)) (-1) (us m i 1 s) else em 2 (lI m (idT m i)) (-1) s
    | 14 => em 6 (nmI m (idT m i)) (m 68 5) (xE m a (us m i 2 s))
    | 15 => em 17 (nmI m (idT m i)) (m 68 5) (cl m i (nA a) (xE m a (us m i 4 s)))
    | 16 => s
    | 17 => xE m b (xE m a s)
    | 18 => xE m b (xE m a s)
    | _ => s
  | _ => fun s => s
section XE
variable {m : Mem} {i : Int} {a b : xT} {s : xSt}
theorem x_1 : xE m (nd 1 i a b) s = xE m a s := (rfl)
theorem x_2 : xE m (nd 2 i a b) s = em 14 i (-1) (xE m b (xE m a s)) := (rfl)
theorem x_3 : xE m (nd 3 i a b) s = xE m b (xE m a s) := (rfl)
theorem x_4 : xE m (nd 4 i a b) s = xE m b (em i 0 (m 68 5) (xE m a s)) := (rfl)
theorem x_5 : xE m (nd 5 i a b) s = s := (rfl)
theorem x_6 : xE m (nd 6 i a b) s = xE m b (xE m a s) := (rfl)
theorem x_7 : xE m (nd 7 i a b) s = xE m b (em i 0 (m 68 5) (xE m a s)) := (rfl)
theorem x_8 : xE m (nd 8 i a b) s = s := (rfl)
theorem x_9 : xE m (nd 9 i a b) s = em 13 0 (m 68 5) (xE m a s) := (rfl)
theorem x_10 : xE m (nd 10 i a b) s = xE m a s := (rfl)
theorem x_11 : xE m (nd 11 i a b) s = em 1 (idT m i) (-1) s := (rfl)
theorem x_12 : xE m (nd 12 i a b) s = em 19 0 (m 68 5) s := (rfl)
theorem x_13 : xE m (nd 13 i a b) s = if lI m (idT m i) = -1 then em 4 (nmI m (idT m i)) (-1) (us m i 1 s) else em 2 (lI m (idT m i)) (-1) s := (rfl)
theorem x_14 : xE m (nd 14 i a b) s = em 6 (nmI m (idT m i)) (m 68 5) (xE m a (us m i 2 s)) := (rfl)
theorem x_15 : xE m (nd 15 i a b) s = em 17 (nmI m (idT m i)) (m 68 5) (cl m i (nA a) (xE m a (us m i 4 s))) := (rfl)
theorem x_16 : xE m (nd 16 i a b) s = s := (rfl)
theorem x_17 : xE m (nd 17 i a b) s = xE m b (xE m a s) := (rfl)
theorem x_18 : xE m (nd 18 i a b) s = xE m b (xE m a s) := (rfl)
theorem x_19 : xE m (nd 19 i a b) s = s := (rfl)
end XE
section MakE
variable {L : Nat} {xs : Nat → Int32} {m : Mem} {F d : Nat} {cd : Nat} {p a1 a2 a3 : Int} {s : xSt}
theorem C_86 (hc : cd = 83 ∨ cd = 93) (hN : m 51 5 ≤ 3001) : Cx F (d + 2) 86 [68] (Hp L xs (mv cd p s m)) = some ([kd m p], Hp L xs (mv cd p s m)) := by
  have c := C_128 (L := L) (xs := xs) (F := F) (d := d) (a1 := p) (m := mv cd p s m) (by rw [mv_o hc (by decide) (by decide)]; exact hN)
  rw [kd_mv hc] at c
  simp only [c_86, tr_86, ev_0, ev_1, ev_16, ev_17, ev_18, ev_2, ev_3, ev_4, ev_5, ev_6, ev_7, ev_8, ev_9, ev_20, ev_21, ev_22, ev_23, ev_24, ev_25, ev_27, ev_28, ev_30, ev_31, ev_32, ev_33, ev_34, ev_35, ev_36, ev_37, ev_38, ev_39, ev_40, ev_41, ev_42, ev_43, ev_45, ev_46, ev_47, ev_48, ev_49, ev_50, ev_51, ev_52, ev_54, ev_55, ev_57, ev_58, ev_59, k2_0, k2_1, k2_2, k3a, k3b, k4, o1_s, xbin_0, xbin_1, xbin_2, xbin_3, xbin_4, xbin_5, xbin_6, xbin_7, xbin_8, xbin_9, xbin_11, xbin_12, xun_0, xun_1, xun_2, xun_3, xun_4, xun_5, k6a, k8, k8b, k9, k20, k20b_0, k20b_1, k20b_2, k20b_3, k20b_4, k20b_5, k21_0, k21_1, k21_2, k21_3, k21_4, k21_5, k23, k24, k25, k27, k28, k40, nz_1, nz_2, nz_3, k31_0, k31_1, k31_2, k31_3, k32u, k33, k34, k35, k35b, k36, k37, k38, k47, k49, k49b_0, k49b_1, k49b_2, k49b_3, k50_0, k50_s, k51_0, k51_s, k55, k58, k58b, rk_0, rk_1, rk_2, rk_9, rk_3, rk_4, rk_5, sw_n, sw_c, xtb_n, xtb_c, lset_0, lset_2, lset_1, lkm_0, lkm_2, lkm_9, lkm_1, lkm_n, if_some1, c_10, c_01, c_x0, c_1x, c_n0, c_nn, List.getElem?_cons_zero, List.getElem?_cons_succ, List.set_cons_zero, List.set_cons_succ, List.length_cons, List.length_nil, Int.reduceToNat, Nat.reduceDiv, Nat.reduceMod, Nat.reduceSub, Nat.reduceAdd, Nat.reduceMul, Nat.reduceLT, Nat.reduceLeDiff, Nat.reduceEqDiff, Int.reduceMod, Int.reduceSub, Int.reduceNeg, Int.reduceAdd, Int.reduceMul, Int.reduceLT, Int.reduceLE, Int.reduceEq, put_ss, if_true, if_false, ite_true, ite_false, reduceIte, eq_self, and_true, true_and, and_false, false_and, or_true, true_or, or_false, false_or, not_true_eq_false, not_false_eq_true, k5_68_3, k34_68_3, k54_68_3, k54b_68_3_0, k5_68_0, mv_p, c]
theorem C_90 (hc : cd = 83 ∨ cd = 93) (h2 : m 68 2 = (cd : Int)) (h0 : 0 ≤ a1 ∧ a1 < 27) : Cx F (d + 2) 90 [68, a1, a2, a3] (Hp L xs (mv cd p s m)) = some ([], Hp L xs (mv cd p (em a1 a2 a3 s) m)) := by
  have c := C_10 (L := L) (xs := xs) (F := F) (d := d) (p := p) (s := s) (m := m) (a1 := a1) (a2 := a2) (a3 := a3) hc
  have g0 : 0 ≤ a1 := h0.1
  have g1 : a1 < 27 := h0.2
  unfold em psh
  simp (disch := omega) only [c_90, tr_90, ev_0, ev_1, ev_16, ev_17, ev_18, ev_2, ev_3, ev_4, ev_5, ev_6, ev_7, ev_8, ev_9, ev_20, ev_21, ev_22, ev_23, ev_24, ev_25, ev_27, ev_28, ev_30, ev_31, ev_32, ev_33, ev_34, ev_35, ev_36, ev_37, ev_38, ev_39, ev_40, ev_41, ev_42, ev_43, ev_45, ev_46, ev_47, ev_48, ev_49, ev_50, ev_51, ev_52, ev_54, ev_55, ev_57, ev_58, ev_59, k2_0, k2_1, k2_2, k3a, k3b, k4, o1_s, xbin_0, xbin_1, xbin_2, xbin_3, xbin_4, xbin_5, xbin_6, xbin_7, xbin_8, xbin_9, xbin_11, xbin_12, xun_0, xun_1, xun_2, xun_3, xun_4, xun_5, k6a, k8, k8b, k9, k20, k20b_0, k20b_1, k20b_2, k20b_3, k20b_4, k20b_5, k21_0, k21_1, k21_2, k21_3, k21_4, k21_5, k23, k24, k25, k27, k28, k40, nz_1, nz_2, nz_3, k31_0, k31_1, k31_2, k31_3, k32u, k33, k34, k35, k35b, k36, k37, k38, k47, k49, k49b_0, k49b_1, k49b_2, k49b_3, k50_0, k50_s, k51_0, k51_s, k55, k58, k58b, rk_0, rk_1, rk_2, rk_9, rk_3, rk_4, rk_5, sw_n, sw_c, xtb_n, xtb_c, lset_0, lset_2, lset_1, lkm_0, lkm_2, lkm_9, lkm_1, lkm_n, if_some1, c_10, c_01, c_x0, c_1x, c_n0, c_nn, List.getElem?_cons_zero, List.getElem?_cons_succ, List.set_cons_zero, List.set_cons_succ, List.length_cons, List.length_nil, Int.reduceToNat, Nat.reduceDiv, Nat.reduceMod, Nat.reduceSub, Nat.reduceAdd, Nat.reduceMul, Nat.reduceLT, Nat.reduceLeDiff, Nat.reduceEqDiff, Int.reduceMod, Int.reduceSub, Int.reduceNeg, Int.reduceAdd, Int.reduceMul, Int.reduceLT, Int.reduceLE, Int.reduceEq, put_ss, if_true, if_false, ite_true, ite_false, reduceIte, eq_self, and_true, true_and, and_false, false_and, or_true, true_or, or_false, false_or, not_true_eq_false, not_false_eq_true, k5_68_2, k34_68_2, k5_68_9, k34_68_9, k54_68_9, k54b_68_9_0, k54b_68_9_1, k5_68_10, k34_68_10, k6_1, n_1, k6_2, n_2, k6_3, n_3, k6_4, n_4, k6_5, n_5, mv_2, h2, c, mv_u, mv_x, mp_u, mp_x, g0, g1, C_343]
theorem C_91 (hc : cd = 83 ∨ cd = 93) (hN : m 51 5 ≤ 3001) : Cx F (d + 2) 91 [68, a1] (Hp L xs (mv cd p s m)) = some ([], Hp L xs (mv cd p (bl m a1 s) m)) := by
  have o1 : ∀ k, mv cd p s m 51 k = m 51 k := fun k => mv_o hc (by decide) (by decide)
  have o2 : ∀ k, mv cd p s m 54 k = m 54 k := fun k => mv_o hc (by decide) (by decide)
  unfold bl
  by_cases h0 : 0 ≤ a1
  · by_cases h1 : a1 < m 51 5
    · by_cases h3 : m 54 a1.toNat < s.2.2.2.1
      · simp (disch := omega) only [c_91, tr_91, ev_0, ev_1, ev_16, ev_17, ev_18, ev_2, ev_3, ev_4, ev_5, ev_6, ev_7, ev_8, ev_9, ev_20, ev_21, ev_22, ev_23, ev_24, ev_25, ev_27, ev_28, ev_30, ev_31, ev_32, ev_33, ev_34, ev_35, ev_36, ev_37, ev_38, ev_39, ev_40, ev_41, ev_42, ev_43, ev_45, ev_46, ev_47, ev_48, ev_49, ev_50, ev_51, ev_52, ev_54, ev_55, ev_57, ev_58, ev_59, k2_0, k2_1, k2_2, k3a, k3b, k4, o1_s, xbin_0, xbin_1, xbin_2, xbin_3, xbin_4, xbin_5, xbin_6, xbin_7, xbin_8, xbin_9, xbin_11, xbin_12, xun_0, xun_1, xun_2, xun_3, xun_4, xun_5, k6a, k8, k8b, k9, k20, k20b_0, k20b_1, k20b_2, k20b_3, k20b_4, k20b_5, k21_0, k21_1, k21_2, k21_3, k21_4, k21_5, k23, k24, k25, k27, k28, k40, nz_1, nz_2, nz_3, k31_0, k31_1, k31_2, k31_3, k32u, k33, k34, k35, k35b, k36, k37, k38, k47, k49, k49b_0, k49b_1, k49b_2, k49b_3, k50_0, k50_s, k51_0, k51_s, k55, k58, k58b, rk_0, rk_1, rk_2, rk_9, rk_3, rk_4, rk_5, sw_n, sw_c, xtb_n, xtb_c, lset_0, lset_2, lset_1, lkm_0, lkm_2, lkm_9, lkm_1, lkm_n, if_some1, c_10, c_01, c_x0, c_1x, c_n0, c_nn, List.getElem?_cons_zero, List.getElem?_cons_succ, List.set_cons_zero, List.set_cons_succ, List.length_cons, List.length_nil, Int.reduceToNat, Nat.reduceDiv, Nat.reduceMod, Nat.reduceSub, Nat.reduceAdd, Nat.reduceMul, Nat.reduceLT, Nat.reduceLeDiff, Nat.reduceEqDiff, Int.reduceMod, Int.reduceSub, Int.reduceNeg, Int.reduceAdd, Int.reduceMul, Int.reduceLT, Int.reduceLE, Int.reduceEq, put_ss, if_true, if_false, ite_true, ite_false, reduceIte, eq_self, and_true, true_and, and_false, false_and, or_true, true_or, or_false, false_or, not_true_eq_false, not_false_eq_true, k5_68_0, k5_68_13, k34_68_13, k5_51_5, k34_51_5, k54_51_5, k54b_51_5_0, k5_51_3, k6_54, k35_54, n_54, o1, o2, mv_n, mp_n, h0, h1, h3]
      · simp (disch := omega) only [c_91, tr_91, ev_0, ev_1, ev_16, ev_17, ev_18, ev_2, ev_3, ev_4, ev_5, ev_6, ev_7, ev_8, ev_9, ev_20, ev_21, ev_22, ev_23, ev_24, ev_25, ev_27, ev_28, ev_30, ev_31, ev_32, ev_33, ev_34, ev_35, ev_36, ev_37, ev_38, ev_39, ev_40, ev_41, ev_42, ev_43, ev_45, ev_46, ev_47, ev_48, ev_49, ev_50, ev_51, ev_52, ev_54, ev_55, ev_57, ev_58, ev_59, k2_0, k2_1, k2_2, k3a, k3b, k4, o1_s, xbin_0, xbin_1, xbin_2, xbin_3, xbin_4, xbin_5, xbin_6, xbin_7, xbin_8, xbin_9, xbin_11, xbin_12, xun_0, xun_1, xun_2, xun_3, xun_4, xun_5, k6a, k8, k8b, k9, k20, k20b_0, k20b_1, k20b_2, k20b_3, k20b_4, k20b_5, k21_0, k21_1, k21_2, k21_3, k21_4, k21_5, k23, k24, k25, k27, k28, k40, nz_1, nz_2, nz_3, k31_0, k31_1, k31_2, k31_3, k32u, k33, k34, k35, k35b, k36, k37, k38, k47, k49, k49b_0, k49b_1, k49b_2, k49b_3, k50_0, k50_s, k51_0, k51_s, k55, k58, k58b, rk_0, rk_1, rk_2, rk_9, rk_3, rk_4, rk_5, sw_n, sw_c, xtb_n, xtb_c, lset_0, lset_2, lset_1, lkm_0, lkm_2, lkm_9, lkm_1, lkm_n, if_some1, c_10, c_01, c_x0, c_1x, c_n0, c_nn, List.getElem?_cons_zero, List.getElem?_cons_succ, List.set_cons_zero, List.set_cons_succ, List.length_cons, List.length_nil, Int.reduceToNat, Nat.reduceDiv, Nat.reduceMod, Nat.reduceSub, Nat.reduceAdd, Nat.reduceMul, Nat.reduceLT, Nat.reduceLeDiff, Nat.reduceEqDiff, Int.reduceMod, Int.reduceSub, Int.reduceNeg, Int.reduceAdd, Int.reduceMul, Int.reduceLT, Int.reduceLE, Int.reduceEq, put_ss, if_true, if_false, ite_true, ite_false, reduceIte, eq_self, and_true, true_and, and_false, false_and, or_true, true_or, or_false, false_or, not_true_eq_false, not_false_eq_true, k5_68_0, k5_68_13, k34_68_13, k5_51_5, k34_51_5, k54_51_5, k54b_51_5_0, k5_51_3, k6_54, k35_54, n_54, o1, o2, mv_n, mp_n, h0, h1, h3]
    · simp (disch := omega) only [c_91, tr_91, ev_0, ev_1, ev_16, ev_17, ev_18, ev_2, ev_3, ev_4, ev_5, ev_6, ev_7, ev_8, ev_9, ev_20, ev_21, ev_22, ev_23, ev_24, ev_25, ev_27, ev_28, ev_30, ev_31, ev_32, ev_33, ev_34, ev_35, ev_36, ev_37, ev_38, ev_39, ev_40, ev_41, ev_42, ev_43, ev_45, ev_46, ev_47, ev_48, ev_49, ev_50, ev_51, ev_52, ev_54, ev_55, ev_57, ev_58, ev_59, k2_0, k2_1, k2_2, k3a, k3b, k4, o1_s, xbin_0, xbin_1, xbin_2, xbin_3, xbin_4, xbin_5, xbin_6, xbin_7, xbin_8, xbin_9, xbin_11, xbin_12, xun_0, xun_1, xun_2, xun_3, xun_4, xun_5, k6a, k8, k8b, k9, k20, k20b_0, k20b_1, k20b_2, k20b_3, k20b_4, k20b_5, k21_0, k21_1, k21_2, k21_3, k21_4, k21_5, k23, k24, k25, k27, k28, k40, nz_1, nz_2, nz_3, k31_0, k31_1, k31_2, k31_3, k32u, k33, k34, k35, k35b, k36, k37, k38, k47, k49, k49b_0, k49b_1, k49b_2, k49b_3, k50_0, k50_s, k51_0, k51_s, k55, k58, k58b, rk_0, rk_1, rk_2, rk_9, rk_3, rk_4, rk_5, sw_n, sw_c, xtb_n, xtb_c, lset_0, lset_2, lset_1, lkm_0, lkm_2, lkm_9, lkm_1, lkm_n, if_some1, c_10, c_01, c_x0, c_1x, c_n0, c_nn, List.getElem?_cons_zero, List.getElem?_cons_succ, List.set_cons_zero, List.set_cons_succ, List.length_cons, List.length_nil, Int.reduceToNat, Nat.reduceDiv, Nat.reduceMod, Nat.reduceSub, Nat.reduceAdd, Nat.reduceMul, Nat.reduceLT, Nat.reduceLeDiff, Nat.reduceEqDiff, Int.reduceMod, Int.reduceSub, Int.reduceNeg, Int.reduceAdd, Int.reduceMul, Int.reduceLT, Int.reduceLE, Int.reduceEq, put_ss, if_true, if_false, ite_true, ite_false, reduceIte, eq_self, and_true, true_and, and_false, false_and, or_true, true_or, or_false, false_or, not_true_eq_false, not_false_eq_true, k5_68_0, k5_68_13, k34_68_13, k5_51_5, k34_51_5, k54_51_5, k54b_51_5_0, k5_51_3, k6_54, k35_54, n_54, o1, o2, mv_n, mp_n, h0, h1]
  · simp (disch := omega) only [c_91, tr_91, ev_0, ev_1, ev_16, ev_17, ev_18, ev_2, ev_3, ev_4, ev_5, ev_6, ev_7, ev_8, ev_9, ev_20, ev_21, ev_22, ev_23, ev_24, ev_25, ev_27, ev_28, ev_30, ev_31, ev_32, ev_33, ev_34, ev_35, ev_36, ev_37, ev_38, ev_39, ev_40, ev_41, ev_42, ev_43, ev_45, ev_46, ev_47, ev_48, ev_49, ev_50, ev_51, ev_52, ev_54, ev_55, ev_57, ev_58, ev_59, k2_0, k2_1, k2_2, k3a, k3b, k4, o1_s, xbin_0, xbin_1, xbin_2, xbin_3, xbin_4, xbin_5, xbin_6, xbin_7, xbin_8, xbin_9, xbin_11, xbin_12, xun_0, xun_1, xun_2, xun_3, xun_4, xun_5, k6a, k8, k8b, k9, k20, k20b_0, k20b_1, k20b_2, k20b_3, k20b_4, k20b_5, k21_0, k21_1, k21_2, k21_3, k21_4, k21_5, k23, k24, k25, k27, k28, k40, nz_1, nz_2, nz_3, k31_0, k31_1, k31_2, k31_3, k32u, k33, k34, k35, k35b, k36, k37, k38, k47, k49, k49b_0, k49b_1, k49b_2, k49b_3, k50_0, k50_s, k51_0, k51_s, k55, k58, k58b, rk_0, rk_1, rk_2, rk_9, rk_3, rk_4, rk_5, sw_n, sw_c, xtb_n, xtb_c, lset_0, lset_2, lset_1, lkm_0, lkm_2, lkm_9, lkm_1, lkm_n, if_some1, c_10, c_01, c_x0, c_1x, c_n0, c_nn, List.getElem?_cons_zero, List.getElem?_cons_succ, List.set_cons_zero, List.set_cons_succ, List.length_cons, List.length_nil, Int.reduceToNat, Nat.reduceDiv, Nat.reduceMod, Nat.reduceSub, Nat.reduceAdd, Nat.reduceMul, Nat.reduceLT, Nat.reduceLeDiff, Nat.reduceEqDiff, Int.reduceMod, Int.reduceSub, Int.reduceNeg, Int.reduceAdd, Int.reduceMul, Int.reduceLT, Int.reduceLE, Int.reduceEq, put_ss, if_true, if_false, ite_true, ite_false, reduceIte, eq_self, and_true, true_and, and_false, false_and, or_true, true_or, or_false, false_or, not_true_eq_false, not_false_eq_true, k5_68_0, k5_68_13, k34_68_13, k5_51_5, k34_51_5, k54_51_5, k54b_51_5_0, k5_51_3, k6_54, k35_54, n_54, o1, o2, mv_n, mp_n, h0]
theorem idT_mv (hc : cd = 83 ∨ cd = 93) {i : Int} : (if i < 0 ∨ mv cd p s m 51 5 ≤ i then 0 else mv cd p s m 55 i.toNat) = idT m i := by
  unfold idT
  rw [mv_o hc (by decide) (by decide), mv_o hc (by decide) (by decide)]
theorem kI_mv (hc : cd = 83 ∨ cd = 93) {i : Int} : kI (mv cd p s m) i = kI m i := by
  unfold kI
  rw [mv_o hc (by decide) (by decide), mv_o hc (by decide) (by decide)]
theorem nmI_mv (hc : cd = 83 ∨ cd = 93) {i : Int} : nmI (mv cd p s m) i = nmI m i := by
  unfold nmI
  rw [mv_o hc (by decide) (by decide), mv_o hc (by decide) (by decide)]
theorem lI_mv (hc : cd = 83 ∨ cd = 93) {i : Int} : lI (mv cd p s m) i = lI m i := by
  unfold lI
  rw [mv_o hc (by decide) (by decide), mv_o hc (by decide) (by decide)]
theorem M_130 (hc : cd = 83 ∨ cd = 93) (hN : m 51 5 ≤ 3001) : Cx F (d + 1) 130 [51, a1] (Hp L xs (mv cd p s m)) = some ([idT m a1], Hp L xs (mv cd p s m)) := by
  rw [C_130 (by rw [mv_o hc (by decide) (by decide)]; exact hN), idT_mv hc]
theorem M_149 (hc : cd = 83 ∨ cd = 93) (h4 : m 57 4 ≤ 1510) : Cx F (d + 1) 149 [57, a1] (Hp L xs (mv cd p s m)) = some ([kI m a1], Hp L xs (mv cd p s m)) := by
  rw [C_149 (by rw [mv_o hc (by decide) (by decide)]; exact h4), kI_mv hc]
theorem M_150 (hc : cd = 83 ∨ cd = 93) (h4 : m 57 4 ≤ 1510) : Cx F (d + 1) 150 [57, a1] (Hp L xs (mv cd p s m)) = some ([nmI m a1], Hp L xs (mv cd p s m)) := by
  rw [C_150 (by rw [mv_o hc (by decide) (by decide)]; exact h4), nmI_mv hc]
theorem M_151 (hc : cd = 83 ∨ cd = 93) (h4 : m 57 4 ≤ 1510) : Cx F (d + 1) 151 [57, a1] (Hp L xs (mv cd p s m)) = some ([lI m a1], Hp L xs (mv cd p s m)) := by
  rw [C_151 (by rw [mv_o hc (by decide) (by decide)]; exact h4), lI_mv hc]
theorem M_129 (hc : cd = 83 ∨ cd = 93) (hN : m 51 5 ≤ 3001) : Cx F (d + 1) 129 [51, a1] (Hp L xs (mv cd p s m)) = some ([plc m a1], Hp L xs (mv cd p s m)) := by
  rw [C_129 (by rw [mv_o hc (by decide) (by decide)]; exact hN)]
  unfold plc
  rw [mv_o hc (by decide) (by decide), mv_o hc (by decide) (by decide), mv_o hc (by decide) (by decide)]
theorem M_153 (hc : cd = 83 ∨ cd = 93) (h7 : m 57 7 ≤ 300) : Cx F (d + 1) 153 [57, a1] (Hp L xs (mv cd p s m)) = some ([prm m a1], Hp L xs (mv cd p s m)) := by
  have o1 : ∀ k, mv cd p s m 57 k = m 57 k := fun k => mv_o hc (by decide) (by decide)
  have o2 : ∀ k, mv cd p s m 64 k = m 64 k := fun k => mv_o hc (by decide) (by decide)
  unfold prm
  by_cases h1 : a1 < 0
  · simp (disch := omega) only [c_153, tr_153, ev_0, ev_1, ev_16, ev_17, ev_18, ev_2, ev_3, ev_4, ev_5, ev_6, ev_7, ev_8, ev_9, ev_20, ev_21, ev_22, ev_23, ev_24, ev_25, ev_27, ev_28, ev_30, ev_31, ev_32, ev_33, ev_34, ev_35, ev_36, ev_37, ev_38, ev_39, ev_40, ev_41, ev_42, ev_43, ev_45, ev_46, ev_47, ev_48, ev_49, ev_50, ev_51, ev_52, ev_54, ev_55, ev_57, ev_58, ev_59, k2_0, k2_1, k2_2, k3a, k3b, k4, o1_s, xbin_0, xbin_1, xbin_2, xbin_3, xbin_4, xbin_5, xbin_6, xbin_7, xbin_8, xbin_9, xbin_11, xbin_12, xun_0, xun_1, xun_2, xun_3, xun_4, xun_5, k6a, k8, k8b, k9, k20, k20b_0, k20b_1, k20b_2, k20b_3, k20b_4, k20b_5, k21_0, k21_1, k21_2, k21_3, k21_4, k21_5, k23, k24, k25, k27, k28, k40, nz_1, nz_2, nz_3, k31_0, k31_1, k31_2, k31_3, k32u, k33, k34, k35, k35b, k36, k37, k38, k47, k49, k49b_0, k49b_1, k49b_2, k49b_3, k50_0, k50_s, k51_0, k51_s, k55, k58, k58b, rk_0, rk_1, rk_2, rk_9, rk_3, rk_4, rk_5, sw_n, sw_c, xtb_n, xtb_c, lset_0, lset_2, lset_1, lkm_0, lkm_2, lkm_9, lkm_1, lkm_n, if_some1, c_10, c_01, c_x0, c_1x, c_n0, c_nn, List.getElem?_cons_zero, List.getElem?_cons_succ, List.set_cons_zero, List.set_cons_succ, List.length_cons, List.length_nil, Int.reduceToNat, Nat.reduceDiv, Nat.reduceMod, Nat.reduceSub, Nat.reduceAdd, Nat.reduceMul, Nat.reduceLT, Nat.reduceLeDiff, Nat.reduceEqDiff, Int.reduceMod, Int.reduceSub, Int.reduceNeg, Int.reduceAdd, Int.reduceMul, Int.reduceLT, Int.reduceLE, Int.reduceEq, put_ss, if_true, if_false, ite_true, ite_false, reduceIte, eq_self, and_true, true_and, and_false, false_and, or_true, true_or, or_false, false_or, not_true_eq_false, not_false_eq_true, k5_57_11, k6_64, k35_64, n_64, k5_57_7, k34_57_7, k54_57_7, k54b_57_7_0, o1, o2, h1]
  · by_cases h2 : m 57 7 ≤ a1
    · simp (disch := omega) only [c_153, tr_153, ev_0, ev_1, ev_16, ev_17, ev_18, ev_2, ev_3, ev_4, ev_5, ev_6, ev_7, ev_8, ev_9, ev_20, ev_21, ev_22, ev_23, ev_24, ev_25, ev_27, ev_28, ev_30, ev_31, ev_32, ev_33, ev_34, ev_35, ev_36, ev_37, ev_38, ev_39, ev_40, ev_41, ev_42, ev_43, ev_45, ev_46, ev_47, ev_48, ev_49, ev_50, ev_51, ev_52, ev_54, ev_55, ev_57, ev_58, ev_59, k2_0, k2_1, k2_2, k3a, k3b, k4, o1_s, xbin_0, xbin_1, xbin_2, xbin_3, xbin_4, xbin_5, xbin_6, xbin_7, xbin_8, xbin_9, xbin_11, xbin_12, xun_0, xun_1, xun_2, xun_3, xun_4, xun_5, k6a, k8, k8b, k9, k20, k20b_0, k20b_1, k20b_2, k20b_3, k20b_4, k20b_5, k21_0, k21_1, k21_2, k21_3, k21_4, k21_5, k23, k24, k25, k27, k28, k40, nz_1, nz_2, nz_3, k31_0, k31_1, k31_2, k31_3, k32u, k33, k34, k35, k35b, k36, k37, k38, k47, k49, k49b_0, k49b_1, k49b_2, k49b_3, k50_0, k50_s, k51_0, k51_s, k55, k58, k58b, rk_0, rk_1, rk_2, rk_9, rk_3, rk_4, rk_5, sw_n, sw_c, xtb_n, xtb_c, lset_0, lset_2, lset_1, lkm_0, lkm_2, lkm_9, lkm_1, lkm_n, if_some1, c_10, c_01, c_x0, c_1x, c_n0, c_nn, List.getElem?_cons_zero, List.getElem?_cons_succ, List.set_cons_zero, List.set_cons_succ, List.length_cons, List.length_nil, Int.reduceToNat, Nat.reduceDiv, Nat.reduceMod, Nat.reduceSub, Nat.reduceAdd, Nat.reduceMul, Nat.reduceLT, Nat.reduceLeDiff, Nat.reduceEqDiff, Int.reduceMod, Int.reduceSub, Int.reduceNeg, Int.reduceAdd, Int.reduceMul, Int.reduceLT, Int.reduceLE, Int.reduceEq, put_ss, if_true, if_false, ite_true, ite_false, reduceIte, eq_self, and_true, true_and, and_false, false_and, or_true, true_or, or_false, false_or, not_true_eq_false, not_false_eq_true, k5_57_11, k6_64, k35_64, n_64, k5_57_7, k34_57_7, k54_57_7, k54b_57_7_0, o1, o2, h1, h2]
    · simp (disch := omega) only [c_153, tr_153, ev_0, ev_1, ev_16, ev_17, ev_18, ev_2, ev_3, ev_4, ev_5, ev_6, ev_7, ev_8, ev_9, ev_20, ev_21, ev_22, ev_23, ev_24, ev_25, ev_27, ev_28, ev_30, ev_31, ev_32, ev_33, ev_34, ev_35, ev_36, ev_37, ev_38, ev_39, ev_40, ev_41, ev_42, ev_43, ev_45, ev_46, ev_47, ev_48, ev_49, ev_50, ev_51, ev_52, ev_54, ev_55, ev_57, ev_58, ev_59, k2_0, k2_1, k2_2, k3a, k3b, k4, o1_s, xbin_0, xbin_1, xbin_2, xbin_3, xbin_4, xbin_5, xbin_6, xbin_7, xbin_8, xbin_9, xbin_11, xbin_12, xun_0, xun_1, xun_2, xun_3, xun_4, xun_5, k6a, k8, k8b, k9, k20, k20b_0, k20b_1, k20b_2, k20b_3, k20b_4, k20b_5, k21_0, k21_1, k21_2, k21_3, k21_4, k21_5, k23, k24, k25, k27, k28, k40, nz_1, nz_2, nz_3, k31_0, k31_1, k31_2, k31_3, k32u, k33, k34, k35, k35b, k36, k37, k38, k47, k49, k49b_0, k49b_1, k49b_2, k49b_3, k50_0, k50_s, k51_0, k51_s, k55, k58, k58b, rk_0, rk_1, rk_2, rk_9, rk_3, rk_4, rk_5, sw_n, sw_c, xtb_n, xtb_c, lset_0, lset_2, lset_1, lkm_0, lkm_2, lkm_9, lkm_1, lkm_n, if_some1, c_10, c_01, c_x0, c_1x, c_n0, c_nn, List.getElem?_cons_zero, List.getElem?_cons_succ, List.set_cons_zero, List.set_cons_succ, List.length_cons, List.length_nil, Int.reduceToNat, Nat.reduceDiv, Nat.reduceMod, Nat.reduceSub, Nat.reduceAdd, Nat.reduceMul, Nat.reduceLT, Nat.reduceLeDiff, Nat.reduceEqDiff, Int.reduceMod, Int.reduceSub, Int.reduceNeg, Int.reduceAdd, Int.reduceMul, Int.reduceLT, Int.reduceLE, Int.reduceEq, put_ss, if_true, if_false, ite_true, ite_false, reduceIte, eq_self, and_true, true_and, and_false, false_and, or_true, true_or, or_false, false_or, not_true_eq_false, not_false_eq_true, k5_57_11, k6_64, k35_64, n_64, k5_57_7, k34_57_7, k54_57_7, k54b_57_7_0, o1, o2, h1, h2]
theorem C_94 (hc : cd = 83 ∨ cd = 93) (hN : m 51 5 ≤ 3001) (h4 : m 57 4 ≤ 1510) : Cx F (d + 3) 94 [68, a1, a2] (Hp L xs (mv cd p s m)) = some ([nmI m (idT m a1)], Hp L xs (mv cd p (us m a1 a2 s) m)) := by
  unfold us
  by_cases h1 : kI m (idT m a1) = a2
  · simp (disch := omega) only [c_94, tr_94, ev_0, ev_1, ev_16, ev_17, ev_18, ev_2, ev_3, ev_4, ev_5, ev_6, ev_7, ev_8, ev_9, ev_20, ev_21, ev_22, ev_23, ev_24, ev_25, ev_27, ev_28, ev_30, ev_31, ev_32, ev_33, ev_34, ev_35, ev_36, ev_37, ev_38, ev_39, ev_40, ev_41, ev_42, ev_43, ev_45, ev_46, ev_47, ev_48, ev_49, ev_50, ev_51, ev_52, ev_54, ev_55, ev_57, ev_58, ev_59, k2_0, k2_1, k2_2, k3a, k3b, k4, o1_s, xbin_0, xbin_1, xbin_2, xbin_3, xbin_4, xbin_5, xbin_6, xbin_7, xbin_8, xbin_9, xbin_11, xbin_12, xun_0, xun_1, xun_2, xun_3, xun_4, xun_5, k6a, k8, k8b, k9, k20, k20b_0, k20b_1, k20b_2, k20b_3, k20b_4, k20b_5, k21_0, k21_1, k21_2, k21_3, k21_4, k21_5, k23, k24, k25, k27, k28, k40, nz_1, nz_2, nz_3, k31_0, k31_1, k31_2, k31_3, k32u, k33, k34, k35, k35b, k36, k37, k38, k47, k49, k49b_0, k49b_1, k49b_2, k49b_3, k50_0, k50_s, k51_0, k51_s, k55, k58, k58b, rk_0, rk_1, rk_2, rk_9, rk_3, rk_4, rk_5, sw_n, sw_c, xtb_n, xtb_c, lset_0, lset_2, lset_1, lkm_0, lkm_2, lkm_9, lkm_1, lkm_n, if_some1, c_10, c_01, c_x0, c_1x, c_n0, c_nn, List.getElem?_cons_zero, List.getElem?_cons_succ, List.set_cons_zero, List.set_cons_succ, List.length_cons, List.length_nil, Int.reduceToNat, Nat.reduceDiv, Nat.reduceMod, Nat.reduceSub, Nat.reduceAdd, Nat.reduceMul, Nat.reduceLT, Nat.reduceLeDiff, Nat.reduceEqDiff, Int.reduceMod, Int.reduceSub, Int.reduceNeg, Int.reduceAdd, Int.reduceMul, Int.reduceLT, Int.reduceLE, Int.reduceEq, put_ss, if_true, if_false, ite_true, ite_false, reduceIte, eq_self, and_true, true_and, and_false, false_and, or_true, true_or, or_false, false_or, not_true_eq_false, not_false_eq_true, k5_68_0, k5_68_1, M_130, M_149, M_150, h1]
  · simp (disch := omega) only [c_94, tr_94, ev_0, ev_1, ev_16, ev_17, ev_18, ev_2, ev_3, ev_4, ev_5, ev_6, ev_7, ev_8, ev_9, ev_20, ev_21, ev_22, ev_23, ev_24, ev_25, ev_27, ev_28, ev_30, ev_31, ev_32, ev_33, ev_34, ev_35, ev_36, ev_37, ev_38, ev_39, ev_40, ev_41, ev_42, ev_43, ev_45, ev_46, ev_47, ev_48, ev_49, ev_50, ev_51, ev_52, ev_54, ev_55, ev_57, ev_58, ev_59, k2_0, k2_1, k2_2, k3a, k3b, k4, o1_s, xbin_0, xbin_1, xbin_2, xbin_3, xbin_4, xbin_5, xbin_6, xbin_7, xbin_8, xbin_9, xbin_11, xbin_12, xun_0, xun_1, xun_2, xun_3, xun_4, xun_5, k6a, k8, k8b, k9, k20, k20b_0, k20b_1, k20b_2, k20b_3, k20b_4, k20b_5, k21_0, k21_1, k21_2, k21_3, k21_4, k21_5, k23, k24, k25, k27, k28, k40, nz_1, nz_2, nz_3, k31_0, k31_1, k31_2, k31_3, k32u, k33, k34, k35, k35b, k36, k37, k38, k47, k49, k49b_0, k49b_1, k49b_2, k49b_3, k50_0, k50_s, k51_0, k51_s, k55, k58, k58b, rk_0, rk_1, rk_2, rk_9, rk_3, rk_4, rk_5, sw_n, sw_c, xtb_n, xtb_c, lset_0, lset_2, lset_1, lkm_0, lkm_2, lkm_9, lkm_1, lkm_n, if_some1, c_10, c_01, c_x0, c_1x, c_n0, c_nn, List.getElem?_cons_zero, List.getElem?_cons_succ, List.set_cons_zero, List.set_cons_succ, List.length_cons, List.length_nil, Int.reduceToNat, Nat.reduceDiv, Nat.reduceMod, Nat.reduceSub, Nat.reduceAdd, Nat.reduceMul, Nat.reduceLT, Nat.reduceLeDiff, Nat.reduceEqDiff, Int.reduceMod, Int.reduceSub, Int.reduceNeg, Int.reduceAdd, Int.reduceMul, Int.reduceLT, Int.reduceLE, Int.reduceEq, put_ss, if_true, if_false, ite_true, ite_false, reduceIte, eq_self, and_true, true_and, and_false, false_and, or_true, true_or, or_false, false_or, not_true_eq_false, not_false_eq_true, k5_68_0, k5_68_1, M_130, M_149, M_150, C_91, h1]
end MakE
