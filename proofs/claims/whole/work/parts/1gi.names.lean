/-! WHAT NAMES STAND FOR, in the class -/
def LV (s : tS6) (ws : List Int) : Prop := s.2.1 = (ws.length : Int) ∧ (∀ y ∈ s.1, y.2.1 = 1 → (0 ≤ y.2.2 ∧ y.2.2 < s.2.1) ∧ ws.getD y.2.2.toNat 0 = 1) ∧ (∀ y ∈ s.1, y.2.1 = 3 → 1 ≤ y.2.2) ∧ 1 ≤ s.2.2.1 ∧ (s.2.2.2.2.1 = false → ∀ w ∈ ws, 1 ≤ w ∧ w ≤ 500)
theorem look_m : ∀ {l : List (Int × Int × Int)} {c : Int}, (look l c).1 ≠ 0 → ∃ y ∈ l, y.2 = look l c
  | [], c, h => absurd rfl h
  | x :: l, c, h => by
    unfold look at h ⊢
    by_cases hx : x.1 = c
    · rw [if_pos hx]
      exact ⟨x, List.mem_cons_self .., rfl⟩
    · rw [if_neg hx] at h ⊢
      obtain ⟨y, a, b⟩ := look_m h
      exact ⟨y, List.mem_cons_of_mem _ a, b⟩
section Nms
variable {v V K : Int → Int} {e : Int}
theorem getD_snoc {ws : List Int} {w : Int} {k : Nat} (h : k < ws.length) : (ws ++ [w]).getD k 0 = ws.getD k 0 := by
  rw [List.getD_eq_getElem?_getD, List.getElem?_append_left h, ← List.getD_eq_getElem?_getD]
theorem LV_v {s : tS6} {ws : List Int} {w c k : Int} {b : Bool} {q : List Int} (h : LV s ws) (hk : k = 1 ∧ w = 1 ∨ k = 2) (hb : b = false → s.2.2.2.2.1 = false ∧ 1 ≤ w ∧ w ≤ 500) : LV (s.1 ++ [(c, k, s.2.1)], s.2.1 + 1, s.2.2.1, s.2.2.2.1, b, q) (ws ++ [w]) := by
  obtain ⟨h1, h2, h3, h4, h5⟩ := h
  have hl : (ws ++ [w]).length = ws.length + 1 := by rw [List.length_append]; rfl
  refine ⟨by rw [hl]; show s.2.1 + 1 = _; omega, fun y hy hy1 => ?_, fun y hy hy1 => ?_, h4, fun hf x hx => ?_⟩
  · rcases List.mem_append.1 hy with z | z
    · obtain ⟨a, b⟩ := h2 y z hy1
      refine ⟨⟨a.1, by show y.2.2 < s.2.1 + 1; omega⟩, ?_⟩
      rw [getD_snoc (by omega)]
      exact b
    · rw [List.mem_singleton] at z
      subst z
      have hk1 : k = 1 := hy1
      have hw : w = 1 := by omega
      refine ⟨⟨by show 0 ≤ s.2.1; omega, by show s.2.1 < s.2.1 + 1; omega⟩, ?_⟩
      show (ws ++ [w]).getD s.2.1.toNat 0 = 1
      have e1 : s.2.1.toNat = ws.length := by omega
      rw [e1, List.getD_eq_getElem?_getD, List.getElem?_append_right (Nat.le_refl _), Nat.sub_self]
      exact hw
  · rcases List.mem_append.1 hy with z | z
    · exact h3 y z hy1
    · rw [List.mem_singleton] at z
      subst z
      have hk1 : k = 3 := hy1
      omega
  · obtain ⟨b1, b2⟩ := hb hf
    rcases List.mem_append.1 hx with z | z
    · exact h5 b1 x z
    · rw [List.mem_singleton] at z
      subst z
      exact b2
theorem LV_o {s : tS6} {ws : List Int} {c k x a b : Int} {f : Bool} {q : List Int} (h : LV s ws) (hk : k = 3 ∧ 1 ≤ x ∨ k = 4) (ha : s.2.2.1 ≤ a) (hf : f = s.2.2.2.2.1) : LV (s.1 ++ [(c, k, x)], s.2.1, a, b, f, q) ws := by
  obtain ⟨h1, h2, h3, h4, h5⟩ := h
  refine ⟨h1, fun y hy hy1 => ?_, fun y hy hy1 => ?_, by show 1 ≤ a; omega, fun z => h5 (hf ▸ z)⟩
  · rcases List.mem_append.1 hy with z | z
    · exact h2 y z hy1
    · rw [List.mem_singleton] at z
      subst z
      have hk1 : k = 1 := hy1
      omega
  · rcases List.mem_append.1 hy with z | z
    · exact h3 y z hy1
    · rw [List.mem_singleton] at z
      subst z
      have hk1 : k = 3 := hy1
      show 1 ≤ x
      omega
theorem LV_N {ws : List Int} : ∀ (k : Nat) (t : xT), tsz t < k → ∀ (x r : Int) (s : tS6), PN K t x r → LV s ws → LV (sN v t s) ws := by
  intro k
  induction k with
  | zero => intro t ht; exact absurd ht (Nat.not_lt_zero _)
  | succ k ih =>
    intro t ht x r s h L
    have one : LV (sC v x s) ws := LV_o L (Or.inl ⟨rfl, L.2.2.2.1⟩) (by omega) rfl
    rcases inv_N h with ⟨a, b, rfl, g1, g2, g3⟩ | ⟨a, b, rfl, g1, g2, g3⟩
    · exact one
    · rw [tsz_nd] at ht
      exact ih b (by omega) _ _ (sC v x s) g3 one
theorem LV_T : ∀ (k : Nat) (t : xT), tsz t < k → ∀ (p : Int) (s : tS6) (ws : List Int), PT K V t p e → LV s ws → LV (sT v t s) (ws ++ vwT v t) := by
  intro k
  induction k with
  | zero => intro t ht; exact absurd ht (Nat.not_lt_zero _)
  | succ k ih =>
    intro t ht p s ws h L
    rcases inv_T h with ⟨i, a, b, rfl, g1, g2⟩ | ⟨a, b, rfl, g1, g2, g3, g4⟩ | ⟨a, b, rfl, g1, g2, g3, g4, g5, g6, g7⟩ | ⟨a, b, rfl, g1, r, g2, g3, g4⟩ | ⟨a, b, rfl, g1, g2, g3, r, g4, g5⟩
    · have e1 : vwT v (nd 40 i a b) = [] := rfl
      rw [e1, List.append_nil]
      exact L
    · rw [tsz_nd] at ht
      have z := ih b (by omega) _ (sV v p s) (ws ++ [1]) g4 (LV_v L (Or.inl ⟨rfl, rfl⟩) (fun z => ⟨z, by omega, by omega⟩))
      rw [List.append_assoc] at z
      exact z
    · rw [tsz_nd] at ht
      have z := ih b (by omega) _ (sA v p s) (ws ++ [v (p + 3)]) g7 (LV_v L (Or.inr rfl) (fun z => by
        rw [Bool.or_eq_false_iff, Bool.or_eq_false_iff, decide_eq_false_iff_not, decide_eq_false_iff_not] at z
        exact ⟨z.1.1, by omega, by omega⟩))
      rw [List.append_assoc] at z
      exact z
    · rw [tsz_nd] at ht
      exact ih b (by omega) _ (sN v a s) ws g4 (LV_N (tsz a + 1) a (by omega) _ _ _ g2 L)
    · rw [tsz_nd] at ht
      exact ih b (by omega) _ (sP v p (hN a) s) ws g5 (LV_o L (Or.inr rfl) (Int.le_refl _) rfl)
theorem LV_6 : LV s6 [] := by
  refine ⟨rfl, fun y hy => ?_, fun y hy => ?_, by decide, fun _ w hw => absurd hw List.not_mem_nil⟩
  · have : ∀ y ∈ five, y.2.1 = 1 → (0 ≤ y.2.2 ∧ y.2.2 < 0) ∧ ([] : List Int).getD y.2.2.toNat 0 = 1 := by decide
    exact this y hy
  · have : ∀ y ∈ five, y.2.1 = 3 → 1 ≤ y.2.2 := by decide
    exact this y hy
theorem NI_6 : NI s6 := by
  unfold NI
  refine ⟨?_, ?_, by decide, by decide, by decide⟩
  · show ∀ y ∈ five, _
    decide
  · show List.Pairwise _ five
    decide
theorem XC0_mk {m : Mem} {s : tS6} {ws : List Int} (T : TCs m s) (N : NI s) (L : LV s ws) (h63 : ∀ k, k < ws.length → m 63 k = ws.getD k 0) (hV : VC m v e) (hnum : ∀ i, 0 ≤ i → i < e → kd m i = 3 → 0 ≤ v i ∧ v i ≤ 32767) (h51 : e < m 51 5) (h54 : ∀ i, 0 ≤ i → i ≤ e → m 54 i.toNat ≤ 3000) : XC0 m e := by
  obtain ⟨⟨t1, t2⟩, t3, t4, t5, -⟩ := T
  refine ⟨fun id => ?_, fun i h0 h1 hk => ?_, h51, h54⟩
  · by_cases c : id < 0 ∨ m 57 4 ≤ id
    · have e1 : kI m id = 0 := if_pos c
      rw [e1]
      exact ⟨fun z => absurd z (by decide), fun z => absurd z (by decide), fun z => absurd z (by decide), fun z => absurd z (by decide)⟩
    · have e1 : kI m id = m 59 id.toNat := if_neg c
      have e2 : nmI m id = m 60 id.toNat := if_neg c
      have tt := t2 id (by omega) (by omega)
      rw [e1, e2]
      by_cases c0 : m 59 id.toNat = 0
      · rw [c0]
        exact ⟨fun z => absurd z (by decide), fun z => absurd z (by decide), fun z => absurd z (by decide), fun z => absurd z (by decide)⟩
      · have c1 : (look s.1 (m 58 id.toNat)).1 ≠ 0 := by rw [← tt]; exact c0
        obtain ⟨y, hy, hy2⟩ := look_m c1
        rw [← tt] at hy2
        have y1 : y.2.1 = m 59 id.toNat := by rw [hy2]
        have y2 : y.2.2 = m 60 id.toNat := by rw [hy2]
        obtain ⟨n1, n2, n3, n4⟩ := N.1 y hy
        have l1 := L.2.1 y hy
        have l2 := L.2.2.1 y hy
        rw [y1, y2] at n1 n2 n3 l1 l2
        refine ⟨fun z => by have := n1 z; omega, fun z => ?_, fun z => ?_, fun z => by have := n3 z; omega⟩
        · have a := (l1 z).1
          rw [h63 _ (by have := L.1; omega)]
          exact (l1 z).2
        · have a := n2 z
          have b := l2 z
          omega
  · rw [(hV i h0 h1).2 hk]
    exact hnum i h0 h1 hk
end Nms
