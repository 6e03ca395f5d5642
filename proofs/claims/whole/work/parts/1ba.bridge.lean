/-! FROM THE FIRST WALK TO THE SECOND: what was told at the top -/
def NI (s : tS6) : Prop := (∀ y ∈ s.1, (y.2.1 = 1 ∨ y.2.1 = 2 → 0 ≤ y.2.2 ∧ y.2.2 < s.2.1) ∧ (y.2.1 = 3 → 0 ≤ y.2.2 ∧ y.2.2 < s.2.2.1) ∧ (y.2.1 = 4 → 0 ≤ y.2.2 ∧ y.2.2 < s.2.2.2.1) ∧ 1 ≤ y.2.1 ∧ y.2.1 ≤ 4) ∧ List.Pairwise (fun x y : Int × Int × Int => x.2.1 = 3 → y.2.1 = 3 → x.2.2 < y.2.2) s.1 ∧ 0 ≤ s.2.1 ∧ 0 ≤ s.2.2.1 ∧ 0 ≤ s.2.2.2.1
theorem NI_app {s : tS6} (N : NI s) {x : Int × Int × Int} {a b c : Int} {f : Bool} {q : List Int} (ha : s.2.1 ≤ a) (hb : s.2.2.1 ≤ b) (hc : s.2.2.2.1 ≤ c) (h1 : x.2.1 = 1 ∨ x.2.1 = 2 → 0 ≤ x.2.2 ∧ x.2.2 < a) (h2 : x.2.1 = 3 → s.2.2.1 ≤ x.2.2 ∧ x.2.2 < b) (h3 : x.2.1 = 4 → 0 ≤ x.2.2 ∧ x.2.2 < c) (h4 : 1 ≤ x.2.1 ∧ x.2.1 ≤ 4) : NI (s.1 ++ [x], a, b, c, f, q) := by
  obtain ⟨n1, n2, n3, n4, n5⟩ := N
  refine ⟨fun y hy => ?_, ?_, by show 0 ≤ a; omega, by show 0 ≤ b; omega, by show 0 ≤ c; omega⟩
  · rcases List.mem_append.1 hy with hy | hy
    · obtain ⟨m1, m2, m3, m4⟩ := n1 y hy
      refine ⟨fun z => ?_, fun z => ?_, fun z => ?_, m4⟩
      · have := m1 z; show 0 ≤ y.2.2 ∧ y.2.2 < a; omega
      · have := m2 z; show 0 ≤ y.2.2 ∧ y.2.2 < b; omega
      · have := m3 z; show 0 ≤ y.2.2 ∧ y.2.2 < c; omega
    · rw [List.mem_singleton.1 hy]
      exact ⟨h1, fun z => by have := h2 z; show 0 ≤ x.2.2 ∧ x.2.2 < b; omega, h3, h4⟩
  · show List.Pairwise _ (s.1 ++ [x])
    rw [List.pairwise_append]
    refine ⟨n2, List.pairwise_singleton _ _, fun y hy z hz w1 w2 => ?_⟩
    rw [List.mem_singleton.1 hz] at w2 ⊢
    have := (n1 y hy).2.1 w1
    have := h2 w2
    omega
theorem NI_N {v : Int → Int} {K : Int → Int} : ∀ (k : Nat) (t : xT), tsz t < k → ∀ (x r : Int) (s : tS6), PN K t x r → NI s → NI (sN v t s) := by
  intro k
  induction k with
  | zero => intro t ht; exact absurd ht (Nat.not_lt_zero _)
  | succ k ih =>
    intro t ht x r s h N
    have one : NI (sC v x s) := NI_app N (Int.le_refl _) (by omega) (Int.le_refl _) (fun z => absurd z (by show ¬ ((3 : Int) = 1 ∨ (3 : Int) = 2); decide)) (fun _ => ⟨Int.le_refl _, by show s.2.2.1 < s.2.2.1 + 1; omega⟩) (fun z => absurd z (by show ¬ ((3 : Int) = 4); decide)) (by show 1 ≤ (3 : Int) ∧ (3 : Int) ≤ 4; decide)
    rcases inv_N h with ⟨a, b, rfl, g1, g2, g3⟩ | ⟨a, b, rfl, g1, g2, g3⟩
    · exact one
    · rw [tsz_nd] at ht
      exact ih b (by omega) _ _ _ g3 one
theorem NI_T {v : Int → Int} {K V : Int → Int} {e : Int} : ∀ (k : Nat) (t : xT), tsz t < k → ∀ (p : Int) (s : tS6), PT K V t p e → NI s → NI (sT v t s) := by
  intro k
  induction k with
  | zero => intro t ht; exact absurd ht (Nat.not_lt_zero _)
  | succ k ih =>
    intro t ht p s h N
    obtain ⟨n1, n2, n3, n4, n5⟩ := id N
    rcases inv_T h with ⟨i, a, b, rfl, g1, g2⟩ | ⟨a, b, rfl, g1, g2, g3, g4⟩ | ⟨a, b, rfl, g1, g2, g3, g4, g5, g6, g7⟩ | ⟨a, b, rfl, g1, r, g2, g3, g4⟩ | ⟨a, b, rfl, g1, g2, g3, r, g4, g5⟩
    · exact N
    · rw [tsz_nd] at ht
      exact ih b (by omega) _ _ g4 (NI_app N (by omega) (Int.le_refl _) (Int.le_refl _) (fun _ => ⟨n3, by show s.2.1 < s.2.1 + 1; omega⟩) (fun z => absurd z (by show ¬ ((1 : Int) = 3); decide)) (fun z => absurd z (by show ¬ ((1 : Int) = 4); decide)) (by show 1 ≤ (1 : Int) ∧ (1 : Int) ≤ 4; decide))
    · rw [tsz_nd] at ht
      exact ih b (by omega) _ _ g7 (NI_app N (by omega) (Int.le_refl _) (Int.le_refl _) (fun _ => ⟨n3, by show s.2.1 < s.2.1 + 1; omega⟩) (fun z => absurd z (by show ¬ ((2 : Int) = 3); decide)) (fun z => absurd z (by show ¬ ((2 : Int) = 4); decide)) (by show 1 ≤ (2 : Int) ∧ (2 : Int) ≤ 4; decide))
    · rw [tsz_nd] at ht
      exact ih b (by omega) _ _ g4 (NI_N (tsz a + 1) a (by omega) _ _ s g2 N)
    · rw [tsz_nd] at ht
      exact ih b (by omega) _ _ g5 (NI_app N (Int.le_refl _) (Int.le_refl _) (by omega) (fun z => absurd z (by show ¬ ((4 : Int) = 1 ∨ (4 : Int) = 2); decide)) (fun z => absurd z (by show ¬ ((4 : Int) = 3); decide)) (fun _ => ⟨n5, by show s.2.2.2.1 < s.2.2.2.1 + 1; omega⟩) (by show 1 ≤ (4 : Int) ∧ (4 : Int) ≤ 4; decide))
/-- the first entry, in the list and in the table -/
theorem look_fst {f g h : Nat → Int} {c : Int} : ∀ (l : List (Int × Int × Int)) (k : Int), 0 ≤ k → (∀ i : Nat, i < l.length → f (k + (i : Int)).toNat = (l.getD i (0, 0, 0)).1 ∧ g (k + (i : Int)).toNat = (l.getD i (0, 0, 0)).2.1 ∧ h (k + (i : Int)).toNat = (l.getD i (0, 0, 0)).2.2) → (fst1 f c k l.length = -1 ∧ look l c = (0, -1)) ∨ (k ≤ fst1 f c k l.length ∧ fst1 f c k l.length < k + l.length ∧ look l c = (g (fst1 f c k l.length).toNat, h (fst1 f c k l.length).toNat) ∧ (c, look l c) ∈ l ∧ l.getD (fst1 f c k l.length - k).toNat (0, 0, 0) = (c, look l c))
  | [], k, _, _ => Or.inl ⟨rfl, rfl⟩
  | x :: l, k, h0, ht => by
    have h1 := ht 0 (by rw [List.length_cons]; omega)
    have e1 : k + ((0 : Nat) : Int) = k := by omega
    rw [e1] at h1
    have e2 : (x :: l).getD 0 (0, 0, 0) = x := rfl
    rw [e2] at h1
    rw [List.length_cons]
    unfold fst1 look
    by_cases hx : x.1 = c
    · rw [if_pos (h1.1.trans hx), if_pos hx]
      refine Or.inr ⟨Int.le_refl _, by omega, by rw [h1.2.1, h1.2.2], ?_, ?_⟩
      · have : (c, x.2) = x := by rw [← hx]
        rw [this]
        exact List.mem_cons_self ..
      · have : (k - k).toNat = 0 := by omega
        rw [this, e2, ← hx]
    · rw [if_neg (fun z => hx (h1.1.symm.trans z)), if_neg hx]
      rcases look_fst l (k + 1) (by omega) (fun i hi => by
        have := ht (i + 1) (by rw [List.length_cons]; omega)
        have e3 : k + ((i + 1 : Nat) : Int) = k + 1 + (i : Int) := by omega
        rw [e3] at this
        exact this) with z | ⟨z1, z2, z3, z4, z5⟩
      · exact Or.inl z
      · refine Or.inr ⟨by omega, by omega, z3, List.mem_cons_of_mem _ z4, ?_⟩
        have : (fst1 f c (k + 1) l.length - k).toNat = (fst1 f c (k + 1) l.length - (k + 1)).toNat + 1 := by omega
        rw [this]
        exact z5
section Bri
variable {m mc : Mem} {s : tS6} {v : Int → Int} {e : Int}
theorem TS_top {c : Int} (T : TS m s) : (topK m c = -1 ∧ look s.1 c = (0, -1)) ∨ (0 ≤ topK m c ∧ topK m c < s.1.length ∧ look s.1 c = (m 166 (topK m c).toNat, m 167 (topK m c).toNat) ∧ (c, look s.1 c) ∈ s.1 ∧ s.1.getD (topK m c).toNat (0, 0, 0) = (c, look s.1 c)) := by
  have := look_fst (f := m 165) (g := m 166) (h := m 167) (c := c) s.1 0 (by omega) (fun i hi => by
    have e1 : (0 + (i : Int)).toNat = i := by omega
    rw [e1]
    exact T.2.1 i hi)
  unfold topK
  have e17 : (m 158 17).toNat = s.1.length := by rw [T.1]; omega
  rw [e17]
  rcases this with z | ⟨z1, z2, z3, z4, z5⟩
  · exact Or.inl z
  · refine Or.inr ⟨z1, by omega, z3, z4, ?_⟩
    have e1 : fst1 (m 165) c 0 s.1.length - 0 = fst1 (m 165) c 0 s.1.length := by omega
    rw [e1] at z5
    exact z5
end Bri
