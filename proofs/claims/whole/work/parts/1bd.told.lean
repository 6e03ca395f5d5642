/-! FROM THE FIRST WALK TO THE SECOND: the lists that were told -/
section Tld
variable {v K V : Int → Int} {e : Int}
theorem sN_l : ∀ (k : Nat) (t : xT), tsz t < k → ∀ (x r : Int) (s : tS6), PN K t x r → cds (sN v t s) = cds s ++ cN v t ∧ (sN v t s).2.2.2.2 = s.2.2.2.2 := by
  intro k
  induction k with
  | zero => intro t ht; exact absurd ht (Nat.not_lt_zero _)
  | succ k ih =>
    intro t ht x r s h
    rcases inv_N h with ⟨a, b, rfl, g1, g2, g3⟩ | ⟨a, b, rfl, g1, g2, g3⟩
    · exact ⟨cds_app, rfl⟩
    · rw [tsz_nd] at ht
      obtain ⟨h1, h2⟩ := ih b (by omega) _ _ (sC v x s) g3
      have e1 : cds (sC v x s) = cds s ++ [v x] := cds_app
      refine ⟨?_, h2⟩
      show cds (sN v b (sC v x s)) = cds s ++ (v x :: cN v b)
      rw [h1, e1, List.append_assoc]
      rfl
theorem sT_l : ∀ (k : Nat) (t : xT), tsz t < k → ∀ (p : Int) (s : tS6), PT K V t p e → cds (sT v t s) = cds s ++ cT v t ∧ (sT v t s).2.2.2.2.2 = s.2.2.2.2.2 ++ hnT t ∧ (s.2.2.2.2.1 = true ∨ lgT v t → (sT v t s).2.2.2.2.1 = true) := by
  intro k
  induction k with
  | zero => intro t ht; exact absurd ht (Nat.not_lt_zero _)
  | succ k ih =>
    intro t ht p s h
    rcases inv_T h with ⟨i, a, b, rfl, g1, g2⟩ | ⟨a, b, rfl, g1, g2, g3, g4⟩ | ⟨a, b, rfl, g1, g2, g3, g4, g5, g6, g7⟩ | ⟨a, b, rfl, g1, r, g2, g3, g4⟩ | ⟨a, b, rfl, g1, g2, g3, r, g4, g5⟩
    · refine ⟨(List.append_nil _).symm, (List.append_nil _).symm, fun z => ?_⟩
      rcases z with z | z
      · exact z
      · exact z.elim
    · rw [tsz_nd] at ht
      obtain ⟨h1, h2, h3⟩ := ih b (by omega) _ (sV v p s) g4
      have e1 : cds (sV v p s) = cds s ++ [v (p + 1)] := cds_app
      refine ⟨?_, h2, h3⟩
      show cds (sT v b (sV v p s)) = cds s ++ (v (p + 1) :: cT v b)
      rw [h1, e1, List.append_assoc]
      rfl
    · rw [tsz_nd] at ht
      obtain ⟨h1, h2, h3⟩ := ih b (by omega) _ (sA v p s) g7
      have e1 : cds (sA v p s) = cds s ++ [v (p + 1)] := cds_app
      refine ⟨?_, h2, fun z => h3 ?_⟩
      · show cds (sT v b (sA v p s)) = cds s ++ (v (p + 1) :: cT v b)
        rw [h1, e1, List.append_assoc]
        rfl
      · rcases z with z | z
        · left
          show (s.2.2.2.2.1 || decide (v (p + 3) < 1) || decide (500 < v (p + 3))) = true
          rw [z]
          rfl
        · rcases z with z | z
          · left
            show (s.2.2.2.2.1 || decide (v (p + 3) < 1) || decide (500 < v (p + 3))) = true
            rcases z with z | z
            · rw [decide_eq_true z, Bool.or_true, Bool.true_or]
            · rw [decide_eq_true z, Bool.or_true]
          · exact Or.inr z
    · rw [tsz_nd] at ht
      obtain ⟨n1, n2⟩ := sN_l (v := v) (tsz a + 1) a (by omega) _ _ s g2
      obtain ⟨h1, h2, h3⟩ := ih b (by omega) _ (sN v a s) g4
      refine ⟨?_, ?_, fun z => h3 ?_⟩
      · show cds (sT v b (sN v a s)) = cds s ++ (cN v a ++ cT v b)
        rw [h1, n1, List.append_assoc]
      · show (sT v b (sN v a s)).2.2.2.2.2 = s.2.2.2.2.2 ++ hnT b
        rw [h2, n2]
      · rcases z with z | z
        · left; rw [n2]; exact z
        · exact Or.inr z
    · rw [tsz_nd] at ht
      obtain ⟨h1, h2, h3⟩ := ih b (by omega) _ (sP v p (hN a) s) g5
      have e1 : cds (sP v p (hN a) s) = cds s ++ [v (p + 1)] := cds_app
      refine ⟨?_, ?_, h3⟩
      · show cds (sT v b (sP v p (hN a) s)) = cds s ++ (v (p + 1) :: cT v b)
        rw [h1, e1, List.append_assoc]
        rfl
      · show (sT v b (sP v p (hN a) s)).2.2.2.2.2 = s.2.2.2.2.2 ++ (hN a :: hnT b)
        rw [h2]
        show s.2.2.2.2.2 ++ [hN a] ++ hnT b = _
        rw [List.append_assoc]
        rfl
theorem TS_TBL {m : Mem} {s : tS6} (T : TS m s) : TBL m (cds s) := by
  have hl : (cds s).length = s.1.length := List.length_map ..
  refine ⟨by rw [T.1, hl], fun k hk => ?_⟩
  rw [hl] at hk
  rw [(T.2.1 k hk).1]
  unfold cds
  rw [List.getD_eq_getElem?_getD, List.getD_eq_getElem?_getD, List.getElem?_map, List.getElem?_eq_getElem hk]
  rfl
end Tld
