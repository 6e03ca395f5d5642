/-! THE CLASS'S LOCALS behind a text, whatever is wrong in it: none are held, the most is bounded -/
def Yq (y : yS) : Prop := 0 ≤ y.2.1 ∧ 0 ≤ y.2.2.2.2 ∧ y.2.2.2.2 ≤ 1600
theorem Yq_nlb {y : yS} (h : Yq y) : Yq (nlb y) := by
  unfold nlb
  split
  · exact h
  · exact h
theorem Yq_slb {l n : Int} {y : yS} (h : Yq y) : Yq (slb l n y) := by
  unfold slb
  split
  · exact h
  · exact h
theorem Yq_ymk {m : Mem} {i : Int} {y : yS} (h : Yq y) : Yq (ymk m i y) := by
  unfold ymk
  split
  · exact h
  · obtain ⟨h1, h2, h3⟩ := h
    refine ⟨by show 0 ≤ y.2.1 + 1; omega, ?_, ?_⟩
    · show 0 ≤ imax y.2.2.2.2 (y.2.1 + 1)
      unfold imax
      split <;> omega
    · show imax y.2.2.2.2 (y.2.1 + 1) ≤ 1600
      unfold imax
      split <;> omega
theorem fgN_m {m : Mem} : ∀ (k : Nat) (y : yS), (fgN m k y).2.2.2.2 = y.2.2.2.2
  | 0, y => rfl
  | k + 1, y => fgN_m k _
theorem Yq_fgN {m : Mem} {y : yS} {x : Int} (h : Yq y) (hx : 0 ≤ x) : Yq (fgN m (y.2.1 - x).toNat y) := by
  obtain ⟨h1, h2, h3⟩ := h
  refine ⟨?_, by rw [fgN_m]; exact h2, by rw [fgN_m]; exact h3⟩
  rw [(fgN_n _ _).2]
  omega
theorem Yq_wW {m : Mem} : ∀ (t : xT) (w : List Int) (c : zS), Yq c.2 → Yq (wW m t w c).2
  | .tag k (.nest i (.append a b)), w, c, h => by
    unfold wW
    split
    · exact Yq_wW b _ _ (Yq_nlb h)
    · exact h
  | .nil, _, _, h => h
  | .line, _, _, h => h
  | .align _, _, _, h => h
  | .text _, _, _, h => h
  | .append _ _, _, _, h => h
  | .group _ _, _, _, h => h
  | .nest _ _, _, _, h => h
  | .tag _ .nil, _, _, h => h
  | .tag _ .line, _, _, h => h
  | .tag _ (.align _), _, _, h => h
  | .tag _ (.text _), _, _, h => h
  | .tag _ (.append _ _), _, _, h => h
  | .tag _ (.group _ _), _, _, h => h
  | .tag _ (.tag _ _), _, _, h => h
  | .tag _ (.nest _ .nil), _, _, h => h
  | .tag _ (.nest _ .line), _, _, h => h
  | .tag _ (.nest _ (.align _)), _, _, h => h
  | .tag _ (.nest _ (.text _)), _, _, h => h
  | .tag _ (.nest _ (.nest _ _)), _, _, h => h
  | .tag _ (.nest _ (.group _ _)), _, _, h => h
  | .tag _ (.nest _ (.tag _ _)), _, _, h => h
theorem Yq_stS {m : Mem} : ∀ (t : xT) (H l n : Int) (c : zS), Yq c.2 → Yq (stS m t H l n c).2
  | .tag k (.nest i (.append a b)), H, l, n, c, h => by
    unfold stS
    split
    · exact Yq_fgN (Yq_stS a _ _ _ c h) h.1
    · exact Yq_stS b _ _ _ _ (Yq_stS a _ _ _ c h)
    · exact Yq_ymk h
    · exact h
    · exact h
    · exact h
    · exact Yq_slb (Yq_stS b _ _ _ _ (Yq_nlb h))
    · exact Yq_stS b _ _ _ _ (Yq_nlb h)
    · exact Yq_slb (Yq_stS b _ _ _ _ (Yq_slb (Yq_nlb (Yq_nlb h))))
    · exact Yq_slb (Yq_stS b _ _ _ _ (Yq_wW b _ _ (Yq_slb (Yq_stS a _ _ _ _ (Yq_nlb (Yq_nlb h))))))
    · exact Yq_stS b _ _ _ _ (Yq_stS a _ _ _ _ (Yq_slb h))
    · exact h
    · exact h
    · exact h
    · exact Yq_slb (Yq_stS b _ _ _ _ (Yq_slb (Yq_nlb (Yq_stS a _ _ _ _ h))))
    · exact h
  | .nil, _, _, _, _, h => h
  | .line, _, _, _, _, h => h
  | .align _, _, _, _, _, h => h
  | .text _, _, _, _, _, h => h
  | .append _ _, _, _, _, _, h => h
  | .group _ _, _, _, _, _, h => h
  | .nest _ _, _, _, _, _, h => h
  | .tag _ .nil, _, _, _, _, h => h
  | .tag _ .line, _, _, _, _, h => h
  | .tag _ (.align _), _, _, _, _, h => h
  | .tag _ (.text _), _, _, _, _, h => h
  | .tag _ (.append _ _), _, _, _, _, h => h
  | .tag _ (.group _ _), _, _, _, _, h => h
  | .tag _ (.tag _ _), _, _, _, _, h => h
  | .tag _ (.nest _ .nil), _, _, _, _, h => h
  | .tag _ (.nest _ .line), _, _, _, _, h => h
  | .tag _ (.nest _ (.align _)), _, _, _, _, h => h
  | .tag _ (.nest _ (.text _)), _, _, _, _, h => h
  | .tag _ (.nest _ (.nest _ _)), _, _, _, _, h => h
  | .tag _ (.nest _ (.group _ _)), _, _, _, _, h => h
  | .tag _ (.nest _ (.tag _ _)), _, _, _, _, h => h
theorem Yq_prF {m : Mem} : ∀ (t : xT) (c : zS), Yq c.2 → Yq (prF m t c).2
  | .tag k (.nest i (.append a b)), c, h => by
    unfold prF
    split
    · exact Yq_ymk h
    · exact Yq_prF b _ (Yq_ymk h)
  | .nil, _, h => h
  | .line, _, h => h
  | .align _, _, h => h
  | .text _, _, h => h
  | .append _ _, _, h => h
  | .group _ _, _, h => h
  | .nest _ _, _, h => h
  | .tag _ .nil, _, h => h
  | .tag _ .line, _, h => h
  | .tag _ (.align _), _, h => h
  | .tag _ (.text _), _, h => h
  | .tag _ (.append _ _), _, h => h
  | .tag _ (.group _ _), _, h => h
  | .tag _ (.tag _ _), _, h => h
  | .tag _ (.nest _ .nil), _, h => h
  | .tag _ (.nest _ .line), _, h => h
  | .tag _ (.nest _ (.align _)), _, h => h
  | .tag _ (.nest _ (.text _)), _, h => h
  | .tag _ (.nest _ (.nest _ _)), _, h => h
  | .tag _ (.nest _ (.group _ _)), _, h => h
  | .tag _ (.nest _ (.tag _ _)), _, h => h
theorem Yq_xPr {cd : Nat} {m : Mem} {K V : Int → Int} {a : xT} {p q : Int} {s : xSt} {y : yS} (h : PH K V a p q) : Yq (xPr cd m a s y).2.1 ∧ (xPr cd m a s y).2.1.2.1 = 0 := by
  obtain ⟨i, pa, i2, ra, bk, rfl, -⟩ := inv_H h
  have h1 : Yq (p1 m i pa s y).2 := by
    unfold p1
    split
    · exact ⟨Int.le_refl 0, Int.le_refl 0, by show (0 : Int) ≤ 1600; decide⟩
    · exact Yq_prF pa _ ⟨Int.le_refl 0, Int.le_refl 0, by show (0 : Int) ≤ 1600; decide⟩
  have h5 : Yq (p6 m (nln (p1 m i pa s y).2) (p5 m bk (p2 m i2 ra (p1 m i pa s y).1) (p1 m i pa s y).2)).2 := Yq_slb (Yq_stS bk _ _ _ _ (Yq_nlb h1))
  show Yq (p7 m _) ∧ (p7 m _).2.1 = 0
  generalize (p6 m (nln (p1 m i pa s y).2) (p5 m bk (p2 m i2 ra (p1 m i pa s y).1) (p1 m i pa s y).2)).2 = y6 at *
  unfold p7
  refine ⟨⟨?_, by rw [fgN_m]; exact h5.2.1, by rw [fgN_m]; exact h5.2.2⟩, ?_⟩
  · rw [(fgN_n _ _).2]; have := h5.1; omega
  · rw [(fgN_n _ _).2]; have := h5.1; omega
theorem Yq_xTo {cd : Nat} : ∀ (k : Nat) (t : xT), tsz t < k → ∀ (K V : Int → Int) (p q : Int) (c : wS), PT K V t p q → Yq c.2.1 → c.2.1.2.1 = 0 → Yq (xTo cd t c).2.1 ∧ (xTo cd t c).2.1.2.1 = 0
  | 0, _, h => absurd h (Nat.not_lt_zero _)
  | k + 1, t, ht => by
    intro K V p q c h hs h0
    rcases inv_T h with ⟨i, a, b, rfl, g1, g2⟩ | ⟨a, b, rfl, g1, g2, g3, g4⟩ | ⟨a, b, rfl, g1, g2, g3, g4, g5, g6, g7⟩ | ⟨a, b, rfl, g1, r, g2, g3, g4⟩ | ⟨a, b, rfl, g1, g2, g3, r, g4, g5⟩
    · exact ⟨hs, h0⟩
    · rw [tsz_nd] at ht
      exact Yq_xTo k b (by omega) K V _ _ c g4 hs h0
    · rw [tsz_nd] at ht
      exact Yq_xTo k b (by omega) K V _ _ c g7 hs h0
    · rw [tsz_nd] at ht
      exact Yq_xTo k b (by omega) K V _ _ c g4 hs h0
    · rw [tsz_nd] at ht
      obtain ⟨x1, x2⟩ := Yq_xPr (cd := cd) (m := c.2.2.2) (s := c.1) (y := c.2.1) g4
      exact Yq_xTo k b (by omega) K V _ _ _ g5 x1 x2
