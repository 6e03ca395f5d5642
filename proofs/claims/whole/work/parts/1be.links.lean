/-! THE CLASS: links are labels or -1 -/
def LkG (s : xSt) : Prop := ∀ k, k < s.1.length → -1 ≤ (s.1.getD k (0, 0, 0)).2.2
theorem LkG_em {o a l : Int} {s : xSt} (h : LkG s) (hl : -1 ≤ l) : LkG (em o a l s) := by
  intro k hk
  by_cases h3 : s.1.length < 3000
  · have q0 := getD_ap (l := s.1) (x := (o, a, l)) (k := k) h3
    have hk : k < (ap s.1 (o, a, l)).length := hk
    show -1 ≤ ((ap s.1 (o, a, l)).getD k (0, 0, 0)).2.2
    rw [q0.1] at hk
    by_cases h4 : k = s.1.length
    · rw [q0.2.2 h4]; exact hl
    · rw [q0.2.1 (by omega)]; exact h k (by omega)
  · have e1 : (em o a l s).1 = s.1 := if_neg h3
    rw [e1] at hk ⊢
    exact h k hk
theorem LkG_us {mc : Mem} {i k : Int} {s : xSt} (h : LkG s) : LkG (us mc i k s) := by
  unfold LkG
  rw [us_1.1]
  exact h
theorem LkG_dup {mc : Mem} {i : Int} {w : List Int} {s : xSt} (h : LkG s) : LkG (dupB mc i w s) := by
  unfold LkG
  rw [dupB_1.1]
  exact h
theorem LkG_tl {mc : Mem} {i : Int} {y : yS} {s : xSt} (h : LkG s) : LkG (tlS mc i y s) := by
  unfold tlS
  generalize (if idT mc i < 0 ∨ mc 57 4 ≤ idT mc i then (-1 : Int) else y.2.2.1 (idT mc i).toNat) = w
  split
  · exact h
  · exact h
theorem nln_g {y : yS} : -1 ≤ nln y := by
  unfold nln
  split <;> omega
theorem LkG_xE {mc : Mem} (h5 : -1 ≤ mc 68 5) : ∀ (t : xT) (s : xSt), LkG s → LkG (xE mc t s)
  | .tag k (.nest i (.append a b)), s, h => by
    have ha := LkG_xE (mc := mc) h5 a
    have hb := LkG_xE (mc := mc) h5 b
    have hn : (-1 : Int) ≤ -1 := Int.le_refl _
    have hc : ∀ (i k : Int) (s1 : xSt), LkG s1 → LkG (cl mc i k s1) := fun i k s1 g => g
    unfold xE
    split
    · exact ha s h
    · exact LkG_em (hb _ (ha s h)) hn
    · exact hb _ (ha s h)
    · exact hb _ (LkG_em (ha s h) h5)
    · exact h
    · exact hb _ (ha s h)
    · exact hb _ (LkG_em (ha s h) h5)
    · exact h
    · exact LkG_em (ha s h) h5
    · exact ha s h
    · exact LkG_em h hn
    · exact LkG_em h h5
    · split
      · exact LkG_em (LkG_us h) hn
      · exact LkG_em h hn
    · exact LkG_em (ha _ (LkG_us h)) h5
    · exact LkG_em (hc _ _ _ (ha _ (LkG_us h))) h5
    · exact h
    · exact hb _ (ha s h)
    · exact hb _ (ha s h)
    · exact h
  | .nil, _, h => h
  | .line, _, h => h
  | .align _, _, h => h
  | .text _, _, h => h
  | .append _ _, _, h => h
  | .group _ _, _, h => h
  | .nest _ _, _, h => h
  | .tag _ .nil, _, h => h
  | .tag _ .line, _, h => h
  | .tag _ (.align _), _, h => h
  | .tag _ (.text _), _, h => h
  | .tag _ (.append _ _), _, h => h
  | .tag _ (.group _ _), _, h => h
  | .tag _ (.tag _ _), _, h => h
  | .tag _ (.nest _ .nil), _, h => h
  | .tag _ (.nest _ .line), _, h => h
  | .tag _ (.nest _ (.align _)), _, h => h
  | .tag _ (.nest _ (.text _)), _, h => h
  | .tag _ (.nest _ (.nest _ _)), _, h => h
  | .tag _ (.nest _ (.group _ _)), _, h => h
  | .tag _ (.nest _ (.tag _ _)), _, h => h
theorem LkG_wW {mc : Mem} : ∀ (t : xT) (w : List Int) (c : zS), LkG c.1 → LkG (wW mc t w c).1
  | .tag k (.nest i (.append a b)), w, c, h => by
    unfold wW
    split
    · exact LkG_wW b _ _ (LkG_dup (LkG_em (LkG_us h) nln_g))
    · exact h
  | .nil, _, _, h => h
  | .line, _, _, h => h
  | .align _, _, _, h => h
  | .text _, _, _, h => h
  | .append _ _, _, _, h => h
  | .group _ _, _, _, h => h
  | .nest _ _, _, _, h => h
  | .tag _ .nil, _, _, h => h
  | .tag _ .line, _, _, h => h
  | .tag _ (.align _), _, _, h => h
  | .tag _ (.text _), _, _, h => h
  | .tag _ (.append _ _), _, _, h => h
  | .tag _ (.group _ _), _, _, h => h
  | .tag _ (.tag _ _), _, _, h => h
  | .tag _ (.nest _ .nil), _, _, h => h
  | .tag _ (.nest _ .line), _, _, h => h
  | .tag _ (.nest _ (.align _)), _, _, h => h
  | .tag _ (.nest _ (.text _)), _, _, h => h
  | .tag _ (.nest _ (.nest _ _)), _, _, h => h
  | .tag _ (.nest _ (.group _ _)), _, _, h => h
  | .tag _ (.nest _ (.tag _ _)), _, _, h => h
theorem LkG_stS {mc : Mem} : ∀ (t : xT) (H l n : Int) (c : zS), -1 ≤ H → -1 ≤ l → LkG c.1 → LkG (stS mc t H l n c).1
  | .tag k (.nest i (.append a b)), H, l, n, c, hH, hl, h => by
    have hn : (-1 : Int) ≤ -1 := Int.le_refl _
    have h0 : (-1 : Int) ≤ 0 := by decide
    have x : ∀ (y : yS) (t : xT) (s : xSt), LkG s → LkG (xE (sww H y mc) t s) := fun y t s g => LkG_xE (mc := sww H y mc) hH t s g
    have hc : ∀ (i k : Int) (s1 : xSt), LkG s1 → LkG (cl mc i k s1) := fun i k s1 g => g
    unfold stS
    split
    · exact LkG_stS a _ _ _ c hH h0 h
    · exact LkG_stS b _ _ _ _ hH h0 (LkG_stS a _ _ _ c hH h0 h)
    · exact LkG_tl (LkG_em (x _ a _ h) hn)
    · exact LkG_em (LkG_em (hc _ _ _ (x _ a _ (LkG_us h))) hH) hn
    · show LkG (if _ then _ else _)
      split
      · exact LkG_em (LkG_us (x _ a _ h)) hn
      · exact LkG_em (x _ a _ h) hn
    · exact LkG_em (x _ b _ (x _ a _ (LkG_us h))) hH
    · exact LkG_stS b _ _ _ _ hH h0 (LkG_em (x _ a _ h) nln_g)
    · exact LkG_stS b _ _ _ _ hH nln_g (LkG_em (x _ a _ h) nln_g)
    · exact LkG_em (LkG_stS b _ _ _ _ hH h0 (LkG_em (x _ a _ h) nln_g)) nln_g
    · exact LkG_stS b _ _ _ _ hH nln_g (LkG_em (LkG_wW b _ _ (LkG_em (LkG_em (LkG_stS a _ _ _ _ nln_g h0 h) nln_g) hn)) hH)
    · exact LkG_stS b _ _ _ _ hH hl (LkG_em (LkG_stS a _ _ _ _ hH h0 h) hl)
    · exact LkG_em (LkG_us h) hH
    · exact LkG_em (x _ a _ h) hn
    · exact LkG_em (x _ a _ h) hn
    · exact LkG_stS b _ _ _ _ hH h0 (LkG_em (LkG_stS a _ _ _ _ hH h0 h) nln_g)
    · exact h
  | .nil, _, _, _, _, _, _, h => h
  | .line, _, _, _, _, _, _, h => h
  | .align _, _, _, _, _, _, _, h => h
  | .text _, _, _, _, _, _, _, h => h
  | .append _ _, _, _, _, _, _, _, h => h
  | .group _ _, _, _, _, _, _, _, h => h
  | .nest _ _, _, _, _, _, _, _, h => h
  | .tag _ .nil, _, _, _, _, _, _, h => h
  | .tag _ .line, _, _, _, _, _, _, h => h
  | .tag _ (.align _), _, _, _, _, _, _, h => h
  | .tag _ (.text _), _, _, _, _, _, _, h => h
  | .tag _ (.append _ _), _, _, _, _, _, _, h => h
  | .tag _ (.group _ _), _, _, _, _, _, _, h => h
  | .tag _ (.tag _ _), _, _, _, _, _, _, h => h
  | .tag _ (.nest _ .nil), _, _, _, _, _, _, h => h
  | .tag _ (.nest _ .line), _, _, _, _, _, _, h => h
  | .tag _ (.nest _ (.align _)), _, _, _, _, _, _, h => h
  | .tag _ (.nest _ (.text _)), _, _, _, _, _, _, h => h
  | .tag _ (.nest _ (.nest _ _)), _, _, _, _, _, _, h => h
  | .tag _ (.nest _ (.group _ _)), _, _, _, _, _, _, h => h
  | .tag _ (.nest _ (.tag _ _)), _, _, _, _, _, _, h => h
theorem LkG_prF {mc : Mem} {K : Int → Int} : ∀ (k : Nat) (t : xT), tsz t < k → ∀ (p q : Int), PN K t p q → ∀ c : zS, LkG c.1 → LkG (prF mc t c).1 := by
  intro k
  induction k with
  | zero => intro t ht; exact absurd ht (Nat.not_lt_zero _)
  | succ k ih =>
    intro t ht p q h c hc
    rcases inv_N h with ⟨a, b, rfl, g1, g2, g3⟩ | ⟨a, b, rfl, g1, g2, g3⟩
    · exact LkG_tl hc
    · rw [tsz_nd] at ht
      exact ih b (by omega) _ _ g3 _ (LkG_tl hc)
theorem LkG_rsF {mc : Mem} {f : Int} {K : Int → Int} : ∀ (k : Nat) (t : xT), tsz t < k → ∀ (p q : Int), PN K t p q → ∀ (n : Nat) (s : xSt), LkG s → LkG (rsF mc f t n s) := by
  intro k
  induction k with
  | zero => intro t ht; exact absurd ht (Nat.not_lt_zero _)
  | succ k ih =>
    intro t ht p q h n s hs
    rcases inv_N h with ⟨a, b, rfl, g1, g2, g3⟩ | ⟨a, b, rfl, g1, g2, g3⟩
    · exact LkG_dup (LkG_us hs)
    · rw [tsz_nd] at ht
      exact ih b (by omega) _ _ g3 _ _ (LkG_dup (LkG_us hs))
theorem LkG_xPr {cd : Nat} {mc : Mem} {K V : Int → Int} {a : xT} {p r : Int} {s : xSt} {y : yS} (hP : PH K V a p r) (h : LkG s) : LkG (xPr cd mc a s y).1 := by
  obtain ⟨i, pa, i2, ra, bk, rfl, r1, s1, g1, g2, g3, g4⟩ := inv_H hP
  have hn : (-1 : Int) ≤ -1 := Int.le_refl _
  have b1 : LkG (p1 mc i pa s y).1 := by
    unfold p1
    split
    · exact h
    · rcases g1 with ⟨g, _⟩ | ⟨_, _, g⟩
      · contradiction
      · exact LkG_prF (tsz pa + 1) pa (by omega) _ _ g _ h
  have b2 : LkG (p2 mc i2 ra (p1 mc i pa s y).1) := by
    unfold p2
    split
    · exact b1
    · rcases g3 with ⟨g, _⟩ | ⟨_, _, g⟩
      · contradiction
      · exact LkG_rsF (tsz ra + 1) ra (by omega) _ _ g 0 _ b1
  have b5 : LkG (p5 mc bk (p2 mc i2 ra (p1 mc i pa s y).1) (p1 mc i pa s y).2).1 := LkG_stS bk _ 0 0 (em 0 (mc 68 4) (-1) (p2 mc i2 ra (p1 mc i pa s y).1), nlb (p1 mc i pa s y).2) nln_g (by decide) (LkG_em b2 hn)
  exact LkG_em (LkG_em (LkG_em b5 hn) hn) hn
theorem LkG_xTo {cd : Nat} {K V : Int → Int} {e : Int} : ∀ (k : Nat) (t : xT), tsz t < k → ∀ (p : Int) (c : wS), PT K V t p e → LkG c.1 → LkG (xTo cd t c).1 := by
  intro k
  induction k with
  | zero => intro t ht; exact absurd ht (Nat.not_lt_zero _)
  | succ k ih =>
    intro t ht p c h hc
    rcases inv_T h with ⟨i, a, b, rfl, g1, g2⟩ | ⟨a, b, rfl, g1, g2, g3, g4⟩ | ⟨a, b, rfl, g1, g2, g3, g4, g5, g6, g7⟩ | ⟨a, b, rfl, g1, r, g2, g3, g4⟩ | ⟨a, b, rfl, g1, g2, g3, r, g4, g5⟩
    · exact hc
    · rw [tsz_nd] at ht
      exact ih b (by omega) _ c g4 hc
    · rw [tsz_nd] at ht
      exact ih b (by omega) _ c g7 hc
    · rw [tsz_nd] at ht
      exact ih b (by omega) _ c g4 hc
    · rw [tsz_nd] at ht
      exact ih b (by omega) _ _ g5 (LkG_xPr g4 hc)
