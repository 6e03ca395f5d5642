/-! WHAT ALL MAKING KEEPS: Q of the orders and faults, if each order, blame and call keeps it -/
def Qk (m : Mem) (Q : xSt → Prop) : Prop := (∀ o a l s, Q s → Q (em o a l s)) ∧ (∀ i s, Q s → Q (bl m i s)) ∧ (∀ i n s, Q s → Q (cl m i n s))
theorem Qk_us {m : Mem} {Q : xSt → Prop} (K : Qk m Q) {i k : Int} {s : xSt} (h : Q s) : Q (us m i k s) := by
  unfold us
  split
  · exact h
  · exact K.2.1 i s h
theorem Qk_dup {m : Mem} {Q : xSt → Prop} (K : Qk m Q) {i : Int} : ∀ (l : List Int) (s : xSt), Q s → Q (dupB m i l s)
  | [], _, h => h
  | j :: l, s, h => by
    show Q (dupB m i l (if idT m j = idT m i then bl m i s else s))
    apply Qk_dup K l
    split
    · exact K.2.1 i s h
    · exact h
theorem xE_inv {m : Mem} {Q : xSt → Prop} (K : Qk m Q) : ∀ (t : xT) (s : xSt), Q s → Q (xE m t s)
  | .tag k (.nest i (.append a b)), s, h => by
    unfold xE
    split
    · exact xE_inv K a s h
    · exact K.1 _ _ _ _ (xE_inv K b _ (xE_inv K a s h))
    · exact xE_inv K b _ (xE_inv K a s h)
    · exact xE_inv K b _ (K.1 _ _ _ _ (xE_inv K a s h))
    · exact h
    · exact xE_inv K b _ (xE_inv K a s h)
    · exact xE_inv K b _ (K.1 _ _ _ _ (xE_inv K a s h))
    · exact h
    · exact K.1 _ _ _ _ (xE_inv K a s h)
    · exact xE_inv K a s h
    · exact K.1 _ _ _ _ h
    · exact K.1 _ _ _ _ h
    · split
      · exact K.1 _ _ _ _ (Qk_us K h)
      · exact K.1 _ _ _ _ h
    · exact K.1 _ _ _ _ (xE_inv K a _ (Qk_us K h))
    · exact K.1 _ _ _ _ (K.2.2 _ _ _ (xE_inv K a _ (Qk_us K h)))
    · exact h
    · exact xE_inv K b _ (xE_inv K a s h)
    · exact xE_inv K b _ (xE_inv K a s h)
    · exact h
  | .nil, _, h => h
  | .line, _, h => h
  | .align _, _, h => h
  | .text _, _, h => h
  | .append _ _, _, h => h
  | .group _ _, _, h => h
  | .nest _ _, _, h => h
  | .tag _ .nil, _, h => h
  | .tag _ .line, _, h => h
  | .tag _ (.align _), _, h => h
  | .tag _ (.text _), _, h => h
  | .tag _ (.append _ _), _, h => h
  | .tag _ (.group _ _), _, h => h
  | .tag _ (.tag _ _), _, h => h
  | .tag _ (.nest _ .nil), _, h => h
  | .tag _ (.nest _ .line), _, h => h
  | .tag _ (.nest _ (.align _)), _, h => h
  | .tag _ (.nest _ (.text _)), _, h => h
  | .tag _ (.nest _ (.nest _ _)), _, h => h
  | .tag _ (.nest _ (.group _ _)), _, h => h
  | .tag _ (.nest _ (.tag _ _)), _, h => h
theorem Qk_sw {m : Mem} {Q : xSt → Prop} (K : Qk m Q) {H : Int} {y : yS} : Qk (sww H y m) Q := K
theorem tlS_inv {m : Mem} {Q : xSt → Prop} (K : Qk m Q) {i : Int} {y : yS} {s : xSt} (h : Q s) : Q (tlS m i y s) := by
  unfold tlS
  generalize (if idT m i < 0 ∨ m 57 4 ≤ idT m i then (-1 : Int) else y.2.2.1 (idT m i).toNat) = w
  split
  · exact h
  · exact K.2.1 _ _ h
theorem wW_inv {m : Mem} {Q : xSt → Prop} (K : Qk m Q) : ∀ (t : xT) (w : List Int) (c : zS), Q c.1 → Q (wW m t w c).1
  | .tag k (.nest i (.append a b)), w, c, h => by
    unfold wW
    split
    · exact wW_inv K b _ _ (Qk_dup K w _ (K.1 _ _ _ _ (Qk_us K h)))
    · exact h
  | .nil, _, _, h => h
  | .line, _, _, h => h
  | .align _, _, _, h => h
  | .text _, _, _, h => h
  | .append _ _, _, _, h => h
  | .group _ _, _, _, h => h
  | .nest _ _, _, _, h => h
  | .tag _ .nil, _, _, h => h
  | .tag _ .line, _, _, h => h
  | .tag _ (.align _), _, _, h => h
  | .tag _ (.text _), _, _, h => h
  | .tag _ (.append _ _), _, _, h => h
  | .tag _ (.group _ _), _, _, h => h
  | .tag _ (.tag _ _), _, _, h => h
  | .tag _ (.nest _ .nil), _, _, h => h
  | .tag _ (.nest _ .line), _, _, h => h
  | .tag _ (.nest _ (.align _)), _, _, h => h
  | .tag _ (.nest _ (.text _)), _, _, h => h
  | .tag _ (.nest _ (.nest _ _)), _, _, h => h
  | .tag _ (.nest _ (.group _ _)), _, _, h => h
  | .tag _ (.nest _ (.tag _ _)), _, _, h => h
theorem stS_inv {m : Mem} {Q : xSt → Prop} (K : Qk m Q) : ∀ (t : xT) (H l n : Int) (c : zS), Q c.1 → Q (stS m t H l n c).1
  | .tag k (.nest i (.append a b)), H, l, n, c, h => by
    unfold stS
    split
    · exact stS_inv K a _ _ _ c h
    · exact stS_inv K b _ _ _ _ (stS_inv K a _ _ _ c h)
    · exact tlS_inv K (K.1 _ _ _ _ (xE_inv (Qk_sw K) a _ h))
    · exact K.1 _ _ _ _ (K.1 _ _ _ _ (K.2.2 _ _ _ (xE_inv (Qk_sw K) a _ (Qk_us K h))))
    · show Q (if _ then _ else _)
      split
      · exact K.1 _ _ _ _ (Qk_us K (xE_inv (Qk_sw K) a _ h))
      · exact K.1 _ _ _ _ (xE_inv (Qk_sw K) a _ h)
    · exact K.1 _ _ _ _ (xE_inv (Qk_sw K) b _ (xE_inv (Qk_sw K) a _ (Qk_us K h)))
    · exact stS_inv K b _ _ _ _ (K.1 _ _ _ _ (xE_inv (Qk_sw K) a _ h))
    · exact stS_inv K b _ _ _ _ (K.1 _ _ _ _ (xE_inv (Qk_sw K) a _ h))
    · exact K.1 _ _ _ _ (stS_inv K b _ _ _ _ (K.1 _ _ _ _ (xE_inv (Qk_sw K) a _ h)))
    · exact stS_inv K b _ _ _ _ (K.1 _ _ _ _ (wW_inv K b _ _ (K.1 _ _ _ _ (K.1 _ _ _ _ (stS_inv K a _ _ _ _ h)))))
    · exact stS_inv K b _ _ _ _ (K.1 _ _ _ _ (stS_inv K a _ _ _ _ h))
    · exact K.1 _ _ _ _ (Qk_us K h)
    · exact K.1 _ _ _ _ (xE_inv (Qk_sw K) a _ h)
    · exact K.1 _ _ _ _ (xE_inv (Qk_sw K) a _ h)
    · exact stS_inv K b _ _ _ _ (K.1 _ _ _ _ (stS_inv K a _ _ _ _ h))
    · exact h
  | .nil, _, _, _, _, h => h
  | .line, _, _, _, _, h => h
  | .align _, _, _, _, _, h => h
  | .text _, _, _, _, _, h => h
  | .append _ _, _, _, _, _, h => h
  | .group _ _, _, _, _, _, h => h
  | .nest _ _, _, _, _, _, h => h
  | .tag _ .nil, _, _, _, _, h => h
  | .tag _ .line, _, _, _, _, h => h
  | .tag _ (.align _), _, _, _, _, h => h
  | .tag _ (.text _), _, _, _, _, h => h
  | .tag _ (.append _ _), _, _, _, _, h => h
  | .tag _ (.group _ _), _, _, _, _, h => h
  | .tag _ (.tag _ _), _, _, _, _, h => h
  | .tag _ (.nest _ .nil), _, _, _, _, h => h
  | .tag _ (.nest _ .line), _, _, _, _, h => h
  | .tag _ (.nest _ (.align _)), _, _, _, _, h => h
  | .tag _ (.nest _ (.text _)), _, _, _, _, h => h
  | .tag _ (.nest _ (.nest _ _)), _, _, _, _, h => h
  | .tag _ (.nest _ (.group _ _)), _, _, _, _, h => h
  | .tag _ (.nest _ (.tag _ _)), _, _, _, _, h => h
theorem prF_inv {m : Mem} {Q : xSt → Prop} (K : Qk m Q) : ∀ (t : xT) (c : zS), Q c.1 → Q (prF m t c).1
  | .tag k (.nest i (.append a b)), c, h => by
    unfold prF
    split
    · exact tlS_inv K h
    · exact prF_inv K b _ (tlS_inv K h)
  | .nil, _, h => h
  | .line, _, h => h
  | .align _, _, h => h
  | .text _, _, h => h
  | .append _ _, _, h => h
  | .group _ _, _, h => h
  | .nest _ _, _, h => h
  | .tag _ .nil, _, h => h
  | .tag _ .line, _, h => h
  | .tag _ (.align _), _, h => h
  | .tag _ (.text _), _, h => h
  | .tag _ (.append _ _), _, h => h
  | .tag _ (.group _ _), _, h => h
  | .tag _ (.tag _ _), _, h => h
  | .tag _ (.nest _ .nil), _, h => h
  | .tag _ (.nest _ .line), _, h => h
  | .tag _ (.nest _ (.align _)), _, h => h
  | .tag _ (.nest _ (.text _)), _, h => h
  | .tag _ (.nest _ (.nest _ _)), _, h => h
  | .tag _ (.nest _ (.group _ _)), _, h => h
  | .tag _ (.nest _ (.tag _ _)), _, h => h
theorem rsF_inv {m : Mem} {Q : xSt → Prop} (K : Qk m Q) {f : Int} : ∀ (t : xT) (n : Nat) (s : xSt), Q s → Q (rsF m f t n s)
  | .tag k (.nest i (.append a b)), n, s, h => by
    unfold rsF
    split
    · exact Qk_dup K _ _ (Qk_us K h)
    · exact rsF_inv K b _ _ (Qk_dup K _ _ (Qk_us K h))
  | .nil, _, _, h => h
  | .line, _, _, h => h
  | .align _, _, _, h => h
  | .text _, _, _, h => h
  | .append _ _, _, _, h => h
  | .group _ _, _, _, h => h
  | .nest _ _, _, _, h => h
  | .tag _ .nil, _, _, h => h
  | .tag _ .line, _, _, h => h
  | .tag _ (.align _), _, _, h => h
  | .tag _ (.text _), _, _, h => h
  | .tag _ (.append _ _), _, _, h => h
  | .tag _ (.group _ _), _, _, h => h
  | .tag _ (.tag _ _), _, _, h => h
  | .tag _ (.nest _ .nil), _, _, h => h
  | .tag _ (.nest _ .line), _, _, h => h
  | .tag _ (.nest _ (.align _)), _, _, h => h
  | .tag _ (.nest _ (.text _)), _, _, h => h
  | .tag _ (.nest _ (.nest _ _)), _, _, h => h
  | .tag _ (.nest _ (.group _ _)), _, _, h => h
  | .tag _ (.nest _ (.tag _ _)), _, _, h => h
/-- no more than 3000 orders -/
def Q3 (s : xSt) : Prop := s.1.length ≤ 3000
theorem Q3_k {m : Mem} : Qk m Q3 := by
  refine ⟨fun o a l s h => ?_, fun i s h => h, fun i n s h => h⟩
  show (ap s.1 (o, a, l)).length ≤ 3000
  unfold ap
  split
  · rw [List.length_append]
    show s.1.length + 1 ≤ 3000
    omega
  · exact h
theorem Q3_xPr {cd : Nat} {m : Mem} {K V : Int → Int} {a : xT} {p q : Int} {s : xSt} {y : yS} (h : PH K V a p q) (hs : Q3 s) : Q3 (xPr cd m a s y).1 := by
  obtain ⟨i, pa, i2, ra, bk, rfl, -⟩ := inv_H h
  have h1 : Q3 (p1 m i pa s y).1 := by
    unfold p1
    split
    · exact hs
    · exact prF_inv Q3_k pa _ hs
  have h2 : Q3 (p2 m i2 ra (p1 m i pa s y).1) := by
    unfold p2
    split
    · exact h1
    · exact rsF_inv Q3_k ra _ _ h1
  have K3 : Qk m Q3 := Q3_k
  exact K3.1 _ _ _ _ (K3.1 _ _ _ _ (K3.1 _ _ _ _ (stS_inv K3 bk _ _ _ _ (K3.1 _ _ _ _ h2))))
theorem Q3_xTo {cd : Nat} (hc : cd = 83 ∨ cd = 93) : ∀ (k : Nat) (t : xT), tsz t < k → ∀ (K V : Int → Int) (p q : Int) (c : wS), PT K V t p q → Q3 c.1 → Q3 (xTo cd t c).1
  | 0, _, h => absurd h (Nat.not_lt_zero _)
  | k + 1, t, ht => by
    intro K V p q c h hs
    rcases inv_T h with ⟨i, a, b, rfl, g1, g2⟩ | ⟨a, b, rfl, g1, g2, g3, g4⟩ | ⟨a, b, rfl, g1, g2, g3, g4, g5, g6, g7⟩ | ⟨a, b, rfl, g1, r, g2, g3, g4⟩ | ⟨a, b, rfl, g1, g2, g3, r, g4, g5⟩
    · exact hs
    · rw [tsz_nd] at ht
      exact Q3_xTo hc k b (by omega) K V _ _ c g4 hs
    · rw [tsz_nd] at ht
      exact Q3_xTo hc k b (by omega) K V _ _ c g7 hs
    · rw [tsz_nd] at ht
      exact Q3_xTo hc k b (by omega) K V _ _ c g4 hs
    · rw [tsz_nd] at ht
      exact Q3_xTo hc k b (by omega) K V _ _ _ g5 (Q3_xPr g4 hs)
