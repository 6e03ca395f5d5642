/-! THE CLASS: every label stands in the end, whole -/
section Sto
variable {mc : Mem} {V : Int → Int}
theorem prF_y {K : Int → Int} : ∀ (k : Nat) (t : xT), tsz t < k → ∀ (p q : Int), PN K t p q → ∀ c : zS, (prF mc t c).2.1 = c.2.1 := by
  intro k
  induction k with
  | zero => intro t ht; exact absurd ht (Nat.not_lt_zero _)
  | succ k ih =>
    intro t ht p q h c
    have ey : (ymk mc p c.2).1 = c.2.1 := by unfold ymk; split <;> rfl
    rcases inv_N h with ⟨a, b, rfl, g1, g2, g3⟩ | ⟨a, b, rfl, g1, g2, g3⟩
    · exact ey
    · rw [tsz_nd] at ht
      exact (ih b (by omega) _ _ g3 (tlS mc p c.2 c.1, ymk mc p c.2)).trans ey
theorem St_xPr {cd : Nat} {a : xT} {p r : Int} {s : xSt} {y : yS} (hP : PH (kd mc) V a (p + 3) r) (hlen : (y.1.length : Int) + 2 * (r - p) < 2990) : LB (2 * (r - p)) y (xPr cd mc a s y).2.1 := by
  have hph := PH_lt hP
  obtain ⟨i, pa, i2, ra, bk, rfl, r1, s1, g1, g2, g3, g4⟩ := inv_H hP
  have l1 : p + 3 ≤ r1 := by
    rcases g1 with ⟨_, _, g⟩ | ⟨_, _, g⟩
    · omega
    · have := PN_n pa g
      omega
  have l2 : r1 + 1 ≤ s1 := by
    rcases g3 with ⟨_, _, g⟩ | ⟨_, _, g⟩
    · omega
    · have := PN_n ra g
      omega
  have l4 := P_le bk g4
  have e1 : (p1 mc i pa s y).2.1 = y.1 := by
    unfold p1
    split
    · rfl
    · rcases g1 with ⟨g, _⟩ | ⟨_, _, g⟩
      · contradiction
      · exact prF_y (tsz pa + 1) pa (by omega) _ _ g _
  show LB (2 * (r - p)) y (p7 mc (p6 mc (nln (p1 mc i pa s y).2) (p5 mc bk (p2 mc i2 ra (p1 mc i pa s y).1) (p1 mc i pa s y).2)).2)
  generalize p2 mc i2 ra (p1 mc i pa s y).1 = s2
  generalize (p1 mc i pa s y).2 = y1 at *
  have hl3 : y1.1.length < 3000 := by rw [e1]; omega
  have hl1 : y1.1.length = y.1.length := by rw [e1]
  have en := nln_1 hl3
  have hy1 : (nlb y1).1.length = y1.1.length + 1 := by rw [nlb_1 hl3, List.length_append, List.length_replicate]
  have A0 : LBX (fun _ => False) 0 y y1 := LBX_rf (Int.le_refl _) e1
  have A1 := LBX_app (y := y1) (y1 := nlb y1) (c := 1) (by rw [nlb_1 hl3])
  have B := (St_all (mc := mc) (V := V) (tsz bk + 1) bk (by omega) 8 0 s1 r (by decide) (by decide) g4 (nln y1) 0 0 (em 0 (mc 68 4) (-1) s2, nlb y1) (by show ((nlb y1).1.length : Int) + 2 * (r - s1) < 2990; omega) (fun z => absurd z (by decide)) (fun z => absurd z (by decide))).1
  have e5 : p5 mc bk s2 y1 = stS mc bk (nln y1) 0 0 (em 0 (mc 68 4) (-1) s2, nlb y1) := rfl
  rw [e5]
  generalize stS mc bk (nln y1) 0 0 (em 0 (mc 68 4) (-1) s2, nlb y1) = c5 at *
  have hB : (nlb y1).1.length ≤ c5.2.1.length := B.1
  have D := LBX_slb (l := nln y1) (v := ((em 22 (mc 68 4) (-1) (em 1 0 (-1) c5.1)).1.length : Int)) (LBX_tr (LBX_tr A0 A1) B) (by omega) (by omega) (by omega)
  have e6 : (p6 mc (nln y1) c5).2 = slb (nln y1) ((em 22 (mc 68 4) (-1) (em 1 0 (-1) c5.1)).1.length : Int) c5.2 := rfl
  rw [e6]
  generalize slb (nln y1) ((em 22 (mc 68 4) (-1) (em 1 0 (-1) c5.1)).1.length : Int) c5.2 = y6 at *
  have fg : (p7 mc y6).1 = y6.1 := (fgN_n (m := mc) y6.2.1.toNat y6).1
  refine LBX_rm (LBX_tr D (LBX_rf (X := fun _ => False) (n := 0) (Int.le_refl _) fg)) (by show 0 + 1 + 2 * (r - s1) + 0 ≤ 2 * (r - p); omega) (fun k z => ?_)
  rcases z with ⟨z1, z2⟩ | z
  · rw [en] at z2
    rcases z1 with (z1 | z1) | z1
    · exact Or.inl z1
    · omega
    · exact Or.inl z1
  · exact Or.inl z
theorem St_xTo {cd : Nat} (hc : cd = 83 ∨ cd = 93) {e : Int} : ∀ (k : Nat) (t : xT), tsz t < k → ∀ (p : Int) (c : wS), PT (kd c.2.2.2) V t p e → (c.2.1.1.length : Int) + 2 * (e - p) < 2990 → LB (2 * (e - p)) c.2.1 (xTo cd t c).2.1 := by
  intro k
  induction k with
  | zero => intro t ht; exact absurd ht (Nat.not_lt_zero _)
  | succ k ih =>
    intro t ht p c h hl
    have l0 := PT_le (tsz t + 1) t (by omega) _ _ h
    rcases inv_T h with ⟨i, a, b, rfl, g1, g2⟩ | ⟨a, b, rfl, g1, g2, g3, g4⟩ | ⟨a, b, rfl, g1, g2, g3, g4, g5, g6, g7⟩ | ⟨a, b, rfl, g1, r, g2, g3, g4⟩ | ⟨a, b, rfl, g1, g2, g3, r, g4, g5⟩
    · exact LBX_rf (by omega) rfl
    · rw [tsz_nd] at ht
      exact LBX_rm (ih b (by omega) _ c g4 (by omega)) (by omega) (fun k z => Or.inl z)
    · rw [tsz_nd] at ht
      exact LBX_rm (ih b (by omega) _ c g7 (by omega)) (by omega) (fun k z => Or.inl z)
    · rw [tsz_nd] at ht
      have := PN_n a g2
      exact LBX_rm (ih b (by omega) _ c g4 (by omega)) (by omega) (fun k z => Or.inl z)
    · rw [tsz_nd] at ht
      have hph := PH_lt g4
      have hle := PT_le (tsz b + 1) b (by omega) _ _ g5
      have A := St_xPr (cd := cd) (s := c.1) (y := c.2.1) g4 (by omega)
      have hA := A.2.1
      have K := Kp_xPr (cd := cd) hc (m := c.2.2.2) (s := c.1) (y := c.2.1) g4
      have B := ih b (by omega) r (xPr cd c.2.2.2 a c.1 c.2.1) (by rw [Kp_kd K]; exact g5) (by omega)
      exact LBX_rm (LBX_tr A B) (by omega) (fun k z => Or.inl (z.elim id id))
end Sto
