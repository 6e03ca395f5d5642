/-! THE CLASS: every label stands in the end -/
def LBX (X : Nat → Prop) (n : Int) (y y' : yS) : Prop := y.1.length ≤ y'.1.length ∧ (y'.1.length : Int) ≤ (y.1.length : Int) + n ∧ (∀ k, y.1.length ≤ k → k < y'.1.length → ¬ X k → y'.1.getD k 0 ≠ -1) ∧ (∀ k, k < y.1.length → y.1.getD k 0 ≠ -1 → y'.1.getD k 0 ≠ -1)
section Std
variable {X Z : Nat → Prop} {n a b : Int} {y y1 y2 : yS}
theorem LBX_rf (h : 0 ≤ n) (e : y1.1 = y.1) : LBX X n y y1 := by
  unfold LBX
  rw [e]
  exact ⟨Nat.le_refl _, by omega, fun k h1 h2 => by omega, fun k _ g => g⟩
theorem LBX_tr (h1 : LBX X a y y1) (h2 : LBX Z b y1 y2) : LBX (fun k => X k ∨ Z k) (a + b) y y2 := by
  obtain ⟨p1, p2, p3, p4⟩ := h1
  obtain ⟨q1, q2, q3, q4⟩ := h2
  refine ⟨by omega, by omega, fun k k1 k2 k3 => ?_, fun k k1 g => q4 k (by omega) (p4 k k1 g)⟩
  by_cases hk : k < y1.1.length
  · exact q4 k hk (p3 k k1 hk (fun z => k3 (Or.inl z)))
  · exact q3 k (by omega) k2 (fun z => k3 (Or.inr z))
theorem LBX_rm (h1 : LBX X a y y1) (hab : a ≤ b) (h : ∀ k, X k → Z k ∨ y1.1.getD k 0 ≠ -1) : LBX Z b y y1 := by
  obtain ⟨p1, p2, p3, p4⟩ := h1
  refine ⟨p1, by omega, fun k k1 k2 k3 => ?_, p4⟩
  by_cases hk : X k
  · rcases h k hk with z | z
    · exact absurd z k3
    · exact z
  · exact p3 k k1 k2 hk
theorem slb_l {l v : Int} : (slb l v y).1.length = y.1.length := by
  unfold slb
  split
  · exact List.length_set
  · rfl
theorem slb_g {l v : Int} {k : Nat} (h0 : 0 ≤ l) (h1 : l < (y.1.length : Int)) : (slb l v y).1.getD k 0 = if k = l.toNat then v else y.1.getD k 0 := by
  have e0 : slb l v y = (y.1.set l.toNat v, y.2) := if_pos ⟨h0, h1⟩
  rw [e0]
  show (y.1.set l.toNat v).getD k 0 = _
  rw [List.getD_eq_getElem?_getD, List.getElem?_set]
  by_cases hk : k = l.toNat
  · rw [if_pos hk.symm, if_pos (by omega), if_pos hk]
    rfl
  · rw [if_neg (fun z => hk z.symm), if_neg hk, List.getD_eq_getElem?_getD]
theorem LBX_slb {l v : Int} (h1 : LBX X a y y1) (h0 : 0 ≤ l) (hl : l < (y1.1.length : Int)) (hv : 0 ≤ v) : LBX (fun k => X k ∧ k ≠ l.toNat) a y (slb l v y1) := by
  obtain ⟨p1, p2, p3, p4⟩ := h1
  refine ⟨by rw [slb_l]; exact p1, by rw [slb_l]; exact p2, fun k k1 k2 k3 => ?_, fun k k1 g => ?_⟩
  · rw [slb_l] at k2
    rw [slb_g h0 hl]
    by_cases hk : k = l.toNat
    · rw [if_pos hk]; omega
    · rw [if_neg hk]
      exact p3 k k1 k2 (fun z => k3 ⟨z, hk⟩)
  · rw [slb_g h0 hl]
    by_cases hk : k = l.toNat
    · rw [if_pos hk]; omega
    · rw [if_neg hk]; exact p4 k k1 g
theorem slb_on {l v : Int} (h0 : 0 ≤ l) (hl : l < (y.1.length : Int)) (hv : 0 ≤ v) : (slb l v y).1.getD l.toNat 0 ≠ -1 := by
  rw [slb_g h0 hl, if_pos rfl]
  omega
theorem LBX_app {c : Nat} (e : y1.1 = y.1 ++ List.replicate c (-1)) : LBX (fun k => y.1.length ≤ k ∧ k < y.1.length + c) c y y1 := by
  have hl : y1.1.length = y.1.length + c := by rw [e, List.length_append, List.length_replicate]
  refine ⟨by omega, by omega, fun k k1 k2 k3 => absurd ⟨k1, by omega⟩ k3, fun k k1 g => ?_⟩
  rw [e, List.getD_eq_getElem?_getD, List.getElem?_append_left k1, ← List.getD_eq_getElem?_getD]
  exact g
end Std
/-- no label is left without its place -/
def LB (n : Int) (y y' : yS) : Prop := LBX (fun _ => False) n y y'
section Stt
variable {mc : Mem} {V : Int → Int}
/-- the budget of a construct -/
def bg (nt : Nat) (t : xT) (p q : Int) : Int := if nt = 11 then 2 * (q - p) - nW t else 2 * (q - p)
theorem St_all : ∀ (k : Nat) (t : xT), tsz t < k → ∀ (nt : Nat) (dep p q : Int), 8 ≤ nt → nt ≤ 12 → P (kd mc) V t nt dep p q → ∀ (H l n : Int) (c : zS), (c.2.1.length : Int) + bg nt t p q < 2990 → (nt = 12 → 0 ≤ l ∧ l < (c.2.1.length : Int)) → (nt = 11 → 0 ≤ n ∧ n + nW t ≤ (c.2.1.length : Int)) → LB (bg nt t p q) c.2 (stS mc t H l n c).2 ∧ (nt = 12 → (stS mc t H l n c).2.1.getD l.toNat 0 ≠ -1) ∧ (nt = 11 → ∀ k : Nat, n ≤ (k : Int) → (k : Int) < n + nW t → (stS mc t H l n c).2.1.getD k 0 ≠ -1) := by
  intro k
  induction k with
  | zero => intro t ht; exact absurd ht (Nat.not_lt_zero _)
  | succ k ih =>
    intro t ht nt dep p q hn8 hn12 h H l n c hlen h12 h11
    have l0 := P_le t h
    have hc : nt = 8 ∨ nt = 9 ∨ nt = 10 ∨ nt = 11 ∨ nt = 12 := by omega
    have bl8 : ∀ (a : xT) (d1 p1 r1 : Int) (H1 : Int) (s1 : xSt) (y1 : yS), tsz a < k → P (kd mc) V a 8 d1 p1 r1 → (y1.1.length : Int) + 2 * (r1 - p1) < 2990 → LB (2 * (r1 - p1)) y1 (stS mc a H1 0 0 (s1, y1)).2 := fun a d1 p1 r1 H1 s1 y1 ha ga hb => (ih a ha 8 d1 p1 r1 (by decide) (by decide) ga H1 0 0 (s1, y1) hb (fun z => absurd z (by decide)) (fun z => absurd z (by decide))).1
    rcases hc with rfl | rfl | rfl | rfl | rfl
    · refine ⟨?_, fun z => absurd z (by decide), fun z => absurd z (by decide)⟩
      obtain ⟨i, a, b, rfl, ho, h30, hv, r, h1, h3, hq2⟩ := inv_8 h
      rw [tsz_nd] at ht
      have l1 := P_le a h1
      have hlen : (c.2.1.length : Int) + 2 * (q - p) < 2990 := hlen
      have g := (ih a (by omega) 9 _ _ _ (by decide) (by decide) h1 H 0 0 c (by show _ + 2 * _ < _; omega) (fun z => absurd z (by decide)) (fun z => absurd z (by decide))).1
      have e1 : (stS mc (nd 20 i a b) H l n c).2 = fgN mc ((stS mc a H 0 0 c).2.2.1 - c.2.2.1).toNat (stS mc a H 0 0 c).2 := rfl
      rw [e1]
      have fg := (fgN_n (m := mc) ((stS mc a H 0 0 c).2.2.1 - c.2.2.1).toNat (stS mc a H 0 0 c).2).1
      exact LBX_rm (LBX_tr g (LBX_rf (X := fun _ => False) (n := 0) (Int.le_refl _) fg)) (by show 2 * _ + 0 ≤ 2 * _; omega) (fun k z => Or.inl (z.elim id id))
    · refine ⟨?_, fun z => absurd z (by decide), fun z => absurd z (by decide)⟩
      have hlen : (c.2.1.length : Int) + 2 * (q - p) < 2990 := hlen
      rcases inv_9 h with ⟨i, a, b, rfl, ho, r, h1, h3⟩ | ⟨i, a, b, rfl, hpq, ho⟩
      · rw [tsz_nd] at ht
        have l1 := P_le a h1
        have l2 := P_le b h3
        have c1 := (ih a (by omega) 10 _ _ _ (by decide) (by decide) h1 H 0 0 c (by show _ + 2 * _ < _; omega) (fun z => absurd z (by decide)) (fun z => absurd z (by decide))).1
        have hl1 : ((stS mc a H 0 0 c).2.1.length : Int) ≤ (c.2.1.length : Int) + 2 * (r - p) := c1.2.1
        have c2 := (ih b (by omega) 9 _ _ _ (by decide) (by decide) h3 H 0 0 (stS mc a H 0 0 c) (by show _ + 2 * _ < _; omega) (fun z => absurd z (by decide)) (fun z => absurd z (by decide))).1
        exact LBX_rm (LBX_tr c1 c2) (by show 2 * _ + 2 * _ ≤ 2 * _; omega) (fun k z => Or.inl (z.elim id id))
      · exact LBX_rf (by show 0 ≤ 2 * _; omega) rfl
    · refine ⟨?_, fun z => absurd z (by decide), fun z => absurd z (by decide)⟩
      have hlen : (c.2.1.length : Int) + 2 * (q - p) < 2990 := hlen
      have ey : ∀ (i : Int) (y : yS), (ymk mc i y).1 = y.1 := fun i y => by unfold ymk; split <;> rfl
      have hl3 : c.2.1.length < 2999 := by omega
      have en := nln_1 (y := c.2) (by omega)
      have en2 := nln_2 hl3
      have hy1 : (nlb c.2).1.length = c.2.1.length + 1 := by rw [nlb_1 (by omega), List.length_append, List.length_replicate]
      have hy2 : (nlb (nlb c.2)).1.length = c.2.1.length + 2 := by rw [nlb_2 hl3, List.length_append, List.length_replicate]
      have A1 := LBX_app (y := c.2) (y1 := nlb c.2) (c := 1) (by rw [nlb_1 (by omega)])
      have A2 := LBX_app (y := c.2) (y1 := nlb (nlb c.2)) (c := 2) (by rw [nlb_2 hl3])
      show LB (2 * (q - p)) _ _
      rcases inv_10 h with ⟨i, a, b, rfl, h1, h3, h5, h6, r, h8, h9, h10⟩ | ⟨i, a, b, rfl, h1, h3, r, h8, h9, h10⟩ | ⟨i, a, b, rfl, h1, h3, h5, r, h8, h9, h10⟩ | ⟨i, a, b, rfl, h1, h3, h5, h6, r, u, h8, h9, h10, h11, h12, h13⟩ | ⟨i, a, b, rfl, h1, r, h8, h9, h10⟩ | ⟨i, a, b, rfl, h1, r, h8, h9⟩ | ⟨i, a, b, rfl, h1, r, h8, h9⟩ | ⟨i, a, b, rfl, h1, r, h8, h9, h10⟩ | ⟨i, a, b, rfl, h1, h3, h5, h6, h8⟩ | ⟨i, a, b, rfl, h1, r, h8, h9, h10⟩ | ⟨i, a, b, rfl, h1, r, h8, h9, h10⟩
      · exact LBX_rf (by omega) (ey _ _)
      · exact LBX_rf (by omega) rfl
      · exact LBX_rf (by omega) rfl
      · exact LBX_rf (by omega) rfl
      · rw [tsz_nd] at ht
        have l1 := P_lt0 h8
        have l2 := P_le b h9
        have B := bl8 b _ r q H (em 16 0 (nln c.2) (xE (sww H (nlb c.2) mc) a c.1)) (nlb c.2) (by omega) h9 (by omega)
        rw [y_27]
        generalize stS mc b H 0 0 (em 16 0 (nln c.2) (xE (sww H (nlb c.2) mc) a c.1), nlb c.2) = c2 at *
        have hB := B.1
        have D := LBX_slb (l := nln c.2) (v := (c2.1.1.length : Int)) (LBX_tr A1 B) (by omega) (by omega) (by omega)
        exact LBX_rm D (by omega) (fun k z => by
          obtain ⟨z1, z2⟩ := z
          rcases z1 with z1 | z1
          · rw [en] at z2
            omega
          · exact Or.inl z1)
      · rw [tsz_nd] at ht
        have l1 := P_lt0 h8
        have l2 := P_le b h9
        obtain ⟨B, B2, -⟩ := ih b (by omega) 12 dep r q (by decide) (by decide) h9 H (nln c.2) 0 (em 16 0 (nln c.2) (xE (sww H (nlb c.2) mc) a c.1), nlb c.2) (by show ((nlb c.2).1.length : Int) + 2 * (q - r) < _; omega) (fun _ => by show _ ∧ _ < ((nlb c.2).1.length : Int); omega) (fun z => absurd z (by decide))
        have B2 := B2 rfl
        rw [y_28]
        exact LBX_rm (LBX_tr A1 B) (by show 1 + 2 * (q - r) ≤ 2 * (q - p); omega) (fun k z => by
          rcases z with z | z
          · right
            have : k = (nln c.2).toNat := by omega
            rw [this]; exact B2
          · exact Or.inl z)
      · rw [tsz_nd] at ht
        have l1 := P_lt0 h8
        have l2 := P_le b h9
        have A3 := LBX_slb (l := nln c.2) (v := (c.1.1.length : Int)) A2 (by omega) (by omega) (by omega)
        have hy3 : (slb (nln c.2) (c.1.1.length : Int) (nlb (nlb c.2))).1.length = c.2.1.length + 2 := by rw [slb_l]; exact hy2
        have B := bl8 b _ r q H (em 16 0 (nln (nlb c.2)) (xE (sww H (slb (nln c.2) (c.1.1.length : Int) (nlb (nlb c.2))) mc) a c.1)) (slb (nln c.2) (c.1.1.length : Int) (nlb (nlb c.2))) (by omega) h9 (by omega)
        rw [y_29]
        generalize stS mc b H 0 0 (em 16 0 (nln (nlb c.2)) (xE (sww H (slb (nln c.2) (c.1.1.length : Int) (nlb (nlb c.2))) mc) a c.1), slb (nln c.2) (c.1.1.length : Int) (nlb (nlb c.2))) = c2 at *
        have hB := B.1
        have D := LBX_slb (l := nln (nlb c.2)) (v := ((em 15 0 (nln c.2) c2.1).1.length : Int)) (LBX_tr A3 B) (by omega) (by omega) (by omega)
        exact LBX_rm D (by show 2 + 2 * (q - r) ≤ 2 * (q - p); omega) (fun k z => by
          obtain ⟨z1, z2⟩ := z
          rcases z1 with ⟨z1, z3⟩ | z1
          · rw [en2] at z2
            rw [en] at z3
            omega
          · exact Or.inl z1)
      · rw [tsz_nd] at ht
        have l1 := P_le a h8
        have l2 := P_le b h10
        have hbn := (P11_q (tsz b + 1) b (by omega) _ _ _ h10).2
        have B := bl8 a _ (p + 1) r (nln (nlb c.2)) c.1 (nlb (nlb c.2)) (by omega) h8 (by omega)
        rw [y_30]
        generalize stS mc a (nln (nlb c.2)) 0 0 (c.1, nlb (nlb c.2)) = c1 at *
        have hB := B.1
        have hB2 := B.2.1
        have C := LBX_slb (l := nln (nlb c.2)) (v := ((em 15 0 (nln c.2) c1.1).1.length : Int)) (LBX_tr A2 B) (by omega) (by omega) (by omega)
        have hl4 : (slb (nln (nlb c.2)) ((em 15 0 (nln c.2) c1.1).1.length : Int) c1.2).1.length = c1.2.1.length := slb_l
        simp only []
        generalize slb (nln (nlb c.2)) ((em 15 0 (nln c.2) c1.1).1.length : Int) c1.2 = y3 at *
        have ew := wW_eq (mc := mc) (V := V) (tsz b + 1) b (by omega) dep r q h10 [] (em 23 (mc 68 4) (-1) (em 15 0 (nln c.2) c1.1)) y3 (by omega)
        rw [ew]
        have E1 := LBX_app (y := y3) (y1 := (y3.1 ++ List.replicate (nW b) (-1), y3.2)) (c := nW b) rfl
        have hl5 : (y3.1 ++ List.replicate (nW b) (-1 : Int)).length = y3.1.length + nW b := by rw [List.length_append, List.length_replicate]
        obtain ⟨G1, -, G3⟩ := ih b (by omega) 11 dep r q (by decide) (by decide) h10 H (nln c.2) (y3.1.length : Int) (em 25 0 H (wWs mc b [] (y3.1.length : Int) (em 23 (mc 68 4) (-1) (em 15 0 (nln c.2) c1.1))), (y3.1 ++ List.replicate (nW b) (-1), y3.2)) (by show ((y3.1 ++ List.replicate (nW b) (-1 : Int)).length : Int) + (2 * (q - r) - nW b) < 2990; omega) (fun z => absurd z (by decide)) (fun _ => by show 0 ≤ (y3.1.length : Int) ∧ (y3.1.length : Int) + nW b ≤ ((y3.1 ++ List.replicate (nW b) (-1 : Int)).length : Int); omega)
        have G3 := G3 rfl
        have hG : (y3.1 ++ List.replicate (nW b) (-1 : Int)).length ≤ (stS mc b H (nln c.2) (y3.1.length : Int) (em 25 0 H (wWs mc b [] (y3.1.length : Int) (em 23 (mc 68 4) (-1) (em 15 0 (nln c.2) c1.1))), (y3.1 ++ List.replicate (nW b) (-1), y3.2))).2.1.length := G1.1
        generalize stS mc b H (nln c.2) (y3.1.length : Int) (em 25 0 H (wWs mc b [] (y3.1.length : Int) (em 23 (mc 68 4) (-1) (em 15 0 (nln c.2) c1.1))), (y3.1 ++ List.replicate (nW b) (-1), y3.2)) = c6 at *
        have D := LBX_slb (l := nln c.2) (v := (c6.1.1.length : Int)) (LBX_tr (LBX_tr C E1) G1) (by omega) (by omega) (by omega)
        refine LBX_rm D (by show 2 + 2 * (r - (p + 1)) + (nW b : Int) + (2 * (q - r) - (nW b : Int)) ≤ 2 * (q - p); omega) (fun k z => ?_)
        obtain ⟨z1, z2⟩ := z
        rw [en] at z2
        rcases z1 with (z1 | z1) | z1
        · obtain ⟨z1, z3⟩ := z1
          rw [en2] at z3
          rcases z1 with z1 | z1
          · omega
          · exact Or.inl z1
        · right
          rw [slb_g (by omega) (by omega)]
          by_cases hk : k = (nln c.2).toNat
          · rw [if_pos hk]; omega
          · rw [if_neg hk]; exact G3 k (by omega) (by omega)
        · exact Or.inl z1
      · exact LBX_rf (by omega) rfl
      · exact LBX_rf (by omega) rfl
      · exact LBX_rf (by omega) rfl
    · have h11 := h11 rfl
      have hlen : (c.2.1.length : Int) + (2 * (q - p) - nW t) < 2990 := hlen
      show LB (2 * (q - p) - nW t) _ _ ∧ _
      rcases inv_11 h with ⟨i, a, b, rfl, g1, g2, g3, r, g4, g5⟩ | ⟨i, a, b, rfl, hpq, ho⟩
      · rw [tsz_nd] at ht
        have l1 := P_le a g4
        have l2 := P_le b g5
        have hbn := (P11_q (tsz b + 1) b (by omega) _ _ _ g5).2
        have eW : nW (nd 31 i a b) = nW b + 1 := rfl
        rw [eW] at h11 hlen ⊢
        have A := LBX_slb (X := fun _ => False) (l := n) (v := (c.1.1.length : Int)) (LBX_rf (n := 0) (Int.le_refl _) rfl : LBX (fun _ => False) 0 c.2 c.2) (by omega) (by omega) (by omega)
        have on := slb_on (y := c.2) (l := n) (v := (c.1.1.length : Int)) (by omega) (by omega) (by omega)
        have hl4 : (slb n (c.1.1.length : Int) c.2).1.length = c.2.1.length := slb_l
        have B := bl8 a _ (p + 2) r H c.1 (slb n (c.1.1.length : Int) c.2) (by omega) g4 (by omega)
        rw [y_31]
        have ew : w32 (n + 1) = n + 1 := w32_of (by omega) (by omega)
        rw [ew]
        generalize slb n (c.1.1.length : Int) c.2 = y1 at *
        have hB := B.1
        have hB2 := B.2.1
        have on2 := B.2.2.2 n.toNat (by omega) on
        generalize stS mc a H 0 0 (c.1, y1) = c1 at *
        obtain ⟨G1, -, G3⟩ := ih b (by omega) 11 dep r q (by decide) (by decide) g5 H l (n + 1) (em 15 0 l c1.1, c1.2) (by show (c1.2.1.length : Int) + (2 * (q - r) - nW b) < 2990; omega) (fun z => absurd z (by decide)) (fun _ => by show 0 ≤ n + 1 ∧ n + 1 + nW b ≤ (c1.2.1.length : Int); omega)
        have G3 := G3 rfl
        have on3 := G1.2.2.2 n.toNat (by show n.toNat < c1.2.1.length; omega) on2
        refine ⟨LBX_rm (LBX_tr (LBX_tr A B) G1) (by show 0 + 2 * (r - (p + 2)) + (2 * (q - r) - (nW b : Int)) ≤ 2 * (q - p) - ((nW b + 1 : Nat) : Int); omega) (fun k z => ?_), fun z => absurd z (by decide), fun _ k k1 k2 => ?_⟩
        · rcases z with (z | z) | z
          · exact z.1.elim
          · exact Or.inl z
          · exact Or.inl z
        · by_cases hk : k = n.toNat
          · rw [hk]; exact on3
          · exact G3 k (by omega) (by omega)
      · have eW : nW (nd 32 i a b) = 0 := rfl
        rw [eW]
        exact ⟨LBX_rf (by omega) rfl, fun z => absurd z (by decide), fun _ k k1 k2 => by omega⟩
    · have h12 := h12 rfl
      have hlen : (c.2.1.length : Int) + 2 * (q - p) < 2990 := hlen
      show LB (2 * (q - p)) _ _ ∧ _
      obtain ⟨i, a, b, rfl, r, g1, g2, g3⟩ := inv_12 h
      rw [tsz_nd] at ht
      have l1 := P_le a g1
      have l2 := P_le b g3
      have l3 : p + 2 ≤ r := by
        obtain ⟨i', a', b', rfl, ho, h30', hv, r', k1, k2, hq2⟩ := inv_8 g1
        have := P_le a' k1
        omega
      have B := bl8 a _ p r H c.1 c.2 (by omega) g1 (by omega)
      rw [y_36]
      have ec : (c.1, c.2) = c := rfl
      rw [ec] at B
      generalize stS mc a H 0 0 c = c1 at *
      have hB := B.1
      have hB2 := B.2.1
      have hl3 : c1.2.1.length < 3000 := by omega
      have en := nln_1 hl3
      have hy1 : (nlb c1.2).1.length = c1.2.1.length + 1 := by rw [nlb_1 hl3, List.length_append, List.length_replicate]
      have A1 := LBX_app (y := c1.2) (y1 := nlb c1.2) (c := 1) (by rw [nlb_1 hl3])
      simp only []
      have C := LBX_slb (l := l) (v := ((em 15 0 (nln c1.2) c1.1).1.length : Int)) (LBX_tr B A1) (by omega) (by omega) (by omega)
      have on := slb_on (y := nlb c1.2) (l := l) (v := ((em 15 0 (nln c1.2) c1.1).1.length : Int)) (by omega) (by omega) (by omega)
      have hl4 : (slb l ((em 15 0 (nln c1.2) c1.1).1.length : Int) (nlb c1.2)).1.length = c1.2.1.length + 1 := by rw [slb_l]; exact hy1
      have E := bl8 b _ (r + 1) q H (em 15 0 (nln c1.2) c1.1) (slb l ((em 15 0 (nln c1.2) c1.1).1.length : Int) (nlb c1.2)) (by omega) g3 (by omega)
      generalize slb l ((em 15 0 (nln c1.2) c1.1).1.length : Int) (nlb c1.2) = y3 at *
      have on2 := E.2.2.2 l.toNat (by omega) on
      have hE := E.1
      generalize stS mc b H 0 0 (em 15 0 (nln c1.2) c1.1, y3) = c4 at *
      have D := LBX_slb (l := nln c1.2) (v := (c4.1.1.length : Int)) (LBX_tr C E) (by omega) (by omega) (by omega)
      refine ⟨LBX_rm D (by show 2 * (r - p) + 1 + 2 * (q - (r + 1)) ≤ 2 * (q - p); omega) (fun k z => ?_), fun _ => ?_, fun z => absurd z (by decide)⟩
      · obtain ⟨z1, z2⟩ := z
        rw [en] at z2
        rcases z1 with ⟨z1, z3⟩ | z1
        · rcases z1 with z1 | z1
          · exact Or.inl z1
          · omega
        · exact Or.inl z1
      · rw [slb_g (by omega) (by omega)]
        by_cases hk : l.toNat = (nln c1.2).toNat
        · rw [if_pos hk]; omega
        · rw [if_neg hk]; exact on2
end Stt
