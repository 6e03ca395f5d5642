/-! LOCALS ARE SET BEFORE THEY ARE TAKEN: statements, procs, a text -/
def LRq (pm : Int → Int) (m : Mem) (c c' : zS) (gs : Nat → Int) (eqc : Prop) : Prop := ∃ lc' gs', LSq pm c'.1.1 c'.2.1 c'.2.2.1 lc' gs' ∧ YL m c'.2 ∧ c.2.2.1 ≤ c'.2.2.1 ∧ (eqc → c'.2.2.1 = c.2.2.1) ∧ (c.2.1.length ≤ c'.2.1.length ∧ c'.2.1.length ≤ 3000) ∧ (∀ x, x < c.2.1.length → gs' x = gs x) ∧ (∀ x, c.2.1.length ≤ x → x < c'.2.1.length → c.2.2.1 ≤ gs' x)
section Lq2
variable {pm : Int → Int} {K V : Int → Int}
theorem nlb_3 {y : yS} (h : y.1.length ≤ 3000) : (nlb y).1.length ≤ 3000 ∧ (nlb y).1.length ≤ y.1.length + 1 := by
  unfold nlb
  split
  · rw [List.length_append]
    show y.1.length + 1 ≤ 3000 ∧ y.1.length + 1 ≤ y.1.length + 1
    omega
  · omega
theorem WL3 : ∀ (k : Nat) (t : xT), tsz t < k → ∀ (dep p q : Int), P K V t 11 dep p q → ∀ (m : Mem) (w : List Int) (c : zS), c.2.1.length ≤ 3000 → (wW m t w c).2.1.length ≤ 3000 := by
  intro k
  induction k with
  | zero => intro t ht; exact absurd ht (Nat.not_lt_zero _)
  | succ k ih =>
    intro t ht dep p q h m w c hc
    rcases inv_11 h with ⟨i, a, b, rfl, h1, h3, h5, r, h8, h9⟩ | ⟨i, a, b, rfl, h1, h3⟩
    · rw [tsz_nd] at ht
      exact ih b (by omega) _ _ _ h9 m (w ++ [i + 1]) (dupB m (i + 1) w (em 24 (nmI m (idT m (i + 1))) (nln c.2) (us m (i + 1) 3 c.1)), nlb c.2) (nlb_3 hc).1
    · exact hc
/-- one order more: the same labels -/
theorem LR_em {m : Mem} {s : xSt} {y : yS} {lc gs : Nat → Int} {o a H : Int} (hs : LSq pm s.1 y.1 y.2.1 lc gs) (h2 : o ≠ 2) (h3 : o ≠ 3) (h00 : o ≠ 0) (hH : Gl y.1 gs y.2.1 H) : ∃ lc', LSq pm (em o a H s).1 y.1 y.2.1 lc' gs := LSq_em hs (fun z => absurd z h2) (fun z => absurd z h3) h00 hH (by rw [if_neg (fun z => h3 z.1)]; exact Int.le_refl _)
theorem XLy {m : Mem} {s : xSt} {y : yS} {lc gs : Nat → Int} {H : Int} {a : xT} {nt : Nat} {dep p q : Int} (hnt : nt ≤ 7) (hP : P K V a nt dep p q) (hY : YL m y) (hH : Gl y.1 gs y.2.1 H) (hs : LSq pm s.1 y.1 y.2.1 lc gs) : ∃ lc', LSq pm (xE (sww H y m) a s).1 y.1 y.2.1 lc' gs := XL (tsz a + 1) a (by omega) nt _ _ _ hnt hP (sww H y m) s lc rfl (fun i => lI_c hY i) hH hs
theorem SL {e : Int} (he : e ≤ 3000) : ∀ (k : Nat) (t : xT), tsz t < k → ∀ (nt : Nat) (dep p q : Int), 8 ≤ nt → nt ≤ 12 → P K V t nt dep p q → 0 ≤ p → q ≤ e → ∀ (m : Mem) (H l n : Int) (c : zS) (lc gs : Nat → Int), YL m c.2 → c.2.1.length ≤ 3000 → LSq pm c.1.1 c.2.1 c.2.2.1 lc gs → Gl c.2.1 gs c.2.2.1 H → (nt = 12 → ∀ x : Nat, l = (x : Int) → x < c.2.1.length → c.2.2.1 ≤ gs x) → (nt = 11 → Gl c.2.1 gs c.2.2.1 l ∧ (0 ≤ n ∧ n + (q - p) ≤ 100000) ∧ (∀ x : Nat, n ≤ (x : Int) → x < c.2.1.length → c.2.2.1 ≤ gs x)) → LRq pm m c (stS m t H l n c) gs (nt = 8 ∨ nt = 11 ∨ nt = 12) := by
  intro k
  induction k with
  | zero => intro t ht; exact absurd ht (Nat.not_lt_zero _)
  | succ k ih =>
    intro t ht nt dep p q h8' h12' h hp0 hqe m H l n c lc gs hY hL hs hH hl hn
    have hc : nt = 8 ∨ nt = 9 ∨ nt = 10 ∨ nt = 11 ∨ nt = 12 := by omega
    -- a block
    have BL : ∀ (a : xT) (d1 p1 r1 H1 : Int) (c : zS) (lc gs : Nat → Int), tsz a < k → P K V a 8 d1 p1 r1 → 0 ≤ p1 → r1 ≤ e → YL m c.2 → c.2.1.length ≤ 3000 → LSq pm c.1.1 c.2.1 c.2.2.1 lc gs → Gl c.2.1 gs c.2.2.1 H1 → LRq pm m c (stS m a H1 0 0 c) gs True := fun a d1 p1 r1 H1 c lc gs ha hP g1 g2 hY hL hs hH => by
      obtain ⟨x1, x2, x3, x4, x5, x6, x7, x8⟩ := ih a ha 8 _ _ _ (by omega) (by omega) hP g1 g2 m H1 0 0 c lc gs hY hL hs hH (fun z => by omega) (fun z => by omega)
      exact ⟨x1, x2, x3, x4, x5, fun _ => x6 (Or.inl rfl), x7, x8⟩
    rcases hc with rfl | rfl | rfl | rfl | rfl
    · obtain ⟨i, a, b, rfl, ho, h30, hv, r, h1, h3, hq2⟩ := inv_8 h
      rw [tsz_nd] at ht
      obtain ⟨l1, g1, x1, x2, x3, x4, x5, x6, x7⟩ := ih a (by omega) 9 _ _ _ (by omega) (by omega) h1 (by omega) (by omega) m H 0 0 c lc gs hY hL hs hH (fun z => by omega) (fun z => by omega)
      rw [y_20]
      have fg := fgN_n (m := m) ((stS m a H 0 0 c).2.2.1 - c.2.2.1).toNat (stS m a H 0 0 c).2
      have h0 := hY.1.1
      have fy := YL_fg (m := m) ((stS m a H 0 0 c).2.2.1 - c.2.2.1).toNat (stS m a H 0 0 c).2 x2 (by omega)
      have ec : (fgN m ((stS m a H 0 0 c).2.2.1 - c.2.2.1).toNat (stS m a H 0 0 c).2).2.1 = c.2.2.1 := by
        rw [fg.2]
        omega
      refine ⟨l1, g1, ?_, fy.1, ?_, fun _ => ec, ?_, x6, ?_⟩
      · show LSq pm (stS m a H 0 0 c).1.1 (fgN m ((stS m a H 0 0 c).2.2.1 - c.2.2.1).toNat (stS m a H 0 0 c).2).1 (fgN m ((stS m a H 0 0 c).2.2.1 - c.2.2.1).toNat (stS m a H 0 0 c).2).2.1 l1 g1
        rw [fg.1, ec]
        exact LSq_cn x1 x3
      · show c.2.2.1 ≤ (fgN m ((stS m a H 0 0 c).2.2.1 - c.2.2.1).toNat (stS m a H 0 0 c).2).2.1
        rw [ec]
        exact Int.le_refl _
      · show c.2.1.length ≤ (fgN m ((stS m a H 0 0 c).2.2.1 - c.2.2.1).toNat (stS m a H 0 0 c).2).1.length ∧ (fgN m ((stS m a H 0 0 c).2.2.1 - c.2.2.1).toNat (stS m a H 0 0 c).2).1.length ≤ 3000
        rw [fg.1]
        exact x5
      · intro x hx1 hx2
        have hx3 : x < (fgN m ((stS m a H 0 0 c).2.2.1 - c.2.2.1).toNat (stS m a H 0 0 c).2).1.length := hx2
        rw [fg.1] at hx3
        exact x7 x hx1 hx3
    · rcases inv_9 h with ⟨i, a, b, rfl, ho, r, h1, h3⟩ | ⟨i, a, b, rfl, hpq, ho⟩
      · rw [tsz_nd] at ht
        have q1 := P_le a h1
        have q2 := P_le b h3
        obtain ⟨l1, g1, x1, x2, x3, x4, x5, x6, x7⟩ := ih a (by omega) 10 _ _ _ (by omega) (by omega) h1 (by omega) (by omega) m H 0 0 c lc gs hY hL hs hH (fun z => by omega) (fun z => by omega)
        have hH2 : Gl (stS m a H 0 0 c).2.1 g1 (stS m a H 0 0 c).2.2.1 H := fun x hx => by
          obtain ⟨z1, z2⟩ := hH x hx
          exact ⟨by omega, by rw [x6 x z1]; omega⟩
        obtain ⟨l2, g2, y1, y2, y3, y4, y5, y6, y7⟩ := ih b (by omega) 9 _ _ _ (by omega) (by omega) h3 (by omega) (by omega) m H 0 0 (stS m a H 0 0 c) l1 g1 x2 x5.2 x1 hH2 (fun z => by omega) (fun z => by omega)
        rw [y_21]
        refine ⟨l2, g2, y1, y2, by omega, fun z => by omega, ⟨by omega, y5.2⟩, fun x hx => by rw [y6 x (by omega), x6 x hx], fun x hx1 hx2 => ?_⟩
        by_cases e : x < (stS m a H 0 0 c).2.1.length
        · rw [y6 x e]
          exact x7 x hx1 e
        · have := y7 x (by omega) hx2
          omega
      · rw [y_22]
        exact ⟨lc, gs, hs, hY, Int.le_refl _, fun _ => rfl, ⟨Nat.le_refl _, hL⟩, fun _ _ => rfl, fun x h1 h2 => by omega⟩
    · -- statements without labels
      have one : ∀ (s : xSt) (lc' : Nat → Int), LSq pm s.1 c.2.1 c.2.2.1 lc' gs → LRq pm m c (s, c.2) gs ((10 : Nat) = 8 ∨ (10 : Nat) = 11 ∨ (10 : Nat) = 12) := fun s lc' w => ⟨lc', gs, w, hY, Int.le_refl _, fun _ => rfl, ⟨Nat.le_refl _, hL⟩, fun _ _ => rfl, fun x h1 h2 => by
        have : x < c.2.1.length := h2
        omega⟩
      have cn1 := nlb_c (y := c.2)
      have cn2 : (nlb (nlb c.2)).2.1 = c.2.2.1 := by rw [nlb_c, nlb_c]
      have hY1 := nlb_y (m := m) hY
      have hY2 := nlb_y (m := m) hY1
      have hL1 := nlb_3 hL
      have hL2 := nlb_3 hL1.1
      have le1 := nlb_ln (y := c.2)
      have le2 := nlb_ln (y := nlb c.2)
      have hs1 := LSq_nlb hs
      have hs2 := LSq_nlb hs1
      have hH1 : Gl (nlb c.2).1 (vput gs c.2.1.length c.2.2.1) (nlb c.2).2.1 H := by rw [cn1]; exact Gl_nlb hH
      have hH2 : Gl (nlb (nlb c.2)).1 (vput (vput gs c.2.1.length c.2.2.1) (nlb c.2).1.length (nlb c.2).2.1) (nlb (nlb c.2)).2.1 H := by rw [nlb_c (y := nlb c.2)]; exact Gl_nlb hH1
      have gsn : ∀ x, x < c.2.1.length → vput gs c.2.1.length c.2.2.1 x = gs x := fun x hx => vp_n (by omega)
      have gsn2 : ∀ x, x < (nlb c.2).1.length → vput (vput gs c.2.1.length c.2.2.1) (nlb c.2).1.length (nlb c.2).2.1 x = vput gs c.2.1.length c.2.2.1 x := fun x hx => vp_n (by omega)
      have new1 : ∀ x, c.2.1.length ≤ x → x < (nlb c.2).1.length → c.2.2.1 ≤ vput gs c.2.1.length c.2.2.1 x := fun x h1 h2 => by
        rw [show x = c.2.1.length from by omega, vp_e]
        exact Int.le_refl _
      have new2 : ∀ x, c.2.1.length ≤ x → x < (nlb (nlb c.2)).1.length → c.2.2.1 ≤ vput (vput gs c.2.1.length c.2.2.1) (nlb c.2).1.length (nlb c.2).2.1 x := fun x h1 h2 => by
        by_cases e : x < (nlb c.2).1.length
        · rw [gsn2 x e]
          exact new1 x h1 e
        · rw [show x = (nlb c.2).1.length from by omega, vp_e, cn1]
          exact Int.le_refl _
      rcases inv_10 h with ⟨i, a, b, rfl, h1, h3, h5, h6, r, h8, h9, h10⟩ | ⟨i, a, b, rfl, h1, h3, r, h8, h9, h10⟩ | ⟨i, a, b, rfl, h1, h3, h5, r, h8, h9, h10⟩ | ⟨i, a, b, rfl, h1, h3, h5, h6, r, u, h8, h9, h10, h11, h12, h13⟩ | ⟨i, a, b, rfl, h1, r, h8, h9, h10⟩ | ⟨i, a, b, rfl, h1, r, h8, h9⟩ | ⟨i, a, b, rfl, h1, r, h8, h9⟩ | ⟨i, a, b, rfl, h1, r, h8, h9, h10⟩ | ⟨i, a, b, rfl, h1, h3, h5, h6, h7⟩ | ⟨i, a, b, rfl, h1, r, h8, h9, h10⟩ | ⟨i, a, b, rfl, h1, r, h8, h9, h10⟩
      · rw [y_23]
        obtain ⟨l1, w1⟩ := XLy (by omega) h8 hY hH hs
        obtain ⟨z1, z2, z3, z4⟩ := YL_mk2 (m := m) (i := i + 1) hY
        obtain ⟨l2, w2⟩ := LSq_em (o := 3) (a := c.2.2.1) (H := -1) (cn' := (ymk m (i + 1) c.2).2.1) w1 (fun z => absurd z (by decide)) (fun _ => Int.le_refl _) (by decide) Gl_n (by rw [if_pos ⟨rfl, rfl⟩]; exact z4)
        refine ⟨l2, gs, ?_, z1, z3, fun z => by omega, ?_, fun _ _ => rfl, fun x hx1 hx2 => ?_⟩
        · show LSq pm (tlS m (i + 1) c.2 (em 3 c.2.2.1 (-1) (xE (sww H c.2 m) a c.1))).1 (ymk m (i + 1) c.2).1 (ymk m (i + 1) c.2).2.1 l2 gs
          rw [tl_1, z2]
          exact w2
        · show c.2.1.length ≤ (ymk m (i + 1) c.2).1.length ∧ (ymk m (i + 1) c.2).1.length ≤ 3000
          rw [z2]
          exact ⟨Nat.le_refl _, hL⟩
        · have hx3 : x < (ymk m (i + 1) c.2).1.length := hx2
          rw [z2] at hx3
          omega
      · rw [y_24]
        obtain ⟨l1, w1⟩ := XLy (s := us m i 4 c.1) (by omega) h8 hY hH (by rw [us_op]; exact hs)
        obtain ⟨l2, w2⟩ := LR_em (m := m) (s := cl m i (nA a) (xE (sww H c.2 m) a (us m i 4 c.1))) (o := 17) (a := nmI m (idT m i)) w1 (by decide) (by decide) (by decide) hH
        obtain ⟨l3, w3⟩ := LR_em (m := m) (o := 18) (a := 0) (H := -1) w2 (by decide) (by decide) (by decide) Gl_n
        exact one _ l3 w3
      · rw [y_25]
        obtain ⟨l1, w1⟩ := XLy (by omega) h8 hY hH hs
        by_cases c5 : lI (sww H c.2 m) (idT m i) = -1
        · rw [if_pos c5]
          obtain ⟨l2, w2⟩ := LR_em (m := m) (s := us m i 1 (xE (sww H c.2 m) a c.1)) (o := 5) (a := nmI m (idT m i)) (H := -1) (by rw [us_op]; exact w1) (by decide) (by decide) (by decide) Gl_n
          exact one _ l2 w2
        · rw [if_neg c5]
          have hlt := lI_c (H := H) hY (idT m i)
          obtain ⟨l2, w2⟩ := LSq_em (o := 3) (a := lI (sww H c.2 m) (idT m i)) (H := -1) (cn' := c.2.2.1) w1 (fun z => absurd z (by decide)) (fun _ => by omega) (by decide) Gl_n (by split <;> omega)
          exact one _ l2 w2
      · rw [y_26]
        obtain ⟨l1, w1⟩ := XLy (s := us m i 2 c.1) (by omega) h8 hY hH (by rw [us_op]; exact hs)
        obtain ⟨l2, w2⟩ := XLy (by omega) h11 hY hH w1
        obtain ⟨l3, w3⟩ := LR_em (m := m) (o := 7) (a := nmI m (idT m i)) w2 (by decide) (by decide) (by decide) hH
        exact one _ l3 w3
      · -- if
        rw [tsz_nd] at ht
        rw [y_27]
        have q1 := P_le a h8
        have q2 := P_le b h9
        obtain ⟨l1, w1⟩ := XLy (by omega) h8 hY1 hH1 hs1
        obtain ⟨l2, w2⟩ := LR_em (m := m) (o := 16) (a := 0) (H := nln c.2) w1 (by decide) (by decide) (by decide) (Gl_new (by rw [cn1]; exact Int.le_refl _))
        obtain ⟨l3, g3, x1, x2, x3, x4, x5, x6, x7⟩ := BL b _ _ _ H (em 16 0 (nln c.2) (xE (sww H (nlb c.2) m) a c.1), nlb c.2) l2 _ (by omega) h9 (by omega) (by omega) hY1 hL1.1 w2 hH1
        generalize stS m b H 0 0 (em 16 0 (nln c.2) (xE (sww H (nlb c.2) m) a c.1), nlb c.2) = c3 at *
        have ec : c3.2.2.1 = c.2.2.1 := (x4 trivial).trans cn1
        have hx5 : (nlb c.2).1.length ≤ c3.2.1.length ∧ c3.2.1.length ≤ 3000 := x5
        have hx6 : ∀ x, x < (nlb c.2).1.length → g3 x = vput gs c.2.1.length c.2.2.1 x := x6
        have hx7 : ∀ x, (nlb c.2).1.length ≤ x → x < c3.2.1.length → (nlb c.2).2.1 ≤ g3 x := x7
        refine ⟨l3, g3, LSq_slb x1 (fun x hx hx2 => ?_), slb_y x2, ?_, fun _ => ?_, ?_, fun x hx => by rw [hx6 x (by omega), gsn x hx], fun x ha hb => ?_⟩
        · have z := (Gl_new (gs := gs) (y := c.2) (cn := c.2.2.1) (Int.le_refl _) x hx).1
          rw [hx6 x z, gs_new hx, ec]
          exact Int.le_refl _
        · show c.2.2.1 ≤ (slb (nln c.2) (c3.1.1.length : Int) c3.2).2.1
          rw [slb_c, ec]
          exact Int.le_refl _
        · show (slb (nln c.2) (c3.1.1.length : Int) c3.2).2.1 = c.2.2.1
          rw [slb_c, ec]
        · show c.2.1.length ≤ (slb (nln c.2) (c3.1.1.length : Int) c3.2).1.length ∧ (slb (nln c.2) (c3.1.1.length : Int) c3.2).1.length ≤ 3000
          rw [slb_ln]
          omega
        · have hb2 : x < (slb (nln c.2) (c3.1.1.length : Int) c3.2).1.length := hb
          rw [slb_ln] at hb2
          by_cases e : x < (nlb c.2).1.length
          · rw [hx6 x e]
            exact new1 x ha e
          · have := hx7 x (by omega) hb2
            omega
      · -- if else
        rw [tsz_nd] at ht
        rw [y_28]
        have q1 := P_le a h8
        have q2 := P_le b h9
        obtain ⟨l1, w1⟩ := XLy (by omega) h8 hY1 hH1 hs1
        obtain ⟨l2, w2⟩ := LR_em (m := m) (o := 16) (a := 0) (H := nln c.2) w1 (by decide) (by decide) (by decide) (Gl_new (by rw [cn1]; exact Int.le_refl _))
        obtain ⟨l3, g3, x1, x2, x3, x4, x5, x6, x7⟩ := ih b (by omega) 12 _ _ _ (by omega) (by omega) h9 (by omega) (by omega) m H (nln c.2) 0 (em 16 0 (nln c.2) (xE (sww H (nlb c.2) m) a c.1), nlb c.2) l2 _ hY1 hL1.1 w2 hH1 (fun _ x hx _ => by
          show (nlb c.2).2.1 ≤ vput gs c.2.1.length c.2.2.1 x
          rw [gs_new hx, cn1]
          exact Int.le_refl _) (fun z => by omega)
        have hx5 : (nlb c.2).1.length ≤ _ ∧ _ ≤ 3000 := x5
        have hx6 : ∀ x, x < (nlb c.2).1.length → g3 x = vput gs c.2.1.length c.2.2.1 x := x6
        have hx7 : ∀ x, (nlb c.2).1.length ≤ x → x < _ → (nlb c.2).2.1 ≤ g3 x := x7
        refine ⟨l3, g3, x1, x2, ?_, fun z => by omega, ⟨by omega, x5.2⟩, fun x hx => by rw [hx6 x (by omega), gsn x hx], fun x ha hb => ?_⟩
        · have z : (nlb c.2).2.1 ≤ _ := x3
          rw [cn1] at z
          exact z
        · by_cases e : x < (nlb c.2).1.length
          · rw [hx6 x e]
            exact new1 x ha e
          · have := hx7 x (by omega) hb
            omega
      · -- while
        rw [tsz_nd] at ht
        rw [y_29]
        have q1 := P_le a h8
        have q2 := P_le b h9
        generalize hg2 : vput (vput gs c.2.1.length c.2.2.1) (nlb c.2).1.length (nlb c.2).2.1 = gs2 at *
        have hbeg : Gl (nlb (nlb c.2)).1 gs2 (nlb (nlb c.2)).2.1 (nln c.2) := by
          rw [← hg2, nlb_c (y := nlb c.2)]
          exact Gl_nlb (Gl_new (by rw [cn1]; exact Int.le_refl _))
        have hend : Gl (nlb (nlb c.2)).1 gs2 (nlb (nlb c.2)).2.1 (nln (nlb c.2)) := by
          rw [← hg2]
          exact Gl_new (by rw [nlb_c (y := nlb c.2)]; exact Int.le_refl _)
        have gbeg : ∀ x : Nat, nln c.2 = (x : Int) → gs2 x = c.2.2.1 := fun x hx => by
          have z := (Gl_new (gs := gs) (y := c.2) (cn := c.2.2.1) (Int.le_refl _) x hx).1
          rw [gsn2 x z, gs_new hx]
        have gend : ∀ x : Nat, nln (nlb c.2) = (x : Int) → gs2 x = c.2.2.1 := fun x hx => by
          rw [← hg2, gs_new hx, cn1]
        have w0 := LSq_slb (n := nln c.2) hs2 (fun x hx _ => by rw [gbeg x hx, cn2]; exact Int.le_refl _)
        generalize hy2 : slb (nln c.2) (c.1.1.length : Int) (nlb (nlb c.2)) = y2 at *
        have ey1 : y2.1.length = (nlb (nlb c.2)).1.length := by rw [← hy2]; exact slb_ln
        have ey2 : y2.2.1 = (nlb (nlb c.2)).2.1 := by rw [← hy2]; exact slb_c
        have hYy : YL m y2 := by rw [← hy2]; exact slb_y hY2
        have glt : ∀ L, Gl (nlb (nlb c.2)).1 gs2 (nlb (nlb c.2)).2.1 L → Gl y2.1 gs2 y2.2.1 L := fun L hh x hx => by
          rw [ey1, ey2]
          exact hh x hx
        obtain ⟨l1, w1⟩ := XLy (by omega) h8 hYy (glt _ hH2) w0
        obtain ⟨l2, w2⟩ := LR_em (m := m) (o := 16) (a := 0) (H := nln (nlb c.2)) w1 (by decide) (by decide) (by decide) (glt _ hend)
        obtain ⟨l3, g3, x1, x2, x3, x4, x5, x6, x7⟩ := BL b _ _ _ H (em 16 0 (nln (nlb c.2)) (xE (sww H y2 m) a c.1), y2) l2 _ (by omega) h9 (by omega) (by omega) hYy (by show y2.1.length ≤ 3000; omega) w2 (glt _ hH2)
        generalize stS m b H 0 0 (em 16 0 (nln (nlb c.2)) (xE (sww H y2 m) a c.1), y2) = c3 at *
        have ec : c3.2.2.1 = c.2.2.1 := ((x4 trivial).trans ey2).trans cn2
        have hx5 : y2.1.length ≤ c3.2.1.length ∧ c3.2.1.length ≤ 3000 := x5
        have hx6 : ∀ x, x < y2.1.length → g3 x = gs2 x := x6
        have hx7 : ∀ x, y2.1.length ≤ x → x < c3.2.1.length → y2.2.1 ≤ g3 x := x7
        obtain ⟨l4, w4⟩ := LR_em (m := m) (o := 15) (a := 0) (H := nln c.2) x1 (by decide) (by decide) (by decide) (fun x hx => by
          have z := (hbeg x hx).1
          exact ⟨by omega, by rw [hx6 x (by omega), gbeg x hx]; omega⟩)
        refine ⟨l4, g3, LSq_slb w4 (fun x hx hx2 => ?_), slb_y x2, ?_, fun _ => ?_, ?_, fun x hx => by rw [hx6 x (by omega), gsn2 x (by omega), gsn x hx], fun x ha hb => ?_⟩
        · have z := (hend x hx).1
          rw [hx6 x (by omega), gend x hx, ec]
          exact Int.le_refl _
        · show c.2.2.1 ≤ (slb (nln (nlb c.2)) ((em 15 0 (nln c.2) c3.1).1.length : Int) c3.2).2.1
          rw [slb_c, ec]
          exact Int.le_refl _
        · show (slb (nln (nlb c.2)) ((em 15 0 (nln c.2) c3.1).1.length : Int) c3.2).2.1 = c.2.2.1
          rw [slb_c, ec]
        · show c.2.1.length ≤ (slb (nln (nlb c.2)) ((em 15 0 (nln c.2) c3.1).1.length : Int) c3.2).1.length ∧ (slb (nln (nlb c.2)) ((em 15 0 (nln c.2) c3.1).1.length : Int) c3.2).1.length ≤ 3000
          rw [slb_ln]
          omega
        · have hb2 : x < (slb (nln (nlb c.2)) ((em 15 0 (nln c.2) c3.1).1.length : Int) c3.2).1.length := hb
          rw [slb_ln] at hb2
          by_cases e : x < y2.1.length
          · rw [hx6 x e]
            exact new2 x ha (by omega)
          · have := hx7 x (by omega) hb2
            omega
      · -- try
        rw [tsz_nd] at ht
        rw [y_30]
        have q1 := P_le a h8
        have q2 := P_le b h10
        generalize hg2 : vput (vput gs c.2.1.length c.2.2.1) (nlb c.2).1.length (nlb c.2).2.1 = gs2 at *
        have hend : Gl (nlb (nlb c.2)).1 gs2 (nlb (nlb c.2)).2.1 (nln c.2) := by
          rw [← hg2, nlb_c (y := nlb c.2)]
          exact Gl_nlb (Gl_new (by rw [cn1]; exact Int.le_refl _))
        have hhan : Gl (nlb (nlb c.2)).1 gs2 (nlb (nlb c.2)).2.1 (nln (nlb c.2)) := by
          rw [← hg2]
          exact Gl_new (by rw [nlb_c (y := nlb c.2)]; exact Int.le_refl _)
        have gend : ∀ x : Nat, nln c.2 = (x : Int) → gs2 x = c.2.2.1 := fun x hx => by
          have z := (Gl_new (gs := gs) (y := c.2) (cn := c.2.2.1) (Int.le_refl _) x hx).1
          rw [gsn2 x z, gs_new hx]
        have ghan : ∀ x : Nat, nln (nlb c.2) = (x : Int) → gs2 x = c.2.2.1 := fun x hx => by
          rw [← hg2, gs_new hx, cn1]
        obtain ⟨l3, g3, x1, x2, x3, x4, x5, x6, x7⟩ := BL a _ _ _ (nln (nlb c.2)) (c.1, nlb (nlb c.2)) lc gs2 (by omega) h8 (by omega) (by omega) hY2 hL2.1 hs2 hhan
        show LRq pm m c ((fun s3 y3 => (fun c4 => (fun c6 : zS => (c6.1, slb (nln c.2) (c6.1.1.length : Int) c6.2)) (stS m b H (nln c.2) (y3.1.length : Int) (em 25 0 H c4.1, c4.2))) (wW m b [] (em 23 (m 68 4) (-1) s3, y3))) (em 15 0 (nln c.2) (stS m a (nln (nlb c.2)) 0 0 (c.1, nlb (nlb c.2))).1) (slb (nln (nlb c.2)) ((em 15 0 (nln c.2) (stS m a (nln (nlb c.2)) 0 0 (c.1, nlb (nlb c.2))).1).1.length : Int) (stS m a (nln (nlb c.2)) 0 0 (c.1, nlb (nlb c.2))).2)) gs _
        generalize stS m a (nln (nlb c.2)) 0 0 (c.1, nlb (nlb c.2)) = c1 at *
        have ec : c1.2.2.1 = c.2.2.1 := (x4 trivial).trans cn2
        have hx5 : (nlb (nlb c.2)).1.length ≤ c1.2.1.length ∧ c1.2.1.length ≤ 3000 := x5
        have hx6 : ∀ x, x < (nlb (nlb c.2)).1.length → g3 x = gs2 x := x6
        have hx7 : ∀ x, (nlb (nlb c.2)).1.length ≤ x → x < c1.2.1.length → (nlb (nlb c.2)).2.1 ≤ g3 x := x7
        have hend3 : Gl c1.2.1 g3 c1.2.2.1 (nln c.2) := fun x hx => by
          have z := (hend x hx).1
          exact ⟨by omega, by rw [hx6 x z, gend x hx]; omega⟩
        have hH3 : Gl c1.2.1 g3 c1.2.2.1 H := fun x hx => by
          obtain ⟨z1, z2⟩ := hH2 x hx
          exact ⟨by omega, by rw [hx6 x z1]; omega⟩
        obtain ⟨l4, w4⟩ := LR_em (m := m) (o := 15) (a := 0) (H := nln c.2) x1 (by decide) (by decide) (by decide) hend3
        have w5 := LSq_slb (n := nln (nlb c.2)) (y := c1.2) w4 (fun x hx hx2 => by
          have z := (hhan x hx).1
          rw [hx6 x z, ghan x hx, ec]
          exact Int.le_refl _)
        show LRq pm m c ((fun c4 => (fun c6 : zS => (c6.1, slb (nln c.2) (c6.1.1.length : Int) c6.2)) (stS m b H (nln c.2) ((slb (nln (nlb c.2)) ((em 15 0 (nln c.2) c1.1).1.length : Int) c1.2).1.length : Int) (em 25 0 H c4.1, c4.2))) (wW m b [] (em 23 (m 68 4) (-1) (em 15 0 (nln c.2) c1.1), slb (nln (nlb c.2)) ((em 15 0 (nln c.2) c1.1).1.length : Int) c1.2))) gs _
        have ey1 : (slb (nln (nlb c.2)) ((em 15 0 (nln c.2) c1.1).1.length : Int) c1.2).1.length = c1.2.1.length := slb_ln
        have ey2 : (slb (nln (nlb c.2)) ((em 15 0 (nln c.2) c1.1).1.length : Int) c1.2).2.1 = c1.2.2.1 := slb_c
        have hYy : YL m (slb (nln (nlb c.2)) ((em 15 0 (nln c.2) c1.1).1.length : Int) c1.2) := slb_y x2
        generalize slb (nln (nlb c.2)) ((em 15 0 (nln c.2) c1.1).1.length : Int) c1.2 = y3 at *
        obtain ⟨l6, w6⟩ := LR_em (m := m) (o := 23) (a := m 68 4) (H := -1) w5 (by decide) (by decide) (by decide) Gl_n
        obtain ⟨l7, g7, v1, v2, v3, v4, v5, v6⟩ := WL (tsz b + 1) b (by omega) _ _ _ h10 m [] (em 23 (m 68 4) (-1) (em 15 0 (nln c.2) c1.1), y3) l6 g3 hYy w6
        have v7 := WL3 (tsz b + 1) b (by omega) _ _ _ h10 m [] (em 23 (m 68 4) (-1) (em 15 0 (nln c.2) c1.1), y3) (by show y3.1.length ≤ 3000; omega)
        generalize wW m b [] (em 23 (m 68 4) (-1) (em 15 0 (nln c.2) c1.1), y3) = c4 at *
        have v3' : c4.2.2.1 = y3.2.1 := v3
        have v4' : y3.1.length ≤ c4.2.1.length := v4
        have v5' : ∀ x, x < y3.1.length → g7 x = g3 x := v5
        have v6' : ∀ x, y3.1.length ≤ x → x < c4.2.1.length → y3.2.1 ≤ g7 x := v6
        have ec4 : c4.2.2.1 = c.2.2.1 := by omega
        have gl4 : ∀ L, Gl c1.2.1 g3 c1.2.2.1 L → Gl c4.2.1 g7 c4.2.2.1 L := fun L hh x hx => by
          obtain ⟨z1, z2⟩ := hh x hx
          exact ⟨by omega, by rw [v5' x (by omega)]; omega⟩
        obtain ⟨l8, w8⟩ := LR_em (m := m) (o := 25) (a := 0) (H := H) v1 (by decide) (by decide) (by decide) (gl4 _ hH3)
        obtain ⟨l9, g9, t1, t2, t3, t4, t5, t6, t7⟩ := ih b (by omega) 11 _ _ _ (by omega) (by omega) h10 (by omega) (by omega) m H (nln c.2) (y3.1.length : Int) (em 25 0 H c4.1, c4.2) l8 g7 v2 v7 w8 (gl4 _ hH3) (fun z => by omega) (fun _ => ⟨gl4 _ hend3, by omega, fun x hx1 hx2 => by
          have := v6' x (by omega) hx2
          show c4.2.2.1 ≤ g7 x
          omega⟩)
        show LRq pm m c ((stS m b H (nln c.2) (y3.1.length : Int) (em 25 0 H c4.1, c4.2)).1, slb (nln c.2) ((stS m b H (nln c.2) (y3.1.length : Int) (em 25 0 H c4.1, c4.2)).1.1.length : Int) (stS m b H (nln c.2) (y3.1.length : Int) (em 25 0 H c4.1, c4.2)).2) gs _
        generalize stS m b H (nln c.2) (y3.1.length : Int) (em 25 0 H c4.1, c4.2) = c6 at *
        have t4' : c6.2.2.1 = c4.2.2.1 := t4 (Or.inr (Or.inl rfl))
        have t5' : c4.2.1.length ≤ c6.2.1.length ∧ c6.2.1.length ≤ 3000 := t5
        have t6' : ∀ x, x < c4.2.1.length → g9 x = g7 x := t6
        have t7' : ∀ x, c4.2.1.length ≤ x → x < c6.2.1.length → c4.2.2.1 ≤ g9 x := t7
        refine ⟨l9, g9, LSq_slb t1 (fun x hx hx2 => ?_), slb_y t2, ?_, fun _ => ?_, ?_, fun x hx => by rw [t6' x (by omega), v5' x (by omega), hx6 x (by omega), gsn2 x (by omega), gsn x hx], fun x ha hb => ?_⟩
        · have z := (hend x hx).1
          rw [t6' x (by omega), v5' x (by omega), hx6 x z, gend x hx]
          omega
        · show c.2.2.1 ≤ (slb (nln c.2) (c6.1.1.length : Int) c6.2).2.1
          rw [slb_c]
          omega
        · show (slb (nln c.2) (c6.1.1.length : Int) c6.2).2.1 = c.2.2.1
          rw [slb_c]
          omega
        · show c.2.1.length ≤ (slb (nln c.2) (c6.1.1.length : Int) c6.2).1.length ∧ (slb (nln c.2) (c6.1.1.length : Int) c6.2).1.length ≤ 3000
          rw [slb_ln]
          omega
        · have hb2 : x < (slb (nln c.2) (c6.1.1.length : Int) c6.2).1.length := hb
          rw [slb_ln] at hb2
          by_cases e1 : x < c4.2.1.length
          · rw [t6' x e1]
            by_cases e2 : x < y3.1.length
            · rw [v5' x e2]
              by_cases e3 : x < (nlb (nlb c.2)).1.length
              · rw [hx6 x e3]
                exact new2 x ha e3
              · have := hx7 x (by omega) (by omega)
                omega
            · have := v6' x (by omega) e1
              omega
          · have := t7' x (by omega) hb2
            omega
      · rw [y_33]
        obtain ⟨l2, w2⟩ := LR_em (m := m) (s := us m (i + 1) 3 c.1) (o := 21) (a := nmI m (idT m (i + 1))) (by rw [us_op]; exact hs) (by decide) (by decide) (by decide) hH
        exact one _ l2 w2
      · rw [y_34]
        obtain ⟨l1, w1⟩ := XLy (by omega) h8 hY hH hs
        obtain ⟨l2, w2⟩ := LR_em (m := m) (o := 22) (a := m 68 4) (H := -1) w1 (by decide) (by decide) (by decide) Gl_n
        exact one _ l2 w2
      · rw [y_35]
        obtain ⟨l1, w1⟩ := XLy (by omega) h8 hY hH hs
        obtain ⟨l2, w2⟩ := LR_em (m := m) (o := 20) (a := 0) (H := -1) w1 (by decide) (by decide) (by decide) Gl_n
        exact one _ l2 w2
    · -- whens
      rcases inv_11 h with ⟨i, a, b, rfl, h1, h3, h5, r, h8, h9⟩ | ⟨i, a, b, rfl, h1, h3⟩
      · rw [tsz_nd] at ht
        rw [y_31]
        have q1 := P_le a h8
        have q2 := P_le b h9
        obtain ⟨n1, n2, n3⟩ := hn rfl
        have w0 := LSq_slb (n := n) hs (fun x hx hx2 => n3 x (by omega) hx2)
        have ey1 : (slb n (c.1.1.length : Int) c.2).1.length = c.2.1.length := slb_ln
        have ey2 : (slb n (c.1.1.length : Int) c.2).2.1 = c.2.2.1 := slb_c
        have hYy : YL m (slb n (c.1.1.length : Int) c.2) := slb_y hY
        generalize slb n (c.1.1.length : Int) c.2 = y2 at *
        have glt : ∀ L, Gl c.2.1 gs c.2.2.1 L → Gl y2.1 gs y2.2.1 L := fun L hh x hx => by
          rw [ey1, ey2]
          exact hh x hx
        obtain ⟨l3, g3, x1, x2, x3, x4, x5, x6, x7⟩ := BL a _ _ _ H (c.1, y2) lc gs (by omega) h8 (by omega) (by omega) hYy (by show y2.1.length ≤ 3000; omega) w0 (glt _ hH)
        generalize stS m a H 0 0 (c.1, y2) = c3 at *
        have ec : c3.2.2.1 = c.2.2.1 := (x4 trivial).trans ey2
        have hx5 : y2.1.length ≤ c3.2.1.length ∧ c3.2.1.length ≤ 3000 := x5
        have hx6 : ∀ x, x < y2.1.length → g3 x = gs x := x6
        have hx7 : ∀ x, y2.1.length ≤ x → x < c3.2.1.length → y2.2.1 ≤ g3 x := x7
        have gl3 : ∀ L, Gl c.2.1 gs c.2.2.1 L → Gl c3.2.1 g3 c3.2.2.1 L := fun L hh x hx => by
          obtain ⟨z1, z2⟩ := hh x hx
          exact ⟨by omega, by rw [hx6 x (by omega)]; omega⟩
        obtain ⟨l4, w4⟩ := LR_em (m := m) (o := 15) (a := 0) (H := l) x1 (by decide) (by decide) (by decide) (gl3 _ n1)
        have ew : w32 (n + 1) = n + 1 := w32_of (by omega) (by omega)
        rw [ew]
        obtain ⟨l9, g9, t1, t2, t3, t4, t5, t6, t7⟩ := ih b (by omega) 11 _ _ _ (by omega) (by omega) h9 (by omega) (by omega) m H l (n + 1) (em 15 0 l c3.1, c3.2) l4 g3 x2 x5.2 w4 (gl3 _ hH) (fun z => by omega) (fun _ => ⟨gl3 _ n1, by omega, fun x hx1 hx2 => by
          show c3.2.2.1 ≤ g3 x
          by_cases e : x < y2.1.length
          · rw [hx6 x e]
            have := n3 x (by omega) (by omega)
            omega
          · have := hx7 x (by omega) hx2
            omega⟩)
        have t4' := t4 (Or.inr (Or.inl rfl))
        have t5' : c3.2.1.length ≤ _ ∧ _ ≤ 3000 := t5
        have t6' : ∀ x, x < c3.2.1.length → g9 x = g3 x := t6
        have t7' : ∀ x, c3.2.1.length ≤ x → x < _ → c3.2.2.1 ≤ g9 x := t7
        have t8 : (stS m b H l (n + 1) (em 15 0 l c3.1, c3.2)).2.2.1 = c3.2.2.1 := t4'
        refine ⟨l9, g9, t1, t2, by omega, fun _ => by omega, ⟨by omega, t5.2⟩, fun x hx => by rw [t6' x (by omega), hx6 x (by omega)], fun x ha hb => ?_⟩
        by_cases e1 : x < c3.2.1.length
        · rw [t6' x e1]
          have := hx7 x (by omega) e1
          omega
        · have := t7' x (by omega) hb
          omega
      · rw [y_32]
        exact ⟨lc, gs, hs, hY, Int.le_refl _, fun _ => rfl, ⟨Nat.le_refl _, hL⟩, fun _ _ => rfl, fun x h1 h2 => by omega⟩
    · -- else
      obtain ⟨i, a, b, rfl, r, h8, h9, h10⟩ := inv_12 h
      rw [tsz_nd] at ht
      rw [y_36]
      have q1 := P_le a h8
      have q2 := P_le b h10
      have hl2 := hl rfl
      obtain ⟨l1, g1, x1, x2, x3, x4, x5, x6, x7⟩ := BL a _ _ _ H c lc gs (by omega) h8 (by omega) (by omega) hY hL hs hH
      show LRq pm m c ((fun s2 y2 => (fun c4 : zS => (c4.1, slb (nln (stS m a H 0 0 c).2) (c4.1.1.length : Int) c4.2)) (stS m b H 0 0 (s2, slb l (s2.1.length : Int) y2))) (em 15 0 (nln (stS m a H 0 0 c).2) (stS m a H 0 0 c).1) (nlb (stS m a H 0 0 c).2)) gs _
      generalize stS m a H 0 0 c = c1 at *
      have ec : c1.2.2.1 = c.2.2.1 := x4 trivial
      have hs1 := LSq_nlb x1
      have cn1 := nlb_c (y := c1.2)
      have le1 := nlb_ln (y := c1.2)
      have hL1 := nlb_3 x5.2
      obtain ⟨l2, w2⟩ := LR_em (m := m) (o := 15) (a := 0) (H := nln c1.2) hs1 (by decide) (by decide) (by decide) (Gl_new (by rw [cn1]; exact Int.le_refl _))
      have w3 := LSq_slb (n := l) (y := nlb c1.2) w2 (fun x hx hx2 => by
        by_cases e : x < c1.2.1.length
        · rw [vp_n (by omega), cn1]
          by_cases e2 : x < c.2.1.length
          · rw [x6 x e2]
            have := hl2 x hx e2
            omega
          · have := x7 x (by omega) e
            omega
        · have e3 : x = c1.2.1.length := by omega
          rw [e3, vp_e, cn1]
          exact Int.le_refl _)
      show LRq pm m c ((fun c4 : zS => (c4.1, slb (nln c1.2) (c4.1.1.length : Int) c4.2)) (stS m b H 0 0 (em 15 0 (nln c1.2) c1.1, slb l ((em 15 0 (nln c1.2) c1.1).1.length : Int) (nlb c1.2)))) gs _
      have ey1 : (slb l ((em 15 0 (nln c1.2) c1.1).1.length : Int) (nlb c1.2)).1.length = (nlb c1.2).1.length := slb_ln
      have ey2 : (slb l ((em 15 0 (nln c1.2) c1.1).1.length : Int) (nlb c1.2)).2.1 = (nlb c1.2).2.1 := slb_c
      have hYy : YL m (slb l ((em 15 0 (nln c1.2) c1.1).1.length : Int) (nlb c1.2)) := slb_y (nlb_y x2)
      generalize slb l ((em 15 0 (nln c1.2) c1.1).1.length : Int) (nlb c1.2) = y2 at *
      have hH3 : Gl y2.1 (vput g1 c1.2.1.length c1.2.2.1) y2.2.1 H := fun x hx => by
        obtain ⟨z1, z2⟩ := hH x hx
        exact ⟨by omega, by rw [vp_n (by omega), x6 x z1]; omega⟩
      obtain ⟨l5, g5, t1, t2, t3, t4, t5, t6, t7⟩ := BL b _ _ _ H (em 15 0 (nln c1.2) c1.1, y2) l2 _ (by omega) h10 (by omega) (by omega) hYy (by show y2.1.length ≤ 3000; omega) w3 hH3
      show LRq pm m c ((stS m b H 0 0 (em 15 0 (nln c1.2) c1.1, y2)).1, slb (nln c1.2) ((stS m b H 0 0 (em 15 0 (nln c1.2) c1.1, y2)).1.1.length : Int) (stS m b H 0 0 (em 15 0 (nln c1.2) c1.1, y2)).2) gs _
      generalize stS m b H 0 0 (em 15 0 (nln c1.2) c1.1, y2) = c4 at *
      have t4' : c4.2.2.1 = y2.2.1 := t4 trivial
      have t5' : y2.1.length ≤ c4.2.1.length ∧ c4.2.1.length ≤ 3000 := t5
      have t6' : ∀ x, x < y2.1.length → g5 x = vput g1 c1.2.1.length c1.2.2.1 x := t6
      have t7' : ∀ x, y2.1.length ≤ x → x < c4.2.1.length → y2.2.1 ≤ g5 x := t7
      refine ⟨l5, g5, LSq_slb t1 (fun x hx hx2 => ?_), slb_y t2, ?_, fun _ => ?_, ?_, fun x hx => by rw [t6' x (by omega), vp_n (by omega), x6 x hx], fun x ha hb => ?_⟩
      · have z := (Gl_new (gs := g1) (y := c1.2) (cn := c1.2.2.1) (Int.le_refl _) x hx).1
        rw [t6' x (by omega), gs_new hx]
        omega
      · show c.2.2.1 ≤ (slb (nln c1.2) (c4.1.1.length : Int) c4.2).2.1
        rw [slb_c]
        omega
      · show (slb (nln c1.2) (c4.1.1.length : Int) c4.2).2.1 = c.2.2.1
        rw [slb_c]
        omega
      · show c.2.1.length ≤ (slb (nln c1.2) (c4.1.1.length : Int) c4.2).1.length ∧ (slb (nln c1.2) (c4.1.1.length : Int) c4.2).1.length ≤ 3000
        rw [slb_ln]
        omega
      · have hb2 : x < (slb (nln c1.2) (c4.1.1.length : Int) c4.2).1.length := hb
        rw [slb_ln] at hb2
        by_cases e1 : x < y2.1.length
        · rw [t6' x e1]
          by_cases e2 : x < c1.2.1.length
          · rw [vp_n (by omega)]
            have := x7 x ha e2
            omega
          · rw [show x = c1.2.1.length from by omega, vp_e]
            omega
        · have := t7' x (by omega) hb2
          omega
end Lq2
