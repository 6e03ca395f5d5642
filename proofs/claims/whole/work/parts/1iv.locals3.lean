/-! LOCALS ARE SET BEFORE THEY ARE TAKEN: procs and a text -/
/-- between procs: no label stands behind the orders -/
def BQ (pm : Int → Int) (l : xO) (lb : List Int) (lc gs : Nat → Int) : Prop := (∀ k, k < l.length → (opk l k = 2 → agk l k < lc k) ∧ (opk l k = 3 → agk l k ≤ lc k) ∧ (opk l k = 0 → lc k = pm (agk l k))) ∧ (∀ k, k + 1 < l.length → opk l (k + 1) ≠ 0 → lc (k + 1) ≤ nxl l lc k) ∧ (∀ k, k < l.length → ∀ x : Nat, lbk l k = (x : Int) → x < lb.length ∧ gs x ≤ lc k) ∧ (∀ x, x < lb.length → ∀ pos : Nat, lb.getD x 0 = (pos : Int) → pos < l.length ∧ lc pos ≤ gs x)
section Bqs
variable {pm : Int → Int} {l : xO} {lb : List Int} {cn : Int} {lc gs : Nat → Int} {o a H : Int}
/-- ENTER -/
theorem BQ_0 (h3 : l.length < 3000) (hcn : cn = pm a) (h : BQ pm l lb lc gs) : LQ pm (ap l (0, a, -1)) lb cn (vput lc l.length cn) gs := by
  obtain ⟨q1, q2, q4, q5⟩ := h
  have e0 := (getD_ap (l := l) (x := ((0 : Int), a, (-1 : Int))) (k := 0) h3).1
  have en : ∀ k, k < l.length → opk (ap l (0, a, -1)) k = opk l k ∧ agk (ap l (0, a, -1)) k = agk l k ∧ lbk (ap l (0, a, -1)) k = lbk l k ∧ vput lc l.length cn k = lc k := fun k hk => by
    have z := (getD_ap (l := l) (x := ((0 : Int), a, (-1 : Int))) (k := k) h3).2.1 hk
    unfold opk agk lbk vput
    rw [z, if_neg (by omega)]
    exact ⟨rfl, rfl, rfl, rfl⟩
  have ee : opk (ap l (0, a, -1)) l.length = 0 ∧ agk (ap l (0, a, -1)) l.length = a ∧ lbk (ap l (0, a, -1)) l.length = -1 ∧ vput lc l.length cn l.length = cn := by
    have z := (getD_ap (l := l) (x := ((0 : Int), a, (-1 : Int))) (k := l.length) h3).2.2 rfl
    unfold opk agk lbk vput
    rw [z, if_pos rfl]
    exact ⟨rfl, rfl, rfl, rfl⟩
  refine ⟨fun k hk => ?_, fun k hk h0 => ?_, fun k hk => ?_, fun k hk x hx => ?_, fun x hx pos hp => ?_⟩
  · by_cases c : k < l.length
    · obtain ⟨x1, x2, x3, x4⟩ := en k c
      rw [x1, x2, x4]
      exact q1 k c
    · rw [e0] at hk
      have : k = l.length := by omega
      subst this
      rw [ee.1, ee.2.1, ee.2.2.2]
      exact ⟨fun z => absurd z (by decide), fun z => absurd z (by decide), fun _ => hcn⟩
  · rw [e0] at hk
    by_cases c : k + 1 < l.length
    · obtain ⟨x1, x2, x3, x4⟩ := en (k + 1) c
      obtain ⟨y1, y2, y3, y4⟩ := en k (by omega)
      rw [x1] at h0
      unfold nxl
      rw [x4, y1, y2, y4]
      exact q2 k c h0
    · have : k + 1 = l.length := by omega
      rw [this, ee.1] at h0
      exact absurd rfl h0
  · rw [e0] at hk
    have : k = l.length := by omega
    subst this
    unfold nxl
    rw [ee.1, ee.2.1, ee.2.2.2, if_neg (fun z => absurd z.1 (by decide))]
    exact Int.le_refl _
  · by_cases c : k < l.length
    · obtain ⟨x1, x2, x3, x4⟩ := en k c
      rw [x3] at hx
      rw [x4]
      exact q4 k c x hx
    · rw [e0] at hk
      have : k = l.length := by omega
      subst this
      rw [ee.2.2.1] at hx
      omega
  · obtain ⟨y1, y2⟩ := q5 x hx pos hp
    rw [e0]
    refine ⟨by omega, fun w => ?_, fun w => by omega⟩
    rw [(en pos y1).2.2.2]
    exact y2
theorem LQ_bq (h3 : l.length < 3000) (h : LQ pm l lb cn lc gs) (ho : o ≠ 2) (ho3 : o ≠ 3) (ho0 : o ≠ 0) : BQ pm (ap l (o, a, -1)) lb (vput lc l.length cn) gs := by
  have z := LQ_em (cn' := cn) (o := o) (a := a) (H := -1) h3 h (fun w => absurd w ho) (fun w => absurd w ho3) ho0 Gl_n (by rw [if_neg (fun w => ho3 w.1)]; exact Int.le_refl _)
  obtain ⟨q1, q2, q3, q4, q5⟩ := z
  have e0 := (getD_ap (l := l) (x := (o, a, (-1 : Int))) (k := 0) h3).1
  refine ⟨q1, q2, q4, fun x hx pos hp => ?_⟩
  have y := (h.2.2.2.2 x hx pos hp).1
  obtain ⟨-, y2, -⟩ := q5 x hx pos hp
  exact ⟨by omega, y2 (by omega)⟩
theorem BQ_nlb (h : BQ pm l lb lc gs) : BQ pm l (lb ++ [-1]) lc (vput gs lb.length cn) := by
  obtain ⟨q1, q2, q4, q5⟩ := h
  have el : (lb ++ [-1]).length = lb.length + 1 := by rw [List.length_append]; rfl
  refine ⟨q1, q2, fun k hk x hx => ?_, fun x hx pos hp => ?_⟩
  · obtain ⟨y1, y2⟩ := q4 k hk x hx
    rw [el, vp_n (by omega)]
    exact ⟨by omega, y2⟩
  · rw [el] at hx
    by_cases c : x < lb.length
    · rw [List.getD_eq_getElem?_getD, List.getElem?_append_left c, ← List.getD_eq_getElem?_getD] at hp
      rw [vp_n (by omega)]
      exact q5 x c pos hp
    · have : x = lb.length := by omega
      subst this
      rw [List.getD_eq_getElem?_getD, List.getElem?_append_right (Nat.le_refl _), Nat.sub_self] at hp
      have hp2 : (-1 : Int) = (pos : Int) := hp
      omega
end Bqs
def BSq (pm : Int → Int) (l : xO) (lb : List Int) (lc gs : Nat → Int) : Prop := 3000 ≤ l.length ∨ BQ pm l lb lc gs
/-- what a text holds between its parts -/
def TLq (pm : Int → Int) (c : wS) : Prop := ∃ lc gs, BSq pm c.1.1 c.2.1.1 lc gs ∧ (∀ k : Nat, (k : Int) < c.2.2.2 57 4 → c.2.1.2.2.1 k = -1) ∧ c.2.1.1.length ≤ 3000
section Tlt
variable {pm : Int → Int} {K V : Int → Int}
theorem prF_yl {m : Mem} : ∀ (k : Nat) (t : xT), tsz t < k → ∀ (p q : Int), PN K t p q → ∀ c : zS, YL m c.2 → YL m (prF m t c).2 ∧ (prF m t c).2.1 = c.2.1 := by
  intro k
  induction k with
  | zero => intro t ht; exact absurd ht (Nat.not_lt_zero _)
  | succ k ih =>
    intro t ht p q h c hY
    rcases inv_N h with ⟨a, b, rfl, g1, g2, g3⟩ | ⟨a, b, rfl, g1, g2, g3⟩
    · obtain ⟨z1, z2, -, -⟩ := YL_mk2 (m := m) (i := p) hY
      exact ⟨z1, z2⟩
    · rw [tsz_nd] at ht
      obtain ⟨z1, z2, -, -⟩ := YL_mk2 (m := m) (i := p) hY
      obtain ⟨w1, w2⟩ := ih b (by omega) _ _ g3 (tlS m p c.2 c.1, ymk m p c.2) z1
      exact ⟨w1, w2.trans z2⟩
theorem vp5 {cd : Nat} (hc : cd = 83 ∨ cd = 93) {told first ml mx : Int} {m : Mem} (h0 : 0 ≤ m 68 4 ∧ m 68 4 ≤ 100000) : p8 cd told first ml mx m 68 4 = m 68 4 + 1 ∧ p8 cd told first ml mx m 57 4 = m 57 4 ∧ ∀ q : Nat, q < 40 → p8 cd told first ml mx m (cd + 5) q = if (q : Int) = m 68 4 then told else m (cd + 5) q := by
  have e4 : w32 (m 68 4 + 1) = m 68 4 + 1 := w32_of (by omega) (by omega)
  have gx : ∀ a k, a ≠ 68 → (if 16 < w32 (ml - told) then put m 68 15 1 else m) a k = m a k := fun a k ha => lg_x (fun w => ha w.1)
  have g4 : (if 16 < w32 (ml - told) then put m 68 15 1 else m) 68 4 = m 68 4 := lg_4
  generalize hX : (if 16 < w32 (ml - told) then put m 68 15 1 else m) = X at *
  have ep : p8 cd told first ml mx m = put (kpP cd told first ml mx X) 68 4 (w32 (m 68 4 + 1)) := by
    unfold p8
    rw [hX]
  rw [ep]
  refine ⟨?_, ?_, fun q hq => ?_⟩
  · rw [put_ss, if_pos rfl, if_pos rfl, e4]
  · rw [put_ss, if_neg (by decide)]
    unfold kpP
    by_cases c : X 68 4 < 0 ∨ 40 ≤ X 68 4
    · rw [if_pos c]
      exact gx 57 4 (by decide)
    · rw [if_neg c, put_ss, if_neg (by omega), put_ss, if_neg (by omega), put_ss, if_neg (by omega), put_ss, if_neg (by omega)]
      exact gx 57 4 (by decide)
  · rw [put_ss, if_neg (by omega)]
    unfold kpP
    rw [g4]
    by_cases c : m 68 4 < 0 ∨ 40 ≤ m 68 4
    · rw [if_pos c, gx _ _ (by omega), if_neg (by omega)]
    · rw [if_neg c, put_ss, if_neg (by omega), put_ss, if_neg (by omega), put_ss, if_neg (by omega), put_ss, if_pos rfl]
      by_cases e : (q : Int) = m 68 4
      · rw [if_pos (by omega), if_pos e]
      · rw [if_neg (by omega), if_neg e]
        exact gx _ _ (by omega)
theorem TL_Pr {cd : Nat} {e p r : Int} (he : e ≤ 3000) {a : xT} {s : xSt} {y : yS} {H : Int} {m : Mem} (hP : PH K V a p r) (hp : 0 ≤ p) (hr : r ≤ e) (h57 : (xPr cd m a s y).2.2.2 57 4 = m 57 4) (hpm : ∀ i pa i2 ra bk, a = nd 47 i pa (nd 48 i2 ra bk) → (p1 m i pa s y).2.2.1 = pm (m 68 4)) (T : TLq pm (s, y, H, m)) : TLq pm (xPr cd m a s y) := by
  obtain ⟨i, pa, i2, ra, bk, rfl, r1, s1, k1, k2, k3, k4⟩ := inv_H hP
  have hpm := hpm i pa i2 ra bk rfl
  obtain ⟨lc, gs, B, hY, hL⟩ := T
  have B : BSq pm s.1 y.1 lc gs := B
  have hY : ∀ k : Nat, (k : Int) < m 57 4 → y.2.2.1 k = -1 := hY
  have hL : y.1.length ≤ 3000 := hL
  have Y0 : YL m (y.1, 0, y.2.2.1, y.2.2.2.1, 0) := ⟨⟨Int.le_refl 0, Int.le_refl 0, by show (0 : Int) ≤ 1510; omega⟩, fun k hk => Or.inl (hY k hk)⟩
  have hp1 : (p1 m i pa s y).1.1 = s.1 ∧ (p1 m i pa s y).2.1 = y.1 ∧ YL m (p1 m i pa s y).2 := by
    unfold p1
    by_cases z : i = 0
    · rw [if_pos z]
      exact ⟨rfl, rfl, Y0⟩
    · rw [if_neg z]
      rcases k1 with ⟨w, _⟩ | ⟨_, _, w⟩
      · contradiction
      · obtain ⟨w1, w2⟩ := prF_yl (m := m) (tsz pa + 1) pa (by omega) _ _ w ((s.1, 0, 0, s.2.2.2.1, s.2.2.2.2), (y.1, 0, y.2.2.1, y.2.2.2.1, 0)) Y0
        exact ⟨prF_1 (tsz pa + 1) pa (by omega) _ _ w _, w2, w1⟩
  have e2 : (p2 m i2 ra (p1 m i pa s y).1).1 = s.1 := by
    unfold p2
    by_cases z : i2 = 0
    · rw [if_pos z]
      exact hp1.1
    · rw [if_neg z]
      rcases k3 with ⟨w, _⟩ | ⟨_, _, w⟩
      · contradiction
      · rw [rsF_1 (tsz ra + 1) ra (by omega) _ _ w]
        exact hp1.1
  have l1 : p ≤ r1 := by
    rcases k1 with ⟨_, _, g⟩ | ⟨_, _, g⟩
    · omega
    · have := PN_n pa g
      omega
  have l2 : r1 + 1 ≤ s1 := by
    rcases k3 with ⟨_, _, g⟩ | ⟨_, _, g⟩
    · omega
    · have := PN_n ra g
      omega
  have e57 : (xPr cd m (nd 47 i pa (nd 48 i2 ra bk)) s y).2.2.2 57 4 = m 57 4 := h57
  have eX : (xPr cd m (nd 47 i pa (nd 48 i2 ra bk)) s y).1 = (p6 m (nln (p1 m i pa s y).2) (p5 m bk (p2 m i2 ra (p1 m i pa s y).1) (p1 m i pa s y).2)).1 := rfl
  have eY : (xPr cd m (nd 47 i pa (nd 48 i2 ra bk)) s y).2.1 = p7 m (p6 m (nln (p1 m i pa s y).2) (p5 m bk (p2 m i2 ra (p1 m i pa s y).1) (p1 m i pa s y).2)).2 := rfl
  obtain ⟨-, f2, f3⟩ := hp1
  generalize p1 m i pa s y = c1 at *
  generalize p2 m i2 ra c1.1 = s2 at *
  generalize xPr cd m (nd 47 i pa (nd 48 i2 ra bk)) s y = Z at *
  have hL1 : (nlb c1.2).1.length ≤ 3000 := (nlb_3 (by rw [f2]; exact hL)).1
  have W1 : LSq pm (em 0 (m 68 4) (-1) s2).1 (nlb c1.2).1 (nlb c1.2).2.1 (vput lc s.1.length c1.2.2.1) (vput gs c1.2.1.length c1.2.2.1) := by
    show LSq pm (ap s2.1 (0, m 68 4, -1)) _ _ _ _
    rw [e2, nlb_c]
    rcases B with B | B
    · rw [ap_big B]
      exact Or.inl B
    · by_cases h3 : s.1.length < 3000
      · right
        unfold nlb
        by_cases cc : c1.2.1.length < 3000
        · rw [if_pos cc]
          show LQ pm _ (c1.2.1 ++ [-1]) _ _ _
          rw [f2]
          exact BQ_0 h3 hpm (BQ_nlb B)
        · rw [if_neg cc, f2]
          rw [f2] at cc
          refine BQ_0 h3 hpm ?_
          obtain ⟨q1, q2, q4, q5⟩ := B
          refine ⟨q1, q2, fun k hk x hx => ?_, fun x hx pos hp => ?_⟩
          · rw [vp_n (by have := (q4 k hk x hx).1; omega)]
            exact q4 k hk x hx
          · rw [vp_n (by omega)]
            exact q5 x hx pos hp
      · rw [ap_big (by omega)]
        exact Or.inl (by omega)
  have hG : Gl (nlb c1.2).1 (vput gs c1.2.1.length c1.2.2.1) (nlb c1.2).2.1 (nln c1.2) := Gl_new (by rw [nlb_c]; exact Int.le_refl _)
  obtain ⟨l5, g5, x1, x2, x3, x4, x5, x6, x7⟩ := SL he (tsz bk + 1) bk (by omega) 8 _ _ _ (by omega) (by omega) k4 (by omega) hr m (nln c1.2) 0 0 (em 0 (m 68 4) (-1) s2, nlb c1.2) _ _ (nlb_y f3) hL1 W1 hG (fun z => by omega) (fun z => by omega)
  have e5 : p5 m bk s2 c1.2 = stS m bk (nln c1.2) 0 0 (em 0 (m 68 4) (-1) s2, nlb c1.2) := rfl
  rw [e5] at eX eY
  generalize stS m bk (nln c1.2) 0 0 (em 0 (m 68 4) (-1) s2, nlb c1.2) = c5 at *
  have ec : c5.2.2.1 = (nlb c1.2).2.1 := x4 (Or.inl rfl)
  have hx6 : ∀ x, x < (nlb c1.2).1.length → g5 x = vput gs c1.2.1.length c1.2.2.1 x := x6
  obtain ⟨l6, w6⟩ := LR_em (m := m) (o := 1) (a := 0) (H := -1) x1 (by decide) (by decide) (by decide) Gl_n
  obtain ⟨l7, w7⟩ := LR_em (m := m) (o := 22) (a := m 68 4) (H := -1) w6 (by decide) (by decide) (by decide) Gl_n
  have w8 := LSq_slb (n := nln c1.2) (y := c5.2) w7 (fun x hx hx2 => by
    have z := (hG x hx).1
    rw [hx6 x z, gs_new hx, ec, nlb_c]
    exact Int.le_refl _)
  have ey : (p6 m (nln c1.2) c5).2 = slb (nln c1.2) ((em 22 (m 68 4) (-1) (em 1 0 (-1) c5.1)).1.length : Int) c5.2 := rfl
  have es : (p6 m (nln c1.2) c5).1 = em 26 (m 68 4) (-1) (em 22 (m 68 4) (-1) (em 1 0 (-1) c5.1)) := rfl
  rw [es] at eX
  rw [ey] at eY
  have hYy : YL m (slb (nln c1.2) ((em 22 (m 68 4) (-1) (em 1 0 (-1) c5.1)).1.length : Int) c5.2) := slb_y x2
  have ln : (slb (nln c1.2) ((em 22 (m 68 4) (-1) (em 1 0 (-1) c5.1)).1.length : Int) c5.2).1.length = c5.2.1.length := slb_ln
  generalize slb (nln c1.2) ((em 22 (m 68 4) (-1) (em 1 0 (-1) c5.1)).1.length : Int) c5.2 = y6 at *
  generalize em 22 (m 68 4) (-1) (em 1 0 (-1) c5.1) = s6 at *
  have fg := fgN_n (m := m) y6.2.1.toNat y6
  have h0 := hYy.1.1
  have fy := YL_fg (m := m) y6.2.1.toNat y6 hYy (by omega)
  have e7 : p7 m y6 = fgN m y6.2.1.toNat y6 := rfl
  rw [e7] at eY
  have hlb : Z.2.1.1 = y6.1 := by rw [eY, fg.1]
  have hcnt : (fgN m y6.2.1.toNat y6).2.1 = 0 := by rw [fg.2]; omega
  have htab : ∀ k : Nat, (k : Int) < m 57 4 → Z.2.1.2.2.1 k = -1 := fun k hk => by
    rw [eY]
    rcases fy.1.2 k hk with w | w
    · exact w
    · rw [hcnt] at w
      omega
  have h3000 : Z.2.1.1.length ≤ 3000 := by
    rw [hlb, ln]
    exact x5.2
  rcases w8 with w8 | w8
  · refine ⟨l7, g5, Or.inl ?_, by rw [e57]; exact htab, h3000⟩
    rw [eX]
    show 3000 ≤ (ap s6.1 _).length
    rw [ap_big w8]
    exact w8
  · by_cases h3 : s6.1.length < 3000
    · refine ⟨vput l7 s6.1.length y6.2.1, g5, Or.inr ?_, by rw [e57]; exact htab, h3000⟩
      rw [eX, hlb]
      exact LQ_bq h3 w8 (by decide) (by decide) (by decide)
    · refine ⟨l7, g5, Or.inl ?_, by rw [e57]; exact htab, h3000⟩
      rw [eX]
      show 3000 ≤ (ap s6.1 _).length
      rw [ap_big (by omega)]
      omega
/-- what is kept of procs stays -/
theorem kp_st {cd : Nat} {e : Int} (hc : cd = 83 ∨ cd = 93) : ∀ (k : Nat) (t : xT), tsz t < k → ∀ (p : Int) (c : wS), PT K V t p e → 0 ≤ p → 0 ≤ c.2.2.2 68 4 → c.2.2.2 68 4 + (e - p) ≤ 100000 → c.2.2.2 68 4 ≤ (xTo cd t c).2.2.2 68 4 ∧ ∀ q : Nat, (q : Int) < c.2.2.2 68 4 → q < 40 → (xTo cd t c).2.2.2 (cd + 5) q = c.2.2.2 (cd + 5) q := by
  intro k
  induction k with
  | zero => intro t ht; exact absurd ht (Nat.not_lt_zero _)
  | succ k ih =>
    intro t ht p c h hp h0 h1
    rcases inv_T h with ⟨i, a, b, rfl, g1, g2⟩ | ⟨a, b, rfl, g1, g2, g3, g4⟩ | ⟨a, b, rfl, g1, g2, g3, g4, g5, g6, g7⟩ | ⟨a, b, rfl, g1, r, g2, g3, g4⟩ | ⟨a, b, rfl, g1, g2, g3, r, g4, g5⟩
    · exact ⟨Int.le_refl _, fun _ _ _ => rfl⟩
    · rw [tsz_nd] at ht
      exact ih b (by omega) _ c g4 (by omega) h0 (by omega)
    · rw [tsz_nd] at ht
      exact ih b (by omega) _ c g7 (by omega) h0 (by omega)
    · rw [tsz_nd] at ht
      have := PN_n a g2
      exact ih b (by omega) _ c g4 (by omega) h0 (by omega)
    · rw [tsz_nd] at ht
      have l1 := PH_lt g4
      have l2 := PT_le (tsz b + 1) b (by omega) _ _ g5
      obtain ⟨i, pa, i2, ra, bk, rfl, r1, s1, k1, k2, k3, k4⟩ := inv_H g4
      have z := vp5 (cd := cd) hc (told := (p1 c.2.2.2 i pa c.1 c.2.1).2.2.1) (first := (c.1.1.length : Int)) (ml := (p7 c.2.2.2 (p6 c.2.2.2 (nln (p1 c.2.2.2 i pa c.1 c.2.1).2) (p5 c.2.2.2 bk (p2 c.2.2.2 i2 ra (p1 c.2.2.2 i pa c.1 c.2.1).1) (p1 c.2.2.2 i pa c.1 c.2.1).2)).2).2.2.2.2) (mx := (p6 c.2.2.2 (nln (p1 c.2.2.2 i pa c.1 c.2.1).2) (p5 c.2.2.2 bk (p2 c.2.2.2 i2 ra (p1 c.2.2.2 i pa c.1 c.2.1).1) (p1 c.2.2.2 i pa c.1 c.2.1).2)).1.2.2.1) (m := c.2.2.2) (by omega)
      have e1 : (xPr cd c.2.2.2 (nd 47 i pa (nd 48 i2 ra bk)) c.1 c.2.1).2.2.2 68 4 = c.2.2.2 68 4 + 1 := z.1
      obtain ⟨w1, w2⟩ := ih b (by omega) _ (xPr cd c.2.2.2 (nd 47 i pa (nd 48 i2 ra bk)) c.1 c.2.1) g5 (by omega) (by omega) (by omega)
      refine ⟨by show _ ≤ (xTo cd b (xPr cd c.2.2.2 (nd 47 i pa (nd 48 i2 ra bk)) c.1 c.2.1)).2.2.2 68 4; omega, fun q hq hq2 => ?_⟩
      have z2 := w2 q (by omega) hq2
      refine z2.trans ?_
      have z3 := z.2.2 q hq2
      rw [if_neg (by omega)] at z3
      exact z3
theorem TL_To {cd : Nat} {e : Int} (hc : cd = 83 ∨ cd = 93) (he : e ≤ 3000) : ∀ (k : Nat) (t : xT), tsz t < k → ∀ (p : Int) (c : wS), PT K V t p e → 0 ≤ p → 0 ≤ c.2.2.2 68 4 → c.2.2.2 68 4 + (e - p) ≤ 100000 → (xTo cd t c).2.2.2 68 4 ≤ 40 → (∀ q : Nat, q < 40 → pm (q : Int) = (xTo cd t c).2.2.2 (cd + 5) q) → TLq pm c → TLq pm (xTo cd t c) := by
  intro k
  induction k with
  | zero => intro t ht; exact absurd ht (Nat.not_lt_zero _)
  | succ k ih =>
    intro t ht p c h hp h0 h1 h40 hpm T
    rcases inv_T h with ⟨i, a, b, rfl, g1, g2⟩ | ⟨a, b, rfl, g1, g2, g3, g4⟩ | ⟨a, b, rfl, g1, g2, g3, g4, g5, g6, g7⟩ | ⟨a, b, rfl, g1, r, g2, g3, g4⟩ | ⟨a, b, rfl, g1, g2, g3, r, g4, g5⟩
    · exact T
    · rw [tsz_nd] at ht
      exact ih b (by omega) _ c g4 (by omega) h0 (by omega) h40 hpm T
    · rw [tsz_nd] at ht
      exact ih b (by omega) _ c g7 (by omega) h0 (by omega) h40 hpm T
    · rw [tsz_nd] at ht
      have := PN_n a g2
      exact ih b (by omega) _ c g4 (by omega) h0 (by omega) h40 hpm T
    · rw [tsz_nd] at ht
      have l1 := PH_lt g4
      have l2 := PT_le (tsz b + 1) b (by omega) _ _ g5
      obtain ⟨s, y, H, m⟩ := c
      have h0 : 0 ≤ m 68 4 := h0
      have h1 : m 68 4 + (e - p) ≤ 100000 := h1
      have h40 : (xTo cd b (xPr cd m a s y)).2.2.2 68 4 ≤ 40 := h40
      have hpm : ∀ q : Nat, q < 40 → pm (q : Int) = (xTo cd b (xPr cd m a s y)).2.2.2 (cd + 5) q := hpm
      obtain ⟨i, pa, i2, ra, bk, rfl, r1, s1, k1, k2, k3, k4⟩ := inv_H g4
      have z := vp5 (cd := cd) hc (told := (p1 m i pa s y).2.2.1) (first := (s.1.length : Int)) (ml := (p7 m (p6 m (nln (p1 m i pa s y).2) (p5 m bk (p2 m i2 ra (p1 m i pa s y).1) (p1 m i pa s y).2)).2).2.2.2.2) (mx := (p6 m (nln (p1 m i pa s y).2) (p5 m bk (p2 m i2 ra (p1 m i pa s y).1) (p1 m i pa s y).2)).1.2.2.1) (m := m) (by omega)
      have e1 : (xPr cd m (nd 47 i pa (nd 48 i2 ra bk)) s y).2.2.2 68 4 = m 68 4 + 1 := z.1
      obtain ⟨w1, w2⟩ := kp_st hc (tsz b + 1) b (by omega) _ (xPr cd m (nd 47 i pa (nd 48 i2 ra bk)) s y) g5 (by omega) (by omega) (by omega)
      refine ih b (by omega) _ (xPr cd m (nd 47 i pa (nd 48 i2 ra bk)) s y) g5 (by omega) (by omega) (by omega) h40 hpm (TL_Pr he g4 (by omega) (by omega) z.2.1 (fun i' pa' i2' ra' bk' e' => ?_) T)
      injection e' with e1' e2'
      injection e2' with e3' e4'
      injection e4' with e5' e6'
      subst e3' e5'
      have q4 : (((m 68 4).toNat : Nat) : Int) = m 68 4 := by omega
      have z3 := z.2.2 (m 68 4).toNat (by omega)
      rw [if_pos q4] at z3
      have z4 := w2 (m 68 4).toNat (by omega) (by omega)
      have z5 := hpm (m 68 4).toNat (by omega)
      rw [q4] at z5
      rw [z5, z4]
      exact z3.symm
end Tlt
