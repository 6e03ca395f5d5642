/-! LOCALS ARE SET BEFORE THEY ARE TAKEN: how many are told at each order -/
def opk (l : xO) (k : Nat) : Int := (l.getD k (0, 0, 0)).1
def agk (l : xO) (k : Nat) : Int := (l.getD k (0, 0, 0)).2.1
def lbk (l : xO) (k : Nat) : Int := (l.getD k (0, 0, 0)).2.2
def nxl (l : xO) (lc : Nat → Int) (k : Nat) : Int := if opk l k = 3 ∧ agk l k = lc k then lc k + 1 else lc k
def LQ (pm : Int → Int) (l : xO) (lb : List Int) (cn : Int) (lc gs : Nat → Int) : Prop := (∀ k, k < l.length → (opk l k = 2 → agk l k < lc k) ∧ (opk l k = 3 → agk l k ≤ lc k) ∧ (opk l k = 0 → lc k = pm (agk l k))) ∧ (∀ k, k + 1 < l.length → opk l (k + 1) ≠ 0 → lc (k + 1) ≤ nxl l lc k) ∧ (∀ k, k + 1 = l.length → cn ≤ nxl l lc k) ∧ (∀ k, k < l.length → ∀ x : Nat, lbk l k = (x : Int) → x < lb.length ∧ gs x ≤ lc k) ∧ (∀ x, x < lb.length → ∀ pos : Nat, lb.getD x 0 = (pos : Int) → pos ≤ l.length ∧ (pos < l.length → lc pos ≤ gs x) ∧ (pos = l.length → cn ≤ gs x))
def LSq (pm : Int → Int) (l : xO) (lb : List Int) (cn : Int) (lc gs : Nat → Int) : Prop := 3000 ≤ l.length ∨ LQ pm l lb cn lc gs
/-- a label that may be gone to -/
def Gl (lb : List Int) (gs : Nat → Int) (cn H : Int) : Prop := ∀ x : Nat, H = (x : Int) → x < lb.length ∧ gs x ≤ cn
section Lqs
variable {pm : Int → Int} {l : xO} {lb : List Int} {cn cn' : Int} {lc gs : Nat → Int} {o a H : Int}
theorem LQ_em (h3 : l.length < 3000) (h : LQ pm l lb cn lc gs) (h2 : o = 2 → a < cn) (h33 : o = 3 → a ≤ cn) (h00 : o ≠ 0) (hH : Gl lb gs cn H) (hc : cn' ≤ if o = 3 ∧ a = cn then cn + 1 else cn) : LQ pm (ap l (o, a, H)) lb cn' (vput lc l.length cn) gs := by
  obtain ⟨q1, q2, q3, q4, q5⟩ := h
  have e0 := (getD_ap (l := l) (x := (o, a, H)) (k := 0) h3).1
  have en : ∀ k, k < l.length → opk (ap l (o, a, H)) k = opk l k ∧ agk (ap l (o, a, H)) k = agk l k ∧ lbk (ap l (o, a, H)) k = lbk l k ∧ vput lc l.length cn k = lc k := fun k hk => by
    have z := (getD_ap (l := l) (x := (o, a, H)) (k := k) h3).2.1 hk
    unfold opk agk lbk vput
    rw [z, if_neg (by omega)]
    exact ⟨rfl, rfl, rfl, rfl⟩
  have ee : opk (ap l (o, a, H)) l.length = o ∧ agk (ap l (o, a, H)) l.length = a ∧ lbk (ap l (o, a, H)) l.length = H ∧ vput lc l.length cn l.length = cn := by
    have z := (getD_ap (l := l) (x := (o, a, H)) (k := l.length) h3).2.2 rfl
    unfold opk agk lbk vput
    rw [z, if_pos rfl]
    exact ⟨rfl, rfl, rfl, rfl⟩
  have nn : ∀ k, k < l.length → nxl (ap l (o, a, H)) (vput lc l.length cn) k = nxl l lc k := fun k hk => by
    obtain ⟨x1, x2, x3, x4⟩ := en k hk
    unfold nxl
    rw [x1, x2, x4]
  have ne : nxl (ap l (o, a, H)) (vput lc l.length cn) l.length = if o = 3 ∧ a = cn then cn + 1 else cn := by
    obtain ⟨x1, x2, x3, x4⟩ := ee
    unfold nxl
    rw [x1, x2, x4]
  refine ⟨fun k hk => ?_, fun k hk h0 => ?_, fun k hk => ?_, fun k hk x hx => ?_, fun x hx pos hp => ?_⟩
  · by_cases c : k < l.length
    · obtain ⟨x1, x2, x3, x4⟩ := en k c
      rw [x1, x2, x4]
      exact q1 k c
    · rw [e0] at hk
      have : k = l.length := by omega
      subst this
      obtain ⟨x1, x2, x3, x4⟩ := ee
      rw [x1, x2, x4]
      exact ⟨h2, h33, fun z => absurd z h00⟩
  · rw [e0] at hk
    rw [nn k (by omega)]
    by_cases c : k + 1 < l.length
    · obtain ⟨x1, x2, x3, x4⟩ := en (k + 1) c
      rw [x1] at h0
      rw [x4]
      exact q2 k c h0
    · have : k + 1 = l.length := by omega
      rw [this, ee.2.2.2]
      exact q3 k this
  · rw [e0] at hk
    have : k = l.length := by omega
    rw [this, ne]
    exact hc
  · by_cases c : k < l.length
    · obtain ⟨x1, x2, x3, x4⟩ := en k c
      rw [x3] at hx
      rw [x4]
      exact q4 k c x hx
    · rw [e0] at hk
      have : k = l.length := by omega
      subst this
      obtain ⟨x1, x2, x3, x4⟩ := ee
      rw [x3] at hx
      rw [x4]
      exact hH x hx
  · obtain ⟨y1, y2, y3⟩ := q5 x hx pos hp
    rw [e0]
    refine ⟨by omega, fun w => ?_, fun w => by omega⟩
    by_cases c : pos < l.length
    · rw [(en pos c).2.2.2]
      exact y2 c
    · have : pos = l.length := by omega
      rw [this, ee.2.2.2]
      exact y3 this
theorem LQ_cn (h : LQ pm l lb cn lc gs) (hc : cn' ≤ cn) : LQ pm l lb cn' lc gs := by
  obtain ⟨q1, q2, q3, q4, q5⟩ := h
  refine ⟨q1, q2, fun k hk => ?_, q4, fun x hx pos hp => ?_⟩
  · have := q3 k hk
    omega
  · obtain ⟨y1, y2, y3⟩ := q5 x hx pos hp
    exact ⟨y1, y2, fun w => by have := y3 w; omega⟩
theorem LQ_nlb (h : LQ pm l lb cn lc gs) : LQ pm l (lb ++ [-1]) cn lc (vput gs lb.length cn) := by
  obtain ⟨q1, q2, q3, q4, q5⟩ := h
  have el : (lb ++ [-1]).length = lb.length + 1 := by rw [List.length_append]; rfl
  refine ⟨q1, q2, q3, fun k hk x hx => ?_, fun x hx pos hp => ?_⟩
  · obtain ⟨y1, y2⟩ := q4 k hk x hx
    rw [el]
    refine ⟨by omega, ?_⟩
    unfold vput
    rw [if_neg (by omega)]
    exact y2
  · rw [el] at hx
    by_cases c : x < lb.length
    · rw [List.getD_eq_getElem?_getD, List.getElem?_append_left c, ← List.getD_eq_getElem?_getD] at hp
      have z := q5 x c pos hp
      unfold vput
      rw [if_neg (by omega)]
      exact z
    · have : x = lb.length := by omega
      subst this
      rw [List.getD_eq_getElem?_getD, List.getElem?_append_right (Nat.le_refl _), Nat.sub_self] at hp
      have hp2 : (-1 : Int) = (pos : Int) := hp
      omega
theorem LQ_slb {x : Nat} (h : LQ pm l lb cn lc gs) (hg : x < lb.length → cn ≤ gs x) : LQ pm l (lb.set x (l.length : Int)) cn lc gs := by
  obtain ⟨q1, q2, q3, q4, q5⟩ := h
  refine ⟨q1, q2, q3, fun k hk z hz => by rw [List.length_set]; exact q4 k hk z hz, fun z hz pos hp => ?_⟩
  rw [List.length_set] at hz
  by_cases c : z = x
  · subst c
    rw [List.getD_eq_getElem?_getD, List.getElem?_set_self hz] at hp
    have hp2 : (l.length : Int) = (pos : Int) := hp
    exact ⟨by omega, fun w => by omega, fun _ => hg hz⟩
  · rw [List.getD_eq_getElem?_getD, List.getElem?_set_ne (by omega), ← List.getD_eq_getElem?_getD] at hp
    exact q5 z hz pos hp
theorem LSq_em (h : LSq pm l lb cn lc gs) (h2 : o = 2 → a < cn) (h33 : o = 3 → a ≤ cn) (h00 : o ≠ 0) (hH : Gl lb gs cn H) (hc : cn' ≤ if o = 3 ∧ a = cn then cn + 1 else cn) : ∃ lc', LSq pm (ap l (o, a, H)) lb cn' lc' gs := by
  rcases h with h | h
  · exact ⟨lc, Or.inl (by rw [ap_big h]; exact h)⟩
  · by_cases h3 : l.length < 3000
    · exact ⟨_, Or.inr (LQ_em h3 h h2 h33 h00 hH hc)⟩
    · exact ⟨lc, Or.inl (by rw [ap_big (by omega)]; omega)⟩
theorem LSq_cn (h : LSq pm l lb cn lc gs) (hc : cn' ≤ cn) : LSq pm l lb cn' lc gs := h.imp id (fun w => LQ_cn w hc)
theorem Gl_m {cn2 : Int} (h : Gl lb gs cn H) (hc : cn ≤ cn2) : Gl lb gs cn2 H := fun x hx => by
  obtain ⟨a, b⟩ := h x hx
  exact ⟨a, by omega⟩
theorem Gl_n : Gl lb gs cn (-1) := fun x hx => by omega
end Lqs
section Lqy
variable {pm : Int → Int} {l : xO} {gs lc : Nat → Int} {y : yS}
theorem LSq_nlb (h : LSq pm l y.1 y.2.1 lc gs) : LSq pm l (nlb y).1 (nlb y).2.1 lc (vput gs y.1.length y.2.1) := by
  unfold nlb
  by_cases c : y.1.length < 3000
  · rw [if_pos c]
    exact h.imp id LQ_nlb
  · rw [if_neg c]
    refine h.imp id (fun w => ?_)
    obtain ⟨q1, q2, q3, q4, q5⟩ := w
    refine ⟨q1, q2, q3, fun k hk x hx => ?_, fun x hx pos hp => ?_⟩
    · obtain ⟨y1, y2⟩ := q4 k hk x hx
      refine ⟨y1, ?_⟩
      unfold vput
      rw [if_neg (by omega)]
      exact y2
    · unfold vput
      rw [if_neg (by omega)]
      exact q5 x hx pos hp
theorem LSq_slb {n : Int} (h : LSq pm l y.1 y.2.1 lc gs) (hg : ∀ x : Nat, n = (x : Int) → x < y.1.length → y.2.1 ≤ gs x) : LSq pm l (slb n (l.length : Int) y).1 (slb n (l.length : Int) y).2.1 lc gs := by
  unfold slb
  by_cases c : 0 ≤ n ∧ n < (y.1.length : Int)
  · rw [if_pos c]
    exact h.imp id (fun w => LQ_slb w (fun hx => hg n.toNat (by omega) hx))
  · rw [if_neg c]
    exact h
theorem nlb_ln : y.1.length ≤ (nlb y).1.length := by
  unfold nlb
  split
  · rw [List.length_append]
    omega
  · exact Nat.le_refl _
theorem slb_ln {a n : Int} : (slb a n y).1.length = y.1.length := by
  unfold slb
  split
  · exact List.length_set
  · rfl
/-- the new label -/
theorem Gl_new {cn : Int} (hc : y.2.1 ≤ cn) : Gl (nlb y).1 (vput gs y.1.length y.2.1) cn (nln y) := fun x hx => by
  unfold nln at hx
  by_cases c : y.1.length < 3000
  · rw [if_pos c] at hx
    have e : x = y.1.length := by omega
    subst e
    rw [nlb_1 c]
    refine ⟨by rw [List.length_append]; show y.1.length < y.1.length + 1; omega, ?_⟩
    unfold vput
    rw [if_pos rfl]
    exact hc
  · rw [if_neg c] at hx
    omega
theorem gs_new {x : Nat} (hx : nln y = (x : Int)) : vput gs y.1.length y.2.1 x = y.2.1 := by
  unfold nln at hx
  by_cases c : y.1.length < 3000
  · rw [if_pos c] at hx
    unfold vput
    rw [if_pos (by omega)]
  · rw [if_neg c] at hx
    omega
theorem Gl_nlb {cn H : Int} (h : Gl y.1 gs cn H) : Gl (nlb y).1 (vput gs y.1.length y.2.1) cn H := fun x hx => by
  obtain ⟨a, b⟩ := h x hx
  have := nlb_ln (y := y)
  refine ⟨by omega, ?_⟩
  unfold vput
  rw [if_neg (by omega)]
  exact b
end Lqy
section Lqt
variable {pm : Int → Int} {K V : Int → Int}
/-- expressions -/
theorem XL {cn H : Int} {lb : List Int} {gs : Nat → Int} : ∀ (k : Nat) (t : xT), tsz t < k → ∀ (nt : Nat) (dep p q : Int), nt ≤ 7 → P K V t nt dep p q → ∀ (m : Mem) (s : xSt) (lc : Nat → Int), m 68 5 = H → (∀ i, lI m i < cn) → Gl lb gs cn H → LSq pm s.1 lb cn lc gs → ∃ lc', LSq pm (xE m t s).1 lb cn lc' gs := by
  intro k
  induction k with
  | zero => intro t ht; exact absurd ht (Nat.not_lt_zero _)
  | succ k ih =>
    intro t ht nt dep p q hnt h m s lc hm hl hH hs
    have E : ∀ (o a L : Int) (s : xSt) (lc : Nat → Int), o ≠ 2 → o ≠ 3 → o ≠ 0 → (L = H ∨ L = -1) → LSq pm s.1 lb cn lc gs → ∃ lc', LSq pm (em o a L s).1 lb cn lc' gs := fun o a L s lc h2 h3 h00 hL w => LSq_em w (fun z => absurd z h2) (fun z => absurd z h3) h00 (by
      rcases hL with e | e
      · rw [e]
        exact hH
      · rw [e]
        exact Gl_n) (by rw [if_neg (fun z => h3 z.1)]; exact Int.le_refl _)
    have hc : nt = 0 ∨ nt = 1 ∨ nt = 2 ∨ nt = 3 ∨ nt = 4 ∨ nt = 5 ∨ nt = 6 ∨ nt = 7 := by omega
    rcases hc with rfl | rfl | rfl | rfl | rfl | rfl | rfl | rfl
    · rcases inv_0 h with ⟨i, a, b, rfl, g1, g2⟩ | ⟨i, a, b, rfl, r, g1, g2, g3, g4⟩
      · rw [tsz_nd] at ht
        exact ih a (by omega) 1 _ _ _ (by omega) g1 m s lc hm hl hH hs
      · rw [tsz_nd] at ht
        obtain ⟨l1, w1⟩ := ih a (by omega) 1 _ _ _ (by omega) g1 m s lc hm hl hH hs
        obtain ⟨l2, w2⟩ := ih b (by omega) 1 _ _ _ (by omega) g4 m _ l1 hm hl hH w1
        exact E _ _ _ _ l2 (by decide) (by decide) (by decide) (Or.inr rfl) w2
    · obtain ⟨i, a, b, rfl, r, g1, g2⟩ := inv_1 h
      rw [tsz_nd] at ht
      obtain ⟨l1, w1⟩ := ih a (by omega) 3 _ _ _ (by omega) g1 m s lc hm hl hH hs
      exact ih b (by omega) 2 _ _ _ (by omega) g2 m _ l1 hm hl hH w1
    · rcases inv_2 h with ⟨i, a, b, rfl, g0, r, g1, g2⟩ | ⟨i, a, b, rfl, g1, g2, g3⟩
      · rw [tsz_nd] at ht
        obtain ⟨l1, w1⟩ := ih a (by omega) 3 _ _ _ (by omega) g1 m s lc hm hl hH hs
        obtain ⟨l2, w2⟩ := E i 0 (m 68 5) _ l1 (by omega) (by omega) (by omega) (Or.inl hm) w1
        exact ih b (by omega) 2 _ _ _ (by omega) g2 m _ l2 hm hl hH w2
      · exact ⟨lc, hs⟩
    · obtain ⟨i, a, b, rfl, r, g1, g2⟩ := inv_3 h
      rw [tsz_nd] at ht
      obtain ⟨l1, w1⟩ := ih a (by omega) 5 _ _ _ (by omega) g1 m s lc hm hl hH hs
      exact ih b (by omega) 4 _ _ _ (by omega) g2 m _ l1 hm hl hH w1
    · rcases inv_4 h with ⟨i, a, b, rfl, g0, r, g1, g2⟩ | ⟨i, a, b, rfl, g1, g2, g3, g4⟩
      · rw [tsz_nd] at ht
        obtain ⟨l1, w1⟩ := ih a (by omega) 5 _ _ _ (by omega) g1 m s lc hm hl hH hs
        obtain ⟨l2, w2⟩ := E i 0 (m 68 5) _ l1 (by omega) (by omega) (by omega) (Or.inl hm) w1
        exact ih b (by omega) 4 _ _ _ (by omega) g2 m _ l2 hm hl hH w2
      · exact ⟨lc, hs⟩
    · rcases inv_5 h with ⟨i, a, b, rfl, g1, g2, g3⟩ | ⟨i, a, b, rfl, g1, g2, r, g3, g4, g5⟩ | ⟨i, a, b, rfl, g1, g2, g3⟩ | ⟨i, a, b, rfl, g1, g2⟩ | ⟨i, a, b, rfl, g1, g2, g3, g4, g5⟩ | ⟨i, a, b, rfl, g1, g2, g3, g4, r, g5, g6, g7⟩ | ⟨i, a, b, rfl, g1, g2, g3⟩
      · rw [tsz_nd] at ht
        obtain ⟨l1, w1⟩ := ih a (by omega) 5 _ _ _ (by omega) g3 m s lc hm hl hH hs
        exact E 13 0 (m 68 5) _ l1 (by decide) (by decide) (by decide) (Or.inl hm) w1
      · rw [tsz_nd] at ht
        exact ih a (by omega) 0 _ _ _ (by omega) g3 m s lc hm hl hH hs
      · exact E 1 _ (-1) s lc (by decide) (by decide) (by decide) (Or.inr rfl) hs
      · exact E 19 0 (m 68 5) s lc (by decide) (by decide) (by decide) (Or.inl hm) hs
      · rw [x_13]
        by_cases c : lI m (idT m i) = -1
        · rw [if_pos c]
          exact E 4 _ (-1) _ lc (by decide) (by decide) (by decide) (Or.inr rfl) (by rw [us_op]; exact hs)
        · rw [if_neg c]
          exact LSq_em hs (fun _ => hl _) (fun z => absurd z (by decide)) (by decide) Gl_n (by rw [if_neg (fun z => absurd z.1 (by decide))]; exact Int.le_refl _)
      · rw [tsz_nd] at ht
        obtain ⟨l1, w1⟩ := ih a (by omega) 0 _ _ _ (by omega) g5 m (us m i 2 s) lc hm hl hH (by rw [us_op]; exact hs)
        exact E 6 _ (m 68 5) _ l1 (by decide) (by decide) (by decide) (Or.inl hm) w1
      · rw [tsz_nd] at ht
        obtain ⟨l1, w1⟩ := ih a (by omega) 6 _ _ _ (by omega) g3 m (us m i 4 s) lc hm hl hH (by rw [us_op]; exact hs)
        exact E 17 (nmI m (idT m i)) (m 68 5) (cl m i (nA a) (xE m a (us m i 4 s))) l1 (by decide) (by decide) (by decide) (Or.inl hm) w1
    · rcases inv_6 h with ⟨i, a, b, rfl, g1, g2, g3, g4⟩ | ⟨i, a, b, rfl, g1, g2, g3, r, g4, g5⟩
      · exact ⟨lc, hs⟩
      · rw [tsz_nd] at ht
        obtain ⟨l1, w1⟩ := ih a (by omega) 0 _ _ _ (by omega) g4 m s lc hm hl hH hs
        exact ih b (by omega) 7 _ _ _ (by omega) g5 m _ l1 hm hl hH w1
    · rcases inv_7 h with ⟨i, a, b, rfl, g1, r, g4, g5⟩ | ⟨i, a, b, rfl, g1, g2⟩
      · rw [tsz_nd] at ht
        obtain ⟨l1, w1⟩ := ih a (by omega) 0 _ _ _ (by omega) g4 m s lc hm hl hH hs
        exact ih b (by omega) 7 _ _ _ (by omega) g5 m _ l1 hm hl hH w1
      · exact ⟨lc, hs⟩
/-- a local's number is below the count -/
theorem lI_c {m : Mem} {y : yS} {H : Int} (hY : YL m y) (i : Int) : lI (sww H y m) i < y.2.1 := by
  show (if i < 0 ∨ m 57 4 ≤ i then -1 else y.2.2.1 i.toNat) < y.2.1
  have h0 := hY.1.1
  by_cases c : i < 0 ∨ m 57 4 ≤ i
  · rw [if_pos c]
    omega
  · rw [if_neg c]
    rcases hY.2 i.toNat (by omega) with w | w
    · omega
    · omega
theorem YL_mk2 {m : Mem} {y : yS} {i : Int} (hY : YL m y) : YL m (ymk m i y) ∧ (ymk m i y).1 = y.1 ∧ y.2.1 ≤ (ymk m i y).2.1 ∧ (ymk m i y).2.1 ≤ y.2.1 + 1 := by
  by_cases c : 1510 ≤ y.2.1
  · have e : ymk m i y = y := if_pos c
    rw [e]
    exact ⟨hY, rfl, Int.le_refl _, by omega⟩
  · obtain ⟨a, b, d, -, -⟩ := YL_mk (i := i) hY (by omega)
    exact ⟨a, d, by omega, by omega⟩
theorem YL_l {m : Mem} {y : yS} {l : List Int} (hY : YL m y) : YL m (l, y.2) := hY
theorem nlb_y {m : Mem} {y : yS} (hY : YL m y) : YL m (nlb y) := by
  unfold nlb
  split <;> exact hY
theorem slb_y {m : Mem} {y : yS} {a n : Int} (hY : YL m y) : YL m (slb a n y) := by
  unfold slb
  split <;> exact hY
theorem nlb_c {y : yS} : (nlb y).2.1 = y.2.1 := by
  unfold nlb
  split <;> rfl
theorem slb_c {y : yS} {a n : Int} : (slb a n y).2.1 = y.2.1 := by
  unfold slb
  split <;> rfl
/-- the whens' orders -/
theorem WL : ∀ (k : Nat) (t : xT), tsz t < k → ∀ (dep p q : Int), P K V t 11 dep p q → ∀ (m : Mem) (w : List Int) (c : zS) (lc gs : Nat → Int), YL m c.2 → LSq pm c.1.1 c.2.1 c.2.2.1 lc gs → ∃ lc' gs', LSq pm (wW m t w c).1.1 (wW m t w c).2.1 (wW m t w c).2.2.1 lc' gs' ∧ YL m (wW m t w c).2 ∧ (wW m t w c).2.2.1 = c.2.2.1 ∧ c.2.1.length ≤ (wW m t w c).2.1.length ∧ (∀ x, x < c.2.1.length → gs' x = gs x) ∧ (∀ x, c.2.1.length ≤ x → x < (wW m t w c).2.1.length → c.2.2.1 ≤ gs' x) := by
  intro k
  induction k with
  | zero => intro t ht; exact absurd ht (Nat.not_lt_zero _)
  | succ k ih =>
    intro t ht dep p q h m w c lc gs hY hs
    rcases inv_11 h with ⟨i, a, b, rfl, h1, h3, h5, r, h8, h9⟩ | ⟨i, a, b, rfl, h1, h3⟩
    · rw [tsz_nd] at ht
      obtain ⟨l1, s1⟩ := LSq_em (o := 24) (a := nmI m (idT m (i + 1))) (H := nln c.2) (cn' := (nlb c.2).2.1) (LSq_nlb hs) (fun z => absurd z (by decide)) (fun z => absurd z (by decide)) (by decide) (Gl_new (gs := gs) (by rw [nlb_c]; exact Int.le_refl _)) (by rw [if_neg (fun z => absurd z.1 (by decide))]; exact Int.le_refl _)
      have ez : (dupB m (i + 1) w (em 24 (nmI m (idT m (i + 1))) (nln c.2) (us m (i + 1) 3 c.1))).1 = ap c.1.1 (24, nmI m (idT m (i + 1)), nln c.2) := by
        rw [db_1]
        show ap (us m (i + 1) 3 c.1).1 _ = _
        rw [us_op]
      obtain ⟨l2, g2, x1, x2, x3, x4, x5, x6⟩ := ih b (by omega) _ _ _ h9 m (w ++ [i + 1]) (dupB m (i + 1) w (em 24 (nmI m (idT m (i + 1))) (nln c.2) (us m (i + 1) 3 c.1)), nlb c.2) l1 _ (nlb_y hY) (by rw [ez]; exact s1)
      have hle := nlb_ln (y := c.2)
      have ecn := nlb_c (y := c.2)
      refine ⟨l2, g2, x1, x2, x3.trans ecn, Nat.le_trans hle x4, fun x hx => ?_, fun x hx1 hx2 => ?_⟩
      · rw [x5 x (by show x < (nlb c.2).1.length; omega)]
        exact vp_n (by omega)
      · by_cases e : x < (nlb c.2).1.length
        · rw [x5 x e]
          have hx3 : x = c.2.1.length := by
            unfold nlb at e
            split at e
            · rw [List.length_append] at e
              have e2 : x < c.2.1.length + 1 := e
              omega
            · omega
          rw [hx3, vp_e]
          exact Int.le_refl _
        · have z := x6 x (by show (nlb c.2).1.length ≤ x; omega) hx2
          have z2 : (nlb c.2).2.1 ≤ g2 x := z
          rw [ecn] at z2
          exact z2
    · exact ⟨lc, gs, hs, hY, rfl, Nat.le_refl _, fun _ _ => rfl, fun x h1 h2 => by
        have : x < c.2.1.length := h2
        omega⟩
end Lqt
