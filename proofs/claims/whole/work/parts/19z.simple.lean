/-! CLASS AND MODEL, THE SECOND WALK: simple statements -/
theorem bl_ge {m : Mem} {i B : Int} {s : xSt} (h0 : B ≤ s.2.2.2.1) (h : B ≤ m 54 i.toNat) : B ≤ (bl m i s).2.2.2.1 := by
  show B ≤ (if (0 ≤ i ∧ i < m 51 5) ∧ m 54 i.toNat < s.2.2.2.1 then m 54 i.toNat else s.2.2.2.1)
  split <;> assumption
theorem us_ge {m : Mem} {i k B : Int} {s : xSt} (h0 : B ≤ s.2.2.2.1) (h : B ≤ m 54 i.toNat) : B ≤ (us m i k s).2.2.2.1 := by
  unfold us
  split
  · exact h0
  · exact bl_ge h0 h
theorem xE_ge {mc : Mem} {V : Int → Int} {B : Int} : ∀ (k : Nat) (t : xT), tsz t < k → ∀ (nt : Nat) (dep p q : Int), nt ≤ 7 → P (kd mc) V t nt dep p q → (∀ j, p ≤ j → j < q → B ≤ mc 54 j.toNat) → ∀ s : xSt, B ≤ s.2.2.2.1 → B ≤ (xE mc t s).2.2.2.1 := by
  intro k
  induction k with
  | zero => intro t ht; exact absurd ht (Nat.not_lt_zero _)
  | succ k ih =>
    intro t ht nt dep p q hnt h hs s h0
    have l0 := P_le t h
    have one : ∀ (a : xT) (n1 : Nat) (d1 p1 r1 : Int), tsz a < k → n1 ≤ 7 → P (kd mc) V a n1 d1 p1 r1 → p ≤ p1 → r1 ≤ q → ∀ s1 : xSt, B ≤ s1.2.2.2.1 → B ≤ (xE mc a s1).2.2.2.1 := fun a n1 d1 p1 r1 ta h1 ga e1 e2 s1 hs1 => ih a ta n1 d1 p1 r1 h1 ga (fun j j1 j2 => hs j (by omega) (by omega)) s1 hs1
    have two : ∀ (a b : xT) (n1 n2 : Nat) (d1 d2 p1 r1 r2 q2 : Int), tsz a < k → tsz b < k → n1 ≤ 7 → n2 ≤ 7 → P (kd mc) V a n1 d1 p1 r1 → P (kd mc) V b n2 d2 r2 q2 → p ≤ p1 → r1 ≤ q → p ≤ r2 → q2 ≤ q → ∀ f : xSt → xSt, (∀ s2 : xSt, (f s2).2.2.2.1 = s2.2.2.2.1) → B ≤ (xE mc b (f (xE mc a s))).2.2.2.1 := by
      intro a b n1 n2 d1 d2 p1 r1 r2 q2 ta tb h1 h2 ga gb e1 e2 e3 e4 f hf
      exact one b n2 d2 r2 q2 tb h2 gb e3 e4 _ (by rw [hf]; exact one a n1 d1 p1 r1 ta h1 ga e1 e2 s h0)
    have hc : nt = 0 ∨ nt = 1 ∨ nt = 2 ∨ nt = 3 ∨ nt = 4 ∨ nt = 5 ∨ nt = 6 ∨ nt = 7 := by omega
    rcases hc with rfl | rfl | rfl | rfl | rfl | rfl | rfl | rfl
    · rcases inv_0 h with ⟨i, a, b, rfl, g1, g2⟩ | ⟨i, a, b, rfl, r, g1, g2, g3, g4⟩
      · rw [tsz_nd] at ht
        exact one a _ _ _ _ (by omega) (by decide) g1 (by omega) (by omega) s h0
      · rw [tsz_nd] at ht
        have := P_le a g1
        have := P_le b g4
        exact two a b _ _ _ _ _ _ _ _ (by omega) (by omega) (by decide) (by decide) g1 g4 (by omega) (by omega) (by omega) (by omega) id (fun _ => rfl)
    · obtain ⟨i, a, b, rfl, r, g1, g2⟩ := inv_1 h
      rw [tsz_nd] at ht
      have := P_le a g1
      have := P_le b g2
      exact two a b _ _ _ _ _ _ _ _ (by omega) (by omega) (by decide) (by decide) g1 g2 (by omega) (by omega) (by omega) (by omega) id (fun _ => rfl)
    · rcases inv_2 h with ⟨i, a, b, rfl, g0, r, g1, g2⟩ | ⟨i, a, b, rfl, g1, g2⟩
      · rw [tsz_nd] at ht
        have := P_le a g1
        have := P_le b g2
        exact two a b _ _ _ _ _ _ _ _ (by omega) (by omega) (by decide) (by decide) g1 g2 (by omega) (by omega) (by omega) (by omega) (em i 0 (mc 68 5)) (fun _ => rfl)
      · exact h0
    · obtain ⟨i, a, b, rfl, r, g1, g2⟩ := inv_3 h
      rw [tsz_nd] at ht
      have := P_le a g1
      have := P_le b g2
      exact two a b _ _ _ _ _ _ _ _ (by omega) (by omega) (by decide) (by decide) g1 g2 (by omega) (by omega) (by omega) (by omega) id (fun _ => rfl)
    · rcases inv_4 h with ⟨i, a, b, rfl, g0, r, g1, g2⟩ | ⟨i, a, b, rfl, g1, g2⟩
      · rw [tsz_nd] at ht
        have := P_le a g1
        have := P_le b g2
        exact two a b _ _ _ _ _ _ _ _ (by omega) (by omega) (by decide) (by decide) g1 g2 (by omega) (by omega) (by omega) (by omega) (em i 0 (mc 68 5)) (fun _ => rfl)
      · exact h0
    · rcases inv_5 h with ⟨i, a, b, rfl, g1, g2, g3⟩ | ⟨i, a, b, rfl, g1, g2, r, g3, g4, g5⟩ | ⟨i, a, b, rfl, g1, g2, g3⟩ | ⟨i, a, b, rfl, g1, g2⟩ | ⟨i, a, b, rfl, g1, g2, g3, g4, g5⟩ | ⟨i, a, b, rfl, g1, g2, g3, g4, r, g5, g6, g7⟩ | ⟨i, a, b, rfl, g1, g2, g3⟩
      · rw [tsz_nd] at ht
        exact one a _ _ _ _ (by omega) (by decide) g3 (by omega) (by omega) s h0
      · rw [tsz_nd] at ht
        have := P_le a g3
        exact one a _ _ _ _ (by omega) (by decide) g3 (by omega) (by omega) s h0
      · exact h0
      · exact h0
      · rw [x_13]
        split
        · exact us_ge h0 (hs i (by omega) (by omega))
        · exact h0
      · rw [tsz_nd] at ht
        have := P_le a g5
        have e1 := us_ge (m := mc) (i := i) (k := 2) h0 (hs i (by omega) (by omega))
        exact one a _ _ _ _ (by omega) (by decide) g5 (by omega) (by omega) _ e1
      · rw [tsz_nd] at ht
        have := P_le a g3
        have e1 := us_ge (m := mc) (i := i) (k := 4) h0 (hs i (by omega) (by have := P_lt5 h; omega))
        exact one a _ _ _ _ (by omega) (by decide) g3 (by omega) (by omega) _ e1
    · rcases inv_6 h with ⟨i, a, b, rfl, g1, g2, g3, g4⟩ | ⟨i, a, b, rfl, g1, g2, g3, r, g4, g5⟩
      · exact h0
      · rw [tsz_nd] at ht
        have := P_le a g4
        have := P_le b g5
        exact two a b _ _ _ _ _ _ _ _ (by omega) (by omega) (by decide) (by decide) g4 g5 (by omega) (by omega) (by omega) (by omega) id (fun _ => rfl)
    · rcases inv_7 h with ⟨i, a, b, rfl, g1, r, g2, g3⟩ | ⟨i, a, b, rfl, g1, g2⟩
      · rw [tsz_nd] at ht
        have := P_le a g2
        have := P_le b g3
        exact two a b _ _ _ _ _ _ _ _ (by omega) (by omega) (by decide) (by decide) g2 g3 (by omega) (by omega) (by omega) (by omega) id (fun _ => rfl)
      · exact h0
def Qst (i nt c : Nat) (w : Int) (F : Nat) (mc : Mem) (e : Int) (t : xT) : Prop := ∀ (V : Int → Int) (dep p q : Int), P (kd mc) V t nt dep p q → 0 ≤ dep → dep ≤ 30 → 0 ≤ p → q ≤ e → ∀ (L : Nat) (xs : Nat → Int32) (d : Nat) (m : Mem) (s : xSt) (y : yS) (σ : Int → Int) (D H : Int) (G : Prop), SE mc m e → SR mc s y m σ D G H p → s.2.1 = 0 → m 158 15 = 0 → m 158 41 + 2 * (q - p) < 2900 → (y.1.length : Int) + 2 * (q - p) < 2900 → (∀ j, 0 ≤ j → j < q → mc 54 j.toNat < D) → 300 + 4 * (31 - dep).toNat + c ≤ d → ∃ p' m', Cx F (d + 10) i [158] (Hp L xs (rv p dep m)) = some ([], Hp L xs (rv p' dep m')) ∧ Pst mc e (stS mc t H 0 0 (s, y)) y m m' σ D G H p q p' w w
section Sim
variable {F : Nat} {mc : Mem} {e : Int}
theorem emG_ok {m : Mem} {o a l u : Int} {z : Bool} (h : m 158 15 = 0) : emG m o a l u z 158 15 = 0 := by
  have : emG m o a l u z = emF m o a l u z := if_pos h
  rw [this, emF_y 15 (by decide) (by decide) (by decide)]
  exact h
theorem Pst_fin {m m1 : Mem} {s1 : xSt} {y : yS} {σ : Int → Int} {D H p q p' o a l lm u : Int} {G : Prop} {z : Bool} (F0 : FE m m1) (F1 : FS m m1) (W1 : WU m1) (h41 : m1 158 41 ≤ m 158 41 + (q - p) - 1) (h41' : m1 158 41 < 2950) (B : (m1 158 15 = 0 ∧ SR mc s1 y m1 σ D G H p ∧ w32 (s1.2.1 + u) = 0) ∨ Br mc m1 s1 p q) (hu : psh o = u) (hl : lm = σ l) (hll : m1 158 15 = 0 → l < (y.1.length : Int)) (hp' : 0 ≤ p' ∧ p' ≤ e ∧ (m1 158 15 = 0 → p' = q)) (hpq : p ≤ q) {v : Int} (hv : v ≤ q - p) : Pst mc e (em o a l s1, y) y m (emG m1 o a lm u z) σ D G H p q p' 0 v := by
  refine ⟨FS_tr F1 FS_emG, hp'.1, hp'.2.1, σ, fun _ _ => rfl, ?_⟩
  rcases B with ⟨b1, R1, b2⟩ | B
  · left
    have b3 : (em o a l s1).2.1 = 0 := by
      show w32 (s1.2.1 + psh o) = 0
      rw [hu]; exact b2
    have g41 := (Fm_emG (m := m1) (o := o) (a := a) (l := lm) (u := u) (z := z) (Or.inl b1)).2.2.2.1
    have FF := FE_tr F0 (FE_emG (m := m1) (o := o) (a := a) (l := lm) (u := u) (z := z))
    refine ⟨⟨emG_ok b1, ?_, b3, by omega, by show (y.1.length : Int) ≤ _; omega, by show (y.1.length : Int) ≤ (y.1.length : Int); omega, by rw [FF 158 30 rfl]; omega, (FF 158 39 rfl).symm, (FF 158 40 rfl).symm, fun k _ => FF 176 k rfl⟩, hp'.2.2 b1⟩
    cases z
    · exact SR_p (SR_em R1 b1 (by omega) hu hl (hll b1)) hpq
    · exact SR_p (SR_emz R1 b1 (by omega) hu b2 hl (hll b1)) hpq
  · right
    rw [emG_b B.1]
    exact ⟨W1, B⟩
theorem st_34 (hF : 100000 ≤ F) {L d : Nat} {xs : Nat → Int32} {m : Mem} {s : xSt} {y : yS} {σ : Int → Int} {D H dep p q : Int} {G : Prop} {V : Int → Int} {i : Int} {a b : xT} (hd0 : 0 ≤ dep) (hd1 : dep ≤ 30) (hp : 0 ≤ p) (hq : q ≤ e) (S : SE mc m e) (R : SR mc s y m σ D G H p) (hs0 : s.2.1 = 0) (hb : m 158 15 = 0) (h41 : m 158 41 + 2 * (q - p) < 2900) (hlab : (y.1.length : Int) + 2 * (q - p) < 2900) (hD : ∀ j, 0 ≤ j → j < q → mc 54 j.toNat < D) (hd : 300 + 4 * (31 - dep).toNat + 2 ≤ d) (h1 : kd mc p = 14) {r : Int} (h3 : P (kd mc) V a 0 dep (p + 1) r) (h5 : kd mc r = 59) (h6 : q = r + 1) : ∃ p' m', Cx F (d + 10) 231 [158] (Hp L xs (rv p dep m)) = some ([], Hp L xs (rv p' dep m')) ∧ Pst mc e (stS mc (nd 34 i a b) H 0 0 (s, y)) y m m' σ D G H p q p' 0 0 := by
  have l1 := P_le a h3
  have el := S.el
  have hT := S.tr p hp (by omega)
  rw [h1] at hT
  have N := SR_En S R (by omega) (Or.inl hb) (by omega)
  have hl := R.hl
  have y_p := fun (s : Int) (D : Nat) (hs : 0 ≤ s ∧ s ≤ 12) => N_210 (L := L) (xs := xs) (F := F) (d := D) (dep := dep) (a1 := s) (m := m) hb (by omega) hT hs
  have w_p := fun (D : Nat) => N_211 (L := L) (xs := xs) (F := F) (d := D) (dep := dep) (m := m) hb (by omega) hT
  have x1 := fun D => N_212 (F := F) (L := L) (xs := xs) (d := D) (m := m) (p := p) (dep := dep) hb (by omega)
  obtain ⟨d, rfl⟩ : ∃ d', d = d' + 1 := ⟨d - 1, by omega⟩
  obtain ⟨⟨p1, k1, k2, k3, c1⟩, W1, S1, E1, F1, g41, g41b, B⟩ := Ex_ok (F := F) (L := L) (xs := xs) (d := d) hF S R hb (rng0 hs0) h3 hd0 hd1 (by omega) (by omega) (by omega) (by omega) (fun j j1 j2 => hD j j1 (by omega)) (by omega)
  have x4 := fun D => R_213 (F := F) (L := L) (xs := xs) (d := D) (m := eM a m) (p := p1) (dep := dep) (a1 := 59) W1 (by omega) (by omega) (fun z => by
    have hz := k3 z
    subst hz
    have T2 := S1.tr p1 k1 k2
    rw [h5] at T2
    exact T2)
  have x5 := fun D P1 => R_246_22 (F := F) (L := L) (xs := xs) (d := D) (p := P1) (dep := dep) (a := m 158 33) (l := -1) W1
  have e33 : eM a m 158 33 = m 158 33 := E1 158 33 rfl
  refine ⟨nxP (eM a m) p1, emG (eM a m) 22 (m 158 33) (-1) (-1) true, ?_, ?_⟩
  · simp (disch := first | omega | assumption) only [c_231, tr_231, ev_0, ev_1, ev_16, ev_17, ev_18, ev_2, ev_3, ev_4, ev_5, ev_6, ev_7, ev_8, ev_9, ev_20, ev_21, ev_22, ev_23, ev_24, ev_25, ev_27, ev_28, ev_30, ev_31, ev_32, ev_33, ev_34, ev_35, ev_36, ev_37, ev_38, ev_39, ev_40, ev_41, ev_42, ev_43, ev_45, ev_46, ev_47, ev_48, ev_49, ev_50, ev_51, ev_52, ev_54, ev_55, ev_57, ev_58, ev_59, k2_0, k2_1, k2_2, k3a, k3b, k4, o1_s, xbin_0, xbin_1, xbin_2, xbin_3, xbin_4, xbin_5, xbin_6, xbin_7, xbin_8, xbin_9, xbin_11, xbin_12, xun_0, xun_1, xun_2, xun_3, xun_4, xun_5, k6a, k8, k8b, k9, k20, k20b_0, k20b_1, k20b_2, k20b_3, k20b_4, k20b_5, k21_0, k21_1, k21_2, k21_3, k21_4, k21_5, k23, k24, k25, k27, k28, k40, nz_1, nz_2, nz_3, k31_0, k31_1, k31_2, k31_3, k32u, k33, k34, k35, k35b, k36, k37, k38, k47, k49, k49b_0, k49b_1, k49b_2, k49b_3, k50_0, k50_s, k51_0, k51_s, k55, k58, k58b, rk_0, rk_1, rk_2, rk_9, rk_3, rk_4, rk_5, sw_n, sw_c, xtb_n, xtb_c, lset_0, lset_2, lset_1, lkm_0, lkm_2, lkm_9, lkm_1, lkm_n, if_some1, c_10, c_01, c_x0, c_1x, c_n0, c_nn, List.getElem?_cons_zero, List.getElem?_cons_succ, List.set_cons_zero, List.set_cons_succ, List.length_cons, List.length_nil, Int.reduceToNat, Nat.reduceDiv, Nat.reduceMod, Nat.reduceSub, Nat.reduceAdd, Nat.reduceMul, Nat.reduceLT, Nat.reduceLeDiff, Nat.reduceEqDiff, Int.reduceMod, Int.reduceSub, Int.reduceNeg, Int.reduceAdd, Int.reduceMul, Int.reduceLT, Int.reduceLE, Int.reduceEq, put_ss, if_true, if_false, ite_true, ite_false, reduceIte, eq_self, and_true, true_and, and_false, false_and, or_true, true_or, or_false, false_or, not_true_eq_false, not_false_eq_true, k5_158_14, k34_158_14, k34i_158_14, k5_158_15, k34_158_15, k34i_158_15, k5_158_13, k34_158_13, k54_158_13, k54b_158_13_0, k54b_158_13_1, k5_158_48, k34_158_48, k5_158_5, k6_161, k35_161, n_161, k5_158_7, k6_163, k35_163, n_163, k5_158_12, k34_158_12, k54_158_12, k54b_158_12_0, k5_158_30, k34_158_30, k54_158_30, k54b_158_30_0, k5_158_33, k34_158_33, rv_t, rv_d, rv_x, rv_y, rp_t, rp_d, rp_x, rp_y, w32_of, y_p, w_p, x1, c1, x4, x5, e33, hb]
  · have := Pst_fin (mc := mc) (e := e) (o := 22) (a := m 158 33) (l := -1) (lm := -1) (u := -1) (z := true) (s1 := xE (sww H y mc) a s) (D := D) (G := G) (H := H) (σ := σ) (p := p) (q := q) (p' := nxP (eM a m) p1) (y := y) E1 F1 W1 (by omega) (by omega) ?_ rfl R.s1.symm (fun _ => by omega) ?_ (by omega) (v := 0) (by omega)
    · rw [← R.pr] at this ⊢
      exact this
    · rcases B with ⟨b1, R1, b2⟩ | B
      · left
        refine ⟨b1, R1, ?_⟩
        rw [b2, hs0]
        decide
      · exact Or.inr (Br_le B (by omega) (by omega))
    · have := nxP_in (e := e) k1 k2 k3 (by omega)
      exact ⟨this.1, this.2.1, fun z => by rw [this.2.2 z]; omega⟩
theorem st_35 (hF : 100000 ≤ F) {L d : Nat} {xs : Nat → Int32} {m : Mem} {s : xSt} {y : yS} {σ : Int → Int} {D H dep p q : Int} {G : Prop} {V : Int → Int} {i : Int} {a b : xT} (hd0 : 0 ≤ dep) (hd1 : dep ≤ 30) (hp : 0 ≤ p) (hq : q ≤ e) (S : SE mc m e) (R : SR mc s y m σ D G H p) (hs0 : s.2.1 = 0) (hb : m 158 15 = 0) (h41 : m 158 41 + 2 * (q - p) < 2900) (hlab : (y.1.length : Int) + 2 * (q - p) < 2900) (hD : ∀ j, 0 ≤ j → j < q → mc 54 j.toNat < D) (hd : 300 + 4 * (31 - dep).toNat + 2 ≤ d) (h1 : kd mc p = 15) {r : Int} (h3 : P (kd mc) V a 0 dep (p + 1) r) (h5 : kd mc r = 59) (h6 : q = r + 1) : ∃ p' m', Cx F (d + 10) 231 [158] (Hp L xs (rv p dep m)) = some ([], Hp L xs (rv p' dep m')) ∧ Pst mc e (stS mc (nd 35 i a b) H 0 0 (s, y)) y m m' σ D G H p q p' 0 0 := by
  have l1 := P_le a h3
  have el := S.el
  have hT := S.tr p hp (by omega)
  rw [h1] at hT
  have N := SR_En S R (by omega) (Or.inl hb) (by omega)
  have hl := R.hl
  have y_p := fun (s : Int) (D : Nat) (hs : 0 ≤ s ∧ s ≤ 12) => N_210 (L := L) (xs := xs) (F := F) (d := D) (dep := dep) (a1 := s) (m := m) hb (by omega) hT hs
  have w_p := fun (D : Nat) => N_211 (L := L) (xs := xs) (F := F) (d := D) (dep := dep) (m := m) hb (by omega) hT
  have x1 := fun D => N_212 (F := F) (L := L) (xs := xs) (d := D) (m := m) (p := p) (dep := dep) hb (by omega)
  obtain ⟨d, rfl⟩ : ∃ d', d = d' + 1 := ⟨d - 1, by omega⟩
  obtain ⟨⟨p1, k1, k2, k3, c1⟩, W1, S1, E1, F1, g41, g41b, B⟩ := Ex_ok (F := F) (L := L) (xs := xs) (d := d) hF S R hb (rng0 hs0) h3 hd0 hd1 (by omega) (by omega) (by omega) (by omega) (fun j j1 j2 => hD j j1 (by omega)) (by omega)
  have x4 := fun D => R_213 (F := F) (L := L) (xs := xs) (d := D) (m := eM a m) (p := p1) (dep := dep) (a1 := 59) W1 (by omega) (by omega) (fun z => by
    have hz := k3 z
    subst hz
    have T2 := S1.tr p1 k1 k2
    rw [h5] at T2
    exact T2)
  have x5 := fun D P1 => R_246_20 (F := F) (L := L) (xs := xs) (d := D) (p := P1) (dep := dep) (a := 0) (l := -1) W1
  have e33 : eM a m 158 33 = m 158 33 := E1 158 33 rfl
  refine ⟨nxP (eM a m) p1, emG (eM a m) 20 (0) (-1) (-1) false, ?_, ?_⟩
  · simp (disch := first | omega | assumption) only [c_231, tr_231, ev_0, ev_1, ev_16, ev_17, ev_18, ev_2, ev_3, ev_4, ev_5, ev_6, ev_7, ev_8, ev_9, ev_20, ev_21, ev_22, ev_23, ev_24, ev_25, ev_27, ev_28, ev_30, ev_31, ev_32, ev_33, ev_34, ev_35, ev_36, ev_37, ev_38, ev_39, ev_40, ev_41, ev_42, ev_43, ev_45, ev_46, ev_47, ev_48, ev_49, ev_50, ev_51, ev_52, ev_54, ev_55, ev_57, ev_58, ev_59, k2_0, k2_1, k2_2, k3a, k3b, k4, o1_s, xbin_0, xbin_1, xbin_2, xbin_3, xbin_4, xbin_5, xbin_6, xbin_7, xbin_8, xbin_9, xbin_11, xbin_12, xun_0, xun_1, xun_2, xun_3, xun_4, xun_5, k6a, k8, k8b, k9, k20, k20b_0, k20b_1, k20b_2, k20b_3, k20b_4, k20b_5, k21_0, k21_1, k21_2, k21_3, k21_4, k21_5, k23, k24, k25, k27, k28, k40, nz_1, nz_2, nz_3, k31_0, k31_1, k31_2, k31_3, k32u, k33, k34, k35, k35b, k36, k37, k38, k47, k49, k49b_0, k49b_1, k49b_2, k49b_3, k50_0, k50_s, k51_0, k51_s, k55, k58, k58b, rk_0, rk_1, rk_2, rk_9, rk_3, rk_4, rk_5, sw_n, sw_c, xtb_n, xtb_c, lset_0, lset_2, lset_1, lkm_0, lkm_2, lkm_9, lkm_1, lkm_n, if_some1, c_10, c_01, c_x0, c_1x, c_n0, c_nn, List.getElem?_cons_zero, List.getElem?_cons_succ, List.set_cons_zero, List.set_cons_succ, List.length_cons, List.length_nil, Int.reduceToNat, Nat.reduceDiv, Nat.reduceMod, Nat.reduceSub, Nat.reduceAdd, Nat.reduceMul, Nat.reduceLT, Nat.reduceLeDiff, Nat.reduceEqDiff, Int.reduceMod, Int.reduceSub, Int.reduceNeg, Int.reduceAdd, Int.reduceMul, Int.reduceLT, Int.reduceLE, Int.reduceEq, put_ss, if_true, if_false, ite_true, ite_false, reduceIte, eq_self, and_true, true_and, and_false, false_and, or_true, true_or, or_false, false_or, not_true_eq_false, not_false_eq_true, k5_158_14, k34_158_14, k34i_158_14, k5_158_15, k34_158_15, k34i_158_15, k5_158_13, k34_158_13, k54_158_13, k54b_158_13_0, k54b_158_13_1, k5_158_48, k34_158_48, k5_158_5, k6_161, k35_161, n_161, k5_158_7, k6_163, k35_163, n_163, k5_158_12, k34_158_12, k54_158_12, k54b_158_12_0, k5_158_30, k34_158_30, k54_158_30, k54b_158_30_0, k5_158_33, k34_158_33, rv_t, rv_d, rv_x, rv_y, rp_t, rp_d, rp_x, rp_y, w32_of, y_p, w_p, x1, c1, x4, x5, e33, hb]
  · have := Pst_fin (mc := mc) (e := e) (o := 20) (a := 0) (l := -1) (lm := -1) (u := -1) (z := false) (s1 := xE (sww H y mc) a s) (D := D) (G := G) (H := H) (σ := σ) (p := p) (q := q) (p' := nxP (eM a m) p1) (y := y) E1 F1 W1 (by omega) (by omega) ?_ rfl R.s1.symm (fun _ => by omega) ?_ (by omega) (v := 0) (by omega)
    · exact this
    · rcases B with ⟨b1, R1, b2⟩ | B
      · left
        refine ⟨b1, R1, ?_⟩
        rw [b2, hs0]
        decide
      · exact Or.inr (Br_le B (by omega) (by omega))
    · have := nxP_in (e := e) k1 k2 k3 (by omega)
      exact ⟨this.1, this.2.1, fun z => by rw [this.2.2 z]; omega⟩
end Sim
