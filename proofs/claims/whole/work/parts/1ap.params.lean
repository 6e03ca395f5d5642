/-! CLASS AND MODEL, THE SECOND WALK: a proc's parameters and raises -/
def hg (m : Mem) : Mem := put (put (put m 158 48 (-1)) 158 52 0) 158 53 0
theorem hg_jadx {m : Mem} {v : Int} : jadx (hg m) v = hg (jadx m v) := by
  funext a k
  unfold jadx hg
  simp only [put_ss]
  by_cases h1 : a = 158
  · subst h1
    by_cases h2 : k = 48 ∨ k = 52 ∨ k = 53
    · rcases h2 with h2 | h2 | h2 <;> (subst h2; simp only [Nat.reduceEqDiff, if_true, if_false])
    · have h5 : ¬ k = 48 := fun z => h2 (Or.inl z)
      have h6 : ¬ k = 52 := fun z => h2 (Or.inr (Or.inl z))
      have h7 : ¬ k = 53 := fun z => h2 (Or.inr (Or.inr z))
      by_cases h3 : k = 31
      · subst h3
        simp only [Nat.reduceEqDiff, if_true, if_false]
      · by_cases h4 : k = 30
        · subst h4
          simp only [Nat.reduceEqDiff, if_true, if_false]
        · simp only [h5, h6, h7, h3, h4, Nat.reduceEqDiff, if_true, if_false]
  · simp only [h1, if_false, Nat.reduceEqDiff, if_true]
theorem tlS_eq {mc m : Mem} {e : Int} {s s1 : xSt} {y : yS} {σ : Int → Int} {D H p i : Int} {G : Prop} (S : SE mc m e) (R : SR mc s y m σ D G H p) (hi : 0 ≤ i) (hie : i < e) (hk : kd mc i = 2) : tlS mc i y s1 = if topK m (vlT m i) < 0 ∧ lcK m (vlT m i) < 0 then s1 else bl mc i s1 := by
  obtain ⟨n1, n2, n3, n4, n5, n6, n7⟩ := S.nm i hi hie hk
  have hlm := R.lm _ n5 n6
  rw [n7] at hlm
  have e0 : (if idT mc i < 0 ∨ mc 57 4 ≤ idT mc i then -1 else y.2.2.1 (idT mc i).toNat) = lcK m (vlT m i) := by rw [if_neg (by omega), hlm]
  unfold tlS
  rw [e0]
  by_cases h : topK m (vlT m i) < 0 ∧ lcK m (vlT m i) < 0
  · rw [if_pos h, if_pos ⟨n4.2 h.1, lcK_n (by omega)⟩]
  · rw [if_neg h, if_neg (fun z => h ⟨n4.1 z.1, by omega⟩)]
def FJ (m m' : Mem) : Prop := ∀ a k, a ≠ 172 → ¬ (a = 158 ∧ (k = 30 ∨ k = 31)) → m' a k = m a k
theorem FJ_rf {m : Mem} : FJ m m := fun _ _ _ _ => rfl
theorem FJ_tr {m m1 m2 : Mem} (h1 : FJ m m1) (h2 : FJ m1 m2) : FJ m m2 := fun a k g1 g2 => (h2 a k g1 g2).trans (h1 a k g1 g2)
theorem FJ_jadx {m : Mem} {v : Int} : FJ m (jadx m v) := fun a k g1 g2 => by
  unfold jadx
  simp only [put_ss]
  by_cases h1 : a = 158
  · subst h1
    have n1 : ¬ k = 31 := fun z => g2 ⟨rfl, Or.inr z⟩
    have n2 : ¬ k = 30 := fun z => g2 ⟨rfl, Or.inl z⟩
    simp only [n1, n2, if_true, if_false, Nat.reduceEqDiff]
  · simp only [h1, g1, if_false]
theorem FS_jadx {m : Mem} {v : Int} : FS m (jadx m v) := FS_put (FS_put (FS_put FS_rf rfl) rfl) rfl
section Prm
variable {F L d : Nat} {xs : Nat → Int32} {mc : Mem} {e dep : Int}
theorem bl_hit {m : Mem} {i D : Int} {s : xSt} (h0 : 0 ≤ i) (h5 : i < mc 51 5) (hn : s.2.2.2.1 = D) (hD : mc 54 i.toNat < D) : (bl mc i s).2.2.2.1 = mc 54 i.toNat := by
  show (if (0 ≤ i ∧ i < mc 51 5) ∧ mc 54 i.toNat < s.2.2.2.1 then mc 54 i.toNat else s.2.2.2.1) = _
  rw [if_pos ⟨⟨h0, h5⟩, by omega⟩]
theorem Pm_one {m : Mem} {p : Int} (hF : 100000 ≤ F) (S : SE mc m e) (U : WU m) (hb : m 158 15 = 0) (h31 : 0 ≤ m 158 31 ∧ m 158 31 ≤ 1600) (hp : 0 ≤ p) (hpe : p < e) (hk : kd mc p = 2) : Cx F (d + 10) 227 [158] (Hp L xs (rv p dep m)) = some ([], Hp L xs (rv (p + 1) dep (if topK m (vlT m p) < 0 ∧ lcK m (vlT m p) < 0 then jadx m (vlT m p) else bkF m (plT m p)))) := by
  have el := S.el
  have hT := S.tr p hp (by omega)
  rw [hk] at hT
  have x1 := fun D => N_215 (F := F) (L := L) (xs := xs) (d := D) (m := m) (p := p) (dep := dep) hb (by omega) hT rfl
  have x2 := fun D => R_224 (F := F) (L := L) (xs := xs) (d := D) (m := m) (p := p + 1) (dep := dep) (a := p) hF U hp (by omega)
  by_cases h : topK m (vlT m p) < 0 ∧ lcK m (vlT m p) < 0
  · have e1 : ltM m p = m := if_neg (fun z => by omega)
    rw [e1] at x2
    have x3 := fun D => R_225 (F := F) (L := L) (xs := xs) (d := D) (m := m) (p := p + 1) (dep := dep) (a := p) U (fun _ => h31) hp (by omega)
    have e2 : adM m p = jadx m (vlT m p) := if_pos hb
    rw [e2] at x3
    rw [if_pos h]
    simp (disch := first | omega | assumption) only [c_227, tr_227, ev_0, ev_1, ev_16, ev_17, ev_18, ev_2, ev_3, ev_4, ev_5, ev_6, ev_7, ev_8, ev_9, ev_20, ev_21, ev_22, ev_23, ev_24, ev_25, ev_27, ev_28, ev_30, ev_31, ev_32, ev_33, ev_34, ev_35, ev_36, ev_37, ev_38, ev_39, ev_40, ev_41, ev_42, ev_43, ev_45, ev_46, ev_47, ev_48, ev_49, ev_50, ev_51, ev_52, ev_54, ev_55, ev_57, ev_58, ev_59, k2_0, k2_1, k2_2, k3a, k3b, k4, o1_s, xbin_0, xbin_1, xbin_2, xbin_3, xbin_4, xbin_5, xbin_6, xbin_7, xbin_8, xbin_9, xbin_11, xbin_12, xun_0, xun_1, xun_2, xun_3, xun_4, xun_5, k6a, k8, k8b, k9, k20, k20b_0, k20b_1, k20b_2, k20b_3, k20b_4, k20b_5, k21_0, k21_1, k21_2, k21_3, k21_4, k21_5, k23, k24, k25, k27, k28, k40, nz_1, nz_2, nz_3, k31_0, k31_1, k31_2, k31_3, k32u, k33, k34, k35, k35b, k36, k37, k38, k47, k49, k49b_0, k49b_1, k49b_2, k49b_3, k50_0, k50_s, k51_0, k51_s, k55, k58, k58b, rk_0, rk_1, rk_2, rk_9, rk_3, rk_4, rk_5, sw_n, sw_c, xtb_n, xtb_c, lset_0, lset_2, lset_1, lkm_0, lkm_2, lkm_9, lkm_1, lkm_n, if_some1, c_10, c_01, c_x0, c_1x, c_n0, c_nn, List.getElem?_cons_zero, List.getElem?_cons_succ, List.set_cons_zero, List.set_cons_succ, List.length_cons, List.length_nil, Int.reduceToNat, Nat.reduceDiv, Nat.reduceMod, Nat.reduceSub, Nat.reduceAdd, Nat.reduceMul, Nat.reduceLT, Nat.reduceLeDiff, Nat.reduceEqDiff, Int.reduceMod, Int.reduceSub, Int.reduceNeg, Int.reduceAdd, Int.reduceMul, Int.reduceLT, Int.reduceLE, Int.reduceEq, put_ss, if_true, if_false, ite_true, ite_false, reduceIte, eq_self, and_true, true_and, and_false, false_and, or_true, true_or, or_false, false_or, not_true_eq_false, not_false_eq_true, k5_158_14, k34_158_14, k34i_158_14, k5_158_15, k34_158_15, k34i_158_15, k5_158_13, k34_158_13, k54_158_13, k54b_158_13_0, k54b_158_13_1, k5_158_5, k6_161, k35_161, n_161, k5_158_7, k6_163, k35_163, n_163, k5_158_12, k34_158_12, k54_158_12, k54b_158_12_0, k5_158_6, k6_162, k35_162, n_162, k5_158_36, k34_158_36, k54_158_36, k54b_158_36_0, k5_158_37, k6_175, k35_175, n_175, k5_158_34, k6_173, k35_173, n_173, k5_158_33, k34_158_33, rv_t, rv_d, rv_x, rv_y, rp_t, rp_d, rp_x, rp_y, w32_of, x1, x2, x3]
  · have e1 : ltM m p = bkF m (plT m p) := if_pos ⟨hb, by omega⟩
    rw [e1] at x2
    have x3 := fun D => R_225 (F := F) (L := L) (xs := xs) (d := D) (m := bkF m (plT m p)) (p := p + 1) (dep := dep) (a := p) (WU_bk U) (fun z => absurd z (by show ¬ (1 : Int) = 0; decide)) hp (by omega)
    have e2 : adM (bkF m (plT m p)) p = bkF m (plT m p) := if_neg (by show ¬ (1 : Int) = 0; decide)
    rw [e2] at x3
    rw [if_neg h]
    simp (disch := first | omega | assumption) only [c_227, tr_227, ev_0, ev_1, ev_16, ev_17, ev_18, ev_2, ev_3, ev_4, ev_5, ev_6, ev_7, ev_8, ev_9, ev_20, ev_21, ev_22, ev_23, ev_24, ev_25, ev_27, ev_28, ev_30, ev_31, ev_32, ev_33, ev_34, ev_35, ev_36, ev_37, ev_38, ev_39, ev_40, ev_41, ev_42, ev_43, ev_45, ev_46, ev_47, ev_48, ev_49, ev_50, ev_51, ev_52, ev_54, ev_55, ev_57, ev_58, ev_59, k2_0, k2_1, k2_2, k3a, k3b, k4, o1_s, xbin_0, xbin_1, xbin_2, xbin_3, xbin_4, xbin_5, xbin_6, xbin_7, xbin_8, xbin_9, xbin_11, xbin_12, xun_0, xun_1, xun_2, xun_3, xun_4, xun_5, k6a, k8, k8b, k9, k20, k20b_0, k20b_1, k20b_2, k20b_3, k20b_4, k20b_5, k21_0, k21_1, k21_2, k21_3, k21_4, k21_5, k23, k24, k25, k27, k28, k40, nz_1, nz_2, nz_3, k31_0, k31_1, k31_2, k31_3, k32u, k33, k34, k35, k35b, k36, k37, k38, k47, k49, k49b_0, k49b_1, k49b_2, k49b_3, k50_0, k50_s, k51_0, k51_s, k55, k58, k58b, rk_0, rk_1, rk_2, rk_9, rk_3, rk_4, rk_5, sw_n, sw_c, xtb_n, xtb_c, lset_0, lset_2, lset_1, lkm_0, lkm_2, lkm_9, lkm_1, lkm_n, if_some1, c_10, c_01, c_x0, c_1x, c_n0, c_nn, List.getElem?_cons_zero, List.getElem?_cons_succ, List.set_cons_zero, List.set_cons_succ, List.length_cons, List.length_nil, Int.reduceToNat, Nat.reduceDiv, Nat.reduceMod, Nat.reduceSub, Nat.reduceAdd, Nat.reduceMul, Nat.reduceLT, Nat.reduceLeDiff, Nat.reduceEqDiff, Int.reduceMod, Int.reduceSub, Int.reduceNeg, Int.reduceAdd, Int.reduceMul, Int.reduceLT, Int.reduceLE, Int.reduceEq, put_ss, if_true, if_false, ite_true, ite_false, reduceIte, eq_self, and_true, true_and, and_false, false_and, or_true, true_or, or_false, false_or, not_true_eq_false, not_false_eq_true, k5_158_14, k34_158_14, k34i_158_14, k5_158_15, k34_158_15, k34i_158_15, k5_158_13, k34_158_13, k54_158_13, k54b_158_13_0, k54b_158_13_1, k5_158_5, k6_161, k35_161, n_161, k5_158_7, k6_163, k35_163, n_163, k5_158_12, k34_158_12, k54_158_12, k54b_158_12_0, k5_158_6, k6_162, k35_162, n_162, k5_158_36, k34_158_36, k54_158_36, k54b_158_36_0, k5_158_37, k6_175, k35_175, n_175, k5_158_34, k6_173, k35_173, n_173, k5_158_33, k34_158_33, rv_t, rv_d, rv_x, rv_y, rp_t, rp_d, rp_x, rp_y, w32_of, x1, x2, x3]
theorem prF_nf {B : Int} {K : Int → Int} : ∀ (k : Nat) (t : xT), tsz t < k → ∀ (p q : Int), PN K t p q → (∀ j, p ≤ j → j < q → B ≤ mc 54 j.toNat) → ∀ c : zS, c.1.2.2.2.1 = B → (prF mc t c).1.2.2.2.1 = B := by
  intro k
  induction k with
  | zero => intro t ht; exact absurd ht (Nat.not_lt_zero _)
  | succ k ih =>
    intro t ht p q h hs c h0
    rcases inv_N h with ⟨a, b, rfl, g1, g2, g3⟩ | ⟨a, b, rfl, g1, g2, g3⟩
    · exact tlS_nB (hs p (by omega) (by omega)) h0
    · rw [tsz_nd] at ht
      have := PN_n b g3
      exact ih b (by omega) _ _ g3 (fun j j1 j2 => hs j (by omega) j2) _ (tlS_nB (hs p (by omega) (by omega)) h0)
theorem rsF_nf {B f : Int} {K : Int → Int} : ∀ (k : Nat) (t : xT), tsz t < k → ∀ (p q : Int), PN K t p q → (∀ j, p ≤ j → j < q → B ≤ mc 54 j.toNat) → ∀ (n : Nat) (s : xSt), s.2.2.2.1 = B → (rsF mc f t n s).2.2.2.1 = B := by
  intro k
  induction k with
  | zero => intro t ht; exact absurd ht (Nat.not_lt_zero _)
  | succ k ih =>
    intro t ht p q h hs n s h0
    rcases inv_N h with ⟨a, b, rfl, g1, g2, g3⟩ | ⟨a, b, rfl, g1, g2, g3⟩
    · exact dupB_nf (hs p (by omega) (by omega)) _ _ (us_nB (hs p (by omega) (by omega)) h0)
    · rw [tsz_nd] at ht
      have := PN_n b g3
      exact ih b (by omega) _ _ g3 (fun j j1 j2 => hs j (by omega) j2) _ _ (dupB_nf (hs p (by omega) (by omega)) _ _ (us_nB (hs p (by omega) (by omega)) h0))
/-- the parameters -/
theorem Pm_ok (hF : 100000 ≤ F) : ∀ (k : Nat) (t : xT), tsz t < k → ∀ (p q : Int), PN (kd mc) t p q → 0 ≤ p → q < e → ∀ (m : Mem) (s : xSt) (y : yS) (σ : Int → Int) (D : Int) (G : Prop) (x : Int) (n : Nat), SE mc m e → SR mc s y (hg m) σ D G (-1) p → m 158 15 = 0 → m 158 41 < 2900 → (∀ j, 0 ≤ j → j < q → mc 54 j.toNat < D) → q - p < n → ∃ m1, Cx F (d + 10) 227 [158] (Hp L xs (rv p dep m)) = some ([], Hp L xs (rv (p + 1) dep m1)) ∧ ∃ p' m', LF F (d + 10) la_226_0 lb_226_0 lc_226_0 n ([(2, 158), (0, x), (9, 0)], Hp L xs (rv (p + 1) dep m1)) = some (0, [], ([(2, 158), (0, x), (9, 0)], Hp L xs (rv p' dep m'))) ∧ FS m m' ∧ 0 ≤ p' ∧ p' ≤ e ∧ ((m' 158 15 = 0 ∧ p' = q ∧ (prF mc t (s, y)).1 = s ∧ SR mc s (prF mc t (s, y)).2 (hg m') σ D G (-1) (q + 1) ∧ FJ m m' ∧ m' 158 30 = m 158 30 + nN t ∧ (prF mc t (s, y)).2.1 = y.1) ∨ (WU m' ∧ Br mc m' (prF mc t (s, y)).1 p q ∧ ∃ M pl, m' = bkF M pl ∧ FJ m M)) := by
  intro k
  induction k with
  | zero => intro t ht; exact absurd ht (Nat.not_lt_zero _)
  | succ k ih =>
    intro t ht p q h hp hq m s y σ D G x n S R hb h41 hD hn
    have el := S.el
    have hnq := PN_n t h
    obtain ⟨n, rfl⟩ : ∃ n', n = n' + 1 := ⟨n - 1, by omega⟩
    have hk : kd mc p = 2 := by
      rcases inv_N h with ⟨a, b, rfl, g1, g2, g3⟩ | ⟨a, b, rfl, g1, g2, g3⟩ <;> exact g1
    have Sg : SE mc (hg m) e := SE_FS S (FS_put (FS_put (FS_put FS_rf rfl) rfl) rfl)
    have U : WU m := SR_WU (m := hg m) Sg R (by omega) (Or.inl hb) (by show m 158 41 < 11900; omega)
    have lx := R.lx
    have l0 := R.l0
    have lx1 : m 158 30 ≤ m 158 31 ∧ m 158 31 ≤ 1600 := lx.2
    have l01 : 0 ≤ m 158 30 := l0.1
    have c1 := Pm_one (L := L) (xs := xs) (d := d) (dep := dep) hF S U hb (by omega) hp (by omega) hk
    have et := tlS_eq (s1 := s) Sg R hp (by omega) hk
    have et : tlS mc p y s = if topK m (vlT m p) < 0 ∧ lcK m (vlT m p) < 0 then s else bl mc p s := et
    have ey : (ymk mc p y).1 = y.1 := by unfold ymk; split <;> rfl
    by_cases hg0 : topK m (vlT m p) < 0 ∧ lcK m (vlT m p) < 0
    · rw [if_pos hg0] at c1 et
      obtain ⟨n1, n2, n3, n4, n5, n6, n7⟩ := S.nm p hp (by omega) hk
      have hlc1 : lcK (hg m) (vlT (hg m) p) = -1 := lcK_n (m := m) (c := vlT m p) (by omega)
      have R1 := SR_ad (p' := p + 2) Sg R hp (by omega) hk (n4.2 hg0.1) hlc1 (by omega) (by omega)
      have e1 : hg m 163 p.toNat = vlT m p := rfl
      rw [e1, hg_jadx] at R1
      have S1 : SE mc (jadx m (vlT m p)) e := SE_FS S FS_jadx
      have hb1 : jadx m (vlT m p) 158 15 = 0 := hb
      refine ⟨_, c1, ?_⟩
      rcases inv_N h with ⟨a, b, rfl, g1, g2, g3⟩ | ⟨a, b, rfl, g1, g2, g3⟩
      · subst g2
        have eF : prF mc (nd 45 p a b) (s, y) = (tlS mc p y s, ymk mc p y) := rfl
        have eN : nN (nd 45 p a b) = 1 := rfl
        rw [eF, et, eN]
        have hT1 := S1.tr (p + 1) (by omega) (by omega)
        have x2 := fun D => N_209n (F := F) (L := L) (xs := xs) (d := D) (m := jadx m (vlT m p)) (p := p + 1) (dep := dep) (a1 := 44) hb1 (by omega) hT1 (by omega) g3
        have e2 : p + 1 + 1 = p + 2 := by omega
        refine ⟨p + 1, jadx m (vlT m p), ?_, FS_jadx, by omega, by omega, Or.inl ⟨hb, rfl, rfl, by rw [e2]; exact R1, FJ_jadx, rfl, ey⟩⟩
        rw [lf_s]
        simp (disch := first | omega | assumption) only [ea_226_0, eb_226_0, ec_226_0, ev_0, ev_1, ev_16, ev_17, ev_18, ev_2, ev_3, ev_4, ev_5, ev_6, ev_7, ev_8, ev_9, ev_20, ev_21, ev_22, ev_23, ev_24, ev_25, ev_27, ev_28, ev_30, ev_31, ev_32, ev_33, ev_34, ev_35, ev_36, ev_37, ev_38, ev_39, ev_40, ev_41, ev_42, ev_43, ev_45, ev_46, ev_47, ev_48, ev_49, ev_50, ev_51, ev_52, ev_54, ev_55, ev_57, ev_58, ev_59, k2_0, k2_1, k2_2, k3a, k3b, k4, o1_s, xbin_0, xbin_1, xbin_2, xbin_3, xbin_4, xbin_5, xbin_6, xbin_7, xbin_8, xbin_9, xbin_11, xbin_12, xun_0, xun_1, xun_2, xun_3, xun_4, xun_5, k6a, k8, k8b, k9, k20, k20b_0, k20b_1, k20b_2, k20b_3, k20b_4, k20b_5, k21_0, k21_1, k21_2, k21_3, k21_4, k21_5, k23, k24, k25, k27, k28, k40, nz_1, nz_2, nz_3, k31_0, k31_1, k31_2, k31_3, k32u, k33, k34, k35, k35b, k36, k37, k38, k47, k49, k49b_0, k49b_1, k49b_2, k49b_3, k50_0, k50_s, k51_0, k51_s, k55, k58, k58b, rk_0, rk_1, rk_2, rk_9, rk_3, rk_4, rk_5, sw_n, sw_c, xtb_n, xtb_c, lset_0, lset_2, lset_1, lkm_0, lkm_2, lkm_9, lkm_1, lkm_n, if_some1, c_10, c_01, c_x0, c_1x, c_n0, c_nn, List.getElem?_cons_zero, List.getElem?_cons_succ, List.set_cons_zero, List.set_cons_succ, List.length_cons, List.length_nil, Int.reduceToNat, Nat.reduceDiv, Nat.reduceMod, Nat.reduceSub, Nat.reduceAdd, Nat.reduceMul, Nat.reduceLT, Nat.reduceLeDiff, Nat.reduceEqDiff, Int.reduceMod, Int.reduceSub, Int.reduceNeg, Int.reduceAdd, Int.reduceMul, Int.reduceLT, Int.reduceLE, Int.reduceEq, put_ss, if_true, if_false, ite_true, ite_false, reduceIte, eq_self, and_true, true_and, and_false, false_and, or_true, true_or, or_false, false_or, not_true_eq_false, not_false_eq_true, k5_158_14, k34_158_14, k34i_158_14, k5_158_15, k34_158_15, k34i_158_15, k5_158_13, k34_158_13, k54_158_13, k54b_158_13_0, k54b_158_13_1, k5_158_5, k6_161, k35_161, n_161, k5_158_7, k6_163, k35_163, n_163, k5_158_12, k34_158_12, k54_158_12, k54b_158_12_0, k5_158_6, k6_162, k35_162, n_162, k5_158_36, k34_158_36, k54_158_36, k54b_158_36_0, k5_158_37, k6_175, k35_175, n_175, k5_158_34, k6_173, k35_173, n_173, k5_158_33, k34_158_33, rv_t, rv_d, rv_x, rv_y, rp_t, rp_d, rp_x, rp_y, w32_of, l1_i, l1_1, l1_0, l2_0, l2_1, l2_2, l2_3, l3_0, w2_0, w2_1, w2_2, w2_3, d1_0, d1_1, d1_2, d1_3, d2_i, d2_1, d2_0, x2]
      · rw [tsz_nd] at ht
        have hnb := PN_n b g3
        have eF : prF mc (nd 46 p a b) (s, y) = prF mc b (tlS mc p y s, ymk mc p y) := rfl
        have eN : nN (nd 46 p a b) = nN b + 1 := rfl
        rw [eF, et, eN]
        have hT1 := S1.tr (p + 1) (by omega) (by omega)
        rw [g2] at hT1
        have x2 := fun D => N_209y (F := F) (L := L) (xs := xs) (d := D) (m := jadx m (vlT m p)) (p := p + 1) (dep := dep) (a1 := 44) hb1 (by omega) (by omega) hT1
        have x3 := fun D => N_212 (F := F) (L := L) (xs := xs) (d := D) (m := jadx m (vlT m p)) (p := p + 1) (dep := dep) hb1 (by omega)
        have e2 : p + 1 + 1 = p + 2 := by omega
        rw [e2] at x3
        obtain ⟨m2, c2, p3, m3, c3, F3, q0, q1, Y⟩ := ih b (by omega) (p + 2) q g3 (by omega) hq (jadx m (vlT m p)) s (ymk mc p y) σ D G x n S1 R1 hb1 h41 hD (by omega)
        refine ⟨p3, m3, ?_, FS_tr FS_jadx F3, q0, q1, ?_⟩
        · rw [lf_s]
          simp (disch := first | omega | assumption) only [ea_226_0, eb_226_0, ec_226_0, ev_0, ev_1, ev_16, ev_17, ev_18, ev_2, ev_3, ev_4, ev_5, ev_6, ev_7, ev_8, ev_9, ev_20, ev_21, ev_22, ev_23, ev_24, ev_25, ev_27, ev_28, ev_30, ev_31, ev_32, ev_33, ev_34, ev_35, ev_36, ev_37, ev_38, ev_39, ev_40, ev_41, ev_42, ev_43, ev_45, ev_46, ev_47, ev_48, ev_49, ev_50, ev_51, ev_52, ev_54, ev_55, ev_57, ev_58, ev_59, k2_0, k2_1, k2_2, k3a, k3b, k4, o1_s, xbin_0, xbin_1, xbin_2, xbin_3, xbin_4, xbin_5, xbin_6, xbin_7, xbin_8, xbin_9, xbin_11, xbin_12, xun_0, xun_1, xun_2, xun_3, xun_4, xun_5, k6a, k8, k8b, k9, k20, k20b_0, k20b_1, k20b_2, k20b_3, k20b_4, k20b_5, k21_0, k21_1, k21_2, k21_3, k21_4, k21_5, k23, k24, k25, k27, k28, k40, nz_1, nz_2, nz_3, k31_0, k31_1, k31_2, k31_3, k32u, k33, k34, k35, k35b, k36, k37, k38, k47, k49, k49b_0, k49b_1, k49b_2, k49b_3, k50_0, k50_s, k51_0, k51_s, k55, k58, k58b, rk_0, rk_1, rk_2, rk_9, rk_3, rk_4, rk_5, sw_n, sw_c, xtb_n, xtb_c, lset_0, lset_2, lset_1, lkm_0, lkm_2, lkm_9, lkm_1, lkm_n, if_some1, c_10, c_01, c_x0, c_1x, c_n0, c_nn, List.getElem?_cons_zero, List.getElem?_cons_succ, List.set_cons_zero, List.set_cons_succ, List.length_cons, List.length_nil, Int.reduceToNat, Nat.reduceDiv, Nat.reduceMod, Nat.reduceSub, Nat.reduceAdd, Nat.reduceMul, Nat.reduceLT, Nat.reduceLeDiff, Nat.reduceEqDiff, Int.reduceMod, Int.reduceSub, Int.reduceNeg, Int.reduceAdd, Int.reduceMul, Int.reduceLT, Int.reduceLE, Int.reduceEq, put_ss, if_true, if_false, ite_true, ite_false, reduceIte, eq_self, and_true, true_and, and_false, false_and, or_true, true_or, or_false, false_or, not_true_eq_false, not_false_eq_true, k5_158_14, k34_158_14, k34i_158_14, k5_158_15, k34_158_15, k34i_158_15, k5_158_13, k34_158_13, k54_158_13, k54b_158_13_0, k54b_158_13_1, k5_158_5, k6_161, k35_161, n_161, k5_158_7, k6_163, k35_163, n_163, k5_158_12, k34_158_12, k54_158_12, k54b_158_12_0, k5_158_6, k6_162, k35_162, n_162, k5_158_36, k34_158_36, k54_158_36, k54b_158_36_0, k5_158_37, k6_175, k35_175, n_175, k5_158_34, k6_173, k35_173, n_173, k5_158_33, k34_158_33, rv_t, rv_d, rv_x, rv_y, rp_t, rp_d, rp_x, rp_y, w32_of, l1_i, l1_1, l1_0, l2_0, l2_1, l2_2, l2_3, l3_0, w2_0, w2_1, w2_2, w2_3, d1_0, d1_1, d1_2, d1_3, d2_i, d2_1, d2_0, x2, x3, c2, c3]
        · rcases Y with ⟨y1, y2, y3, y4, y5, y6, y7⟩ | ⟨W, B, M, pl, z1, z2⟩
          · refine Or.inl ⟨y1, y2, y3, y4, FJ_tr FJ_jadx y5, ?_, y7.trans ey⟩
            rw [y6]
            show m 158 30 + 1 + nN b = _
            omega
          · exact Or.inr ⟨W, Br_le B (by omega) (Int.le_refl _), M, pl, z1, FJ_tr FJ_jadx z2⟩
    · rw [if_neg hg0] at c1 et
      refine ⟨_, c1, p + 1, bkF m (plT m p), ?_, FS_bkF, by omega, by omega, Or.inr ⟨WU_bk U, ⟨rfl, rfl, p, by omega, by omega, (S.pl p hp (by omega)).1.symm, ?_⟩, m, plT m p, rfl, FJ_rf⟩⟩
      · have x2 := fun D => B_209 (F := F) (L := L) (xs := xs) (d := D) (m := rv (p + 1) dep (bkF m (plT m p))) (a1 := 44) rfl
        rw [lf_s]
        simp (disch := first | omega | assumption) only [ea_226_0, eb_226_0, ec_226_0, ev_0, ev_1, ev_16, ev_17, ev_18, ev_2, ev_3, ev_4, ev_5, ev_6, ev_7, ev_8, ev_9, ev_20, ev_21, ev_22, ev_23, ev_24, ev_25, ev_27, ev_28, ev_30, ev_31, ev_32, ev_33, ev_34, ev_35, ev_36, ev_37, ev_38, ev_39, ev_40, ev_41, ev_42, ev_43, ev_45, ev_46, ev_47, ev_48, ev_49, ev_50, ev_51, ev_52, ev_54, ev_55, ev_57, ev_58, ev_59, k2_0, k2_1, k2_2, k3a, k3b, k4, o1_s, xbin_0, xbin_1, xbin_2, xbin_3, xbin_4, xbin_5, xbin_6, xbin_7, xbin_8, xbin_9, xbin_11, xbin_12, xun_0, xun_1, xun_2, xun_3, xun_4, xun_5, k6a, k8, k8b, k9, k20, k20b_0, k20b_1, k20b_2, k20b_3, k20b_4, k20b_5, k21_0, k21_1, k21_2, k21_3, k21_4, k21_5, k23, k24, k25, k27, k28, k40, nz_1, nz_2, nz_3, k31_0, k31_1, k31_2, k31_3, k32u, k33, k34, k35, k35b, k36, k37, k38, k47, k49, k49b_0, k49b_1, k49b_2, k49b_3, k50_0, k50_s, k51_0, k51_s, k55, k58, k58b, rk_0, rk_1, rk_2, rk_9, rk_3, rk_4, rk_5, sw_n, sw_c, xtb_n, xtb_c, lset_0, lset_2, lset_1, lkm_0, lkm_2, lkm_9, lkm_1, lkm_n, if_some1, c_10, c_01, c_x0, c_1x, c_n0, c_nn, List.getElem?_cons_zero, List.getElem?_cons_succ, List.set_cons_zero, List.set_cons_succ, List.length_cons, List.length_nil, Int.reduceToNat, Nat.reduceDiv, Nat.reduceMod, Nat.reduceSub, Nat.reduceAdd, Nat.reduceMul, Nat.reduceLT, Nat.reduceLeDiff, Nat.reduceEqDiff, Int.reduceMod, Int.reduceSub, Int.reduceNeg, Int.reduceAdd, Int.reduceMul, Int.reduceLT, Int.reduceLE, Int.reduceEq, put_ss, if_true, if_false, ite_true, ite_false, reduceIte, eq_self, and_true, true_and, and_false, false_and, or_true, true_or, or_false, false_or, not_true_eq_false, not_false_eq_true, k5_158_14, k34_158_14, k34i_158_14, k5_158_15, k34_158_15, k34i_158_15, k5_158_13, k34_158_13, k54_158_13, k54b_158_13_0, k54b_158_13_1, k5_158_5, k6_161, k35_161, n_161, k5_158_7, k6_163, k35_163, n_163, k5_158_12, k34_158_12, k54_158_12, k54b_158_12_0, k5_158_6, k6_162, k35_162, n_162, k5_158_36, k34_158_36, k54_158_36, k54b_158_36_0, k5_158_37, k6_175, k35_175, n_175, k5_158_34, k6_173, k35_173, n_173, k5_158_33, k34_158_33, rv_t, rv_d, rv_x, rv_y, rp_t, rp_d, rp_x, rp_y, w32_of, l1_i, l1_1, l1_0, l2_0, l2_1, l2_2, l2_3, l3_0, w2_0, w2_1, w2_2, w2_3, d1_0, d1_1, d1_2, d1_3, d2_i, d2_1, d2_0, x2]
      · have hbl : (bl mc p s).2.2.2.1 = mc 54 p.toNat := bl_hit (m := m) (D := D) hp (by have := S.e5; omega) R.rx.nf (hD p hp (by omega))
        rcases inv_N h with ⟨a, b, rfl, g1, g2, g3⟩ | ⟨a, b, rfl, g1, g2, g3⟩
        · have eF : prF mc (nd 45 p a b) (s, y) = (tlS mc p y s, ymk mc p y) := rfl
          rw [eF, et]
          exact hbl
        · have hnb := PN_n b g3
          have eF : prF mc (nd 46 p a b) (s, y) = prF mc b (tlS mc p y s, ymk mc p y) := rfl
          rw [eF, et]
          exact prF_nf (tsz b + 1) b (by omega) _ _ g3 (fun j j1 j2 => S.mo _ _ hp (by omega) (by omega)) _ hbl
end Prm
theorem dup_if {mc m : Mem} {e i base : Int} {w : List Int} {f : Nat → Int} (S : SE mc m e) (w2 : 0 ≤ base) (w3 : ∀ j ∈ w, 0 ≤ j ∧ j < e ∧ kd mc j = 2 ∧ isK m (vlT m j) 3) (w4 : ∀ k : Nat, k < w.length → f (base + (k : Int)).toNat = inX m (vlT m (w.getD k 0))) (hi : 0 ≤ i) (hie : i < e) (hk : kd mc i = 2) (h3 : isK m (vlT m i) 3) : fst1 f (inX m (vlT m i)) (base) w.length = -1 ↔ (∀ j ∈ w, idT mc j ≠ idT mc i) := by
  obtain ⟨n1, n2, n3, n4, n5, n6, n7⟩ := S.nm i hi hie hk
  constructor
  · intro hf j hj he
    obtain ⟨k, hk1, hk2⟩ := List.getElem_of_mem hj
    have g1 := w4 k hk1
    obtain ⟨j0, j1, j2, j3⟩ := w3 j hj
    have hgd : w.getD k 0 = j := by
      rw [List.getD_eq_getElem?_getD, List.getElem?_eq_getElem hk1, hk2]
      rfl
    rw [hgd] at g1
    obtain ⟨n1', n2', n3', n4', n5', n6', n7'⟩ := S.nm j j0 j1 j2
    have ev : vlT m j = vlT m i := by rw [← n7', ← n7, he]
    rw [ev] at g1
    have key : ∀ (n : Nat) (k0 : Int) (q : Int), 0 ≤ k0 → k0 ≤ q → q < k0 + n → f q.toNat = inX m (vlT m i) → fst1 f (inX m (vlT m i)) k0 n ≠ -1 := by
      intro n
      induction n with
      | zero => intro k0 q h0 h1 h2; omega
      | succ n ih =>
        intro k0 q h0 h1 h2 h3
        unfold fst1
        by_cases hz : f k0.toNat = inX m (vlT m i)
        · rw [if_pos hz]; omega
        · rw [if_neg hz]
          exact ih (k0 + 1) q (by omega) (by
            have : k0 ≠ q := fun z => hz (by rw [z]; exact h3)
            omega) (by omega) h3
    exact key w.length (base) (base + (k : Int)) w2 (by omega) (by omega) g1 hf
  · intro ha
    rcases fst1_b (f := f) (c := inX m (vlT m i)) w.length (base) with g | ⟨g1, g2, g3⟩
    · exact g
    · exfalso
      generalize fst1 f (inX m (vlT m i)) (base) w.length = q at *
      have hk1 : (q - base).toNat < w.length := by omega
      have g4 := w4 (q - base).toNat hk1
      have e1 : base + ((q - base).toNat : Int) = q := by omega
      have hm : w.getD (q - base).toNat 0 ∈ w := by
        rw [List.getD_eq_getElem?_getD, List.getElem?_eq_getElem hk1]
        exact List.getElem_mem hk1
      rw [e1, g3] at g4
      obtain ⟨j0, j1, j2, j3⟩ := w3 _ hm
      obtain ⟨n1', n2', n3', n4', n5', n6', n7'⟩ := S.nm _ j0 j1 j2
      have ev := S.ci _ _ h3 j3 g4
      exact ha _ hm (S.ij _ _ n5' n6' n5 n6 (by rw [n7', n7, ev]))
