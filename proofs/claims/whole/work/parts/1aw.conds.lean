/-! CLASS AND MODEL, THE SECOND WALK: names told at the top, lists of conditions -/
theorem fst1_le {f : Nat → Int} {c : Int} : ∀ (n : Nat) (k i : Int), 0 ≤ k → k ≤ i → i < k + n → f i.toNat = c → k ≤ fst1 f c k n ∧ fst1 f c k n ≤ i
  | 0, k, i, h0, h1, h2, h3 => by omega
  | n + 1, k, i, h0, h1, h2, h3 => by
    unfold fst1
    by_cases hz : f k.toNat = c
    · rw [if_pos hz]; omega
    · rw [if_neg hz]
      have hne : k ≠ i := fun z => hz (by rw [z]; exact h3)
      have := fst1_le (f := f) (c := c) n (k + 1) i (by omega) (by omega) (by omega) h3
      omega
/-- the table of names: all of C -/
def TBL (m : Mem) (C : List Int) : Prop := m 158 17 = (C.length : Int) ∧ ∀ k : Nat, k < C.length → m 165 k = C.getD k 0
theorem tb_top {m : Mem} {l rest : List Int} {c : Int} (T : TBL m (l ++ c :: rest)) (h29 : m 158 29 = (l.length : Int)) : topK m c = m 158 29 ↔ c ∉ l := by
  obtain ⟨t1, t2⟩ := T
  have hlen : (l ++ c :: rest).length = l.length + rest.length + 1 := by rw [List.length_append, List.length_cons]; omega
  have hc : m 165 l.length = c := by
    rw [t2 l.length (by omega), List.getD_eq_getElem?_getD, List.getElem?_append_right (Nat.le_refl _), Nat.sub_self]
    rfl
  have hl : ∀ k : Nat, k < l.length → m 165 k = l.getD k 0 := fun k hk => by
    rw [t2 k (by omega), List.getD_eq_getElem?_getD, List.getElem?_append_left hk, ← List.getD_eq_getElem?_getD]
  unfold topK
  have e17 : (m 158 17).toNat = (l ++ c :: rest).length := by omega
  rw [e17, h29]
  have g := fst1_le (f := m 165) (c := c) (l ++ c :: rest).length 0 (l.length : Int) (by omega) (by omega) (by omega) (by rw [Int.toNat_natCast]; exact hc)
  constructor
  · intro h hm
    obtain ⟨k, hk1, hk2⟩ := List.getElem_of_mem hm
    have g2 := fst1_le (f := m 165) (c := c) (l ++ c :: rest).length 0 (k : Int) (by omega) (by omega) (by omega) (by
      rw [Int.toNat_natCast, hl k hk1, List.getD_eq_getElem?_getD, List.getElem?_eq_getElem hk1, hk2]
      rfl)
    omega
  · intro hm
    rcases fst1_b (f := m 165) (c := c) (l ++ c :: rest).length 0 with z | ⟨z1, z2, z3⟩
    · omega
    · by_cases hlt : fst1 (m 165) c 0 (l ++ c :: rest).length < (l.length : Int)
      · exfalso
        generalize fst1 (m 165) c 0 (l ++ c :: rest).length = j at *
        have hj : j.toNat < l.length := by omega
        rw [hl _ hj, List.getD_eq_getElem?_getD, List.getElem?_eq_getElem hj] at z3
        exact hm (by rw [← z3]; exact List.getElem_mem hj)
      · omega
/-- 24 and 29 alone change -/
def FC (m m' : Mem) : Prop := ∀ a k, ¬ (a = 158 ∧ (k = 24 ∨ k = 29)) → m' a k = m a k
theorem FC_tr {m m1 m2 : Mem} (h1 : FC m m1) (h2 : FC m1 m2) : FC m m2 := fun a k g => (h2 a k g).trans (h1 a k g)
theorem FC_pp {m : Mem} {u w : Int} : FC m (put (put m 158 29 u) 158 24 w) := fun a k g => by
  simp only [put_ss]
  by_cases h : a = 158
  · have n1 : ¬ k = 24 := fun z => g ⟨h, Or.inl z⟩
    have n2 : ¬ k = 29 := fun z => g ⟨h, Or.inr z⟩
    simp only [n1, n2, if_false, ite_self]
  · simp only [h, if_false]
theorem FC_TBL {m m' : Mem} {C : List Int} (f : FC m m') (T : TBL m C) : TBL m' C := ⟨by rw [f _ _ (by omega)]; exact T.1, fun k hk => by rw [f _ _ (by omega)]; exact T.2 k hk⟩
theorem FC_FQ {m m' : Mem} (f : FC m m') : FQ m m' := fun a k h => f a k (fun z => by
  obtain ⟨rfl, z⟩ := z
  rcases z with rfl | rfl <;> exact absurd h (by decide))
section Cnd
variable {F L d : Nat} {xs : Nat → Int32} {mc : Mem} {e : Int} {v : Int → Int}
theorem Cn_ok (hF : 100000 ≤ F) : ∀ (k : Nat) (t : xT), tsz t < k → ∀ (p q : Int), PN (kd mc) t p q → 0 ≤ p → q < e → ∀ (m : Mem) (l rest : List Int) (n : Nat), SE mc m e → WT m → (∀ i, vlT m i = v i) → TBL m (l ++ (cN v t ++ rest)) → m 158 29 = (l.length : Int) → (l.length : Int) ≤ p + 5 → 0 ≤ m 158 24 → m 158 24 ≤ p + 6 → q - p < n → ∃ m1, Cx F (d + 10) 222 [158] (Hp L xs (rv p 0 m)) = some ([], Hp L xs (rv (p + 1) 0 m1)) ∧ ∃ p' m', LF F (d + 10) la_220_1 lb_220_1 lc_220_1 n ([(2, 158)], Hp L xs (rv (p + 1) 0 m1)) = some (0, [], ([(2, 158)], Hp L xs (rv p' 0 m'))) ∧ 0 ≤ p' ∧ p' ≤ e ∧ ((dN v t l = -1 ∧ m' 158 15 = 0 ∧ p' = q ∧ FC m m' ∧ m' 158 29 = m 158 29 + nN t ∧ m' 158 24 = m 158 24 + nN t ∧ ((cN v t).length : Int) = nN t) ∨ (p ≤ dN v t l ∧ dN v t l < q ∧ m' 158 15 = 1 ∧ m' 158 9 = 2 ∧ m' 158 10 = plT m (dN v t l) ∧ FT m m')) := by
  intro k
  induction k with
  | zero => intro t ht; exact absurd ht (Nat.not_lt_zero _)
  | succ k ih =>
    intro t ht p q h hp hq m l rest n S W hv T h29 hlp h24 h24b hn
    have el := S.el
    have hb := W.2.2.2.2.2
    have hnq := PN_n t h
    obtain ⟨n, rfl⟩ : ∃ n', n = n' + 1 := ⟨n - 1, by omega⟩
    have hk : kd mc p = 2 := by
      rcases inv_N h with ⟨a, b, rfl, g1, g2, g3⟩ | ⟨a, b, rfl, g1, g2, g3⟩ <;> exact g1
    have c1 := C_one (L := L) (xs := xs) (d := d) (dep := 0) hF S W (by omega) (by omega) hp (by omega) hk
    have hcn : ∃ r2, cN v t = v p :: r2 := by
      rcases inv_N h with ⟨a, b, rfl, g1, g2, g3⟩ | ⟨a, b, rfl, g1, g2, g3⟩
      · exact ⟨[], rfl⟩
      · exact ⟨cN v b, rfl⟩
    obtain ⟨r2, hcn⟩ := hcn
    have T' := T
    rw [hcn, List.cons_append] at T'
    have htop := tb_top T' h29
    rw [← hv p] at htop
    rw [hv p] at htop
    by_cases hg : v p ∈ l
    · have et : ttM m p = put (bkF m (plT m p)) 158 29 (m 158 29 + 1) := if_neg (fun z => by rw [hv p] at z; exact htop.1 z hg)
      rw [et] at c1
      have hb1 : put (put (bkF m (plT m p)) 158 29 (m 158 29 + 1)) 158 24 (m 158 24 + 1) 158 15 = 1 := rfl
      have x2 := fun D => B_209 (F := F) (L := L) (xs := xs) (d := D) (m := rv (p + 1) 0 (put (put (bkF m (plT m p)) 158 29 (m 158 29 + 1)) 158 24 (m 158 24 + 1))) (a1 := 44) hb1
      have ed : dN v t l = p := by
        rcases inv_N h with ⟨a, b, rfl, g1, g2, g3⟩ | ⟨a, b, rfl, g1, g2, g3⟩
        · exact if_pos hg
        · exact if_pos hg
      refine ⟨_, c1, p + 1, _, ?_, by omega, by omega, Or.inr ⟨by omega, by omega, hb1, rfl, by rw [ed]; rfl, FT_put (FT_put (FT_FS FS_bkF (fun z => z)) rfl) rfl⟩⟩
      rw [lf_s]
      simp (disch := first | omega | assumption) only [ea_220_1, eb_220_1, ec_220_1, ev_0, ev_1, ev_16, ev_17, ev_18, ev_2, ev_3, ev_4, ev_5, ev_6, ev_7, ev_8, ev_9, ev_20, ev_21, ev_22, ev_23, ev_24, ev_25, ev_27, ev_28, ev_30, ev_31, ev_32, ev_33, ev_34, ev_35, ev_36, ev_37, ev_38, ev_39, ev_40, ev_41, ev_42, ev_43, ev_45, ev_46, ev_47, ev_48, ev_49, ev_50, ev_51, ev_52, ev_54, ev_55, ev_57, ev_58, ev_59, k2_0, k2_1, k2_2, k3a, k3b, k4, o1_s, xbin_0, xbin_1, xbin_2, xbin_3, xbin_4, xbin_5, xbin_6, xbin_7, xbin_8, xbin_9, xbin_11, xbin_12, xun_0, xun_1, xun_2, xun_3, xun_4, xun_5, k6a, k8, k8b, k9, k20, k20b_0, k20b_1, k20b_2, k20b_3, k20b_4, k20b_5, k21_0, k21_1, k21_2, k21_3, k21_4, k21_5, k23, k24, k25, k27, k28, k40, nz_1, nz_2, nz_3, k31_0, k31_1, k31_2, k31_3, k32u, k33, k34, k35, k35b, k36, k37, k38, k47, k49, k49b_0, k49b_1, k49b_2, k49b_3, k50_0, k50_s, k51_0, k51_s, k55, k58, k58b, rk_0, rk_1, rk_2, rk_9, rk_3, rk_4, rk_5, sw_n, sw_c, xtb_n, xtb_c, lset_0, lset_2, lset_1, lkm_0, lkm_2, lkm_9, lkm_1, lkm_n, if_some1, c_10, c_01, c_x0, c_1x, c_n0, c_nn, List.getElem?_cons_zero, List.getElem?_cons_succ, List.set_cons_zero, List.set_cons_succ, List.length_cons, List.length_nil, Int.reduceToNat, Nat.reduceDiv, Nat.reduceMod, Nat.reduceSub, Nat.reduceAdd, Nat.reduceMul, Nat.reduceLT, Nat.reduceLeDiff, Nat.reduceEqDiff, Int.reduceMod, Int.reduceSub, Int.reduceNeg, Int.reduceAdd, Int.reduceMul, Int.reduceLT, Int.reduceLE, Int.reduceEq, put_ss, if_true, if_false, ite_true, ite_false, reduceIte, eq_self, and_true, true_and, and_false, false_and, or_true, true_or, or_false, false_or, not_true_eq_false, not_false_eq_true, k5_158_14, k34_158_14, k34i_158_14, k5_158_15, k34_158_15, k34i_158_15, k5_158_13, k34_158_13, k54_158_13, k54b_158_13_0, k54b_158_13_1, k5_158_5, k6_161, k35_161, n_161, k5_158_7, k6_163, k35_163, n_163, k5_158_12, k34_158_12, k54_158_12, k54b_158_12_0, rv_t, rv_d, rv_x, rv_y, rp_t, rp_d, rp_x, rp_y, w32_of, l1_i, l1_1, l1_0, l2_0, l2_1, l2_2, l2_3, l3_0, w2_0, w2_1, w2_2, w2_3, d1_0, d1_1, d1_2, d1_3, d2_i, d2_1, d2_0, x2]
    · have et : ttM m p = put m 158 29 (m 158 29 + 1) := if_pos (by rw [hv p]; exact htop.2 hg)
      rw [et] at c1
      have f1 := FC_pp (m := m) (u := m 158 29 + 1) (w := m 158 24 + 1)
      generalize hm1 : put (put m 158 29 (m 158 29 + 1)) 158 24 (m 158 24 + 1) = m1 at *
      have hb1 : m1 158 15 = 0 := (f1 158 15 (by omega)).trans hb
      have S1 : SE mc m1 e := SE_FQ S (FC_FQ f1)
      have v29 : m1 158 29 = m 158 29 + 1 := by rw [← hm1]; rfl
      have v24 : m1 158 24 = m 158 24 + 1 := by rw [← hm1]; rfl
      refine ⟨m1, c1, ?_⟩
      rcases inv_N h with ⟨a, b, rfl, g1, g2, g3⟩ | ⟨a, b, rfl, g1, g2, g3⟩
      · subst g2
        have hT1 := S1.tr (p + 1) (by omega) (by omega)
        have x2 := fun D => N_209n (F := F) (L := L) (xs := xs) (d := D) (m := m1) (p := p + 1) (dep := 0) (a1 := 44) hb1 (by omega) hT1 (by omega) g3
        have ed : dN v (nd 45 p a b) l = -1 := if_neg hg
        have eN : nN (nd 45 p a b) = 1 := rfl
        refine ⟨p + 1, m1, ?_, by omega, by omega, Or.inl ⟨ed, hb1, rfl, f1, by rw [eN]; exact v29, by rw [eN]; exact v24, rfl⟩⟩
        rw [lf_s]
        simp (disch := first | omega | assumption) only [ea_220_1, eb_220_1, ec_220_1, ev_0, ev_1, ev_16, ev_17, ev_18, ev_2, ev_3, ev_4, ev_5, ev_6, ev_7, ev_8, ev_9, ev_20, ev_21, ev_22, ev_23, ev_24, ev_25, ev_27, ev_28, ev_30, ev_31, ev_32, ev_33, ev_34, ev_35, ev_36, ev_37, ev_38, ev_39, ev_40, ev_41, ev_42, ev_43, ev_45, ev_46, ev_47, ev_48, ev_49, ev_50, ev_51, ev_52, ev_54, ev_55, ev_57, ev_58, ev_59, k2_0, k2_1, k2_2, k3a, k3b, k4, o1_s, xbin_0, xbin_1, xbin_2, xbin_3, xbin_4, xbin_5, xbin_6, xbin_7, xbin_8, xbin_9, xbin_11, xbin_12, xun_0, xun_1, xun_2, xun_3, xun_4, xun_5, k6a, k8, k8b, k9, k20, k20b_0, k20b_1, k20b_2, k20b_3, k20b_4, k20b_5, k21_0, k21_1, k21_2, k21_3, k21_4, k21_5, k23, k24, k25, k27, k28, k40, nz_1, nz_2, nz_3, k31_0, k31_1, k31_2, k31_3, k32u, k33, k34, k35, k35b, k36, k37, k38, k47, k49, k49b_0, k49b_1, k49b_2, k49b_3, k50_0, k50_s, k51_0, k51_s, k55, k58, k58b, rk_0, rk_1, rk_2, rk_9, rk_3, rk_4, rk_5, sw_n, sw_c, xtb_n, xtb_c, lset_0, lset_2, lset_1, lkm_0, lkm_2, lkm_9, lkm_1, lkm_n, if_some1, c_10, c_01, c_x0, c_1x, c_n0, c_nn, List.getElem?_cons_zero, List.getElem?_cons_succ, List.set_cons_zero, List.set_cons_succ, List.length_cons, List.length_nil, Int.reduceToNat, Nat.reduceDiv, Nat.reduceMod, Nat.reduceSub, Nat.reduceAdd, Nat.reduceMul, Nat.reduceLT, Nat.reduceLeDiff, Nat.reduceEqDiff, Int.reduceMod, Int.reduceSub, Int.reduceNeg, Int.reduceAdd, Int.reduceMul, Int.reduceLT, Int.reduceLE, Int.reduceEq, put_ss, if_true, if_false, ite_true, ite_false, reduceIte, eq_self, and_true, true_and, and_false, false_and, or_true, true_or, or_false, false_or, not_true_eq_false, not_false_eq_true, k5_158_14, k34_158_14, k34i_158_14, k5_158_15, k34_158_15, k34i_158_15, k5_158_13, k34_158_13, k54_158_13, k54b_158_13_0, k54b_158_13_1, k5_158_5, k6_161, k35_161, n_161, k5_158_7, k6_163, k35_163, n_163, k5_158_12, k34_158_12, k54_158_12, k54b_158_12_0, rv_t, rv_d, rv_x, rv_y, rp_t, rp_d, rp_x, rp_y, w32_of, l1_i, l1_1, l1_0, l2_0, l2_1, l2_2, l2_3, l3_0, w2_0, w2_1, w2_2, w2_3, d1_0, d1_1, d1_2, d1_3, d2_i, d2_1, d2_0, x2]
      · rw [tsz_nd] at ht
        have hnb := PN_n b g3
        have hT1 := S1.tr (p + 1) (by omega) (by omega)
        rw [g2] at hT1
        have x2 := fun D => N_209y (F := F) (L := L) (xs := xs) (d := D) (m := m1) (p := p + 1) (dep := 0) (a1 := 44) hb1 (by omega) (by omega) hT1
        have x3 := fun D => N_212 (F := F) (L := L) (xs := xs) (d := D) (m := m1) (p := p + 1) (dep := 0) hb1 (by omega)
        have e2 : p + 1 + 1 = p + 2 := by omega
        rw [e2] at x3
        have ed : dN v (nd 46 p a b) l = dN v b (l ++ [v p]) := if_neg hg
        have eN : nN (nd 46 p a b) = nN b + 1 := rfl
        have eC : cN v (nd 46 p a b) = v p :: cN v b := rfl
        have W1 : WT m1 := ⟨by rw [f1 _ _ (by omega)]; exact W.1, by rw [f1 _ _ (by omega)]; exact W.2.1, trivial, trivial, by rw [f1 _ _ (by omega)]; exact W.2.2.2.2.1, hb1⟩
        have T1 : TBL m1 (l ++ [v p] ++ (cN v b ++ rest)) := by
          rw [List.append_assoc]
          have := FC_TBL f1 T
          rw [eC] at this
          exact this
        have hl1 : (l ++ [v p]).length = l.length + 1 := by rw [List.length_append, List.length_singleton]
        obtain ⟨m2, c2, p3, m3, c3, q0, q1, Y⟩ := ih b (by omega) (p + 2) q g3 (by omega) hq m1 (l ++ [v p]) rest n S1 W1 (fun i => (f1 163 _ (by omega)).trans (hv i)) T1 (by rw [hl1]; omega) (by rw [hl1]; omega) (by omega) (by omega) (by omega)
        rw [ed, eN, eC]
        refine ⟨p3, m3, ?_, q0, q1, ?_⟩
        · rw [lf_s]
          simp (disch := first | omega | assumption) only [ea_220_1, eb_220_1, ec_220_1, ev_0, ev_1, ev_16, ev_17, ev_18, ev_2, ev_3, ev_4, ev_5, ev_6, ev_7, ev_8, ev_9, ev_20, ev_21, ev_22, ev_23, ev_24, ev_25, ev_27, ev_28, ev_30, ev_31, ev_32, ev_33, ev_34, ev_35, ev_36, ev_37, ev_38, ev_39, ev_40, ev_41, ev_42, ev_43, ev_45, ev_46, ev_47, ev_48, ev_49, ev_50, ev_51, ev_52, ev_54, ev_55, ev_57, ev_58, ev_59, k2_0, k2_1, k2_2, k3a, k3b, k4, o1_s, xbin_0, xbin_1, xbin_2, xbin_3, xbin_4, xbin_5, xbin_6, xbin_7, xbin_8, xbin_9, xbin_11, xbin_12, xun_0, xun_1, xun_2, xun_3, xun_4, xun_5, k6a, k8, k8b, k9, k20, k20b_0, k20b_1, k20b_2, k20b_3, k20b_4, k20b_5, k21_0, k21_1, k21_2, k21_3, k21_4, k21_5, k23, k24, k25, k27, k28, k40, nz_1, nz_2, nz_3, k31_0, k31_1, k31_2, k31_3, k32u, k33, k34, k35, k35b, k36, k37, k38, k47, k49, k49b_0, k49b_1, k49b_2, k49b_3, k50_0, k50_s, k51_0, k51_s, k55, k58, k58b, rk_0, rk_1, rk_2, rk_9, rk_3, rk_4, rk_5, sw_n, sw_c, xtb_n, xtb_c, lset_0, lset_2, lset_1, lkm_0, lkm_2, lkm_9, lkm_1, lkm_n, if_some1, c_10, c_01, c_x0, c_1x, c_n0, c_nn, List.getElem?_cons_zero, List.getElem?_cons_succ, List.set_cons_zero, List.set_cons_succ, List.length_cons, List.length_nil, Int.reduceToNat, Nat.reduceDiv, Nat.reduceMod, Nat.reduceSub, Nat.reduceAdd, Nat.reduceMul, Nat.reduceLT, Nat.reduceLeDiff, Nat.reduceEqDiff, Int.reduceMod, Int.reduceSub, Int.reduceNeg, Int.reduceAdd, Int.reduceMul, Int.reduceLT, Int.reduceLE, Int.reduceEq, put_ss, if_true, if_false, ite_true, ite_false, reduceIte, eq_self, and_true, true_and, and_false, false_and, or_true, true_or, or_false, false_or, not_true_eq_false, not_false_eq_true, k5_158_14, k34_158_14, k34i_158_14, k5_158_15, k34_158_15, k34i_158_15, k5_158_13, k34_158_13, k54_158_13, k54b_158_13_0, k54b_158_13_1, k5_158_5, k6_161, k35_161, n_161, k5_158_7, k6_163, k35_163, n_163, k5_158_12, k34_158_12, k54_158_12, k54b_158_12_0, rv_t, rv_d, rv_x, rv_y, rp_t, rp_d, rp_x, rp_y, w32_of, l1_i, l1_1, l1_0, l2_0, l2_1, l2_2, l2_3, l3_0, w2_0, w2_1, w2_2, w2_3, d1_0, d1_1, d1_2, d1_3, d2_i, d2_1, d2_0, x2, x3, c2, c3]
        · rcases Y with ⟨y1, y2, y3, y4, y5, y6, y7⟩ | ⟨y1, y2, y3, y4, y5, y6⟩
          · exact Or.inl ⟨y1, y2, y3, FC_tr f1 y4, by omega, by omega, by rw [List.length_cons]; omega⟩
          · refine Or.inr ⟨by omega, y2, y3, y4, ?_, FT_tr (by rw [← hm1]; exact FT_put (FT_put FT_rf rfl) rfl) y6⟩
            rw [y5]
            exact f1 162 _ (by omega)
end Cnd
