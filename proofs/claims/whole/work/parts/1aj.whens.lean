/-! CLASS AND MODEL, THE SECOND WALK: the whens of a try, their blocks -/
section Whl
variable {F L d : Nat} {xs : Nat → Int32}
theorem L_w4b {x1 x2 x3 x4 x5 x6 x c p dep : Int} {m : Mem} (hb : m 158 15 = 1) (hf : m 158 14 = 1) (hx : 0 ≤ x ∧ x < 3001) (h39 : m 158 39 ≤ 800) : ∀ (j : Nat) (k : Int) (n : Nat), 0 ≤ k → m 158 39 = k + j → j < n → LF F (d + 10) la_234_4 lb_234_4 lc_234_4 n ([(2, 158), (0, x1), (0, x2), (0, x3), (0, x4), (0, x5), (0, x6), (0, x), (0, c), (0, k)], Hp L xs (rv p dep m)) = some (0, [], ([(2, 158), (0, x1), (0, x2), (0, x3), (0, x4), (0, x5), (0, x6), (0, x), (0, c), (0, m 158 39)], Hp L xs (rv p dep m))) := by
  intro j
  induction j with
  | zero =>
    intro k n h0 hk hn
    obtain ⟨n, rfl⟩ : ∃ n', n = n' + 1 := ⟨n - 1, by omega⟩
    have e1 : m 158 39 = k := by omega
    have e3 : ¬ k < m 158 39 := by omega
    rw [lf_s]
    simp (disch := first | omega | assumption) only [ea_234_4, eb_234_4, ec_234_4, ev_0, ev_1, ev_16, ev_17, ev_18, ev_2, ev_3, ev_4, ev_5, ev_6, ev_7, ev_8, ev_9, ev_20, ev_21, ev_22, ev_23, ev_24, ev_25, ev_27, ev_28, ev_30, ev_31, ev_32, ev_33, ev_34, ev_35, ev_36, ev_37, ev_38, ev_39, ev_40, ev_41, ev_42, ev_43, ev_45, ev_46, ev_47, ev_48, ev_49, ev_50, ev_51, ev_52, ev_54, ev_55, ev_57, ev_58, ev_59, k2_0, k2_1, k2_2, k3a, k3b, k4, o1_s, xbin_0, xbin_1, xbin_2, xbin_3, xbin_4, xbin_5, xbin_6, xbin_7, xbin_8, xbin_9, xbin_11, xbin_12, xun_0, xun_1, xun_2, xun_3, xun_4, xun_5, k6a, k8, k8b, k9, k20, k20b_0, k20b_1, k20b_2, k20b_3, k20b_4, k20b_5, k21_0, k21_1, k21_2, k21_3, k21_4, k21_5, k23, k24, k25, k27, k28, k40, nz_1, nz_2, nz_3, k31_0, k31_1, k31_2, k31_3, k32u, k33, k34, k35, k35b, k36, k37, k38, k47, k49, k49b_0, k49b_1, k49b_2, k49b_3, k50_0, k50_s, k51_0, k51_s, k55, k58, k58b, rk_0, rk_1, rk_2, rk_9, rk_3, rk_4, rk_5, sw_n, sw_c, xtb_n, xtb_c, lset_0, lset_2, lset_1, lkm_0, lkm_2, lkm_9, lkm_1, lkm_n, if_some1, c_10, c_01, c_x0, c_1x, c_n0, c_nn, List.getElem?_cons_zero, List.getElem?_cons_succ, List.set_cons_zero, List.set_cons_succ, List.length_cons, List.length_nil, Int.reduceToNat, Nat.reduceDiv, Nat.reduceMod, Nat.reduceSub, Nat.reduceAdd, Nat.reduceMul, Nat.reduceLT, Nat.reduceLeDiff, Nat.reduceEqDiff, Int.reduceMod, Int.reduceSub, Int.reduceNeg, Int.reduceAdd, Int.reduceMul, Int.reduceLT, Int.reduceLE, Int.reduceEq, put_ss, if_true, if_false, ite_true, ite_false, reduceIte, eq_self, and_true, true_and, and_false, false_and, or_true, true_or, or_false, false_or, not_true_eq_false, not_false_eq_true, k5_158_14, k34_158_14, k34i_158_14, k5_158_15, k34_158_15, k34i_158_15, k5_158_13, k34_158_13, k54_158_13, k54b_158_13_0, k54b_158_13_1, k5_158_48, k34_158_48, k5_158_5, k6_161, k35_161, n_161, k5_158_7, k6_163, k35_163, n_163, k5_158_12, k34_158_12, k54_158_12, k54b_158_12_0, k5_158_39, k34_158_39, k54_158_39, k54b_158_39_0, k5_158_40, k34_158_40, k5_158_38, k6_176, k35_176, n_176, k5_158_6, k6_162, k35_162, n_162, rv_t, rv_d, rv_x, rv_y, rp_t, rp_d, rp_x, rp_y, w32_of, l1_i, l1_1, l1_0, l2_0, l2_1, l2_2, l2_3, l3_0, w2_0, w2_1, w2_2, w2_3, d1_0, d1_1, d1_2, d1_3, d2_i, d2_1, d2_0, e3]
    rw [e1]
  | succ j ih =>
    intro k n h0 hk hn
    obtain ⟨n, rfl⟩ : ∃ n', n = n' + 1 := ⟨n - 1, by omega⟩
    have c2 := ih (k + 1) n (by omega) (by omega) (by omega)
    have c1 := fun D a1 => B_207 (F := F) (L := L) (xs := xs) (d := D) (m := rv p dep m) (a1 := 2) (a2 := a1) hb
    have e3 : k < m 158 39 := by omega
    rw [lf_s]
    by_cases hq : m 176 k.toNat = c
    · simp (disch := first | omega | assumption) only [ea_234_4, eb_234_4, ec_234_4, ev_0, ev_1, ev_16, ev_17, ev_18, ev_2, ev_3, ev_4, ev_5, ev_6, ev_7, ev_8, ev_9, ev_20, ev_21, ev_22, ev_23, ev_24, ev_25, ev_27, ev_28, ev_30, ev_31, ev_32, ev_33, ev_34, ev_35, ev_36, ev_37, ev_38, ev_39, ev_40, ev_41, ev_42, ev_43, ev_45, ev_46, ev_47, ev_48, ev_49, ev_50, ev_51, ev_52, ev_54, ev_55, ev_57, ev_58, ev_59, k2_0, k2_1, k2_2, k3a, k3b, k4, o1_s, xbin_0, xbin_1, xbin_2, xbin_3, xbin_4, xbin_5, xbin_6, xbin_7, xbin_8, xbin_9, xbin_11, xbin_12, xun_0, xun_1, xun_2, xun_3, xun_4, xun_5, k6a, k8, k8b, k9, k20, k20b_0, k20b_1, k20b_2, k20b_3, k20b_4, k20b_5, k21_0, k21_1, k21_2, k21_3, k21_4, k21_5, k23, k24, k25, k27, k28, k40, nz_1, nz_2, nz_3, k31_0, k31_1, k31_2, k31_3, k32u, k33, k34, k35, k35b, k36, k37, k38, k47, k49, k49b_0, k49b_1, k49b_2, k49b_3, k50_0, k50_s, k51_0, k51_s, k55, k58, k58b, rk_0, rk_1, rk_2, rk_9, rk_3, rk_4, rk_5, sw_n, sw_c, xtb_n, xtb_c, lset_0, lset_2, lset_1, lkm_0, lkm_2, lkm_9, lkm_1, lkm_n, if_some1, c_10, c_01, c_x0, c_1x, c_n0, c_nn, List.getElem?_cons_zero, List.getElem?_cons_succ, List.set_cons_zero, List.set_cons_succ, List.length_cons, List.length_nil, Int.reduceToNat, Nat.reduceDiv, Nat.reduceMod, Nat.reduceSub, Nat.reduceAdd, Nat.reduceMul, Nat.reduceLT, Nat.reduceLeDiff, Nat.reduceEqDiff, Int.reduceMod, Int.reduceSub, Int.reduceNeg, Int.reduceAdd, Int.reduceMul, Int.reduceLT, Int.reduceLE, Int.reduceEq, put_ss, if_true, if_false, ite_true, ite_false, reduceIte, eq_self, and_true, true_and, and_false, false_and, or_true, true_or, or_false, false_or, not_true_eq_false, not_false_eq_true, k5_158_14, k34_158_14, k34i_158_14, k5_158_15, k34_158_15, k34i_158_15, k5_158_13, k34_158_13, k54_158_13, k54b_158_13_0, k54b_158_13_1, k5_158_48, k34_158_48, k5_158_5, k6_161, k35_161, n_161, k5_158_7, k6_163, k35_163, n_163, k5_158_12, k34_158_12, k54_158_12, k54b_158_12_0, k5_158_39, k34_158_39, k54_158_39, k54b_158_39_0, k5_158_40, k34_158_40, k5_158_38, k6_176, k35_176, n_176, k5_158_6, k6_162, k35_162, n_162, rv_t, rv_d, rv_x, rv_y, rp_t, rp_d, rp_x, rp_y, w32_of, l1_i, l1_1, l1_0, l2_0, l2_1, l2_2, l2_3, l3_0, w2_0, w2_1, w2_2, w2_3, d1_0, d1_1, d1_2, d1_3, d2_i, d2_1, d2_0, e3, hf, hq, c1, c2]
    · simp (disch := first | omega | assumption) only [ea_234_4, eb_234_4, ec_234_4, ev_0, ev_1, ev_16, ev_17, ev_18, ev_2, ev_3, ev_4, ev_5, ev_6, ev_7, ev_8, ev_9, ev_20, ev_21, ev_22, ev_23, ev_24, ev_25, ev_27, ev_28, ev_30, ev_31, ev_32, ev_33, ev_34, ev_35, ev_36, ev_37, ev_38, ev_39, ev_40, ev_41, ev_42, ev_43, ev_45, ev_46, ev_47, ev_48, ev_49, ev_50, ev_51, ev_52, ev_54, ev_55, ev_57, ev_58, ev_59, k2_0, k2_1, k2_2, k3a, k3b, k4, o1_s, xbin_0, xbin_1, xbin_2, xbin_3, xbin_4, xbin_5, xbin_6, xbin_7, xbin_8, xbin_9, xbin_11, xbin_12, xun_0, xun_1, xun_2, xun_3, xun_4, xun_5, k6a, k8, k8b, k9, k20, k20b_0, k20b_1, k20b_2, k20b_3, k20b_4, k20b_5, k21_0, k21_1, k21_2, k21_3, k21_4, k21_5, k23, k24, k25, k27, k28, k40, nz_1, nz_2, nz_3, k31_0, k31_1, k31_2, k31_3, k32u, k33, k34, k35, k35b, k36, k37, k38, k47, k49, k49b_0, k49b_1, k49b_2, k49b_3, k50_0, k50_s, k51_0, k51_s, k55, k58, k58b, rk_0, rk_1, rk_2, rk_9, rk_3, rk_4, rk_5, sw_n, sw_c, xtb_n, xtb_c, lset_0, lset_2, lset_1, lkm_0, lkm_2, lkm_9, lkm_1, lkm_n, if_some1, c_10, c_01, c_x0, c_1x, c_n0, c_nn, List.getElem?_cons_zero, List.getElem?_cons_succ, List.set_cons_zero, List.set_cons_succ, List.length_cons, List.length_nil, Int.reduceToNat, Nat.reduceDiv, Nat.reduceMod, Nat.reduceSub, Nat.reduceAdd, Nat.reduceMul, Nat.reduceLT, Nat.reduceLeDiff, Nat.reduceEqDiff, Int.reduceMod, Int.reduceSub, Int.reduceNeg, Int.reduceAdd, Int.reduceMul, Int.reduceLT, Int.reduceLE, Int.reduceEq, put_ss, if_true, if_false, ite_true, ite_false, reduceIte, eq_self, and_true, true_and, and_false, false_and, or_true, true_or, or_false, false_or, not_true_eq_false, not_false_eq_true, k5_158_14, k34_158_14, k34i_158_14, k5_158_15, k34_158_15, k34i_158_15, k5_158_13, k34_158_13, k54_158_13, k54b_158_13_0, k54b_158_13_1, k5_158_48, k34_158_48, k5_158_5, k6_161, k35_161, n_161, k5_158_7, k6_163, k35_163, n_163, k5_158_12, k34_158_12, k54_158_12, k54b_158_12_0, k5_158_39, k34_158_39, k54_158_39, k54b_158_39_0, k5_158_40, k34_158_40, k5_158_38, k6_176, k35_176, n_176, k5_158_6, k6_162, k35_162, n_162, rv_t, rv_d, rv_x, rv_y, rp_t, rp_d, rp_x, rp_y, w32_of, l1_i, l1_1, l1_0, l2_0, l2_1, l2_2, l2_3, l3_0, w2_0, w2_1, w2_2, w2_3, d1_0, d1_1, d1_2, d1_3, d2_i, d2_1, d2_0, e3, hf, hq, c1, c2]
theorem L_w4 {x1 x2 x3 x4 x5 x6 x c p dep : Int} {m : Mem} (hb : m 158 15 = 0) (hf : m 158 14 = 1) (hx : 0 ≤ x ∧ x < 3001) (h39 : m 158 39 ≤ 800) : ∀ (j : Nat) (k : Int) (n : Nat), 0 ≤ k → m 158 39 = k + j → j < n → LF F (d + 10) la_234_4 lb_234_4 lc_234_4 n ([(2, 158), (0, x1), (0, x2), (0, x3), (0, x4), (0, x5), (0, x6), (0, x), (0, c), (0, k)], Hp L xs (rv p dep m)) = some (0, [], ([(2, 158), (0, x1), (0, x2), (0, x3), (0, x4), (0, x5), (0, x6), (0, x), (0, c), (0, m 158 39)], Hp L xs (rv p dep (if fst1 (m 176) c k j = -1 then m else bkF m (plT m x))))) := by
  intro j
  induction j with
  | zero =>
    intro k n h0 hk hn
    obtain ⟨n, rfl⟩ : ∃ n', n = n' + 1 := ⟨n - 1, by omega⟩
    have e1 : m 158 39 = k := by omega
    have e3 : ¬ k < m 158 39 := by omega
    have e4 : fst1 (m 176) c k 0 = -1 := rfl
    rw [e4, if_pos rfl, lf_s]
    simp (disch := first | omega | assumption) only [ea_234_4, eb_234_4, ec_234_4, ev_0, ev_1, ev_16, ev_17, ev_18, ev_2, ev_3, ev_4, ev_5, ev_6, ev_7, ev_8, ev_9, ev_20, ev_21, ev_22, ev_23, ev_24, ev_25, ev_27, ev_28, ev_30, ev_31, ev_32, ev_33, ev_34, ev_35, ev_36, ev_37, ev_38, ev_39, ev_40, ev_41, ev_42, ev_43, ev_45, ev_46, ev_47, ev_48, ev_49, ev_50, ev_51, ev_52, ev_54, ev_55, ev_57, ev_58, ev_59, k2_0, k2_1, k2_2, k3a, k3b, k4, o1_s, xbin_0, xbin_1, xbin_2, xbin_3, xbin_4, xbin_5, xbin_6, xbin_7, xbin_8, xbin_9, xbin_11, xbin_12, xun_0, xun_1, xun_2, xun_3, xun_4, xun_5, k6a, k8, k8b, k9, k20, k20b_0, k20b_1, k20b_2, k20b_3, k20b_4, k20b_5, k21_0, k21_1, k21_2, k21_3, k21_4, k21_5, k23, k24, k25, k27, k28, k40, nz_1, nz_2, nz_3, k31_0, k31_1, k31_2, k31_3, k32u, k33, k34, k35, k35b, k36, k37, k38, k47, k49, k49b_0, k49b_1, k49b_2, k49b_3, k50_0, k50_s, k51_0, k51_s, k55, k58, k58b, rk_0, rk_1, rk_2, rk_9, rk_3, rk_4, rk_5, sw_n, sw_c, xtb_n, xtb_c, lset_0, lset_2, lset_1, lkm_0, lkm_2, lkm_9, lkm_1, lkm_n, if_some1, c_10, c_01, c_x0, c_1x, c_n0, c_nn, List.getElem?_cons_zero, List.getElem?_cons_succ, List.set_cons_zero, List.set_cons_succ, List.length_cons, List.length_nil, Int.reduceToNat, Nat.reduceDiv, Nat.reduceMod, Nat.reduceSub, Nat.reduceAdd, Nat.reduceMul, Nat.reduceLT, Nat.reduceLeDiff, Nat.reduceEqDiff, Int.reduceMod, Int.reduceSub, Int.reduceNeg, Int.reduceAdd, Int.reduceMul, Int.reduceLT, Int.reduceLE, Int.reduceEq, put_ss, if_true, if_false, ite_true, ite_false, reduceIte, eq_self, and_true, true_and, and_false, false_and, or_true, true_or, or_false, false_or, not_true_eq_false, not_false_eq_true, k5_158_14, k34_158_14, k34i_158_14, k5_158_15, k34_158_15, k34i_158_15, k5_158_13, k34_158_13, k54_158_13, k54b_158_13_0, k54b_158_13_1, k5_158_48, k34_158_48, k5_158_5, k6_161, k35_161, n_161, k5_158_7, k6_163, k35_163, n_163, k5_158_12, k34_158_12, k54_158_12, k54b_158_12_0, k5_158_39, k34_158_39, k54_158_39, k54b_158_39_0, k5_158_40, k34_158_40, k5_158_38, k6_176, k35_176, n_176, k5_158_6, k6_162, k35_162, n_162, rv_t, rv_d, rv_x, rv_y, rp_t, rp_d, rp_x, rp_y, w32_of, l1_i, l1_1, l1_0, l2_0, l2_1, l2_2, l2_3, l3_0, w2_0, w2_1, w2_2, w2_3, d1_0, d1_1, d1_2, d1_3, d2_i, d2_1, d2_0, e3]
    rw [e1]
  | succ j ih =>
    intro k n h0 hk hn
    obtain ⟨n, rfl⟩ : ∃ n', n = n' + 1 := ⟨n - 1, by omega⟩
    have e3 : k < m 158 39 := by omega
    have e4 : fst1 (m 176) c k (j + 1) = if m 176 k.toNat = c then k else fst1 (m 176) c (k + 1) j := rfl
    rw [e4, lf_s]
    by_cases hq : m 176 k.toNat = c
    · rw [if_pos hq, if_neg (by omega)]
      have c1 := fun D => M_207 (F := F) (L := L) (xs := xs) (p := p) (dep := dep) (d := D) (m := m) (l := m 162 x.toNat) hb
      have c2 := L_w4b (F := F) (L := L) (xs := xs) (d := d) (x1 := x1) (x2 := x2) (x3 := x3) (x4 := x4) (x5 := x5) (x6 := x6) (x := x) (c := c) (p := p) (dep := dep) (m := bkF m (m 162 x.toNat)) rfl hf hx h39 j (k + 1) n (by omega) (by show m 158 39 = k + 1 + j; omega) (by omega)
      have e5 : bkF m (m 162 x.toNat) 158 39 = m 158 39 := rfl
      have e6 : plT m x = m 162 x.toNat := rfl
      rw [e5] at c2
      rw [e6]
      simp (disch := first | omega | assumption) only [ea_234_4, eb_234_4, ec_234_4, ev_0, ev_1, ev_16, ev_17, ev_18, ev_2, ev_3, ev_4, ev_5, ev_6, ev_7, ev_8, ev_9, ev_20, ev_21, ev_22, ev_23, ev_24, ev_25, ev_27, ev_28, ev_30, ev_31, ev_32, ev_33, ev_34, ev_35, ev_36, ev_37, ev_38, ev_39, ev_40, ev_41, ev_42, ev_43, ev_45, ev_46, ev_47, ev_48, ev_49, ev_50, ev_51, ev_52, ev_54, ev_55, ev_57, ev_58, ev_59, k2_0, k2_1, k2_2, k3a, k3b, k4, o1_s, xbin_0, xbin_1, xbin_2, xbin_3, xbin_4, xbin_5, xbin_6, xbin_7, xbin_8, xbin_9, xbin_11, xbin_12, xun_0, xun_1, xun_2, xun_3, xun_4, xun_5, k6a, k8, k8b, k9, k20, k20b_0, k20b_1, k20b_2, k20b_3, k20b_4, k20b_5, k21_0, k21_1, k21_2, k21_3, k21_4, k21_5, k23, k24, k25, k27, k28, k40, nz_1, nz_2, nz_3, k31_0, k31_1, k31_2, k31_3, k32u, k33, k34, k35, k35b, k36, k37, k38, k47, k49, k49b_0, k49b_1, k49b_2, k49b_3, k50_0, k50_s, k51_0, k51_s, k55, k58, k58b, rk_0, rk_1, rk_2, rk_9, rk_3, rk_4, rk_5, sw_n, sw_c, xtb_n, xtb_c, lset_0, lset_2, lset_1, lkm_0, lkm_2, lkm_9, lkm_1, lkm_n, if_some1, c_10, c_01, c_x0, c_1x, c_n0, c_nn, List.getElem?_cons_zero, List.getElem?_cons_succ, List.set_cons_zero, List.set_cons_succ, List.length_cons, List.length_nil, Int.reduceToNat, Nat.reduceDiv, Nat.reduceMod, Nat.reduceSub, Nat.reduceAdd, Nat.reduceMul, Nat.reduceLT, Nat.reduceLeDiff, Nat.reduceEqDiff, Int.reduceMod, Int.reduceSub, Int.reduceNeg, Int.reduceAdd, Int.reduceMul, Int.reduceLT, Int.reduceLE, Int.reduceEq, put_ss, if_true, if_false, ite_true, ite_false, reduceIte, eq_self, and_true, true_and, and_false, false_and, or_true, true_or, or_false, false_or, not_true_eq_false, not_false_eq_true, k5_158_14, k34_158_14, k34i_158_14, k5_158_15, k34_158_15, k34i_158_15, k5_158_13, k34_158_13, k54_158_13, k54b_158_13_0, k54b_158_13_1, k5_158_48, k34_158_48, k5_158_5, k6_161, k35_161, n_161, k5_158_7, k6_163, k35_163, n_163, k5_158_12, k34_158_12, k54_158_12, k54b_158_12_0, k5_158_39, k34_158_39, k54_158_39, k54b_158_39_0, k5_158_40, k34_158_40, k5_158_38, k6_176, k35_176, n_176, k5_158_6, k6_162, k35_162, n_162, rv_t, rv_d, rv_x, rv_y, rp_t, rp_d, rp_x, rp_y, w32_of, l1_i, l1_1, l1_0, l2_0, l2_1, l2_2, l2_3, l3_0, w2_0, w2_1, w2_2, w2_3, d1_0, d1_1, d1_2, d1_3, d2_i, d2_1, d2_0, e3, hf, hq, c1, c2]
    · rw [if_neg hq]
      have c2 := ih (k + 1) n (by omega) (by omega) (by omega)
      simp (disch := first | omega | assumption) only [ea_234_4, eb_234_4, ec_234_4, ev_0, ev_1, ev_16, ev_17, ev_18, ev_2, ev_3, ev_4, ev_5, ev_6, ev_7, ev_8, ev_9, ev_20, ev_21, ev_22, ev_23, ev_24, ev_25, ev_27, ev_28, ev_30, ev_31, ev_32, ev_33, ev_34, ev_35, ev_36, ev_37, ev_38, ev_39, ev_40, ev_41, ev_42, ev_43, ev_45, ev_46, ev_47, ev_48, ev_49, ev_50, ev_51, ev_52, ev_54, ev_55, ev_57, ev_58, ev_59, k2_0, k2_1, k2_2, k3a, k3b, k4, o1_s, xbin_0, xbin_1, xbin_2, xbin_3, xbin_4, xbin_5, xbin_6, xbin_7, xbin_8, xbin_9, xbin_11, xbin_12, xun_0, xun_1, xun_2, xun_3, xun_4, xun_5, k6a, k8, k8b, k9, k20, k20b_0, k20b_1, k20b_2, k20b_3, k20b_4, k20b_5, k21_0, k21_1, k21_2, k21_3, k21_4, k21_5, k23, k24, k25, k27, k28, k40, nz_1, nz_2, nz_3, k31_0, k31_1, k31_2, k31_3, k32u, k33, k34, k35, k35b, k36, k37, k38, k47, k49, k49b_0, k49b_1, k49b_2, k49b_3, k50_0, k50_s, k51_0, k51_s, k55, k58, k58b, rk_0, rk_1, rk_2, rk_9, rk_3, rk_4, rk_5, sw_n, sw_c, xtb_n, xtb_c, lset_0, lset_2, lset_1, lkm_0, lkm_2, lkm_9, lkm_1, lkm_n, if_some1, c_10, c_01, c_x0, c_1x, c_n0, c_nn, List.getElem?_cons_zero, List.getElem?_cons_succ, List.set_cons_zero, List.set_cons_succ, List.length_cons, List.length_nil, Int.reduceToNat, Nat.reduceDiv, Nat.reduceMod, Nat.reduceSub, Nat.reduceAdd, Nat.reduceMul, Nat.reduceLT, Nat.reduceLeDiff, Nat.reduceEqDiff, Int.reduceMod, Int.reduceSub, Int.reduceNeg, Int.reduceAdd, Int.reduceMul, Int.reduceLT, Int.reduceLE, Int.reduceEq, put_ss, if_true, if_false, ite_true, ite_false, reduceIte, eq_self, and_true, true_and, and_false, false_and, or_true, true_or, or_false, false_or, not_true_eq_false, not_false_eq_true, k5_158_14, k34_158_14, k34i_158_14, k5_158_15, k34_158_15, k34i_158_15, k5_158_13, k34_158_13, k54_158_13, k54b_158_13_0, k54b_158_13_1, k5_158_48, k34_158_48, k5_158_5, k6_161, k35_161, n_161, k5_158_7, k6_163, k35_163, n_163, k5_158_12, k34_158_12, k54_158_12, k54b_158_12_0, k5_158_39, k34_158_39, k54_158_39, k54b_158_39_0, k5_158_40, k34_158_40, k5_158_38, k6_176, k35_176, n_176, k5_158_6, k6_162, k35_162, n_162, rv_t, rv_d, rv_x, rv_y, rp_t, rp_d, rp_x, rp_y, w32_of, l1_i, l1_1, l1_0, l2_0, l2_1, l2_2, l2_3, l3_0, w2_0, w2_1, w2_2, w2_3, d1_0, d1_1, d1_2, d1_3, d2_i, d2_1, d2_0, e3, hf, hq, c2]
end Whl
def Pwk (mc : Mem) (c : zS) (y : yS) (m m' : Mem) (σ : Int → Int) (D : Int) (G : Prop) (H p q w v : Int) : Prop := (m' 158 15 = 0) ∧ (SR mc c.1 c.2 m' σ D G H q) ∧ (c.1.2.1 = 0) ∧ (m' 158 41 ≤ m 158 41 + (q - p) - w) ∧ ((c.2.1.length : Int) ≤ (y.1.length : Int) + (q - p) - v) ∧ ((y.1.length : Int) ≤ (c.2.1.length : Int)) ∧ (m 158 30 ≤ m' 158 30) ∧ (m 158 40 = m' 158 40) ∧ (∀ k : Nat, (k : Int) < m 158 40 → m' 176 k = m 176 k)
theorem Pwk.b0 {mc : Mem} {c : zS} {y : yS} {m m' : Mem} {σ : Int → Int} {D : Int} {G : Prop} {H p q w v : Int} (R : Pwk mc c y m m' σ D G H p q w v) : m' 158 15 = 0 := R.1
theorem Pwk.sr {mc : Mem} {c : zS} {y : yS} {m m' : Mem} {σ : Int → Int} {D : Int} {G : Prop} {H p q w v : Int} (R : Pwk mc c y m m' σ D G H p q w v) : SR mc c.1 c.2 m' σ D G H q := R.2.1
theorem Pwk.pz {mc : Mem} {c : zS} {y : yS} {m m' : Mem} {σ : Int → Int} {D : Int} {G : Prop} {H p q w v : Int} (R : Pwk mc c y m m' σ D G H p q w v) : c.1.2.1 = 0 := R.2.2.1
theorem Pwk.o41 {mc : Mem} {c : zS} {y : yS} {m m' : Mem} {σ : Int → Int} {D : Int} {G : Prop} {H p q w v : Int} (R : Pwk mc c y m m' σ D G H p q w v) : m' 158 41 ≤ m 158 41 + (q - p) - w := R.2.2.2.1
theorem Pwk.lc {mc : Mem} {c : zS} {y : yS} {m m' : Mem} {σ : Int → Int} {D : Int} {G : Prop} {H p q w v : Int} (R : Pwk mc c y m m' σ D G H p q w v) : (c.2.1.length : Int) ≤ (y.1.length : Int) + (q - p) - v := R.2.2.2.2.1
theorem Pwk.ly {mc : Mem} {c : zS} {y : yS} {m m' : Mem} {σ : Int → Int} {D : Int} {G : Prop} {H p q w v : Int} (R : Pwk mc c y m m' σ D G H p q w v) : (y.1.length : Int) ≤ (c.2.1.length : Int) := R.2.2.2.2.2.1
theorem Pwk.l30 {mc : Mem} {c : zS} {y : yS} {m m' : Mem} {σ : Int → Int} {D : Int} {G : Prop} {H p q w v : Int} (R : Pwk mc c y m m' σ D G H p q w v) : m 158 30 ≤ m' 158 30 := R.2.2.2.2.2.2.1
theorem Pwk.w40 {mc : Mem} {c : zS} {y : yS} {m m' : Mem} {σ : Int → Int} {D : Int} {G : Prop} {H p q w v : Int} (R : Pwk mc c y m m' σ D G H p q w v) : m 158 40 = m' 158 40 := R.2.2.2.2.2.2.2.1
theorem Pwk.c176 {mc : Mem} {c : zS} {y : yS} {m m' : Mem} {σ : Int → Int} {D : Int} {G : Prop} {H p q w v : Int} (R : Pwk mc c y m m' σ D G H p q w v) : ∀ k : Nat, (k : Int) < m 158 40 → m' 176 k = m 176 k := R.2.2.2.2.2.2.2.2
def Pwt (mc : Mem) (e : Int) (c : zS) (y : yS) (m m' : Mem) (σ : Int → Int) (D : Int) (G : Prop) (H p q p' w v : Int) : Prop := FS m m' ∧ 0 ≤ p' ∧ p' ≤ e ∧ ∃ σ' : Int → Int, (∀ k : Int, k < (y.1.length : Int) → σ' k = σ k) ∧ ((Pwk mc c y m m' σ' D G H p q w v ∧ p' = q) ∨ (WU m' ∧ Br mc m' c.1 p q))
theorem bwT_r {mc : Mem} {V : Int → Int} : ∀ (k : Nat) (t : xT), tsz t < k → ∀ (dep p q : Int), P (kd mc) V t 11 dep p q → ∀ w : List Int, bwT mc t w = -1 ∨ (p < bwT mc t w ∧ bwT mc t w < q) := by
  intro k
  induction k with
  | zero => intro t ht; exact absurd ht (Nat.not_lt_zero _)
  | succ k ih =>
    intro t ht dep p q h w
    rcases inv_11 h with ⟨i, a, b, rfl, g1, g2, g3, r, g4, g5⟩ | ⟨i, a, b, rfl, hpq, ho⟩
    · rw [tsz_nd] at ht
      have l1 := P_le a g4
      have l2 := P_le b g5
      have e4 : bwT mc (nd 31 i a b) w = if kI mc (idT mc (i + 1)) = 3 ∧ (∀ j ∈ w, idT mc j ≠ idT mc (i + 1)) then bwT mc b (w ++ [i + 1]) else i + 1 := rfl
      rw [e4]
      split
      · rcases ih b (by omega) _ _ _ g5 (w ++ [i + 1]) with z | z
        · exact Or.inl z
        · exact Or.inr (by omega)
      · exact Or.inr (by omega)
    · exact Or.inl rfl
/-- the whens so far, in the model -/
def HWs (mc m : Mem) (e : Int) (w : List Int) : Prop := m 158 39 = m 158 40 + (w.length : Int) ∧ 0 ≤ m 158 40 ∧ (∀ j ∈ w, 0 ≤ j ∧ j < e ∧ kd mc j = 2 ∧ isK m (vlT m j) 3) ∧ ∀ k : Nat, k < w.length → m 176 (m 158 40 + (k : Int)).toNat = inX m (vlT m (w.getD k 0))
/-- a name that stood before: both see it -/
theorem HWs_dup {mc m : Mem} {e i : Int} {w : List Int} (S : SE mc m e) (W : HWs mc m e w) (hi : 0 ≤ i) (hie : i < e) (hk : kd mc i = 2) (h3 : isK m (vlT m i) 3) : fst1 (m 176) (inX m (vlT m i)) (m 158 40) w.length = -1 ↔ (∀ j ∈ w, idT mc j ≠ idT mc i) := by
  obtain ⟨w1, w2, w3, w4⟩ := W
  obtain ⟨n1, n2, n3, n4, n5, n6, n7⟩ := S.nm i hi hie hk
  constructor
  · intro hf j hj he
    obtain ⟨k, hk1, hk2⟩ := List.getElem_of_mem hj
    have g1 := w4 k hk1
    obtain ⟨j0, j1, j2, j3⟩ := w3 j hj
    have hgd : w.getD k 0 = j := by
      rw [List.getD_eq_getElem?_getD, List.getElem?_eq_getElem hk1, hk2]
      rfl
    rw [hgd] at g1
    obtain ⟨n1', n2', n3', n4', n5', n6', n7'⟩ := S.nm j j0 j1 j2
    have ev : vlT m j = vlT m i := by rw [← n7', ← n7, he]
    rw [ev] at g1
    have key : ∀ (n : Nat) (k0 : Int) (q : Int), 0 ≤ k0 → k0 ≤ q → q < k0 + n → m 176 q.toNat = inX m (vlT m i) → fst1 (m 176) (inX m (vlT m i)) k0 n ≠ -1 := by
      intro n
      induction n with
      | zero => intro k0 q h0 h1 h2; omega
      | succ n ih =>
        intro k0 q h0 h1 h2 h3
        unfold fst1
        by_cases hz : m 176 k0.toNat = inX m (vlT m i)
        · rw [if_pos hz]; omega
        · rw [if_neg hz]
          exact ih (k0 + 1) q (by omega) (by
            have : k0 ≠ q := fun z => hz (by rw [z]; exact h3)
            omega) (by omega) h3
    exact key w.length (m 158 40) (m 158 40 + (k : Int)) w2 (by omega) (by omega) g1 hf
  · intro ha
    rcases fst1_b (f := m 176) (c := inX m (vlT m i)) w.length (m 158 40) with g | ⟨g1, g2, g3⟩
    · exact g
    · exfalso
      generalize fst1 (m 176) (inX m (vlT m i)) (m 158 40) w.length = q at *
      have hk1 : (q - m 158 40).toNat < w.length := by omega
      have g4 := w4 (q - m 158 40).toNat hk1
      have e1 : m 158 40 + ((q - m 158 40).toNat : Int) = q := by omega
      have hm : w.getD (q - m 158 40).toNat 0 ∈ w := by
        rw [List.getD_eq_getElem?_getD, List.getElem?_eq_getElem hk1]
        exact List.getElem_mem hk1
      rw [e1, g3] at g4
      obtain ⟨j0, j1, j2, j3⟩ := w3 _ hm
      obtain ⟨n1', n2', n3', n4', n5', n6', n7'⟩ := S.nm _ j0 j1 j2
      have ev := S.ci _ _ h3 j3 g4
      exact ha _ hm (S.ij _ _ n5' n6' n5 n6 (by rw [n7', n7, ev]))
theorem SR_w39 {mc m m' : Mem} {s : xSt} {y : yS} {σ : Int → Int} {D H p p' c : Int} {G : Prop} {k : Nat} (R : SR mc s y m σ D G H p) (hm : m' = put (put m 176 k c) 158 39 (m 158 39 + 1)) (hp : p ≤ p') (h3 : 3 * (m 158 39 + 1) ≤ p') : SR mc s y m' σ D G H p' := by
  subst hm
  have X := R.rx
  have w0 := R.l0
  have w1 := R.wh
  exact ⟨⟨X.len, X.ops, X.pus, X.nf, X.cf⟩, R.lk, R.la, R.lb, R.lj, R.ls, R.s1, R.hd, R.hl, R.ln, ⟨w0.1, by show 2 * m 158 30 ≤ p'; omega⟩, R.lh, R.lm, R.ld, R.lx, R.pr, ⟨by show 0 ≤ m 158 39 + 1; omega, h3⟩⟩
