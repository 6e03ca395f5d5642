/-! RESET AND RUN: the model -/
section Ru2
variable {F L d : Nat} {xs : Nat → Int32} {m V G : Mem} {sz c e : Int} {w : Nat → Int}
def mxw (sz : Int) (w J : Nat → Int) (k : Nat) : Nat → Int := fun j => if j < k then (if (j : Int) < sz then w j else 0) else J j
theorem mxw_s {J : Nat → Int} {k : Nat} {v : Int} (hv : v = if (k : Int) < sz then w k else 0) : vput (mxw sz w J k) k v = mxw sz w J (k + 1) := by
  funext q
  unfold vput mxw
  by_cases h : q = k
  · subst h
    rw [if_pos rfl, if_pos (by omega), hv]
  · rw [if_neg h]
    by_cases h2 : q < k
    · rw [if_pos h2, if_pos (show q < k + 1 by omega)]
    · rw [if_neg h2, if_neg (show ¬ q < k + 1 by omega)]
theorem L_326_0 (e68 : m 158 68 = sz) (e193 : ∀ k : Nat, (k : Int) < sz → m 193 k = w k) (hs : 0 ≤ sz ∧ sz ≤ 6000) : ∀ (j k N : Nat), k + j = 8192 → j < N → LF F d la_326_0 lb_326_0 lc_326_0 N ([(2, 158), (0, (k : Int))], Hp L xs (wm (row V 79 (mxw sz w (V 79) k)) c e m)) = some (0, [], ([(2, 158), (0, 8192)], Hp L xs (wm (row V 79 (mxw sz w (V 79) 8192)) c e m))) := by
  intro j
  induction j with
  | zero =>
    intro k N h hN
    obtain ⟨N, rfl⟩ : ∃ n', N = n' + 1 := ⟨N - 1, by omega⟩
    have e : k = 8192 := by omega
    subst e
    have ec : ((8192 : Nat) : Int) = 8192 := rfl
    rw [ec, lf_s]
    simp (disch := omega) only [ea_326_0, eb_326_0, ec_326_0, l1_i, l1_1, l1_0, l2_0, l2_1, l2_2, l2_3, l3_0, w2_0, w2_1, w2_2, w2_3, d1_0, d1_1, d1_2, d1_3, d2_i, d2_1, d2_0, ev_0, ev_1, ev_16, ev_17, ev_18, ev_2, ev_3, ev_4, ev_5, ev_6, ev_7, ev_8, ev_9, ev_20, ev_21, ev_22, ev_23, ev_24, ev_25, ev_27, ev_28, ev_30, ev_31, ev_32, ev_33, ev_34, ev_35, ev_36, ev_37, ev_38, ev_39, ev_40, ev_41, ev_42, ev_43, ev_45, ev_46, ev_47, ev_48, ev_49, ev_50, ev_51, ev_52, ev_54, ev_55, ev_57, ev_58, ev_59, k2_0, k2_1, k2_2, k3a, k3b, k4, o1_s, xbin_0, xbin_1, xbin_2, xbin_3, xbin_4, xbin_5, xbin_6, xbin_7, xbin_8, xbin_9, xbin_11, xbin_12, xun_0, xun_1, xun_2, xun_3, xun_4, xun_5, k6a, k8, k8b, k9, k20, k20b_0, k20b_1, k20b_2, k20b_3, k20b_4, k20b_5, k21_0, k21_1, k21_2, k21_3, k21_4, k21_5, k23, k24, k25, k27, k28, k40, nz_1, nz_2, nz_3, k31_0, k31_1, k31_2, k31_3, k32u, k33, k34, k35, k35b, k36, k37, k38, k47, k49, k49b_0, k49b_1, k49b_2, k49b_3, k50_0, k50_s, k51_0, k51_s, k55, k58, k58b, rk_0, rk_1, rk_2, rk_9, rk_3, rk_4, rk_5, sw_n, sw_c, xtb_n, xtb_c, lset_0, lset_2, lset_1, lkm_0, lkm_2, lkm_9, lkm_1, lkm_n, if_some1, c_10, c_01, c_x0, c_1x, c_n0, c_nn, List.getElem?_cons_zero, List.getElem?_cons_succ, List.set_cons_zero, List.set_cons_succ, List.length_cons, List.length_nil, Int.reduceToNat, Nat.reduceDiv, Nat.reduceMod, Nat.reduceSub, Nat.reduceAdd, Nat.reduceMul, Nat.reduceLT, Nat.reduceLeDiff, Nat.reduceEqDiff, Int.reduceMod, Int.reduceSub, Int.reduceNeg, Int.reduceAdd, Int.reduceMul, Int.reduceLT, Int.reduceLE, Int.reduceEq, put_ss, if_true, if_false, ite_true, ite_false, reduceIte, eq_self, and_true, true_and, and_false, false_and, or_true, true_or, or_false, false_or, not_true_eq_false, not_false_eq_true, Int.lt_irrefl]
  | succ j ih =>
    intro k N h hN
    obtain ⟨N, rfl⟩ : ∃ n', N = n' + 1 := ⟨N - 1, by omega⟩
    have c1 := ih (k + 1) N (by omega) (by omega)
    have hlt : (k : Int) < 8192 := by omega
    have k0 : (k : Int).toNat = k := Int.toNat_natCast k
    have ecast : ((k + 1 : Nat) : Int) = (k : Int) + 1 := by omega
    have x68 : wm (row V 79 (mxw sz w (V 79) k)) c e m 158 68 = sz := e68
    rw [ecast] at c1
    rw [lf_s]
    by_cases q : (k : Int) < sz
    · have x193 : wm (row V 79 (mxw sz w (V 79) k)) c e m 193 k = w k := e193 k q
      have e1 : row (row V 79 (mxw sz w (V 79) k)) 79 (vput (mxw sz w (V 79) k) k (w k)) = row V 79 (mxw sz w (V 79) (k + 1)) := by
        rw [mxw_s (by rw [if_pos q])]
        funext a x
        unfold row
        split <;> rfl
      have e2 : put (row V 79 (mxw sz w (V 79) k)) 79 k (w k) = row V 79 (mxw sz w (V 79) (k + 1)) := by rw [row_p, mxw_s (by rw [if_pos q])]
      simp (disch := omega) only [ea_326_0, eb_326_0, ec_326_0, l1_i, l1_1, l1_0, l2_0, l2_1, l2_2, l2_3, l3_0, w2_0, w2_1, w2_2, w2_3, d1_0, d1_1, d1_2, d1_3, d2_i, d2_1, d2_0, ev_0, ev_1, ev_16, ev_17, ev_18, ev_2, ev_3, ev_4, ev_5, ev_6, ev_7, ev_8, ev_9, ev_20, ev_21, ev_22, ev_23, ev_24, ev_25, ev_27, ev_28, ev_30, ev_31, ev_32, ev_33, ev_34, ev_35, ev_36, ev_37, ev_38, ev_39, ev_40, ev_41, ev_42, ev_43, ev_45, ev_46, ev_47, ev_48, ev_49, ev_50, ev_51, ev_52, ev_54, ev_55, ev_57, ev_58, ev_59, k2_0, k2_1, k2_2, k3a, k3b, k4, o1_s, xbin_0, xbin_1, xbin_2, xbin_3, xbin_4, xbin_5, xbin_6, xbin_7, xbin_8, xbin_9, xbin_11, xbin_12, xun_0, xun_1, xun_2, xun_3, xun_4, xun_5, k6a, k8, k8b, k9, k20, k20b_0, k20b_1, k20b_2, k20b_3, k20b_4, k20b_5, k21_0, k21_1, k21_2, k21_3, k21_4, k21_5, k23, k24, k25, k27, k28, k40, nz_1, nz_2, nz_3, k31_0, k31_1, k31_2, k31_3, k32u, k33, k34, k35, k35b, k36, k37, k38, k47, k49, k49b_0, k49b_1, k49b_2, k49b_3, k50_0, k50_s, k51_0, k51_s, k55, k58, k58b, rk_0, rk_1, rk_2, rk_9, rk_3, rk_4, rk_5, sw_n, sw_c, xtb_n, xtb_c, lset_0, lset_2, lset_1, lkm_0, lkm_2, lkm_9, lkm_1, lkm_n, if_some1, c_10, c_01, c_x0, c_1x, c_n0, c_nn, List.getElem?_cons_zero, List.getElem?_cons_succ, List.set_cons_zero, List.set_cons_succ, List.length_cons, List.length_nil, Int.reduceToNat, Nat.reduceDiv, Nat.reduceMod, Nat.reduceSub, Nat.reduceAdd, Nat.reduceMul, Nat.reduceLT, Nat.reduceLeDiff, Nat.reduceEqDiff, Int.reduceMod, Int.reduceSub, Int.reduceNeg, Int.reduceAdd, Int.reduceMul, Int.reduceLT, Int.reduceLE, Int.reduceEq, put_ss, if_true, if_false, ite_true, ite_false, reduceIte, eq_self, and_true, true_and, and_false, false_and, or_true, true_or, or_false, false_or, not_true_eq_false, not_false_eq_true, k5_158_68, k34_158_68, k5_158_69, k6_193, k35_193, n_193, k5_158_93, k6_206, k35_206, n_206, hlt, k0, x68, q, x193, wp_206, e2, w32_of, c1]
    · have e2 : put (row V 79 (mxw sz w (V 79) k)) 79 k 0 = row V 79 (mxw sz w (V 79) (k + 1)) := by rw [row_p, mxw_s (by rw [if_neg q])]
      simp (disch := omega) only [ea_326_0, eb_326_0, ec_326_0, l1_i, l1_1, l1_0, l2_0, l2_1, l2_2, l2_3, l3_0, w2_0, w2_1, w2_2, w2_3, d1_0, d1_1, d1_2, d1_3, d2_i, d2_1, d2_0, ev_0, ev_1, ev_16, ev_17, ev_18, ev_2, ev_3, ev_4, ev_5, ev_6, ev_7, ev_8, ev_9, ev_20, ev_21, ev_22, ev_23, ev_24, ev_25, ev_27, ev_28, ev_30, ev_31, ev_32, ev_33, ev_34, ev_35, ev_36, ev_37, ev_38, ev_39, ev_40, ev_41, ev_42, ev_43, ev_45, ev_46, ev_47, ev_48, ev_49, ev_50, ev_51, ev_52, ev_54, ev_55, ev_57, ev_58, ev_59, k2_0, k2_1, k2_2, k3a, k3b, k4, o1_s, xbin_0, xbin_1, xbin_2, xbin_3, xbin_4, xbin_5, xbin_6, xbin_7, xbin_8, xbin_9, xbin_11, xbin_12, xun_0, xun_1, xun_2, xun_3, xun_4, xun_5, k6a, k8, k8b, k9, k20, k20b_0, k20b_1, k20b_2, k20b_3, k20b_4, k20b_5, k21_0, k21_1, k21_2, k21_3, k21_4, k21_5, k23, k24, k25, k27, k28, k40, nz_1, nz_2, nz_3, k31_0, k31_1, k31_2, k31_3, k32u, k33, k34, k35, k35b, k36, k37, k38, k47, k49, k49b_0, k49b_1, k49b_2, k49b_3, k50_0, k50_s, k51_0, k51_s, k55, k58, k58b, rk_0, rk_1, rk_2, rk_9, rk_3, rk_4, rk_5, sw_n, sw_c, xtb_n, xtb_c, lset_0, lset_2, lset_1, lkm_0, lkm_2, lkm_9, lkm_1, lkm_n, if_some1, c_10, c_01, c_x0, c_1x, c_n0, c_nn, List.getElem?_cons_zero, List.getElem?_cons_succ, List.set_cons_zero, List.set_cons_succ, List.length_cons, List.length_nil, Int.reduceToNat, Nat.reduceDiv, Nat.reduceMod, Nat.reduceSub, Nat.reduceAdd, Nat.reduceMul, Nat.reduceLT, Nat.reduceLeDiff, Nat.reduceEqDiff, Int.reduceMod, Int.reduceSub, Int.reduceNeg, Int.reduceAdd, Int.reduceMul, Int.reduceLT, Int.reduceLE, Int.reduceEq, put_ss, if_true, if_false, ite_true, ite_false, reduceIte, eq_self, and_true, true_and, and_false, false_and, or_true, true_or, or_false, false_or, not_true_eq_false, not_false_eq_true, k5_158_68, k34_158_68, k5_158_69, k6_193, k35_193, n_193, k5_158_93, k6_206, k35_206, n_206, hlt, k0, x68, q, wp_206, e2, w32_of, c1]
theorem L_326_1 : ∀ (j k N : Nat), k + j = 8 → j < N → LF F d la_326_1 lb_326_1 lc_326_1 N ([(2, 158), (0, (k : Int))], Hp L xs (wm (row V 80 (fz (V 80) k)) c e m)) = some (0, [], ([(2, 158), (0, 8)], Hp L xs (wm (row V 80 (fz (V 80) 8)) c e m))) := by
  intro j
  induction j with
  | zero =>
    intro k N h hN
    obtain ⟨N, rfl⟩ : ∃ n', N = n' + 1 := ⟨N - 1, by omega⟩
    have e : k = 8 := by omega
    subst e
    have ec : ((8 : Nat) : Int) = 8 := rfl
    rw [ec, lf_s]
    simp (disch := omega) only [ea_326_1, eb_326_1, ec_326_1, l1_i, l1_1, l1_0, l2_0, l2_1, l2_2, l2_3, l3_0, w2_0, w2_1, w2_2, w2_3, d1_0, d1_1, d1_2, d1_3, d2_i, d2_1, d2_0, ev_0, ev_1, ev_16, ev_17, ev_18, ev_2, ev_3, ev_4, ev_5, ev_6, ev_7, ev_8, ev_9, ev_20, ev_21, ev_22, ev_23, ev_24, ev_25, ev_27, ev_28, ev_30, ev_31, ev_32, ev_33, ev_34, ev_35, ev_36, ev_37, ev_38, ev_39, ev_40, ev_41, ev_42, ev_43, ev_45, ev_46, ev_47, ev_48, ev_49, ev_50, ev_51, ev_52, ev_54, ev_55, ev_57, ev_58, ev_59, k2_0, k2_1, k2_2, k3a, k3b, k4, o1_s, xbin_0, xbin_1, xbin_2, xbin_3, xbin_4, xbin_5, xbin_6, xbin_7, xbin_8, xbin_9, xbin_11, xbin_12, xun_0, xun_1, xun_2, xun_3, xun_4, xun_5, k6a, k8, k8b, k9, k20, k20b_0, k20b_1, k20b_2, k20b_3, k20b_4, k20b_5, k21_0, k21_1, k21_2, k21_3, k21_4, k21_5, k23, k24, k25, k27, k28, k40, nz_1, nz_2, nz_3, k31_0, k31_1, k31_2, k31_3, k32u, k33, k34, k35, k35b, k36, k37, k38, k47, k49, k49b_0, k49b_1, k49b_2, k49b_3, k50_0, k50_s, k51_0, k51_s, k55, k58, k58b, rk_0, rk_1, rk_2, rk_9, rk_3, rk_4, rk_5, sw_n, sw_c, xtb_n, xtb_c, lset_0, lset_2, lset_1, lkm_0, lkm_2, lkm_9, lkm_1, lkm_n, if_some1, c_10, c_01, c_x0, c_1x, c_n0, c_nn, List.getElem?_cons_zero, List.getElem?_cons_succ, List.set_cons_zero, List.set_cons_succ, List.length_cons, List.length_nil, Int.reduceToNat, Nat.reduceDiv, Nat.reduceMod, Nat.reduceSub, Nat.reduceAdd, Nat.reduceMul, Nat.reduceLT, Nat.reduceLeDiff, Nat.reduceEqDiff, Int.reduceMod, Int.reduceSub, Int.reduceNeg, Int.reduceAdd, Int.reduceMul, Int.reduceLT, Int.reduceLE, Int.reduceEq, put_ss, if_true, if_false, ite_true, ite_false, reduceIte, eq_self, and_true, true_and, and_false, false_and, or_true, true_or, or_false, false_or, not_true_eq_false, not_false_eq_true, Int.lt_irrefl]
  | succ j ih =>
    intro k N h hN
    obtain ⟨N, rfl⟩ : ∃ n', N = n' + 1 := ⟨N - 1, by omega⟩
    have c1 := ih (k + 1) N (by omega) (by omega)
    have hlt : (k : Int) < 8 := by omega
    have k0 : (k : Int).toNat = k := Int.toNat_natCast k
    have ecast : ((k + 1 : Nat) : Int) = (k : Int) + 1 := by omega
    rw [ecast] at c1
    rw [lf_s]
    have e2 : put (row V 80 (fz (V 80) k)) 80 k 0 = row V 80 (fz (V 80) (k + 1)) := by rw [row_p, fz_s]
    simp (disch := omega) only [ea_326_1, eb_326_1, ec_326_1, l1_i, l1_1, l1_0, l2_0, l2_1, l2_2, l2_3, l3_0, w2_0, w2_1, w2_2, w2_3, d1_0, d1_1, d1_2, d1_3, d2_i, d2_1, d2_0, ev_0, ev_1, ev_16, ev_17, ev_18, ev_2, ev_3, ev_4, ev_5, ev_6, ev_7, ev_8, ev_9, ev_20, ev_21, ev_22, ev_23, ev_24, ev_25, ev_27, ev_28, ev_30, ev_31, ev_32, ev_33, ev_34, ev_35, ev_36, ev_37, ev_38, ev_39, ev_40, ev_41, ev_42, ev_43, ev_45, ev_46, ev_47, ev_48, ev_49, ev_50, ev_51, ev_52, ev_54, ev_55, ev_57, ev_58, ev_59, k2_0, k2_1, k2_2, k3a, k3b, k4, o1_s, xbin_0, xbin_1, xbin_2, xbin_3, xbin_4, xbin_5, xbin_6, xbin_7, xbin_8, xbin_9, xbin_11, xbin_12, xun_0, xun_1, xun_2, xun_3, xun_4, xun_5, k6a, k8, k8b, k9, k20, k20b_0, k20b_1, k20b_2, k20b_3, k20b_4, k20b_5, k21_0, k21_1, k21_2, k21_3, k21_4, k21_5, k23, k24, k25, k27, k28, k40, nz_1, nz_2, nz_3, k31_0, k31_1, k31_2, k31_3, k32u, k33, k34, k35, k35b, k36, k37, k38, k47, k49, k49b_0, k49b_1, k49b_2, k49b_3, k50_0, k50_s, k51_0, k51_s, k55, k58, k58b, rk_0, rk_1, rk_2, rk_9, rk_3, rk_4, rk_5, sw_n, sw_c, xtb_n, xtb_c, lset_0, lset_2, lset_1, lkm_0, lkm_2, lkm_9, lkm_1, lkm_n, if_some1, c_10, c_01, c_x0, c_1x, c_n0, c_nn, List.getElem?_cons_zero, List.getElem?_cons_succ, List.set_cons_zero, List.set_cons_succ, List.length_cons, List.length_nil, Int.reduceToNat, Nat.reduceDiv, Nat.reduceMod, Nat.reduceSub, Nat.reduceAdd, Nat.reduceMul, Nat.reduceLT, Nat.reduceLeDiff, Nat.reduceEqDiff, Int.reduceMod, Int.reduceSub, Int.reduceNeg, Int.reduceAdd, Int.reduceMul, Int.reduceLT, Int.reduceLE, Int.reduceEq, put_ss, if_true, if_false, ite_true, ite_false, reduceIte, eq_self, and_true, true_and, and_false, false_and, or_true, true_or, or_false, false_or, not_true_eq_false, not_false_eq_true, k5_158_94, k6_207, k35_207, n_207, hlt, k0, wp_207, e2, w32_of, c1]
theorem mxw_e {J : Nat → Int} : mxw sz w J 8192 = rsw sz w J := rfl
theorem mxw_0 {J : Nat → Int} : mxw sz w J 0 = J := by
  funext k
  unfold mxw
  rw [if_neg (by omega)]
theorem wm_rsm : wmG (rsm sz w G) m = wm (put (put (put (put (put (put (put (row (row (sgO G) 79 (rsw sz w (sgO G 79))) 80 (fz (sgO G 80) 8)) 78 2 0) 78 3 0) 78 4 0) 78 5 0) 78 6 0) 78 9 0) 78 11 0) 0 (G 78 13) m := by
  unfold wmG
  have e : sgO (rsm sz w G) = put (put (put (put (put (put (put (put (row (row (sgO G) 79 (rsw sz w (sgO G 79))) 80 (fz (sgO G 80) 8)) 78 2 0) 78 3 0) 78 4 0) 78 5 0) 78 6 0) 78 9 0) 78 11 0) 78 12 0 := by
    unfold rsm
    rw [sgO_put (by decide), sgO_put (by decide), sgO_put (by decide), sgO_put (by decide), sgO_put (by decide), sgO_put (by decide), sgO_put (by decide), sgO_put (by decide)]
    have e0 : sgO (row (row G 79 (rsw sz w (G 79))) 80 (fz (G 80) 8)) = row (row (sgO G) 79 (rsw sz w (sgO G 79))) 80 (fz (sgO G 80) 8) := by
      funext a k
      unfold sgO row
      by_cases h : a = 82
      · subst h
        rfl
      · rw [if_neg h]
        by_cases h2 : a = 80
        · rw [if_pos h2, if_pos h2]
          rfl
        · rw [if_neg h2, if_neg h2]
          by_cases h3 : a = 79
          · rw [if_pos h3, if_pos h3]
            rfl
          · rw [if_neg h3, if_neg h3]
            show G a k = if a = 82 then sg (G 82 k) else G a k
            rw [if_neg h]
    rw [e0]
  rw [e]
  rfl
theorem M_326_0 (h : m 158 54 = 0) : Cx F (d + 1) 326 [158] (Hp L xs (wmG G m)) = some ([0], Hp L xs (wmG G m)) := by
  have x54 : wmG G m 158 54 = 0 := h
  simp (disch := omega) only [c_326, tx_326, ev_0, ev_1, ev_16, ev_17, ev_18, ev_2, ev_3, ev_4, ev_5, ev_6, ev_7, ev_8, ev_9, ev_20, ev_21, ev_22, ev_23, ev_24, ev_25, ev_27, ev_28, ev_30, ev_31, ev_32, ev_33, ev_34, ev_35, ev_36, ev_37, ev_38, ev_39, ev_40, ev_41, ev_42, ev_43, ev_45, ev_46, ev_47, ev_48, ev_49, ev_50, ev_51, ev_52, ev_54, ev_55, ev_57, ev_58, ev_59, k2_0, k2_1, k2_2, k3a, k3b, k4, o1_s, xbin_0, xbin_1, xbin_2, xbin_3, xbin_4, xbin_5, xbin_6, xbin_7, xbin_8, xbin_9, xbin_11, xbin_12, xun_0, xun_1, xun_2, xun_3, xun_4, xun_5, k6a, k8, k8b, k9, k20, k20b_0, k20b_1, k20b_2, k20b_3, k20b_4, k20b_5, k21_0, k21_1, k21_2, k21_3, k21_4, k21_5, k23, k24, k25, k27, k28, k40, nz_1, nz_2, nz_3, k31_0, k31_1, k31_2, k31_3, k32u, k33, k34, k35, k35b, k36, k37, k38, k47, k49, k49b_0, k49b_1, k49b_2, k49b_3, k50_0, k50_s, k51_0, k51_s, k55, k58, k58b, rk_0, rk_1, rk_2, rk_9, rk_3, rk_4, rk_5, sw_n, sw_c, xtb_n, xtb_c, lset_0, lset_2, lset_1, lkm_0, lkm_2, lkm_9, lkm_1, lkm_n, if_some1, c_10, c_01, c_x0, c_1x, c_n0, c_nn, List.getElem?_cons_zero, List.getElem?_cons_succ, List.set_cons_zero, List.set_cons_succ, List.length_cons, List.length_nil, Int.reduceToNat, Nat.reduceDiv, Nat.reduceMod, Nat.reduceSub, Nat.reduceAdd, Nat.reduceMul, Nat.reduceLT, Nat.reduceLeDiff, Nat.reduceEqDiff, Int.reduceMod, Int.reduceSub, Int.reduceNeg, Int.reduceAdd, Int.reduceMul, Int.reduceLT, Int.reduceLE, Int.reduceEq, put_ss, if_true, if_false, ite_true, ite_false, reduceIte, eq_self, and_true, true_and, and_false, false_and, or_true, true_or, or_false, false_or, not_true_eq_false, not_false_eq_true, k5_158_54, k34_158_54, k34i_158_54, x54]
theorem M_326 (hF : 100000 ≤ F) (h : m 158 54 = 1) (e68 : m 158 68 = sz) (e193 : ∀ k : Nat, (k : Int) < sz → m 193 k = w k) (hs : 0 ≤ sz ∧ sz ≤ 6000) : Cx F (d + 1) 326 [158] (Hp L xs (wmG G m)) = some ([1], Hp L xs (wmG (rsm sz w G) m)) := by
  have x54 : wm (sgO G) (G 78 12) (G 78 13) m 158 54 = 1 := h
  have l0 := L_326_0 (F := F) (L := L) (xs := xs) (d := d) (m := m) (V := sgO G) (c := G 78 12) (e := G 78 13) e68 e193 hs 8192 0 F (by omega) (by omega)
  rw [mxw_0, row_id, mxw_e] at l0
  have l1 := L_326_1 (F := F) (L := L) (xs := xs) (d := d) (m := m) (V := row (sgO G) 79 (rsw sz w (sgO G 79))) (c := G 78 12) (e := G 78 13) 8 0 F (by omega) (by omega)
  rw [fz_0, row_id] at l1
  have ez : ((0 : Nat) : Int) = 0 := rfl
  rw [ez] at l0 l1
  rw [wm_rsm]
  unfold wmG
  simp (disch := omega) only [c_326, tx_326, ev_0, ev_1, ev_16, ev_17, ev_18, ev_2, ev_3, ev_4, ev_5, ev_6, ev_7, ev_8, ev_9, ev_20, ev_21, ev_22, ev_23, ev_24, ev_25, ev_27, ev_28, ev_30, ev_31, ev_32, ev_33, ev_34, ev_35, ev_36, ev_37, ev_38, ev_39, ev_40, ev_41, ev_42, ev_43, ev_45, ev_46, ev_47, ev_48, ev_49, ev_50, ev_51, ev_52, ev_54, ev_55, ev_57, ev_58, ev_59, k2_0, k2_1, k2_2, k3a, k3b, k4, o1_s, xbin_0, xbin_1, xbin_2, xbin_3, xbin_4, xbin_5, xbin_6, xbin_7, xbin_8, xbin_9, xbin_11, xbin_12, xun_0, xun_1, xun_2, xun_3, xun_4, xun_5, k6a, k8, k8b, k9, k20, k20b_0, k20b_1, k20b_2, k20b_3, k20b_4, k20b_5, k21_0, k21_1, k21_2, k21_3, k21_4, k21_5, k23, k24, k25, k27, k28, k40, nz_1, nz_2, nz_3, k31_0, k31_1, k31_2, k31_3, k32u, k33, k34, k35, k35b, k36, k37, k38, k47, k49, k49b_0, k49b_1, k49b_2, k49b_3, k50_0, k50_s, k51_0, k51_s, k55, k58, k58b, rk_0, rk_1, rk_2, rk_9, rk_3, rk_4, rk_5, sw_n, sw_c, xtb_n, xtb_c, lset_0, lset_2, lset_1, lkm_0, lkm_2, lkm_9, lkm_1, lkm_n, if_some1, c_10, c_01, c_x0, c_1x, c_n0, c_nn, List.getElem?_cons_zero, List.getElem?_cons_succ, List.set_cons_zero, List.set_cons_succ, List.length_cons, List.length_nil, Int.reduceToNat, Nat.reduceDiv, Nat.reduceMod, Nat.reduceSub, Nat.reduceAdd, Nat.reduceMul, Nat.reduceLT, Nat.reduceLeDiff, Nat.reduceEqDiff, Int.reduceMod, Int.reduceSub, Int.reduceNeg, Int.reduceAdd, Int.reduceMul, Int.reduceLT, Int.reduceLE, Int.reduceEq, put_ss, if_true, if_false, ite_true, ite_false, reduceIte, eq_self, and_true, true_and, and_false, false_and, or_true, true_or, or_false, false_or, not_true_eq_false, not_false_eq_true, k5_158_54, k34_158_54, k34i_158_54, k5_158_95, k34_158_95, k5_158_96, k34_158_96, k5_158_97, k34_158_97, k5_158_98, k34_158_98, k5_158_99, k34_158_99, k5_158_100, k34_158_100, k54_158_100, k54b_158_100_0, k5_158_104, k34_158_104, k54_158_104, k54b_158_104_0, k5_158_106, k34_158_106, k54_158_106, k54b_158_106_0, x54, l0, l1, wp_95, wp_96, wp_97, wp_98, wp_99, wp_100, wp_104, wp_106]
  rfl
/-! the meaning: vars are cleared, main is entered -/
theorem L_317_1 {v z : Int} {E : Nat → Int} {q4 q5 q6 q7 q8 q9 q10 : Nat × Int} (hv : 0 ≤ v ∧ v < 60) (hz : z ≤ 1000) (ez : m 194 v.toNat = z) : ∀ (j N : Nat) (k w : Int), 0 ≤ k → k + (j : Int) = z → 0 ≤ w → w + (j : Int) ≤ 30000 → j < N → LF F d la_317_1 lb_317_1 lc_317_1 N ([(2, 158), (0, w), (0, v), (0, k), q4, q5, q6, q7, q8, q9, q10], Hp L xs (row m 213 (fz E w.toNat))) = some (0, [], ([(2, 158), (0, w + (j : Int)), (0, v), (0, z), q4, q5, q6, q7, q8, q9, q10], Hp L xs (row m 213 (fz E (w + (j : Int)).toNat)))) := by
  intro j
  induction j with
  | zero =>
    intro N k w h0 h hw hw2 hN
    obtain ⟨N, rfl⟩ : ∃ n', N = n' + 1 := ⟨N - 1, by omega⟩
    have e : k = z := by omega
    subst e
    have x194 : row m 213 (fz E w.toNat) 194 v.toNat = k := ez
    rw [lf_s, show w + ((0 : Nat) : Int) = w from by omega]
    simp (disch := omega) only [ea_317_1, eb_317_1, ec_317_1, l1_i, l1_1, l1_0, l2_0, l2_1, l2_2, l2_3, l3_0, w2_0, w2_1, w2_2, w2_3, d1_0, d1_1, d1_2, d1_3, d2_i, d2_1, d2_0, ev_0, ev_1, ev_16, ev_17, ev_18, ev_2, ev_3, ev_4, ev_5, ev_6, ev_7, ev_8, ev_9, ev_20, ev_21, ev_22, ev_23, ev_24, ev_25, ev_27, ev_28, ev_30, ev_31, ev_32, ev_33, ev_34, ev_35, ev_36, ev_37, ev_38, ev_39, ev_40, ev_41, ev_42, ev_43, ev_45, ev_46, ev_47, ev_48, ev_49, ev_50, ev_51, ev_52, ev_54, ev_55, ev_57, ev_58, ev_59, k2_0, k2_1, k2_2, k3a, k3b, k4, o1_s, xbin_0, xbin_1, xbin_2, xbin_3, xbin_4, xbin_5, xbin_6, xbin_7, xbin_8, xbin_9, xbin_11, xbin_12, xun_0, xun_1, xun_2, xun_3, xun_4, xun_5, k6a, k8, k8b, k9, k20, k20b_0, k20b_1, k20b_2, k20b_3, k20b_4, k20b_5, k21_0, k21_1, k21_2, k21_3, k21_4, k21_5, k23, k24, k25, k27, k28, k40, nz_1, nz_2, nz_3, k31_0, k31_1, k31_2, k31_3, k32u, k33, k34, k35, k35b, k36, k37, k38, k47, k49, k49b_0, k49b_1, k49b_2, k49b_3, k50_0, k50_s, k51_0, k51_s, k55, k58, k58b, rk_0, rk_1, rk_2, rk_9, rk_3, rk_4, rk_5, sw_n, sw_c, xtb_n, xtb_c, lset_0, lset_2, lset_1, lkm_0, lkm_2, lkm_9, lkm_1, lkm_n, if_some1, c_10, c_01, c_x0, c_1x, c_n0, c_nn, List.getElem?_cons_zero, List.getElem?_cons_succ, List.set_cons_zero, List.set_cons_succ, List.length_cons, List.length_nil, Int.reduceToNat, Nat.reduceDiv, Nat.reduceMod, Nat.reduceSub, Nat.reduceAdd, Nat.reduceMul, Nat.reduceLT, Nat.reduceLeDiff, Nat.reduceEqDiff, Int.reduceMod, Int.reduceSub, Int.reduceNeg, Int.reduceAdd, Int.reduceMul, Int.reduceLT, Int.reduceLE, Int.reduceEq, put_ss, if_true, if_false, ite_true, ite_false, reduceIte, eq_self, and_true, true_and, and_false, false_and, or_true, true_or, or_false, false_or, not_true_eq_false, not_false_eq_true, k5_158_72, k6_194, k35_194, n_194, x194, Int.lt_irrefl]
  | succ j ih =>
    intro N k w h0 h hw hw2 hN
    obtain ⟨N, rfl⟩ : ∃ n', N = n' + 1 := ⟨N - 1, by omega⟩
    have c1 := ih N (k + 1) (w + 1) (by omega) (by omega) (by omega) (by omega) (by omega)
    have hlt : k < z := by omega
    have x194 : row m 213 (fz E w.toNat) 194 v.toNat = z := ez
    have e2 : put (row m 213 (fz E w.toNat)) 213 w.toNat 0 = row m 213 (fz E (w + 1).toNat) := by rw [row_p, fz_s, show w.toNat + 1 = (w + 1).toNat from by omega]
    rw [show w + 1 + (j : Int) = w + ((j + 1 : Nat) : Int) from by omega] at c1
    rw [lf_s]
    simp (disch := omega) only [ea_317_1, eb_317_1, ec_317_1, l1_i, l1_1, l1_0, l2_0, l2_1, l2_2, l2_3, l3_0, w2_0, w2_1, w2_2, w2_3, d1_0, d1_1, d1_2, d1_3, d2_i, d2_1, d2_0, ev_0, ev_1, ev_16, ev_17, ev_18, ev_2, ev_3, ev_4, ev_5, ev_6, ev_7, ev_8, ev_9, ev_20, ev_21, ev_22, ev_23, ev_24, ev_25, ev_27, ev_28, ev_30, ev_31, ev_32, ev_33, ev_34, ev_35, ev_36, ev_37, ev_38, ev_39, ev_40, ev_41, ev_42, ev_43, ev_45, ev_46, ev_47, ev_48, ev_49, ev_50, ev_51, ev_52, ev_54, ev_55, ev_57, ev_58, ev_59, k2_0, k2_1, k2_2, k3a, k3b, k4, o1_s, xbin_0, xbin_1, xbin_2, xbin_3, xbin_4, xbin_5, xbin_6, xbin_7, xbin_8, xbin_9, xbin_11, xbin_12, xun_0, xun_1, xun_2, xun_3, xun_4, xun_5, k6a, k8, k8b, k9, k20, k20b_0, k20b_1, k20b_2, k20b_3, k20b_4, k20b_5, k21_0, k21_1, k21_2, k21_3, k21_4, k21_5, k23, k24, k25, k27, k28, k40, nz_1, nz_2, nz_3, k31_0, k31_1, k31_2, k31_3, k32u, k33, k34, k35, k35b, k36, k37, k38, k47, k49, k49b_0, k49b_1, k49b_2, k49b_3, k50_0, k50_s, k51_0, k51_s, k55, k58, k58b, rk_0, rk_1, rk_2, rk_9, rk_3, rk_4, rk_5, sw_n, sw_c, xtb_n, xtb_c, lset_0, lset_2, lset_1, lkm_0, lkm_2, lkm_9, lkm_1, lkm_n, if_some1, c_10, c_01, c_x0, c_1x, c_n0, c_nn, List.getElem?_cons_zero, List.getElem?_cons_succ, List.set_cons_zero, List.set_cons_succ, List.length_cons, List.length_nil, Int.reduceToNat, Nat.reduceDiv, Nat.reduceMod, Nat.reduceSub, Nat.reduceAdd, Nat.reduceMul, Nat.reduceLT, Nat.reduceLeDiff, Nat.reduceEqDiff, Int.reduceMod, Int.reduceSub, Int.reduceNeg, Int.reduceAdd, Int.reduceMul, Int.reduceLT, Int.reduceLE, Int.reduceEq, put_ss, if_true, if_false, ite_true, ite_false, reduceIte, eq_self, and_true, true_and, and_false, false_and, or_true, true_or, or_false, false_or, not_true_eq_false, not_false_eq_true, k5_158_72, k6_194, k35_194, n_194, k5_158_112, k6_213, k35_213, n_213, x194, hlt, e2, w32_of, c1]
/-- where vars begin, so far -/
def vbg (m : Mem) (k : Nat) : Nat → Int := fun j => if j < k then vatq m j else m 214 j
theorem vbg_s {k : Nat} : vput (vbg m k) k (vatq m k) = vbg m (k + 1) := by
  funext q
  unfold vput vbg
  by_cases h : q = k
  · subst h
    rw [if_pos rfl, if_pos (show q < q + 1 by omega)]
  · rw [if_neg h]
    by_cases h2 : q < k
    · rw [if_pos h2, if_pos (show q < k + 1 by omega)]
    · rw [if_neg h2, if_neg (show ¬ q < k + 1 by omega)]
/-- the vars cleared, so far -/
def vcl (m : Mem) (k : Nat) : Mem := row (row m 214 (vbg m k)) 213 (fz (m 213) (vatq m k).toNat)
theorem L_317_0 {nv : Int} {q4 q5 q6 q7 q8 q9 q10 : Nat × Int} (hF : 100000 ≤ F) (h71 : m 158 71 = nv) (hn : 0 ≤ nv ∧ nv ≤ 60) (hvw : ∀ k : Nat, (k : Int) < nv → 0 ≤ m 194 k ∧ m 194 k ≤ 500) (hb : ∀ k : Nat, (k : Int) ≤ nv → 0 ≤ vatq m k ∧ vatq m k ≤ 29000) : ∀ (j N v : Nat) (q3 : Nat × Int), (v : Int) + (j : Int) = nv → j < N → ∃ e3, LF F d la_317_0 lb_317_0 lc_317_0 N ([(2, 158), (0, vatq m v), (0, (v : Int)), q3, q4, q5, q6, q7, q8, q9, q10], Hp L xs (vcl m v)) = some (0, [], ([(2, 158), (0, vatq m nv.toNat), (0, nv), e3, q4, q5, q6, q7, q8, q9, q10], Hp L xs (vcl m nv.toNat))) := by
  intro j
  induction j with
  | zero =>
    intro N v q3 h hN
    obtain ⟨N, rfl⟩ : ∃ n', N = n' + 1 := ⟨N - 1, by omega⟩
    have e : (v : Int) = nv := by omega
    have e2 : nv.toNat = v := by omega
    have x71 : vcl m v 158 71 = nv := h71
    refine ⟨q3, ?_⟩
    rw [lf_s, e2, e]
    simp (disch := omega) only [ea_317_0, eb_317_0, ec_317_0, l1_i, l1_1, l1_0, l2_0, l2_1, l2_2, l2_3, l3_0, w2_0, w2_1, w2_2, w2_3, d1_0, d1_1, d1_2, d1_3, d2_i, d2_1, d2_0, ev_0, ev_1, ev_16, ev_17, ev_18, ev_2, ev_3, ev_4, ev_5, ev_6, ev_7, ev_8, ev_9, ev_20, ev_21, ev_22, ev_23, ev_24, ev_25, ev_27, ev_28, ev_30, ev_31, ev_32, ev_33, ev_34, ev_35, ev_36, ev_37, ev_38, ev_39, ev_40, ev_41, ev_42, ev_43, ev_45, ev_46, ev_47, ev_48, ev_49, ev_50, ev_51, ev_52, ev_54, ev_55, ev_57, ev_58, ev_59, k2_0, k2_1, k2_2, k3a, k3b, k4, o1_s, xbin_0, xbin_1, xbin_2, xbin_3, xbin_4, xbin_5, xbin_6, xbin_7, xbin_8, xbin_9, xbin_11, xbin_12, xun_0, xun_1, xun_2, xun_3, xun_4, xun_5, k6a, k8, k8b, k9, k20, k20b_0, k20b_1, k20b_2, k20b_3, k20b_4, k20b_5, k21_0, k21_1, k21_2, k21_3, k21_4, k21_5, k23, k24, k25, k27, k28, k40, nz_1, nz_2, nz_3, k31_0, k31_1, k31_2, k31_3, k32u, k33, k34, k35, k35b, k36, k37, k38, k47, k49, k49b_0, k49b_1, k49b_2, k49b_3, k50_0, k50_s, k51_0, k51_s, k55, k58, k58b, rk_0, rk_1, rk_2, rk_9, rk_3, rk_4, rk_5, sw_n, sw_c, xtb_n, xtb_c, lset_0, lset_2, lset_1, lkm_0, lkm_2, lkm_9, lkm_1, lkm_n, if_some1, c_10, c_01, c_x0, c_1x, c_n0, c_nn, List.getElem?_cons_zero, List.getElem?_cons_succ, List.set_cons_zero, List.set_cons_succ, List.length_cons, List.length_nil, Int.reduceToNat, Nat.reduceDiv, Nat.reduceMod, Nat.reduceSub, Nat.reduceAdd, Nat.reduceMul, Nat.reduceLT, Nat.reduceLeDiff, Nat.reduceEqDiff, Int.reduceMod, Int.reduceSub, Int.reduceNeg, Int.reduceAdd, Int.reduceMul, Int.reduceLT, Int.reduceLE, Int.reduceEq, put_ss, if_true, if_false, ite_true, ite_false, reduceIte, eq_self, and_true, true_and, and_false, false_and, or_true, true_or, or_false, false_or, not_true_eq_false, not_false_eq_true, k5_158_71, k34_158_71, x71, Int.lt_irrefl]
  | succ j ih =>
    intro N v q3 h hN
    obtain ⟨N, rfl⟩ : ∃ n', N = n' + 1 := ⟨N - 1, by omega⟩
    obtain ⟨e3, c1⟩ := ih N (v + 1) (0, m 194 v) (by omega) (by omega)
    refine ⟨e3, ?_⟩
    have hlt : (v : Int) < nv := by omega
    have k0 : (v : Int).toNat = v := Int.toNat_natCast v
    have x71 : vcl m v 158 71 = nv := h71
    have w1 := hvw v hlt
    have b1 := hb v (by omega)
    have b2 := hb (v + 1) (by omega)
    have es : vatq m (v + 1) = vatq m v + m 194 v := rfl
    have e1 : put (vcl m v) 214 v (vatq m v) = row (row m 214 (vbg m (v + 1))) 213 (fz (m 213) (vatq m v).toNat) := by
      unfold vcl
      rw [← vbg_s]
      funext a k
      rw [put_ss]
      unfold row vput
      by_cases h1 : a = 214
      · subst h1
        rfl
      · rw [if_neg h1]
        by_cases h2 : a = 213
        · rw [if_pos h2, if_pos h2]
        · rw [if_neg h2, if_neg h2, if_neg h1, if_neg h1]
    have i1 := L_317_1 (F := F) (L := L) (xs := xs) (d := d) (m := row m 214 (vbg m (v + 1))) (v := (v : Int)) (z := m 194 v) (E := m 213) (q4 := q4) (q5 := q5) (q6 := q6) (q7 := q7) (q8 := q8) (q9 := q9) (q10 := q10) (by omega) (by omega) rfl (m 194 v).toNat F 0 (vatq m v) (by omega) (by omega) b1.1 (by omega) (by omega)
    rw [show vatq m v + (((m 194 v).toNat : Nat) : Int) = vatq m (v + 1) from by omega] at i1
    have i2 : LF F d la_317_1 lb_317_1 lc_317_1 F ([(2, 158), (0, vatq m v), (0, (v : Int)), (0, 0), q4, q5, q6, q7, q8, q9, q10], Hp L xs (row (row m 214 (vbg m (v + 1))) 213 (fz (m 213) (vatq m v).toNat))) = some (0, [], ([(2, 158), (0, vatq m (v + 1)), (0, (v : Int)), (0, m 194 v), q4, q5, q6, q7, q8, q9, q10], Hp L xs (vcl m (v + 1)))) := i1
    have ecast : ((v + 1 : Nat) : Int) = (v : Int) + 1 := by omega
    rw [ecast] at c1
    rw [lf_s]
    simp (disch := omega) only [ea_317_0, eb_317_0, ec_317_0, l1_i, l1_1, l1_0, l2_0, l2_1, l2_2, l2_3, l3_0, w2_0, w2_1, w2_2, w2_3, d1_0, d1_1, d1_2, d1_3, d2_i, d2_1, d2_0, ev_0, ev_1, ev_16, ev_17, ev_18, ev_2, ev_3, ev_4, ev_5, ev_6, ev_7, ev_8, ev_9, ev_20, ev_21, ev_22, ev_23, ev_24, ev_25, ev_27, ev_28, ev_30, ev_31, ev_32, ev_33, ev_34, ev_35, ev_36, ev_37, ev_38, ev_39, ev_40, ev_41, ev_42, ev_43, ev_45, ev_46, ev_47, ev_48, ev_49, ev_50, ev_51, ev_52, ev_54, ev_55, ev_57, ev_58, ev_59, k2_0, k2_1, k2_2, k3a, k3b, k4, o1_s, xbin_0, xbin_1, xbin_2, xbin_3, xbin_4, xbin_5, xbin_6, xbin_7, xbin_8, xbin_9, xbin_11, xbin_12, xun_0, xun_1, xun_2, xun_3, xun_4, xun_5, k6a, k8, k8b, k9, k20, k20b_0, k20b_1, k20b_2, k20b_3, k20b_4, k20b_5, k21_0, k21_1, k21_2, k21_3, k21_4, k21_5, k23, k24, k25, k27, k28, k40, nz_1, nz_2, nz_3, k31_0, k31_1, k31_2, k31_3, k32u, k33, k34, k35, k35b, k36, k37, k38, k47, k49, k49b_0, k49b_1, k49b_2, k49b_3, k50_0, k50_s, k51_0, k51_s, k55, k58, k58b, rk_0, rk_1, rk_2, rk_9, rk_3, rk_4, rk_5, sw_n, sw_c, xtb_n, xtb_c, lset_0, lset_2, lset_1, lkm_0, lkm_2, lkm_9, lkm_1, lkm_n, if_some1, c_10, c_01, c_x0, c_1x, c_n0, c_nn, List.getElem?_cons_zero, List.getElem?_cons_succ, List.set_cons_zero, List.set_cons_succ, List.length_cons, List.length_nil, Int.reduceToNat, Nat.reduceDiv, Nat.reduceMod, Nat.reduceSub, Nat.reduceAdd, Nat.reduceMul, Nat.reduceLT, Nat.reduceLeDiff, Nat.reduceEqDiff, Int.reduceMod, Int.reduceSub, Int.reduceNeg, Int.reduceAdd, Int.reduceMul, Int.reduceLT, Int.reduceLE, Int.reduceEq, put_ss, if_true, if_false, ite_true, ite_false, reduceIte, eq_self, and_true, true_and, and_false, false_and, or_true, true_or, or_false, false_or, not_true_eq_false, not_false_eq_true, k5_158_71, k34_158_71, k5_158_113, k6_214, k35_214, n_214, x71, hlt, k0, e1, i2, w32_of, c1]
/-- the memory as the meaning begins -/
def mn0 (m : Mem) : Mem := put (put (put (put m 158 108 0) 158 111 0) 158 114 0) 158 115 0
theorem M_317 {nv x1 x2 c' : Int} {m' : Mem} (hF : 100000 ≤ F) (h71 : m 158 71 = nv) (hn : 0 ≤ nv ∧ nv ≤ 60) (hvw : ∀ k : Nat, (k : Int) < nv → 0 ≤ m 194 k ∧ m 194 k ≤ 500) (hb : ∀ k : Nat, (k : Int) ≤ nv → 0 ≤ vatq m k ∧ vatq m k ≤ 29000) {mn z x y : Int} (h67 : m 158 67 = mn) (hm : 0 ≤ mn ∧ mn < 40) (ez : m 189 mn.toNat = z) (hz : 0 ≤ z ∧ z ≤ 100) (ex : m 188 mn.toNat = 0) (en : m 191 mn.toNat = y) (hy : 0 ≤ y ∧ y < 11000) (hL : ∀ (w : Int) (q4 q5 q6 q7 q8 q9 q10 : Nat × Int), ∃ s, LW F (d + 4) lb_317_2 F (lox w 0 (y + 1) q4 q5 q6 q7 q8 q9 q10, Hp L xs (entM (vcl (mn0 m) nv.toNat) mn (-1))) = some (3, [c'], (s, Hp L xs m'))) : Cx F (d + 5) 317 [158] (Hp L xs m) = some ([c'], Hp L xs m') := by
  have ev : ∀ k, vatq (mn0 m) k = vatq m k := fun k => by
    induction k with
    | zero => rfl
    | succ k ih =>
      show vatq (mn0 m) k + mn0 m 194 k = vatq m k + m 194 k
      rw [ih]
      rfl
  obtain ⟨e3, l0⟩ := L_317_0 (F := F) (L := L) (xs := xs) (d := d + 4) (m := mn0 m) (nv := nv) (q4 := (9, 0)) (q5 := (9, 0)) (q6 := (9, 0)) (q7 := (9, 0)) (q8 := (9, 0)) (q9 := (9, 0)) (q10 := (9, 0)) hF h71 hn hvw (fun k hk => by rw [ev]; exact hb k hk) nv.toNat F 0 (9, 0) (by omega) (by omega)
  have e0 : vcl (mn0 m) 0 = mn0 m := by
    funext a k
    unfold vcl row vbg fz
    by_cases h1 : a = 213
    · rw [if_pos h1]
      show (if k < (0 : Int).toNat then 0 else mn0 m 213 k) = _
      rw [if_neg (by show ¬ k < 0; omega), h1]
    · rw [if_neg h1]
      by_cases h2 : a = 214
      · rw [if_pos h2, if_neg (by omega), h2]
      · rw [if_neg h2]
  rw [e0] at l0
  have l0' : LF F (d + 4) la_317_0 lb_317_0 lc_317_0 F ([(2, 158), (0, 0), (0, 0), (9, 0), (9, 0), (9, 0), (9, 0), (9, 0), (9, 0), (9, 0), (9, 0)], Hp L xs (put (put (put (put m 158 108 0) 158 111 0) 158 114 0) 158 115 0)) = _ := l0
  have C := M_314 (F := F) (d := d + 2) (L := L) (xs := xs) (m := vcl (mn0 m) nv.toNat) (p := mn) (y := -1) (z := z) (x := 0) (t := 0) (f := 0) hF hm ez hz ex (by omega) rfl (by omega) rfl (by omega)
  have x67 : vcl (mn0 m) nv.toNat 158 67 = mn := h67
  have x191 : vcl (mn0 m) nv.toNat 191 mn.toNat = y := en
  obtain ⟨s, hs⟩ := hL (vatq (mn0 m) nv.toNat) (9, 0) (9, 0) (9, 0) (9, 0) (9, 0) (9, 0) (9, 0)
  have hs2 : LW F (d + 4) lb_317_2 F ([(2, 158), (0, vatq (mn0 m) nv.toNat), (0, 0), (0, y + 1), (9, 0), (9, 0), (9, 0), (9, 0), (9, 0), (9, 0), (9, 0)], Hp L xs (entM (vcl (mn0 m) nv.toNat) mn (-1))) = some (3, [c'], (s, Hp L xs m')) := hs
  simp (disch := omega) only [c_317, tx_317, ev_0, ev_1, ev_16, ev_17, ev_18, ev_2, ev_3, ev_4, ev_5, ev_6, ev_7, ev_8, ev_9, ev_20, ev_21, ev_22, ev_23, ev_24, ev_25, ev_27, ev_28, ev_30, ev_31, ev_32, ev_33, ev_34, ev_35, ev_36, ev_37, ev_38, ev_39, ev_40, ev_41, ev_42, ev_43, ev_45, ev_46, ev_47, ev_48, ev_49, ev_50, ev_51, ev_52, ev_54, ev_55, ev_57, ev_58, ev_59, k2_0, k2_1, k2_2, k3a, k3b, k4, o1_s, xbin_0, xbin_1, xbin_2, xbin_3, xbin_4, xbin_5, xbin_6, xbin_7, xbin_8, xbin_9, xbin_11, xbin_12, xun_0, xun_1, xun_2, xun_3, xun_4, xun_5, k6a, k8, k8b, k9, k20, k20b_0, k20b_1, k20b_2, k20b_3, k20b_4, k20b_5, k21_0, k21_1, k21_2, k21_3, k21_4, k21_5, k23, k24, k25, k27, k28, k40, nz_1, nz_2, nz_3, k31_0, k31_1, k31_2, k31_3, k32u, k33, k34, k35, k35b, k36, k37, k38, k47, k49, k49b_0, k49b_1, k49b_2, k49b_3, k50_0, k50_s, k51_0, k51_s, k55, k58, k58b, rk_0, rk_1, rk_2, rk_9, rk_3, rk_4, rk_5, sw_n, sw_c, xtb_n, xtb_c, lset_0, lset_2, lset_1, lkm_0, lkm_2, lkm_9, lkm_1, lkm_n, if_some1, c_10, c_01, c_x0, c_1x, c_n0, c_nn, List.getElem?_cons_zero, List.getElem?_cons_succ, List.set_cons_zero, List.set_cons_succ, List.length_cons, List.length_nil, Int.reduceToNat, Nat.reduceDiv, Nat.reduceMod, Nat.reduceSub, Nat.reduceAdd, Nat.reduceMul, Nat.reduceLT, Nat.reduceLeDiff, Nat.reduceEqDiff, Int.reduceMod, Int.reduceSub, Int.reduceNeg, Int.reduceAdd, Int.reduceMul, Int.reduceLT, Int.reduceLE, Int.reduceEq, put_ss, if_true, if_false, ite_true, ite_false, reduceIte, eq_self, and_true, true_and, and_false, false_and, or_true, true_or, or_false, false_or, not_true_eq_false, not_false_eq_true, l1_i, l1_1, l1_0, l2_0, l2_1, l2_2, l2_3, l3_0, w2_0, w2_1, w2_2, w2_3, d1_0, d1_1, d1_2, d1_3, d2_i, d2_1, d2_0, k5_158_108, k34_158_108, k54_158_108, k54b_158_108_0, k54b_158_108_1, k5_158_111, k34_158_111, k54_158_111, k54b_158_111_0, k54b_158_111_1, k5_158_114, k34_158_114, k54_158_114, k54b_158_114_0, k5_158_115, k34_158_115, k54_158_115, k54b_158_115_0, k5_158_65, k6_191, k35_191, n_191, k5_158_67, k34_158_67, l0', x67, x191, C, w32_of, hs2]
end Ru2
