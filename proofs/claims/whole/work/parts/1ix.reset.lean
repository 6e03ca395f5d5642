/-! RESET: the class -/
section Rse
variable {F L d : Nat} {xs : Nat → Int32} {m : Mem} {cd : Nat}
theorem row_p {A k : Nat} {J : Nat → Int} {v : Int} : put (row m A J) A k v = row m A (vput J k v) := by
  funext a q
  rw [put_ss]
  unfold row vput
  by_cases h : a = A
  · rw [if_pos h, if_pos h, if_pos h]
  · rw [if_neg h, if_neg h, if_neg h]
theorem row_id {A : Nat} : row m A (m A) = m := by
  funext a k
  unfold row
  by_cases h : a = A
  · rw [if_pos h, h]
  · rw [if_neg h]
theorem L_350_79 {E : Nat → Int} : ∀ (j k N : Nat), k + j = 8192 → j < N → LF F (d + 3) la_350_0 lb_350_0 lc_350_0 N ([(2, 79), (0, 0), (0, (k : Int)), (0, 8192)], Hp L xs (row m 79 (fz E k))) = some (0, [], ([(2, 79), (0, 0), (0, 8192), (0, 8192)], Hp L xs (row m 79 (fz E 8192)))) := by
  intro j
  induction j with
  | zero =>
    intro k N h hN
    obtain ⟨N, rfl⟩ : ∃ n', N = n' + 1 := ⟨N - 1, by omega⟩
    have e : k = 8192 := by omega
    subst e
    have ec : ((8192 : Nat) : Int) = 8192 := rfl
    rw [ec, lf_s]
    simp (disch := omega) only [ea_350_0, eb_350_0, ec_350_0, l1_i, l1_1, l1_0, l2_0, l2_1, l2_2, l2_3, l3_0, w2_0, w2_1, w2_2, w2_3, d1_0, d1_1, d1_2, d1_3, d2_i, d2_1, d2_0, ev_0, ev_1, ev_16, ev_17, ev_18, ev_2, ev_3, ev_4, ev_5, ev_6, ev_7, ev_8, ev_9, ev_20, ev_21, ev_22, ev_23, ev_24, ev_25, ev_27, ev_28, ev_30, ev_31, ev_32, ev_33, ev_34, ev_35, ev_36, ev_37, ev_38, ev_39, ev_40, ev_41, ev_42, ev_43, ev_45, ev_46, ev_47, ev_48, ev_49, ev_50, ev_51, ev_52, ev_54, ev_55, ev_57, ev_58, ev_59, k2_0, k2_1, k2_2, k3a, k3b, k4, o1_s, xbin_0, xbin_1, xbin_2, xbin_3, xbin_4, xbin_5, xbin_6, xbin_7, xbin_8, xbin_9, xbin_11, xbin_12, xun_0, xun_1, xun_2, xun_3, xun_4, xun_5, k6a, k8, k8b, k9, k20, k20b_0, k20b_1, k20b_2, k20b_3, k20b_4, k20b_5, k21_0, k21_1, k21_2, k21_3, k21_4, k21_5, k23, k24, k25, k27, k28, k40, nz_1, nz_2, nz_3, k31_0, k31_1, k31_2, k31_3, k32u, k33, k34, k35, k35b, k36, k37, k38, k47, k49, k49b_0, k49b_1, k49b_2, k49b_3, k50_0, k50_s, k51_0, k51_s, k55, k58, k58b, rk_0, rk_1, rk_2, rk_9, rk_3, rk_4, rk_5, sw_n, sw_c, xtb_n, xtb_c, lset_0, lset_2, lset_1, lkm_0, lkm_2, lkm_9, lkm_1, lkm_n, if_some1, c_10, c_01, c_x0, c_1x, c_n0, c_nn, List.getElem?_cons_zero, List.getElem?_cons_succ, List.set_cons_zero, List.set_cons_succ, List.length_cons, List.length_nil, Int.reduceToNat, Nat.reduceDiv, Nat.reduceMod, Nat.reduceSub, Nat.reduceAdd, Nat.reduceMul, Nat.reduceLT, Nat.reduceLeDiff, Nat.reduceEqDiff, Int.reduceMod, Int.reduceSub, Int.reduceNeg, Int.reduceAdd, Int.reduceMul, Int.reduceLT, Int.reduceLE, Int.reduceEq, put_ss, if_true, if_false, ite_true, ite_false, reduceIte, eq_self, and_true, true_and, and_false, false_and, or_true, true_or, or_false, false_or, not_true_eq_false, not_false_eq_true, k5_78_0, k6_79, k35_79, n_79, Int.lt_irrefl]
    try rfl
  | succ j ih =>
    intro k N h hN
    obtain ⟨N, rfl⟩ : ∃ n', N = n' + 1 := ⟨N - 1, by omega⟩
    have c1 := ih (k + 1) N (by omega) (by omega)
    have hlt : (k : Int) < 8192 := by omega
    have k0 : (k : Int).toNat = k := Int.toNat_natCast k
    have e1 : put (row m 79 (fz E k)) 79 k 0 = row m 79 (fz E (k + 1)) := by rw [row_p, fz_s]
    have ecast : ((k + 1 : Nat) : Int) = (k : Int) + 1 := by omega
    rw [ecast] at c1
    rw [lf_s]
    simp (disch := omega) only [ea_350_0, eb_350_0, ec_350_0, l1_i, l1_1, l1_0, l2_0, l2_1, l2_2, l2_3, l3_0, w2_0, w2_1, w2_2, w2_3, d1_0, d1_1, d1_2, d1_3, d2_i, d2_1, d2_0, ev_0, ev_1, ev_16, ev_17, ev_18, ev_2, ev_3, ev_4, ev_5, ev_6, ev_7, ev_8, ev_9, ev_20, ev_21, ev_22, ev_23, ev_24, ev_25, ev_27, ev_28, ev_30, ev_31, ev_32, ev_33, ev_34, ev_35, ev_36, ev_37, ev_38, ev_39, ev_40, ev_41, ev_42, ev_43, ev_45, ev_46, ev_47, ev_48, ev_49, ev_50, ev_51, ev_52, ev_54, ev_55, ev_57, ev_58, ev_59, k2_0, k2_1, k2_2, k3a, k3b, k4, o1_s, xbin_0, xbin_1, xbin_2, xbin_3, xbin_4, xbin_5, xbin_6, xbin_7, xbin_8, xbin_9, xbin_11, xbin_12, xun_0, xun_1, xun_2, xun_3, xun_4, xun_5, k6a, k8, k8b, k9, k20, k20b_0, k20b_1, k20b_2, k20b_3, k20b_4, k20b_5, k21_0, k21_1, k21_2, k21_3, k21_4, k21_5, k23, k24, k25, k27, k28, k40, nz_1, nz_2, nz_3, k31_0, k31_1, k31_2, k31_3, k32u, k33, k34, k35, k35b, k36, k37, k38, k47, k49, k49b_0, k49b_1, k49b_2, k49b_3, k50_0, k50_s, k51_0, k51_s, k55, k58, k58b, rk_0, rk_1, rk_2, rk_9, rk_3, rk_4, rk_5, sw_n, sw_c, xtb_n, xtb_c, lset_0, lset_2, lset_1, lkm_0, lkm_2, lkm_9, lkm_1, lkm_n, if_some1, c_10, c_01, c_x0, c_1x, c_n0, c_nn, List.getElem?_cons_zero, List.getElem?_cons_succ, List.set_cons_zero, List.set_cons_succ, List.length_cons, List.length_nil, Int.reduceToNat, Nat.reduceDiv, Nat.reduceMod, Nat.reduceSub, Nat.reduceAdd, Nat.reduceMul, Nat.reduceLT, Nat.reduceLeDiff, Nat.reduceEqDiff, Int.reduceMod, Int.reduceSub, Int.reduceNeg, Int.reduceAdd, Int.reduceMul, Int.reduceLT, Int.reduceLE, Int.reduceEq, put_ss, if_true, if_false, ite_true, ite_false, reduceIte, eq_self, and_true, true_and, and_false, false_and, or_true, true_or, or_false, false_or, not_true_eq_false, not_false_eq_true, k5_78_0, k6_79, k35_79, n_79, hlt, k0, w32_of, e1, c1]
    try rfl
theorem C_350_79 (hF : 100000 ≤ F) : Cx F (d + 6) 350 [79, 0] (Hp L xs m) = some ([], Hp L xs (row m 79 (fz (m 79) 8192))) := by
  have l0 := fun D => L_350_79 (F := F) (L := L) (xs := xs) (d := D) (m := m) (E := m 79) 8192 0 F (by omega) (by omega)
  have ez : ((0 : Nat) : Int) = 0 := rfl
  rw [fz_0, row_id, ez] at l0
  simp (disch := omega) only [c_350, tx_350, ev_0, ev_1, ev_16, ev_17, ev_18, ev_2, ev_3, ev_4, ev_5, ev_6, ev_7, ev_8, ev_9, ev_20, ev_21, ev_22, ev_23, ev_24, ev_25, ev_27, ev_28, ev_30, ev_31, ev_32, ev_33, ev_34, ev_35, ev_36, ev_37, ev_38, ev_39, ev_40, ev_41, ev_42, ev_43, ev_45, ev_46, ev_47, ev_48, ev_49, ev_50, ev_51, ev_52, ev_54, ev_55, ev_57, ev_58, ev_59, k2_0, k2_1, k2_2, k3a, k3b, k4, o1_s, xbin_0, xbin_1, xbin_2, xbin_3, xbin_4, xbin_5, xbin_6, xbin_7, xbin_8, xbin_9, xbin_11, xbin_12, xun_0, xun_1, xun_2, xun_3, xun_4, xun_5, k6a, k8, k8b, k9, k20, k20b_0, k20b_1, k20b_2, k20b_3, k20b_4, k20b_5, k21_0, k21_1, k21_2, k21_3, k21_4, k21_5, k23, k24, k25, k27, k28, k40, nz_1, nz_2, nz_3, k31_0, k31_1, k31_2, k31_3, k32u, k33, k34, k35, k35b, k36, k37, k38, k47, k49, k49b_0, k49b_1, k49b_2, k49b_3, k50_0, k50_s, k51_0, k51_s, k55, k58, k58b, rk_0, rk_1, rk_2, rk_9, rk_3, rk_4, rk_5, sw_n, sw_c, xtb_n, xtb_c, lset_0, lset_2, lset_1, lkm_0, lkm_2, lkm_9, lkm_1, lkm_n, if_some1, c_10, c_01, c_x0, c_1x, c_n0, c_nn, List.getElem?_cons_zero, List.getElem?_cons_succ, List.set_cons_zero, List.set_cons_succ, List.length_cons, List.length_nil, Int.reduceToNat, Nat.reduceDiv, Nat.reduceMod, Nat.reduceSub, Nat.reduceAdd, Nat.reduceMul, Nat.reduceLT, Nat.reduceLeDiff, Nat.reduceEqDiff, Int.reduceMod, Int.reduceSub, Int.reduceNeg, Int.reduceAdd, Int.reduceMul, Int.reduceLT, Int.reduceLE, Int.reduceEq, put_ss, if_true, if_false, ite_true, ite_false, reduceIte, eq_self, and_true, true_and, and_false, false_and, or_true, true_or, or_false, false_or, not_true_eq_false, not_false_eq_true, l1_i, l1_1, l1_0, l2_0, l2_1, l2_2, l2_3, l3_0, w2_0, w2_1, w2_2, w2_3, d1_0, d1_1, d1_2, d1_3, d2_i, d2_1, d2_0, k5_78_0, k6_79, k35_79, n_79, l0]
  try rfl
theorem L_350_80 {E : Nat → Int} : ∀ (j k N : Nat), k + j = 8 → j < N → LF F (d + 3) la_350_0 lb_350_0 lc_350_0 N ([(2, 80), (0, 0), (0, (k : Int)), (0, 8)], Hp L xs (row m 80 (fz E k))) = some (0, [], ([(2, 80), (0, 0), (0, 8), (0, 8)], Hp L xs (row m 80 (fz E 8)))) := by
  intro j
  induction j with
  | zero =>
    intro k N h hN
    obtain ⟨N, rfl⟩ : ∃ n', N = n' + 1 := ⟨N - 1, by omega⟩
    have e : k = 8 := by omega
    subst e
    have ec : ((8 : Nat) : Int) = 8 := rfl
    rw [ec, lf_s]
    simp (disch := omega) only [ea_350_0, eb_350_0, ec_350_0, l1_i, l1_1, l1_0, l2_0, l2_1, l2_2, l2_3, l3_0, w2_0, w2_1, w2_2, w2_3, d1_0, d1_1, d1_2, d1_3, d2_i, d2_1, d2_0, ev_0, ev_1, ev_16, ev_17, ev_18, ev_2, ev_3, ev_4, ev_5, ev_6, ev_7, ev_8, ev_9, ev_20, ev_21, ev_22, ev_23, ev_24, ev_25, ev_27, ev_28, ev_30, ev_31, ev_32, ev_33, ev_34, ev_35, ev_36, ev_37, ev_38, ev_39, ev_40, ev_41, ev_42, ev_43, ev_45, ev_46, ev_47, ev_48, ev_49, ev_50, ev_51, ev_52, ev_54, ev_55, ev_57, ev_58, ev_59, k2_0, k2_1, k2_2, k3a, k3b, k4, o1_s, xbin_0, xbin_1, xbin_2, xbin_3, xbin_4, xbin_5, xbin_6, xbin_7, xbin_8, xbin_9, xbin_11, xbin_12, xun_0, xun_1, xun_2, xun_3, xun_4, xun_5, k6a, k8, k8b, k9, k20, k20b_0, k20b_1, k20b_2, k20b_3, k20b_4, k20b_5, k21_0, k21_1, k21_2, k21_3, k21_4, k21_5, k23, k24, k25, k27, k28, k40, nz_1, nz_2, nz_3, k31_0, k31_1, k31_2, k31_3, k32u, k33, k34, k35, k35b, k36, k37, k38, k47, k49, k49b_0, k49b_1, k49b_2, k49b_3, k50_0, k50_s, k51_0, k51_s, k55, k58, k58b, rk_0, rk_1, rk_2, rk_9, rk_3, rk_4, rk_5, sw_n, sw_c, xtb_n, xtb_c, lset_0, lset_2, lset_1, lkm_0, lkm_2, lkm_9, lkm_1, lkm_n, if_some1, c_10, c_01, c_x0, c_1x, c_n0, c_nn, List.getElem?_cons_zero, List.getElem?_cons_succ, List.set_cons_zero, List.set_cons_succ, List.length_cons, List.length_nil, Int.reduceToNat, Nat.reduceDiv, Nat.reduceMod, Nat.reduceSub, Nat.reduceAdd, Nat.reduceMul, Nat.reduceLT, Nat.reduceLeDiff, Nat.reduceEqDiff, Int.reduceMod, Int.reduceSub, Int.reduceNeg, Int.reduceAdd, Int.reduceMul, Int.reduceLT, Int.reduceLE, Int.reduceEq, put_ss, if_true, if_false, ite_true, ite_false, reduceIte, eq_self, and_true, true_and, and_false, false_and, or_true, true_or, or_false, false_or, not_true_eq_false, not_false_eq_true, k5_78_1, k6_80, k35_80, n_80, Int.lt_irrefl]
    try rfl
  | succ j ih =>
    intro k N h hN
    obtain ⟨N, rfl⟩ : ∃ n', N = n' + 1 := ⟨N - 1, by omega⟩
    have c1 := ih (k + 1) N (by omega) (by omega)
    have hlt : (k : Int) < 8 := by omega
    have k0 : (k : Int).toNat = k := Int.toNat_natCast k
    have e1 : put (row m 80 (fz E k)) 80 k 0 = row m 80 (fz E (k + 1)) := by rw [row_p, fz_s]
    have ecast : ((k + 1 : Nat) : Int) = (k : Int) + 1 := by omega
    rw [ecast] at c1
    rw [lf_s]
    simp (disch := omega) only [ea_350_0, eb_350_0, ec_350_0, l1_i, l1_1, l1_0, l2_0, l2_1, l2_2, l2_3, l3_0, w2_0, w2_1, w2_2, w2_3, d1_0, d1_1, d1_2, d1_3, d2_i, d2_1, d2_0, ev_0, ev_1, ev_16, ev_17, ev_18, ev_2, ev_3, ev_4, ev_5, ev_6, ev_7, ev_8, ev_9, ev_20, ev_21, ev_22, ev_23, ev_24, ev_25, ev_27, ev_28, ev_30, ev_31, ev_32, ev_33, ev_34, ev_35, ev_36, ev_37, ev_38, ev_39, ev_40, ev_41, ev_42, ev_43, ev_45, ev_46, ev_47, ev_48, ev_49, ev_50, ev_51, ev_52, ev_54, ev_55, ev_57, ev_58, ev_59, k2_0, k2_1, k2_2, k3a, k3b, k4, o1_s, xbin_0, xbin_1, xbin_2, xbin_3, xbin_4, xbin_5, xbin_6, xbin_7, xbin_8, xbin_9, xbin_11, xbin_12, xun_0, xun_1, xun_2, xun_3, xun_4, xun_5, k6a, k8, k8b, k9, k20, k20b_0, k20b_1, k20b_2, k20b_3, k20b_4, k20b_5, k21_0, k21_1, k21_2, k21_3, k21_4, k21_5, k23, k24, k25, k27, k28, k40, nz_1, nz_2, nz_3, k31_0, k31_1, k31_2, k31_3, k32u, k33, k34, k35, k35b, k36, k37, k38, k47, k49, k49b_0, k49b_1, k49b_2, k49b_3, k50_0, k50_s, k51_0, k51_s, k55, k58, k58b, rk_0, rk_1, rk_2, rk_9, rk_3, rk_4, rk_5, sw_n, sw_c, xtb_n, xtb_c, lset_0, lset_2, lset_1, lkm_0, lkm_2, lkm_9, lkm_1, lkm_n, if_some1, c_10, c_01, c_x0, c_1x, c_n0, c_nn, List.getElem?_cons_zero, List.getElem?_cons_succ, List.set_cons_zero, List.set_cons_succ, List.length_cons, List.length_nil, Int.reduceToNat, Nat.reduceDiv, Nat.reduceMod, Nat.reduceSub, Nat.reduceAdd, Nat.reduceMul, Nat.reduceLT, Nat.reduceLeDiff, Nat.reduceEqDiff, Int.reduceMod, Int.reduceSub, Int.reduceNeg, Int.reduceAdd, Int.reduceMul, Int.reduceLT, Int.reduceLE, Int.reduceEq, put_ss, if_true, if_false, ite_true, ite_false, reduceIte, eq_self, and_true, true_and, and_false, false_and, or_true, true_or, or_false, false_or, not_true_eq_false, not_false_eq_true, k5_78_1, k6_80, k35_80, n_80, hlt, k0, w32_of, e1, c1]
    try rfl
theorem C_350_80 (hF : 100000 ≤ F) : Cx F (d + 6) 350 [80, 0] (Hp L xs m) = some ([], Hp L xs (row m 80 (fz (m 80) 8))) := by
  have l0 := fun D => L_350_80 (F := F) (L := L) (xs := xs) (d := D) (m := m) (E := m 80) 8 0 F (by omega) (by omega)
  have ez : ((0 : Nat) : Int) = 0 := rfl
  rw [fz_0, row_id, ez] at l0
  simp (disch := omega) only [c_350, tx_350, ev_0, ev_1, ev_16, ev_17, ev_18, ev_2, ev_3, ev_4, ev_5, ev_6, ev_7, ev_8, ev_9, ev_20, ev_21, ev_22, ev_23, ev_24, ev_25, ev_27, ev_28, ev_30, ev_31, ev_32, ev_33, ev_34, ev_35, ev_36, ev_37, ev_38, ev_39, ev_40, ev_41, ev_42, ev_43, ev_45, ev_46, ev_47, ev_48, ev_49, ev_50, ev_51, ev_52, ev_54, ev_55, ev_57, ev_58, ev_59, k2_0, k2_1, k2_2, k3a, k3b, k4, o1_s, xbin_0, xbin_1, xbin_2, xbin_3, xbin_4, xbin_5, xbin_6, xbin_7, xbin_8, xbin_9, xbin_11, xbin_12, xun_0, xun_1, xun_2, xun_3, xun_4, xun_5, k6a, k8, k8b, k9, k20, k20b_0, k20b_1, k20b_2, k20b_3, k20b_4, k20b_5, k21_0, k21_1, k21_2, k21_3, k21_4, k21_5, k23, k24, k25, k27, k28, k40, nz_1, nz_2, nz_3, k31_0, k31_1, k31_2, k31_3, k32u, k33, k34, k35, k35b, k36, k37, k38, k47, k49, k49b_0, k49b_1, k49b_2, k49b_3, k50_0, k50_s, k51_0, k51_s, k55, k58, k58b, rk_0, rk_1, rk_2, rk_9, rk_3, rk_4, rk_5, sw_n, sw_c, xtb_n, xtb_c, lset_0, lset_2, lset_1, lkm_0, lkm_2, lkm_9, lkm_1, lkm_n, if_some1, c_10, c_01, c_x0, c_1x, c_n0, c_nn, List.getElem?_cons_zero, List.getElem?_cons_succ, List.set_cons_zero, List.set_cons_succ, List.length_cons, List.length_nil, Int.reduceToNat, Nat.reduceDiv, Nat.reduceMod, Nat.reduceSub, Nat.reduceAdd, Nat.reduceMul, Nat.reduceLT, Nat.reduceLeDiff, Nat.reduceEqDiff, Int.reduceMod, Int.reduceSub, Int.reduceNeg, Int.reduceAdd, Int.reduceMul, Int.reduceLT, Int.reduceLE, Int.reduceEq, put_ss, if_true, if_false, ite_true, ite_false, reduceIte, eq_self, and_true, true_and, and_false, false_and, or_true, true_or, or_false, false_or, not_true_eq_false, not_false_eq_true, l1_i, l1_1, l1_0, l2_0, l2_1, l2_2, l2_3, l3_0, w2_0, w2_1, w2_2, w2_3, d1_0, d1_1, d1_2, d1_3, d2_i, d2_1, d2_0, k5_78_1, k6_80, k35_80, n_80, l0]
  try rfl
/-- the memory as a reset fills it -/
def rsw (sz : Int) (w J : Nat → Int) : Nat → Int := fun k => if k < 8192 then (if (k : Int) < sz then w k else 0) else J k
/-- the machine behind a reset -/
def rsm (sz : Int) (w : Nat → Int) (G : Mem) : Mem := put (put (put (put (put (put (put (put (row (row G 79 (rsw sz w (G 79))) 80 (fz (G 80) 8)) 78 2 0) 78 3 0) 78 4 0) 78 5 0) 78 6 0) 78 9 0) 78 11 0) 78 12 0
theorem cpy_79 {A : Nat} {n : Int} (hA : A = 92 ∨ A = 102) (h0 : 0 ≤ n ∧ n ≤ 6000) : xcopy pS (Hp L xs (row m 79 (fz (m 79) 8192))) (A : Int) 0 79 0 n = some (Hp L xs (row m 79 (rsw n (m A) (m 79)))) := by
  have k79 : KK 79 = 0 ∧ LL L 79 = 8192 ∧ (KK A = 0 ∧ LL L A = 6000) ∧ ∀ k, lk (cfL A) k = -1 := by
    rcases hA with rfl | rfl
    · exact ⟨rfl, rfl, ⟨rfl, rfl⟩, fun k => rfl⟩
    · exact ⟨rfl, rfl, ⟨rfl, rfl⟩, fun k => rfl⟩
  obtain ⟨a1, a2, ⟨a3, a4⟩, a5⟩ := k79
  unfold xcopy
  have hc : 0 ≤ (A : Int) ∧ (A : Int) < (Hp L xs (row m 79 (fz (m 79) 8192))).1 ∧ (Hp L xs (row m 79 (fz (m 79) 8192))).2.1 (A : Int).toNat = 0 ∧ pS ≤ (A : Int) ∧ pS ≤ (79 : Int) ∧ (79 : Int) < (Hp L xs (row m 79 (fz (m 79) 8192))).1 ∧ (Hp L xs (row m 79 (fz (m 79) 8192))).2.1 (79 : Int).toNat = 0 ∧ (0 : Int) ≤ 0 ∧ (0 : Int) ≤ 0 ∧ 0 ≤ n ∧ 0 + n ≤ (Hp L xs (row m 79 (fz (m 79) 8192))).2.2.1 (A : Int).toNat ∧ 0 + n ≤ (Hp L xs (row m 79 (fz (m 79) 8192))).2.2.1 (79 : Int).toNat := by
    refine ⟨by omega, ?_, ?_, ?_, ?_, ?_, a1, Int.le_refl 0, Int.le_refl 0, h0.1, ?_, ?_⟩
    · show (A : Int) < 331
      omega
    · rw [Int.toNat_natCast]
      exact a3
    · rcases hA with rfl | rfl <;> decide
    · decide
    · show (79 : Int) < 331
      decide
    · rw [Int.toNat_natCast]
      show 0 + n ≤ ((LL L A : Nat) : Int)
      rw [a4]
      omega
    · show 0 + n ≤ ((LL L 79 : Nat) : Int)
      rw [a2]
      omega
  rw [if_pos hc]
  congr 1
  show hrow (Hp L xs (row m 79 (fz (m 79) 8192))) 79 _ = _
  rw [hrow_H (by decide) (fun k => rfl)]
  congr 1
  funext a k
  unfold row
  by_cases h : a = 79
  · rw [if_pos h, if_pos h]
    have e1 : (Hp L xs (fun a' k' => if a' = 79 then fz (m 79) 8192 k' else m a' k')).2.2.2 (A : Int).toNat ((0 : Int).toNat + (k - (0 : Int).toNat)) = m A k := by
      rw [Int.toNat_natCast, ov_mut (by omega) (a5 _), if_neg (by omega)]
      show m A (0 + (k - 0)) = _
      rw [Nat.zero_add, Nat.sub_zero]
    have e2 : (Hp L xs (fun a' k' => if a' = 79 then fz (m 79) 8192 k' else m a' k')).2.2.2 (79 : Int).toNat k = fz (m 79) 8192 k := by
      show (Hp L xs (fun a' k' => if a' = 79 then fz (m 79) 8192 k' else m a' k')).2.2.2 79 k = _
      rw [ov_mut (by decide) rfl, if_pos rfl]
    show (if (0 : Int).toNat ≤ k ∧ k < (0 : Int).toNat + n.toNat then (Hp L xs (fun a' k' => if a' = 79 then fz (m 79) 8192 k' else m a' k')).2.2.2 (A : Int).toNat ((0 : Int).toNat + (k - (0 : Int).toNat)) else (Hp L xs (fun a' k' => if a' = 79 then fz (m 79) 8192 k' else m a' k')).2.2.2 (79 : Int).toNat k) = _
    rw [e1, e2]
    unfold rsw fz
    have e0 : (0 : Int).toNat = 0 := rfl
    rw [e0]
    by_cases q : (k : Int) < n
    · rw [if_pos (by omega), if_pos (by omega), if_pos q]
    · rw [if_neg (by omega)]
      by_cases q2 : k < 8192
      · rw [if_pos q2, if_pos q2, if_neg q]
      · rw [if_neg q2, if_neg q2]
  · rw [if_neg h, if_neg h, if_neg h]
theorem C_72 (hF : 100000 ≤ F) (hc : cd = 83 ∨ cd = 93) {sz : Int} (hs : m cd 12 = sz) (h0 : 0 ≤ sz ∧ sz ≤ 6000) : Cx F (d + 7) 72 [78, (cd : Int)] (Hp L xs m) = some ([], Hp L xs (rsm sz (m (cd + 9)) m)) := by
  have f1 := C_350_79 (F := F) (L := L) (xs := xs) (d := d) (m := m) hF
  have f2 := C_350_80 (F := F) (L := L) (xs := xs) (d := d) (m := row m 79 (rsw sz (m (cd + 9)) (m 79))) hF
  have i1 := C_344 (F := F) (d := d + 5) (a0 := sz) (a1 := 6000) (h := Hp L xs (row m 79 (fz (m 79) 8192)))
  have i2 := C_343 (F := F) (d := d + 5) (a0 := 0) (a1 := sz) (h := Hp L xs (row m 79 (fz (m 79) 8192)))
  have m1 : imin sz 6000 = sz := by
    unfold imin
    split <;> omega
  have m2 : imax 0 sz = sz := by
    unfold imax
    split <;> omega
  rw [m1] at i1
  rw [m2] at i2
  rcases hc with rfl | rfl
  · have k := cpy_79 (L := L) (xs := xs) (m := m) (A := 92) (Or.inl rfl) h0
    have k2 : xcopy pS (Hp L xs (row m 79 (fz (m 79) 8192))) 92 0 79 0 sz = _ := k
    have hs2 : row m 79 (fz (m 79) 8192) 83 12 = sz := hs
    show Cx F (d + 7) 72 [78, 83] (Hp L xs m) = some ([], Hp L xs (rsm sz (m 92) m))
    simp (disch := omega) only [c_72, tr_72, ev_0, ev_1, ev_16, ev_17, ev_18, ev_2, ev_3, ev_4, ev_5, ev_6, ev_7, ev_8, ev_9, ev_20, ev_21, ev_22, ev_23, ev_24, ev_25, ev_27, ev_28, ev_30, ev_31, ev_32, ev_33, ev_34, ev_35, ev_36, ev_37, ev_38, ev_39, ev_40, ev_41, ev_42, ev_43, ev_45, ev_46, ev_47, ev_48, ev_49, ev_50, ev_51, ev_52, ev_54, ev_55, ev_57, ev_58, ev_59, k2_0, k2_1, k2_2, k3a, k3b, k4, o1_s, xbin_0, xbin_1, xbin_2, xbin_3, xbin_4, xbin_5, xbin_6, xbin_7, xbin_8, xbin_9, xbin_11, xbin_12, xun_0, xun_1, xun_2, xun_3, xun_4, xun_5, k6a, k8, k8b, k9, k20, k20b_0, k20b_1, k20b_2, k20b_3, k20b_4, k20b_5, k21_0, k21_1, k21_2, k21_3, k21_4, k21_5, k23, k24, k25, k27, k28, k40, nz_1, nz_2, nz_3, k31_0, k31_1, k31_2, k31_3, k32u, k33, k34, k35, k35b, k36, k37, k38, k47, k49, k49b_0, k49b_1, k49b_2, k49b_3, k50_0, k50_s, k51_0, k51_s, k55, k58, k58b, rk_0, rk_1, rk_2, rk_9, rk_3, rk_4, rk_5, sw_n, sw_c, xtb_n, xtb_c, lset_0, lset_2, lset_1, lkm_0, lkm_2, lkm_9, lkm_1, lkm_n, if_some1, c_10, c_01, c_x0, c_1x, c_n0, c_nn, List.getElem?_cons_zero, List.getElem?_cons_succ, List.set_cons_zero, List.set_cons_succ, List.length_cons, List.length_nil, Int.reduceToNat, Nat.reduceDiv, Nat.reduceMod, Nat.reduceSub, Nat.reduceAdd, Nat.reduceMul, Nat.reduceLT, Nat.reduceLeDiff, Nat.reduceEqDiff, Int.reduceMod, Int.reduceSub, Int.reduceNeg, Int.reduceAdd, Int.reduceMul, Int.reduceLT, Int.reduceLE, Int.reduceEq, put_ss, if_true, if_false, ite_true, ite_false, reduceIte, eq_self, and_true, true_and, and_false, false_and, or_true, true_or, or_false, false_or, not_true_eq_false, not_false_eq_true, k5_78_0, k6_79, k35_79, n_79, k5_78_1, k6_80, k35_80, n_80, k5_78_2, k34_78_2, k5_78_3, k34_78_3, k5_78_4, k34_78_4, k5_78_5, k34_78_5, k5_78_6, k34_78_6, k5_78_7, k6_81, k35_81, n_81, k5_78_8, k34_78_8, k54_78_8, k54b_78_8_0, k5_78_9, k34_78_9, k54_78_9, k54b_78_9_0, k5_78_10, k6_82, k35_82, n_82, k5_78_11, k34_78_11, k54_78_11, k54b_78_11_0, k5_78_12, k34_78_12, k54_78_12, k54b_78_12_0, k5_78_13, k34_78_13, k54_78_13, k54b_78_13_0, k5_83_12, k34_83_12, k5_83_13, k6_92, k35_92, n_92, f1, k59 k2, hs2, i1, i2, f2]
    rfl
  · have k := cpy_79 (L := L) (xs := xs) (m := m) (A := 102) (Or.inr rfl) h0
    have k2 : xcopy pS (Hp L xs (row m 79 (fz (m 79) 8192))) 102 0 79 0 sz = _ := k
    have hs2 : row m 79 (fz (m 79) 8192) 93 12 = sz := hs
    show Cx F (d + 7) 72 [78, 93] (Hp L xs m) = some ([], Hp L xs (rsm sz (m 102) m))
    simp (disch := omega) only [c_72, tr_72, ev_0, ev_1, ev_16, ev_17, ev_18, ev_2, ev_3, ev_4, ev_5, ev_6, ev_7, ev_8, ev_9, ev_20, ev_21, ev_22, ev_23, ev_24, ev_25, ev_27, ev_28, ev_30, ev_31, ev_32, ev_33, ev_34, ev_35, ev_36, ev_37, ev_38, ev_39, ev_40, ev_41, ev_42, ev_43, ev_45, ev_46, ev_47, ev_48, ev_49, ev_50, ev_51, ev_52, ev_54, ev_55, ev_57, ev_58, ev_59, k2_0, k2_1, k2_2, k3a, k3b, k4, o1_s, xbin_0, xbin_1, xbin_2, xbin_3, xbin_4, xbin_5, xbin_6, xbin_7, xbin_8, xbin_9, xbin_11, xbin_12, xun_0, xun_1, xun_2, xun_3, xun_4, xun_5, k6a, k8, k8b, k9, k20, k20b_0, k20b_1, k20b_2, k20b_3, k20b_4, k20b_5, k21_0, k21_1, k21_2, k21_3, k21_4, k21_5, k23, k24, k25, k27, k28, k40, nz_1, nz_2, nz_3, k31_0, k31_1, k31_2, k31_3, k32u, k33, k34, k35, k35b, k36, k37, k38, k47, k49, k49b_0, k49b_1, k49b_2, k49b_3, k50_0, k50_s, k51_0, k51_s, k55, k58, k58b, rk_0, rk_1, rk_2, rk_9, rk_3, rk_4, rk_5, sw_n, sw_c, xtb_n, xtb_c, lset_0, lset_2, lset_1, lkm_0, lkm_2, lkm_9, lkm_1, lkm_n, if_some1, c_10, c_01, c_x0, c_1x, c_n0, c_nn, List.getElem?_cons_zero, List.getElem?_cons_succ, List.set_cons_zero, List.set_cons_succ, List.length_cons, List.length_nil, Int.reduceToNat, Nat.reduceDiv, Nat.reduceMod, Nat.reduceSub, Nat.reduceAdd, Nat.reduceMul, Nat.reduceLT, Nat.reduceLeDiff, Nat.reduceEqDiff, Int.reduceMod, Int.reduceSub, Int.reduceNeg, Int.reduceAdd, Int.reduceMul, Int.reduceLT, Int.reduceLE, Int.reduceEq, put_ss, if_true, if_false, ite_true, ite_false, reduceIte, eq_self, and_true, true_and, and_false, false_and, or_true, true_or, or_false, false_or, not_true_eq_false, not_false_eq_true, k5_78_0, k6_79, k35_79, n_79, k5_78_1, k6_80, k35_80, n_80, k5_78_2, k34_78_2, k5_78_3, k34_78_3, k5_78_4, k34_78_4, k5_78_5, k34_78_5, k5_78_6, k34_78_6, k5_78_7, k6_81, k35_81, n_81, k5_78_8, k34_78_8, k54_78_8, k54b_78_8_0, k5_78_9, k34_78_9, k54_78_9, k54b_78_9_0, k5_78_10, k6_82, k35_82, n_82, k5_78_11, k34_78_11, k54_78_11, k54b_78_11_0, k5_78_12, k34_78_12, k54_78_12, k54b_78_12_0, k5_78_13, k34_78_13, k54_78_13, k54b_78_13_0, k5_93_12, k34_93_12, k5_93_13, k6_102, k35_102, n_102, f1, k59 k2, hs2, i1, i2, f2]
    rfl
end Rse
