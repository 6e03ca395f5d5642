/-! MANY CLOCKS: the class's advance, the model's clock -/
/-- the processor is well, its counters too -/
def WC (m : Mem) : Prop := WM m ∧ (0 ≤ m 78 12 ∧ m 78 12 ≤ m 78 13) ∧ m 78 11 ≤ m 78 13 ∧ m 78 13 ≤ 1000000
theorem WC_stp {m : Mem} (W : WC m) (h : m 78 13 < 1000000) : WC (stp m) := by
  obtain ⟨W1, W2, W3, W4⟩ := W
  have hW : WM (tik id m) := WM_tik W1 (by omega)
  have e12 : tik id m 78 12 = m 78 12 := tik_f 12 (by omega)
  have e13 : tik id m 78 13 = m 78 13 := tik_f 13 (by omega)
  have eo := tik_o (m := m) (fo := id)
  have s12 : stp m 78 12 = tik id m 78 12 + 1 := rfl
  have s13 : stp m 78 13 = tik id m 78 13 + 1 := rfl
  have s11 : stp m 78 11 = tik id m 78 11 := rfl
  refine ⟨WM_12 (WM_13 hW), ?_, ?_, ?_⟩
  · rw [s12, s13, e12, e13]; omega
  · rw [s11, s13, e13]; omega
  · rw [s13, e13]; omega
section Adv
variable {L : Nat} {xs : Nat → Int32} {m : Mem} {F d : Nat} {q : Int}
theorem adv_le : ∀ (j : Nat) (m : Mem), (adv j m).1 ≤ j
  | 0, _ => Nat.le_refl _
  | j + 1, m => by
    unfold adv
    split
    · exact Nat.zero_le _
    · have := adv_le j (stp m)
      show (adv j (stp m)).1 + 1 ≤ j + 1
      omega
theorem adv_W : ∀ (j : Nat) {m : Mem}, WC m → WC (adv j m).2
  | 0, _, W => W
  | j + 1, m, W => by
    unfold adv
    split
    · exact W
    · rename_i h
      exact adv_W j (WC_stp W (by omega))
theorem L_74 : ∀ (j n : Nat) (m : Mem) (k : Int), WC m → 0 ≤ k → k + j = q → q ≤ 20000 → j < n → LF F (d + 4) la_74_0 lb_74_0 lc_74_0 n ([(2, 78), (0, q), (0, k)], Hp L xs m) = if (adv j m).1 < j then some (3, [k + ((adv j m).1 : Int)], ([(2, 78), (0, q), (0, k + ((adv j m).1 : Int))], Hp L xs (adv j m).2)) else some (0, [], ([(2, 78), (0, q), (0, q)], Hp L xs (adv j m).2)) := by
  intro j
  induction j with
  | zero =>
    intro n m k W hk hq hq2 hn
    obtain ⟨n, rfl⟩ : ∃ n', n = n' + 1 := ⟨n - 1, by omega⟩
    have hkq : ¬ k < q := by omega
    have hkq2 : k = q := by omega
    rw [lf_s]
    simp (disch := omega) only [ea_74_0, eb_74_0, ec_74_0, ev_0, ev_1, ev_16, ev_17, ev_18, ev_2, ev_3, ev_4, ev_5, ev_6, ev_7, ev_8, ev_9, ev_20, ev_21, ev_22, ev_23, ev_24, ev_25, ev_27, ev_28, ev_30, ev_31, ev_32, ev_33, ev_34, ev_35, ev_36, ev_37, ev_38, ev_39, ev_40, ev_41, ev_42, ev_43, ev_45, ev_46, ev_47, ev_48, ev_49, ev_50, ev_51, ev_52, ev_54, ev_55, ev_57, ev_58, ev_59, k2_0, k2_1, k2_2, k3a, k3b, k4, o1_s, xbin_0, xbin_1, xbin_2, xbin_3, xbin_4, xbin_5, xbin_6, xbin_7, xbin_8, xbin_9, xbin_11, xbin_12, xun_0, xun_1, xun_2, xun_3, xun_4, xun_5, k6a, k8, k8b, k9, k20, k20b_0, k20b_1, k20b_2, k20b_3, k20b_4, k20b_5, k21_0, k21_1, k21_2, k21_3, k21_4, k21_5, k23, k24, k25, k27, k28, k40, nz_1, nz_2, nz_3, k31_0, k31_1, k31_2, k31_3, k32u, k33, k34, k35, k35b, k36, k37, k38, k47, k49, k49b_0, k49b_1, k49b_2, k49b_3, k50_0, k50_s, k51_0, k51_s, k55, k58, k58b, rk_0, rk_1, rk_2, rk_9, rk_3, rk_4, rk_5, sw_n, sw_c, xtb_n, xtb_c, lset_0, lset_2, lset_1, lkm_0, lkm_2, lkm_9, lkm_1, lkm_n, if_some1, c_10, c_01, c_x0, c_1x, c_n0, c_nn, List.getElem?_cons_zero, List.getElem?_cons_succ, List.set_cons_zero, List.set_cons_succ, List.length_cons, List.length_nil, Int.reduceToNat, Nat.reduceDiv, Nat.reduceMod, Nat.reduceSub, Nat.reduceAdd, Nat.reduceMul, Nat.reduceLT, Nat.reduceLeDiff, Nat.reduceEqDiff, Int.reduceMod, Int.reduceSub, Int.reduceNeg, Int.reduceAdd, Int.reduceMul, Int.reduceLT, Int.reduceLE, Int.reduceEq, put_ss, if_true, if_false, ite_true, ite_false, reduceIte, eq_self, and_true, true_and, and_false, false_and, or_true, true_or, or_false, false_or, not_true_eq_false, not_false_eq_true, hkq, l1_i, l1_0, adv, Nat.lt_irrefl]
    rw [hkq2]
  | succ j ih =>
    intro n m k W hk hq hq2 hn
    obtain ⟨n, rfl⟩ : ∃ n', n = n' + 1 := ⟨n - 1, by omega⟩
    have hkq : k < q := by omega
    have C3 := C_73 (L := L) (xs := xs) (F := F) (d := d + 3) W.1.2.1
    rw [lf_s]
    unfold adv
    by_cases hs : stopd m
    · rw [if_pos hs]
      have hs' : 1000000 ≤ m 78 13 ∨ m 78 6 = 1 ∧ m 78 3 / 4096 = 15 := hs
      by_cases h13 : 1000000 ≤ m 78 13
      · simp (disch := omega) only [ea_74_0, eb_74_0, ec_74_0, ev_0, ev_1, ev_16, ev_17, ev_18, ev_2, ev_3, ev_4, ev_5, ev_6, ev_7, ev_8, ev_9, ev_20, ev_21, ev_22, ev_23, ev_24, ev_25, ev_27, ev_28, ev_30, ev_31, ev_32, ev_33, ev_34, ev_35, ev_36, ev_37, ev_38, ev_39, ev_40, ev_41, ev_42, ev_43, ev_45, ev_46, ev_47, ev_48, ev_49, ev_50, ev_51, ev_52, ev_54, ev_55, ev_57, ev_58, ev_59, k2_0, k2_1, k2_2, k3a, k3b, k4, o1_s, xbin_0, xbin_1, xbin_2, xbin_3, xbin_4, xbin_5, xbin_6, xbin_7, xbin_8, xbin_9, xbin_11, xbin_12, xun_0, xun_1, xun_2, xun_3, xun_4, xun_5, k6a, k8, k8b, k9, k20, k20b_0, k20b_1, k20b_2, k20b_3, k20b_4, k20b_5, k21_0, k21_1, k21_2, k21_3, k21_4, k21_5, k23, k24, k25, k27, k28, k40, nz_1, nz_2, nz_3, k31_0, k31_1, k31_2, k31_3, k32u, k33, k34, k35, k35b, k36, k37, k38, k47, k49, k49b_0, k49b_1, k49b_2, k49b_3, k50_0, k50_s, k51_0, k51_s, k55, k58, k58b, rk_0, rk_1, rk_2, rk_9, rk_3, rk_4, rk_5, sw_n, sw_c, xtb_n, xtb_c, lset_0, lset_2, lset_1, lkm_0, lkm_2, lkm_9, lkm_1, lkm_n, if_some1, c_10, c_01, c_x0, c_1x, c_n0, c_nn, List.getElem?_cons_zero, List.getElem?_cons_succ, List.set_cons_zero, List.set_cons_succ, List.length_cons, List.length_nil, Int.reduceToNat, Nat.reduceDiv, Nat.reduceMod, Nat.reduceSub, Nat.reduceAdd, Nat.reduceMul, Nat.reduceLT, Nat.reduceLeDiff, Nat.reduceEqDiff, Int.reduceMod, Int.reduceSub, Int.reduceNeg, Int.reduceAdd, Int.reduceMul, Int.reduceLT, Int.reduceLE, Int.reduceEq, put_ss, if_true, if_false, ite_true, ite_false, reduceIte, eq_self, and_true, true_and, and_false, false_and, or_true, true_or, or_false, false_or, not_true_eq_false, not_false_eq_true, hkq, l1_i, l1_1, l1_0, l2_0, l2_1, l2_2, l2_3, l3_0, w2_0, w2_1, w2_2, w2_3, d1_0, d1_1, d1_2, d1_3, d2_i, d2_1, d2_0, C3, k5_78_0, k6_79, k35_79, n_79, k5_78_1, k6_80, k35_80, n_80, k5_78_2, k34_78_2, k5_78_3, k34_78_3, k5_78_4, k34_78_4, k5_78_5, k34_78_5, k5_78_6, k34_78_6, k5_78_7, k6_81, k35_81, n_81, k5_78_8, k34_78_8, k54_78_8, k54b_78_8_0, k5_78_9, k34_78_9, k54_78_9, k54b_78_9_0, k5_78_10, k6_82, k35_82, n_82, k5_78_11, k34_78_11, k54_78_11, k54b_78_11_0, k5_78_12, k34_78_12, k54_78_12, k54b_78_12_0, k5_78_13, k34_78_13, k54_78_13, k54b_78_13_0, h13, Int.natCast_zero, Int.add_zero, Nat.zero_lt_succ]
      · have hh : m 78 6 = 1 ∧ m 78 3 / 4096 = 15 := hs'.resolve_left h13
        simp (disch := omega) only [ea_74_0, eb_74_0, ec_74_0, ev_0, ev_1, ev_16, ev_17, ev_18, ev_2, ev_3, ev_4, ev_5, ev_6, ev_7, ev_8, ev_9, ev_20, ev_21, ev_22, ev_23, ev_24, ev_25, ev_27, ev_28, ev_30, ev_31, ev_32, ev_33, ev_34, ev_35, ev_36, ev_37, ev_38, ev_39, ev_40, ev_41, ev_42, ev_43, ev_45, ev_46, ev_47, ev_48, ev_49, ev_50, ev_51, ev_52, ev_54, ev_55, ev_57, ev_58, ev_59, k2_0, k2_1, k2_2, k3a, k3b, k4, o1_s, xbin_0, xbin_1, xbin_2, xbin_3, xbin_4, xbin_5, xbin_6, xbin_7, xbin_8, xbin_9, xbin_11, xbin_12, xun_0, xun_1, xun_2, xun_3, xun_4, xun_5, k6a, k8, k8b, k9, k20, k20b_0, k20b_1, k20b_2, k20b_3, k20b_4, k20b_5, k21_0, k21_1, k21_2, k21_3, k21_4, k21_5, k23, k24, k25, k27, k28, k40, nz_1, nz_2, nz_3, k31_0, k31_1, k31_2, k31_3, k32u, k33, k34, k35, k35b, k36, k37, k38, k47, k49, k49b_0, k49b_1, k49b_2, k49b_3, k50_0, k50_s, k51_0, k51_s, k55, k58, k58b, rk_0, rk_1, rk_2, rk_9, rk_3, rk_4, rk_5, sw_n, sw_c, xtb_n, xtb_c, lset_0, lset_2, lset_1, lkm_0, lkm_2, lkm_9, lkm_1, lkm_n, if_some1, c_10, c_01, c_x0, c_1x, c_n0, c_nn, List.getElem?_cons_zero, List.getElem?_cons_succ, List.set_cons_zero, List.set_cons_succ, List.length_cons, List.length_nil, Int.reduceToNat, Nat.reduceDiv, Nat.reduceMod, Nat.reduceSub, Nat.reduceAdd, Nat.reduceMul, Nat.reduceLT, Nat.reduceLeDiff, Nat.reduceEqDiff, Int.reduceMod, Int.reduceSub, Int.reduceNeg, Int.reduceAdd, Int.reduceMul, Int.reduceLT, Int.reduceLE, Int.reduceEq, put_ss, if_true, if_false, ite_true, ite_false, reduceIte, eq_self, and_true, true_and, and_false, false_and, or_true, true_or, or_false, false_or, not_true_eq_false, not_false_eq_true, hkq, l1_i, l1_1, l1_0, l2_0, l2_1, l2_2, l2_3, l3_0, w2_0, w2_1, w2_2, w2_3, d1_0, d1_1, d1_2, d1_3, d2_i, d2_1, d2_0, C3, k5_78_0, k6_79, k35_79, n_79, k5_78_1, k6_80, k35_80, n_80, k5_78_2, k34_78_2, k5_78_3, k34_78_3, k5_78_4, k34_78_4, k5_78_5, k34_78_5, k5_78_6, k34_78_6, k5_78_7, k6_81, k35_81, n_81, k5_78_8, k34_78_8, k54_78_8, k54b_78_8_0, k5_78_9, k34_78_9, k54_78_9, k54b_78_9_0, k5_78_10, k6_82, k35_82, n_82, k5_78_11, k34_78_11, k54_78_11, k54b_78_11_0, k5_78_12, k34_78_12, k54_78_12, k54b_78_12_0, k5_78_13, k34_78_13, k54_78_13, k54b_78_13_0, h13, hh, Int.natCast_zero, Int.add_zero, Nat.zero_lt_succ]
    · rw [if_neg hs]
      have h13 : ¬ 1000000 ≤ m 78 13 := fun z => hs (Or.inl z)
      have hh : ¬ (m 78 6 = 1 ∧ m 78 3 / 4096 = 15) := fun z => hs (Or.inr z)
      have C6 := C_76 (L := L) (xs := xs) (F := F) (d := d) W.1
      have e12 : tik id m 78 12 = m 78 12 := tik_f 12 (by omega)
      have e13 : tik id m 78 13 = m 78 13 := tik_f 13 (by omega)
      have hst : put (put (tik id m) 78 13 (m 78 13 + 1)) 78 12 (m 78 12 + 1) = stp m := by
        unfold stp cnt
        rw [e12, e13]
      have IH := ih n (stp m) (k + 1) (WC_stp W (by omega)) (by omega) (by omega) hq2 (by omega)
      have w := W.2
      simp (disch := omega) only [ea_74_0, eb_74_0, ec_74_0, ev_0, ev_1, ev_16, ev_17, ev_18, ev_2, ev_3, ev_4, ev_5, ev_6, ev_7, ev_8, ev_9, ev_20, ev_21, ev_22, ev_23, ev_24, ev_25, ev_27, ev_28, ev_30, ev_31, ev_32, ev_33, ev_34, ev_35, ev_36, ev_37, ev_38, ev_39, ev_40, ev_41, ev_42, ev_43, ev_45, ev_46, ev_47, ev_48, ev_49, ev_50, ev_51, ev_52, ev_54, ev_55, ev_57, ev_58, ev_59, k2_0, k2_1, k2_2, k3a, k3b, k4, o1_s, xbin_0, xbin_1, xbin_2, xbin_3, xbin_4, xbin_5, xbin_6, xbin_7, xbin_8, xbin_9, xbin_11, xbin_12, xun_0, xun_1, xun_2, xun_3, xun_4, xun_5, k6a, k8, k8b, k9, k20, k20b_0, k20b_1, k20b_2, k20b_3, k20b_4, k20b_5, k21_0, k21_1, k21_2, k21_3, k21_4, k21_5, k23, k24, k25, k27, k28, k40, nz_1, nz_2, nz_3, k31_0, k31_1, k31_2, k31_3, k32u, k33, k34, k35, k35b, k36, k37, k38, k47, k49, k49b_0, k49b_1, k49b_2, k49b_3, k50_0, k50_s, k51_0, k51_s, k55, k58, k58b, rk_0, rk_1, rk_2, rk_9, rk_3, rk_4, rk_5, sw_n, sw_c, xtb_n, xtb_c, lset_0, lset_2, lset_1, lkm_0, lkm_2, lkm_9, lkm_1, lkm_n, if_some1, c_10, c_01, c_x0, c_1x, c_n0, c_nn, List.getElem?_cons_zero, List.getElem?_cons_succ, List.set_cons_zero, List.set_cons_succ, List.length_cons, List.length_nil, Int.reduceToNat, Nat.reduceDiv, Nat.reduceMod, Nat.reduceSub, Nat.reduceAdd, Nat.reduceMul, Nat.reduceLT, Nat.reduceLeDiff, Nat.reduceEqDiff, Int.reduceMod, Int.reduceSub, Int.reduceNeg, Int.reduceAdd, Int.reduceMul, Int.reduceLT, Int.reduceLE, Int.reduceEq, put_ss, if_true, if_false, ite_true, ite_false, reduceIte, eq_self, and_true, true_and, and_false, false_and, or_true, true_or, or_false, false_or, not_true_eq_false, not_false_eq_true, hkq, l1_i, l1_1, l1_0, l2_0, l2_1, l2_2, l2_3, l3_0, w2_0, w2_1, w2_2, w2_3, d1_0, d1_1, d1_2, d1_3, d2_i, d2_1, d2_0, C3, C6, k5_78_0, k6_79, k35_79, n_79, k5_78_1, k6_80, k35_80, n_80, k5_78_2, k34_78_2, k5_78_3, k34_78_3, k5_78_4, k34_78_4, k5_78_5, k34_78_5, k5_78_6, k34_78_6, k5_78_7, k6_81, k35_81, n_81, k5_78_8, k34_78_8, k54_78_8, k54b_78_8_0, k5_78_9, k34_78_9, k54_78_9, k54b_78_9_0, k5_78_10, k6_82, k35_82, n_82, k5_78_11, k34_78_11, k54_78_11, k54b_78_11_0, k5_78_12, k34_78_12, k54_78_12, k54b_78_12_0, k5_78_13, k34_78_13, k54_78_13, k54b_78_13_0, h13, hh, e12, e13, w32_of, hst]
      rw [IH]
      have c1 : ((adv j (stp m)).1 + 1 < j + 1) = ((adv j (stp m)).1 < j) := propext (by omega)
      have c2 : k + 1 + ((adv j (stp m)).1 : Int) = k + (((adv j (stp m)).1 + 1 : Nat) : Int) := by omega
      simp only [c1, c2]
theorem C_74 (W : WC m) (h0 : 0 ≤ q) (h1 : q ≤ 20000) (hF : 100000 ≤ F) : Cx F (d + 5) 74 [78, q] (Hp L xs m) = some ([((adv q.toNat m).1 : Int)], Hp L xs (adv q.toNat m).2) := by
  have H := L_74 (L := L) (xs := xs) (F := F) (d := d) (q := q) q.toNat F m 0 W (by omega) (by omega) h1 (by omega)
  have hle := adv_le q.toNat m
  by_cases hc : (adv q.toNat m).1 < q.toNat
  · rw [if_pos hc] at H
    simp only [c_74, tx_74, ev_0, ev_1, ev_16, ev_17, ev_18, ev_2, ev_3, ev_4, ev_5, ev_6, ev_7, ev_8, ev_9, ev_20, ev_21, ev_22, ev_23, ev_24, ev_25, ev_27, ev_28, ev_30, ev_31, ev_32, ev_33, ev_34, ev_35, ev_36, ev_37, ev_38, ev_39, ev_40, ev_41, ev_42, ev_43, ev_45, ev_46, ev_47, ev_48, ev_49, ev_50, ev_51, ev_52, ev_54, ev_55, ev_57, ev_58, ev_59, k2_0, k2_1, k2_2, k3a, k3b, k4, o1_s, xbin_0, xbin_1, xbin_2, xbin_3, xbin_4, xbin_5, xbin_6, xbin_7, xbin_8, xbin_9, xbin_11, xbin_12, xun_0, xun_1, xun_2, xun_3, xun_4, xun_5, k6a, k8, k8b, k9, k20, k20b_0, k20b_1, k20b_2, k20b_3, k20b_4, k20b_5, k21_0, k21_1, k21_2, k21_3, k21_4, k21_5, k23, k24, k25, k27, k28, k40, nz_1, nz_2, nz_3, k31_0, k31_1, k31_2, k31_3, k32u, k33, k34, k35, k35b, k36, k37, k38, k47, k49, k49b_0, k49b_1, k49b_2, k49b_3, k50_0, k50_s, k51_0, k51_s, k55, k58, k58b, rk_0, rk_1, rk_2, rk_9, rk_3, rk_4, rk_5, sw_n, sw_c, xtb_n, xtb_c, lset_0, lset_2, lset_1, lkm_0, lkm_2, lkm_9, lkm_1, lkm_n, if_some1, c_10, c_01, c_x0, c_1x, c_n0, c_nn, List.getElem?_cons_zero, List.getElem?_cons_succ, List.set_cons_zero, List.set_cons_succ, List.length_cons, List.length_nil, Int.reduceToNat, Nat.reduceDiv, Nat.reduceMod, Nat.reduceSub, Nat.reduceAdd, Nat.reduceMul, Nat.reduceLT, Nat.reduceLeDiff, Nat.reduceEqDiff, Int.reduceMod, Int.reduceSub, Int.reduceNeg, Int.reduceAdd, Int.reduceMul, Int.reduceLT, Int.reduceLE, Int.reduceEq, put_ss, if_true, if_false, ite_true, ite_false, reduceIte, eq_self, and_true, true_and, and_false, false_and, or_true, true_or, or_false, false_or, not_true_eq_false, not_false_eq_true, H, Int.zero_add]
  · rw [if_neg hc] at H
    have : ((adv q.toNat m).1 : Int) = q := by omega
    simp only [c_74, tx_74, ev_0, ev_1, ev_16, ev_17, ev_18, ev_2, ev_3, ev_4, ev_5, ev_6, ev_7, ev_8, ev_9, ev_20, ev_21, ev_22, ev_23, ev_24, ev_25, ev_27, ev_28, ev_30, ev_31, ev_32, ev_33, ev_34, ev_35, ev_36, ev_37, ev_38, ev_39, ev_40, ev_41, ev_42, ev_43, ev_45, ev_46, ev_47, ev_48, ev_49, ev_50, ev_51, ev_52, ev_54, ev_55, ev_57, ev_58, ev_59, k2_0, k2_1, k2_2, k3a, k3b, k4, o1_s, xbin_0, xbin_1, xbin_2, xbin_3, xbin_4, xbin_5, xbin_6, xbin_7, xbin_8, xbin_9, xbin_11, xbin_12, xun_0, xun_1, xun_2, xun_3, xun_4, xun_5, k6a, k8, k8b, k9, k20, k20b_0, k20b_1, k20b_2, k20b_3, k20b_4, k20b_5, k21_0, k21_1, k21_2, k21_3, k21_4, k21_5, k23, k24, k25, k27, k28, k40, nz_1, nz_2, nz_3, k31_0, k31_1, k31_2, k31_3, k32u, k33, k34, k35, k35b, k36, k37, k38, k47, k49, k49b_0, k49b_1, k49b_2, k49b_3, k50_0, k50_s, k51_0, k51_s, k55, k58, k58b, rk_0, rk_1, rk_2, rk_9, rk_3, rk_4, rk_5, sw_n, sw_c, xtb_n, xtb_c, lset_0, lset_2, lset_1, lkm_0, lkm_2, lkm_9, lkm_1, lkm_n, if_some1, c_10, c_01, c_x0, c_1x, c_n0, c_nn, List.getElem?_cons_zero, List.getElem?_cons_succ, List.set_cons_zero, List.set_cons_succ, List.length_cons, List.length_nil, Int.reduceToNat, Nat.reduceDiv, Nat.reduceMod, Nat.reduceSub, Nat.reduceAdd, Nat.reduceMul, Nat.reduceLT, Nat.reduceLeDiff, Nat.reduceEqDiff, Int.reduceMod, Int.reduceSub, Int.reduceNeg, Int.reduceAdd, Int.reduceMul, Int.reduceLT, Int.reduceLE, Int.reduceEq, put_ss, if_true, if_false, ite_true, ite_false, reduceIte, eq_self, and_true, true_and, and_false, false_and, or_true, true_or, or_false, false_or, not_true_eq_false, not_false_eq_true, H, this]
end Adv
