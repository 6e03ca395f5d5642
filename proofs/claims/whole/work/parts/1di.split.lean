/-! THE MODEL'S TEXT, split whole -/
section SplitW
variable {F L d : Nat} {m : Mem} {xs : Nat → Int32} {n : Int} {b : Nat → Int} {h : xH} {a0 a1 c p : Int}
theorem E_206 {w : Nat × Int} {N : Nat} (hN : 0 < N) : LF F d la_206_0 lb_206_0 lc_206_0 N ([(2, 158), (0, -1), w], Hp L xs m) = some (0, [], ([(2, 158), (0, -1), w], Hp L xs m)) := by
  obtain ⟨N, rfl⟩ : ∃ n', N = n' + 1 := ⟨N - 1, by omega⟩
  rw [lf_s]
  simp (disch := first | omega | assumption) only [ea_206_0, eb_206_0, ec_206_0, l1_i, l1_1, l1_0, l2_0, l2_1, l2_2, l2_3, l3_0, w2_0, w2_1, w2_2, w2_3, d1_0, d1_1, d1_2, d1_3, d2_i, d2_1, d2_0, ev_0, ev_1, ev_16, ev_17, ev_18, ev_2, ev_3, ev_4, ev_5, ev_6, ev_7, ev_8, ev_9, ev_20, ev_21, ev_22, ev_23, ev_24, ev_25, ev_27, ev_28, ev_30, ev_31, ev_32, ev_33, ev_34, ev_35, ev_36, ev_37, ev_38, ev_39, ev_40, ev_41, ev_42, ev_43, ev_45, ev_46, ev_47, ev_48, ev_49, ev_50, ev_51, ev_52, ev_54, ev_55, ev_57, ev_58, ev_59, k2_0, k2_1, k2_2, k3a, k3b, k4, o1_s, xbin_0, xbin_1, xbin_2, xbin_3, xbin_4, xbin_5, xbin_6, xbin_7, xbin_8, xbin_9, xbin_11, xbin_12, xun_0, xun_1, xun_2, xun_3, xun_4, xun_5, k6a, k8, k8b, k9, k20, k20b_0, k20b_1, k20b_2, k20b_3, k20b_4, k20b_5, k21_0, k21_1, k21_2, k21_3, k21_4, k21_5, k23, k24, k25, k27, k28, k40, nz_1, nz_2, nz_3, k31_0, k31_1, k31_2, k31_3, k32u, k33, k34, k35, k35b, k36, k37, k38, k47, k49, k49b_0, k49b_1, k49b_2, k49b_3, k50_0, k50_s, k51_0, k51_s, k55, k58, k58b, rk_0, rk_1, rk_2, rk_9, rk_3, rk_4, rk_5, sw_n, sw_c, xtb_n, xtb_c, lset_0, lset_2, lset_1, lkm_0, lkm_2, lkm_9, lkm_1, lkm_n, if_some1, c_10, c_01, c_x0, c_1x, c_n0, c_nn, List.getElem?_cons_zero, List.getElem?_cons_succ, List.set_cons_zero, List.set_cons_succ, List.length_cons, List.length_nil, Int.reduceToNat, Nat.reduceDiv, Nat.reduceMod, Nat.reduceSub, Nat.reduceAdd, Nat.reduceMul, Nat.reduceLT, Nat.reduceLeDiff, Nat.reduceEqDiff, Int.reduceMod, Int.reduceSub, Int.reduceNeg, Int.reduceAdd, Int.reduceMul, Int.reduceLT, Int.reduceLE, Int.reduceEq, put_ss, if_true, if_false, ite_true, ite_false, reduceIte, eq_self, and_true, true_and, and_false, false_and, or_true, true_or, or_false, false_or, not_true_eq_false, not_false_eq_true]
/-- one step of the model's loop at a token -/
theorem T_206 (hF : 100000 ≤ F) (Y : YM m b n) (hK : KYm m) (h0 : 0 ≤ p) (hp : p < n) (g0 : 0 ≤ m 158 4) (g1 : m 158 4 ≤ 3000) (q1 : bt b n p ≠ 9) (q2 : bt b n p ≠ 10) (q3 : bt b n p ≠ 13) (q4 : bt b n p ≠ 32) (q5 : bt b n p ≠ 35) {w : Nat × Int} {N : Nat} : ∃ w', LF F (d + 3) la_206_0 lb_206_0 lc_206_0 (N + 1) ([(2, 158), (0, p), w], Hp L xs m) = LF F (d + 3) la_206_0 lb_206_0 lc_206_0 N ([(2, 158), (0, (tok b n p).2.2.2), w'], Hp L xs (aM m (tok b n p).1 (tok b n p).2.1 (tok b n p).2.2.1)) := by
  obtain ⟨y1, y2, y3, y4⟩ := Y
  have Y : YM m b n := ⟨y1, y2, y3, y4⟩
  obtain ⟨b1, b2, b3, b4⟩ := YM_b Y (p := p) h0 hp
  refine ⟨(0, bt b n p), ?_⟩
  by_cases hl : lt1 (bt b n p)
  · have c1 := M_200t (F := F) (d := d + 2) (h := Hp L xs m) hl
    have c2 := M_204 (F := F) (L := L) (xs := xs) (d := d) hF Y hK h0 hp hl g0 g1
    rw [lf_s]
    simp (disch := first | omega | assumption) only [ea_206_0, eb_206_0, ec_206_0, l1_i, l1_1, l1_0, l2_0, l2_1, l2_2, l2_3, l3_0, w2_0, w2_1, w2_2, w2_3, d1_0, d1_1, d1_2, d1_3, d2_i, d2_1, d2_0, ev_0, ev_1, ev_16, ev_17, ev_18, ev_2, ev_3, ev_4, ev_5, ev_6, ev_7, ev_8, ev_9, ev_20, ev_21, ev_22, ev_23, ev_24, ev_25, ev_27, ev_28, ev_30, ev_31, ev_32, ev_33, ev_34, ev_35, ev_36, ev_37, ev_38, ev_39, ev_40, ev_41, ev_42, ev_43, ev_45, ev_46, ev_47, ev_48, ev_49, ev_50, ev_51, ev_52, ev_54, ev_55, ev_57, ev_58, ev_59, k2_0, k2_1, k2_2, k3a, k3b, k4, o1_s, xbin_0, xbin_1, xbin_2, xbin_3, xbin_4, xbin_5, xbin_6, xbin_7, xbin_8, xbin_9, xbin_11, xbin_12, xun_0, xun_1, xun_2, xun_3, xun_4, xun_5, k6a, k8, k8b, k9, k20, k20b_0, k20b_1, k20b_2, k20b_3, k20b_4, k20b_5, k21_0, k21_1, k21_2, k21_3, k21_4, k21_5, k23, k24, k25, k27, k28, k40, nz_1, nz_2, nz_3, k31_0, k31_1, k31_2, k31_3, k32u, k33, k34, k35, k35b, k36, k37, k38, k47, k49, k49b_0, k49b_1, k49b_2, k49b_3, k50_0, k50_s, k51_0, k51_s, k55, k58, k58b, rk_0, rk_1, rk_2, rk_9, rk_3, rk_4, rk_5, sw_n, sw_c, xtb_n, xtb_c, lset_0, lset_2, lset_1, lkm_0, lkm_2, lkm_9, lkm_1, lkm_n, if_some1, c_10, c_01, c_x0, c_1x, c_n0, c_nn, List.getElem?_cons_zero, List.getElem?_cons_succ, List.set_cons_zero, List.set_cons_succ, List.length_cons, List.length_nil, Int.reduceToNat, Nat.reduceDiv, Nat.reduceMod, Nat.reduceSub, Nat.reduceAdd, Nat.reduceMul, Nat.reduceLT, Nat.reduceLeDiff, Nat.reduceEqDiff, Int.reduceMod, Int.reduceSub, Int.reduceNeg, Int.reduceAdd, Int.reduceMul, Int.reduceLT, Int.reduceLE, Int.reduceEq, put_ss, if_true, if_false, ite_true, ite_false, reduceIte, eq_self, and_true, true_and, and_false, false_and, or_true, true_or, or_false, false_or, not_true_eq_false, not_false_eq_true, k5_158_3, k34_158_3, k5_158_2, k6_160, k35_160, n_160, y1, hp, h0, b4, q1, q2, q3, q4, q5, c1, c2]
  · have c1 := M_200f (F := F) (d := d + 2) (h := Hp L xs m) hl
    by_cases hd1 : dg1 (bt b n p)
    · have c3 := M_201t (F := F) (d := d + 2) (h := Hp L xs m) hd1
      have c2 := M_205 (F := F) (L := L) (xs := xs) (d := d + 1) hF Y h0 hp hl hd1 g0 g1
      rw [lf_s]
      simp (disch := first | omega | assumption) only [ea_206_0, eb_206_0, ec_206_0, l1_i, l1_1, l1_0, l2_0, l2_1, l2_2, l2_3, l3_0, w2_0, w2_1, w2_2, w2_3, d1_0, d1_1, d1_2, d1_3, d2_i, d2_1, d2_0, ev_0, ev_1, ev_16, ev_17, ev_18, ev_2, ev_3, ev_4, ev_5, ev_6, ev_7, ev_8, ev_9, ev_20, ev_21, ev_22, ev_23, ev_24, ev_25, ev_27, ev_28, ev_30, ev_31, ev_32, ev_33, ev_34, ev_35, ev_36, ev_37, ev_38, ev_39, ev_40, ev_41, ev_42, ev_43, ev_45, ev_46, ev_47, ev_48, ev_49, ev_50, ev_51, ev_52, ev_54, ev_55, ev_57, ev_58, ev_59, k2_0, k2_1, k2_2, k3a, k3b, k4, o1_s, xbin_0, xbin_1, xbin_2, xbin_3, xbin_4, xbin_5, xbin_6, xbin_7, xbin_8, xbin_9, xbin_11, xbin_12, xun_0, xun_1, xun_2, xun_3, xun_4, xun_5, k6a, k8, k8b, k9, k20, k20b_0, k20b_1, k20b_2, k20b_3, k20b_4, k20b_5, k21_0, k21_1, k21_2, k21_3, k21_4, k21_5, k23, k24, k25, k27, k28, k40, nz_1, nz_2, nz_3, k31_0, k31_1, k31_2, k31_3, k32u, k33, k34, k35, k35b, k36, k37, k38, k47, k49, k49b_0, k49b_1, k49b_2, k49b_3, k50_0, k50_s, k51_0, k51_s, k55, k58, k58b, rk_0, rk_1, rk_2, rk_9, rk_3, rk_4, rk_5, sw_n, sw_c, xtb_n, xtb_c, lset_0, lset_2, lset_1, lkm_0, lkm_2, lkm_9, lkm_1, lkm_n, if_some1, c_10, c_01, c_x0, c_1x, c_n0, c_nn, List.getElem?_cons_zero, List.getElem?_cons_succ, List.set_cons_zero, List.set_cons_succ, List.length_cons, List.length_nil, Int.reduceToNat, Nat.reduceDiv, Nat.reduceMod, Nat.reduceSub, Nat.reduceAdd, Nat.reduceMul, Nat.reduceLT, Nat.reduceLeDiff, Nat.reduceEqDiff, Int.reduceMod, Int.reduceSub, Int.reduceNeg, Int.reduceAdd, Int.reduceMul, Int.reduceLT, Int.reduceLE, Int.reduceEq, put_ss, if_true, if_false, ite_true, ite_false, reduceIte, eq_self, and_true, true_and, and_false, false_and, or_true, true_or, or_false, false_or, not_true_eq_false, not_false_eq_true, k5_158_3, k34_158_3, k5_158_2, k6_160, k35_160, n_160, y1, hp, h0, b4, q1, q2, q3, q4, q5, c1, c2, c3]
    · have c3 := M_201f (F := F) (d := d + 2) (h := Hp L xs m) hd1
      have c4 := M_202 (F := F) (L := L) (xs := xs) (d := d + 2) (a1 := p + 1) Y (by omega)
      unfold tok
      rw [if_neg hl, if_neg hd1]
      by_cases ht : tw1 (bt b n p) ∧ bt b n (p + 1) = 61
      · rw [if_pos ht]
        obtain ⟨ht, hu⟩ := ht
        rcases ht with ht | ht | ht | ht
        · have c5 := M_203 (F := F) (L := L) (xs := xs) (d := d + 2) (m := m) (k := 4) (p := p) (v := 300) g0 g1
          rw [ht] at c1 c3 b4 ⊢
          rw [hu] at c4
          rw [lf_s]
          simp (disch := first | omega | assumption) only [ea_206_0, eb_206_0, ec_206_0, l1_i, l1_1, l1_0, l2_0, l2_1, l2_2, l2_3, l3_0, w2_0, w2_1, w2_2, w2_3, d1_0, d1_1, d1_2, d1_3, d2_i, d2_1, d2_0, ev_0, ev_1, ev_16, ev_17, ev_18, ev_2, ev_3, ev_4, ev_5, ev_6, ev_7, ev_8, ev_9, ev_20, ev_21, ev_22, ev_23, ev_24, ev_25, ev_27, ev_28, ev_30, ev_31, ev_32, ev_33, ev_34, ev_35, ev_36, ev_37, ev_38, ev_39, ev_40, ev_41, ev_42, ev_43, ev_45, ev_46, ev_47, ev_48, ev_49, ev_50, ev_51, ev_52, ev_54, ev_55, ev_57, ev_58, ev_59, k2_0, k2_1, k2_2, k3a, k3b, k4, o1_s, xbin_0, xbin_1, xbin_2, xbin_3, xbin_4, xbin_5, xbin_6, xbin_7, xbin_8, xbin_9, xbin_11, xbin_12, xun_0, xun_1, xun_2, xun_3, xun_4, xun_5, k6a, k8, k8b, k9, k20, k20b_0, k20b_1, k20b_2, k20b_3, k20b_4, k20b_5, k21_0, k21_1, k21_2, k21_3, k21_4, k21_5, k23, k24, k25, k27, k28, k40, nz_1, nz_2, nz_3, k31_0, k31_1, k31_2, k31_3, k32u, k33, k34, k35, k35b, k36, k37, k38, k47, k49, k49b_0, k49b_1, k49b_2, k49b_3, k50_0, k50_s, k51_0, k51_s, k55, k58, k58b, rk_0, rk_1, rk_2, rk_9, rk_3, rk_4, rk_5, sw_n, sw_c, xtb_n, xtb_c, lset_0, lset_2, lset_1, lkm_0, lkm_2, lkm_9, lkm_1, lkm_n, if_some1, c_10, c_01, c_x0, c_1x, c_n0, c_nn, List.getElem?_cons_zero, List.getElem?_cons_succ, List.set_cons_zero, List.set_cons_succ, List.length_cons, List.length_nil, Int.reduceToNat, Nat.reduceDiv, Nat.reduceMod, Nat.reduceSub, Nat.reduceAdd, Nat.reduceMul, Nat.reduceLT, Nat.reduceLeDiff, Nat.reduceEqDiff, Int.reduceMod, Int.reduceSub, Int.reduceNeg, Int.reduceAdd, Int.reduceMul, Int.reduceLT, Int.reduceLE, Int.reduceEq, put_ss, if_true, if_false, ite_true, ite_false, reduceIte, eq_self, and_true, true_and, and_false, false_and, or_true, true_or, or_false, false_or, not_true_eq_false, not_false_eq_true, k5_158_3, k34_158_3, k5_158_2, k6_160, k35_160, n_160, y1, hp, h0, b4, c1, c3, c4, c5, w32_of]
        · have c5 := M_203 (F := F) (L := L) (xs := xs) (d := d + 2) (m := m) (k := 4) (p := p) (v := 301) g0 g1
          rw [ht] at c1 c3 b4 ⊢
          rw [hu] at c4
          rw [lf_s]
          simp (disch := first | omega | assumption) only [ea_206_0, eb_206_0, ec_206_0, l1_i, l1_1, l1_0, l2_0, l2_1, l2_2, l2_3, l3_0, w2_0, w2_1, w2_2, w2_3, d1_0, d1_1, d1_2, d1_3, d2_i, d2_1, d2_0, ev_0, ev_1, ev_16, ev_17, ev_18, ev_2, ev_3, ev_4, ev_5, ev_6, ev_7, ev_8, ev_9, ev_20, ev_21, ev_22, ev_23, ev_24, ev_25, ev_27, ev_28, ev_30, ev_31, ev_32, ev_33, ev_34, ev_35, ev_36, ev_37, ev_38, ev_39, ev_40, ev_41, ev_42, ev_43, ev_45, ev_46, ev_47, ev_48, ev_49, ev_50, ev_51, ev_52, ev_54, ev_55, ev_57, ev_58, ev_59, k2_0, k2_1, k2_2, k3a, k3b, k4, o1_s, xbin_0, xbin_1, xbin_2, xbin_3, xbin_4, xbin_5, xbin_6, xbin_7, xbin_8, xbin_9, xbin_11, xbin_12, xun_0, xun_1, xun_2, xun_3, xun_4, xun_5, k6a, k8, k8b, k9, k20, k20b_0, k20b_1, k20b_2, k20b_3, k20b_4, k20b_5, k21_0, k21_1, k21_2, k21_3, k21_4, k21_5, k23, k24, k25, k27, k28, k40, nz_1, nz_2, nz_3, k31_0, k31_1, k31_2, k31_3, k32u, k33, k34, k35, k35b, k36, k37, k38, k47, k49, k49b_0, k49b_1, k49b_2, k49b_3, k50_0, k50_s, k51_0, k51_s, k55, k58, k58b, rk_0, rk_1, rk_2, rk_9, rk_3, rk_4, rk_5, sw_n, sw_c, xtb_n, xtb_c, lset_0, lset_2, lset_1, lkm_0, lkm_2, lkm_9, lkm_1, lkm_n, if_some1, c_10, c_01, c_x0, c_1x, c_n0, c_nn, List.getElem?_cons_zero, List.getElem?_cons_succ, List.set_cons_zero, List.set_cons_succ, List.length_cons, List.length_nil, Int.reduceToNat, Nat.reduceDiv, Nat.reduceMod, Nat.reduceSub, Nat.reduceAdd, Nat.reduceMul, Nat.reduceLT, Nat.reduceLeDiff, Nat.reduceEqDiff, Int.reduceMod, Int.reduceSub, Int.reduceNeg, Int.reduceAdd, Int.reduceMul, Int.reduceLT, Int.reduceLE, Int.reduceEq, put_ss, if_true, if_false, ite_true, ite_false, reduceIte, eq_self, and_true, true_and, and_false, false_and, or_true, true_or, or_false, false_or, not_true_eq_false, not_false_eq_true, k5_158_3, k34_158_3, k5_158_2, k6_160, k35_160, n_160, y1, hp, h0, b4, c1, c3, c4, c5, w32_of]
        · have c5 := M_203 (F := F) (L := L) (xs := xs) (d := d + 2) (m := m) (k := 4) (p := p) (v := 302) g0 g1
          rw [ht] at c1 c3 b4 ⊢
          rw [hu] at c4
          rw [lf_s]
          simp (disch := first | omega | assumption) only [ea_206_0, eb_206_0, ec_206_0, l1_i, l1_1, l1_0, l2_0, l2_1, l2_2, l2_3, l3_0, w2_0, w2_1, w2_2, w2_3, d1_0, d1_1, d1_2, d1_3, d2_i, d2_1, d2_0, ev_0, ev_1, ev_16, ev_17, ev_18, ev_2, ev_3, ev_4, ev_5, ev_6, ev_7, ev_8, ev_9, ev_20, ev_21, ev_22, ev_23, ev_24, ev_25, ev_27, ev_28, ev_30, ev_31, ev_32, ev_33, ev_34, ev_35, ev_36, ev_37, ev_38, ev_39, ev_40, ev_41, ev_42, ev_43, ev_45, ev_46, ev_47, ev_48, ev_49, ev_50, ev_51, ev_52, ev_54, ev_55, ev_57, ev_58, ev_59, k2_0, k2_1, k2_2, k3a, k3b, k4, o1_s, xbin_0, xbin_1, xbin_2, xbin_3, xbin_4, xbin_5, xbin_6, xbin_7, xbin_8, xbin_9, xbin_11, xbin_12, xun_0, xun_1, xun_2, xun_3, xun_4, xun_5, k6a, k8, k8b, k9, k20, k20b_0, k20b_1, k20b_2, k20b_3, k20b_4, k20b_5, k21_0, k21_1, k21_2, k21_3, k21_4, k21_5, k23, k24, k25, k27, k28, k40, nz_1, nz_2, nz_3, k31_0, k31_1, k31_2, k31_3, k32u, k33, k34, k35, k35b, k36, k37, k38, k47, k49, k49b_0, k49b_1, k49b_2, k49b_3, k50_0, k50_s, k51_0, k51_s, k55, k58, k58b, rk_0, rk_1, rk_2, rk_9, rk_3, rk_4, rk_5, sw_n, sw_c, xtb_n, xtb_c, lset_0, lset_2, lset_1, lkm_0, lkm_2, lkm_9, lkm_1, lkm_n, if_some1, c_10, c_01, c_x0, c_1x, c_n0, c_nn, List.getElem?_cons_zero, List.getElem?_cons_succ, List.set_cons_zero, List.set_cons_succ, List.length_cons, List.length_nil, Int.reduceToNat, Nat.reduceDiv, Nat.reduceMod, Nat.reduceSub, Nat.reduceAdd, Nat.reduceMul, Nat.reduceLT, Nat.reduceLeDiff, Nat.reduceEqDiff, Int.reduceMod, Int.reduceSub, Int.reduceNeg, Int.reduceAdd, Int.reduceMul, Int.reduceLT, Int.reduceLE, Int.reduceEq, put_ss, if_true, if_false, ite_true, ite_false, reduceIte, eq_self, and_true, true_and, and_false, false_and, or_true, true_or, or_false, false_or, not_true_eq_false, not_false_eq_true, k5_158_3, k34_158_3, k5_158_2, k6_160, k35_160, n_160, y1, hp, h0, b4, c1, c3, c4, c5, w32_of]
        · have c5 := M_203 (F := F) (L := L) (xs := xs) (d := d + 2) (m := m) (k := 4) (p := p) (v := 303) g0 g1
          rw [ht] at c1 c3 b4 ⊢
          rw [hu] at c4
          rw [lf_s]
          simp (disch := first | omega | assumption) only [ea_206_0, eb_206_0, ec_206_0, l1_i, l1_1, l1_0, l2_0, l2_1, l2_2, l2_3, l3_0, w2_0, w2_1, w2_2, w2_3, d1_0, d1_1, d1_2, d1_3, d2_i, d2_1, d2_0, ev_0, ev_1, ev_16, ev_17, ev_18, ev_2, ev_3, ev_4, ev_5, ev_6, ev_7, ev_8, ev_9, ev_20, ev_21, ev_22, ev_23, ev_24, ev_25, ev_27, ev_28, ev_30, ev_31, ev_32, ev_33, ev_34, ev_35, ev_36, ev_37, ev_38, ev_39, ev_40, ev_41, ev_42, ev_43, ev_45, ev_46, ev_47, ev_48, ev_49, ev_50, ev_51, ev_52, ev_54, ev_55, ev_57, ev_58, ev_59, k2_0, k2_1, k2_2, k3a, k3b, k4, o1_s, xbin_0, xbin_1, xbin_2, xbin_3, xbin_4, xbin_5, xbin_6, xbin_7, xbin_8, xbin_9, xbin_11, xbin_12, xun_0, xun_1, xun_2, xun_3, xun_4, xun_5, k6a, k8, k8b, k9, k20, k20b_0, k20b_1, k20b_2, k20b_3, k20b_4, k20b_5, k21_0, k21_1, k21_2, k21_3, k21_4, k21_5, k23, k24, k25, k27, k28, k40, nz_1, nz_2, nz_3, k31_0, k31_1, k31_2, k31_3, k32u, k33, k34, k35, k35b, k36, k37, k38, k47, k49, k49b_0, k49b_1, k49b_2, k49b_3, k50_0, k50_s, k51_0, k51_s, k55, k58, k58b, rk_0, rk_1, rk_2, rk_9, rk_3, rk_4, rk_5, sw_n, sw_c, xtb_n, xtb_c, lset_0, lset_2, lset_1, lkm_0, lkm_2, lkm_9, lkm_1, lkm_n, if_some1, c_10, c_01, c_x0, c_1x, c_n0, c_nn, List.getElem?_cons_zero, List.getElem?_cons_succ, List.set_cons_zero, List.set_cons_succ, List.length_cons, List.length_nil, Int.reduceToNat, Nat.reduceDiv, Nat.reduceMod, Nat.reduceSub, Nat.reduceAdd, Nat.reduceMul, Nat.reduceLT, Nat.reduceLeDiff, Nat.reduceEqDiff, Int.reduceMod, Int.reduceSub, Int.reduceNeg, Int.reduceAdd, Int.reduceMul, Int.reduceLT, Int.reduceLE, Int.reduceEq, put_ss, if_true, if_false, ite_true, ite_false, reduceIte, eq_self, and_true, true_and, and_false, false_and, or_true, true_or, or_false, false_or, not_true_eq_false, not_false_eq_true, k5_158_3, k34_158_3, k5_158_2, k6_160, k35_160, n_160, y1, hp, h0, b4, c1, c3, c4, c5, w32_of]
      · rw [if_neg ht]
        generalize hB : bt b n p = B at *
        by_cases hs : sg1 B
        · rw [if_pos hs]
          have c5 := M_203 (F := F) (L := L) (xs := xs) (d := d + 2) (m := m) (k := 4) (p := p) (v := B) g0 g1
          by_cases hu : bt b n (p + 1) = 61
          · have t1 : ¬ B = 61 := fun z => ht ⟨Or.inl z, hu⟩
            have t2 : ¬ B = 33 := fun z => ht ⟨Or.inr (Or.inl z), hu⟩
            have t3 : ¬ B = 60 := fun z => ht ⟨Or.inr (Or.inr (Or.inl z)), hu⟩
            have t4 : ¬ B = 62 := fun z => ht ⟨Or.inr (Or.inr (Or.inr z)), hu⟩
            rw [hu] at c4
            rcases hs with hs | hs | hs | hs | hs | hs | hs | hs | hs | hs | hs | hs | hs | hs | hs | hs
            all_goals
              first
              | exact absurd hs t1
              | exact absurd hs t3
              | exact absurd hs t4
              | (rw [hs] at c1 c3 c5 b4 hB ⊢
                 rw [lf_s]
                 simp (disch := first | omega | assumption) only [ea_206_0, eb_206_0, ec_206_0, l1_i, l1_1, l1_0, l2_0, l2_1, l2_2, l2_3, l3_0, w2_0, w2_1, w2_2, w2_3, d1_0, d1_1, d1_2, d1_3, d2_i, d2_1, d2_0, ev_0, ev_1, ev_16, ev_17, ev_18, ev_2, ev_3, ev_4, ev_5, ev_6, ev_7, ev_8, ev_9, ev_20, ev_21, ev_22, ev_23, ev_24, ev_25, ev_27, ev_28, ev_30, ev_31, ev_32, ev_33, ev_34, ev_35, ev_36, ev_37, ev_38, ev_39, ev_40, ev_41, ev_42, ev_43, ev_45, ev_46, ev_47, ev_48, ev_49, ev_50, ev_51, ev_52, ev_54, ev_55, ev_57, ev_58, ev_59, k2_0, k2_1, k2_2, k3a, k3b, k4, o1_s, xbin_0, xbin_1, xbin_2, xbin_3, xbin_4, xbin_5, xbin_6, xbin_7, xbin_8, xbin_9, xbin_11, xbin_12, xun_0, xun_1, xun_2, xun_3, xun_4, xun_5, k6a, k8, k8b, k9, k20, k20b_0, k20b_1, k20b_2, k20b_3, k20b_4, k20b_5, k21_0, k21_1, k21_2, k21_3, k21_4, k21_5, k23, k24, k25, k27, k28, k40, nz_1, nz_2, nz_3, k31_0, k31_1, k31_2, k31_3, k32u, k33, k34, k35, k35b, k36, k37, k38, k47, k49, k49b_0, k49b_1, k49b_2, k49b_3, k50_0, k50_s, k51_0, k51_s, k55, k58, k58b, rk_0, rk_1, rk_2, rk_9, rk_3, rk_4, rk_5, sw_n, sw_c, xtb_n, xtb_c, lset_0, lset_2, lset_1, lkm_0, lkm_2, lkm_9, lkm_1, lkm_n, if_some1, c_10, c_01, c_x0, c_1x, c_n0, c_nn, List.getElem?_cons_zero, List.getElem?_cons_succ, List.set_cons_zero, List.set_cons_succ, List.length_cons, List.length_nil, Int.reduceToNat, Nat.reduceDiv, Nat.reduceMod, Nat.reduceSub, Nat.reduceAdd, Nat.reduceMul, Nat.reduceLT, Nat.reduceLeDiff, Nat.reduceEqDiff, Int.reduceMod, Int.reduceSub, Int.reduceNeg, Int.reduceAdd, Int.reduceMul, Int.reduceLT, Int.reduceLE, Int.reduceEq, put_ss, if_true, if_false, ite_true, ite_false, reduceIte, eq_self, and_true, true_and, and_false, false_and, or_true, true_or, or_false, false_or, not_true_eq_false, not_false_eq_true, k5_158_3, k34_158_3, k5_158_2, k6_160, k35_160, n_160, y1, hp, h0, b4, c1, c3, c4, c5, w32_of])
          · rcases hs with hs | hs | hs | hs | hs | hs | hs | hs | hs | hs | hs | hs | hs | hs | hs | hs
            all_goals
              rw [hs] at c1 c3 c5 b4 hB ⊢
              rw [lf_s]
              simp (disch := first | omega | assumption) only [ea_206_0, eb_206_0, ec_206_0, l1_i, l1_1, l1_0, l2_0, l2_1, l2_2, l2_3, l3_0, w2_0, w2_1, w2_2, w2_3, d1_0, d1_1, d1_2, d1_3, d2_i, d2_1, d2_0, ev_0, ev_1, ev_16, ev_17, ev_18, ev_2, ev_3, ev_4, ev_5, ev_6, ev_7, ev_8, ev_9, ev_20, ev_21, ev_22, ev_23, ev_24, ev_25, ev_27, ev_28, ev_30, ev_31, ev_32, ev_33, ev_34, ev_35, ev_36, ev_37, ev_38, ev_39, ev_40, ev_41, ev_42, ev_43, ev_45, ev_46, ev_47, ev_48, ev_49, ev_50, ev_51, ev_52, ev_54, ev_55, ev_57, ev_58, ev_59, k2_0, k2_1, k2_2, k3a, k3b, k4, o1_s, xbin_0, xbin_1, xbin_2, xbin_3, xbin_4, xbin_5, xbin_6, xbin_7, xbin_8, xbin_9, xbin_11, xbin_12, xun_0, xun_1, xun_2, xun_3, xun_4, xun_5, k6a, k8, k8b, k9, k20, k20b_0, k20b_1, k20b_2, k20b_3, k20b_4, k20b_5, k21_0, k21_1, k21_2, k21_3, k21_4, k21_5, k23, k24, k25, k27, k28, k40, nz_1, nz_2, nz_3, k31_0, k31_1, k31_2, k31_3, k32u, k33, k34, k35, k35b, k36, k37, k38, k47, k49, k49b_0, k49b_1, k49b_2, k49b_3, k50_0, k50_s, k51_0, k51_s, k55, k58, k58b, rk_0, rk_1, rk_2, rk_9, rk_3, rk_4, rk_5, sw_n, sw_c, xtb_n, xtb_c, lset_0, lset_2, lset_1, lkm_0, lkm_2, lkm_9, lkm_1, lkm_n, if_some1, c_10, c_01, c_x0, c_1x, c_n0, c_nn, List.getElem?_cons_zero, List.getElem?_cons_succ, List.set_cons_zero, List.set_cons_succ, List.length_cons, List.length_nil, Int.reduceToNat, Nat.reduceDiv, Nat.reduceMod, Nat.reduceSub, Nat.reduceAdd, Nat.reduceMul, Nat.reduceLT, Nat.reduceLeDiff, Nat.reduceEqDiff, Int.reduceMod, Int.reduceSub, Int.reduceNeg, Int.reduceAdd, Int.reduceMul, Int.reduceLT, Int.reduceLE, Int.reduceEq, put_ss, if_true, if_false, ite_true, ite_false, reduceIte, eq_self, and_true, true_and, and_false, false_and, or_true, true_or, or_false, false_or, not_true_eq_false, not_false_eq_true, k5_158_3, k34_158_3, k5_158_2, k6_160, k35_160, n_160, y1, hp, h0, b4, c1, c3, c4, c5, hu, w32_of]
        · rw [if_neg hs]
          have c5 := M_203 (F := F) (L := L) (xs := xs) (d := d + 2) (m := m) (k := 5) (p := p) (v := 0) g0 g1
          have s0 : ¬ B = 40 := by omega
          have s1 : ¬ B = 41 := by omega
          have s2 : ¬ B = 123 := by omega
          have s3 : ¬ B = 125 := by omega
          have s4 : ¬ B = 91 := by omega
          have s5 : ¬ B = 93 := by omega
          have s6 : ¬ B = 59 := by omega
          have s7 : ¬ B = 44 := by omega
          have s8 : ¬ B = 61 := by omega
          have s9 : ¬ B = 43 := by omega
          have s10 : ¬ B = 45 := by omega
          have s11 : ¬ B = 42 := by omega
          have s12 : ¬ B = 47 := by omega
          have s13 : ¬ B = 37 := by omega
          have s14 : ¬ B = 60 := by omega
          have s15 : ¬ B = 62 := by omega
          by_cases hu : bt b n (p + 1) = 61
          · have t2 : ¬ B = 33 := fun z => ht ⟨Or.inr (Or.inl z), hu⟩
            rw [hu] at c4
            rw [lf_s]
            simp (disch := first | omega | assumption) only [ea_206_0, eb_206_0, ec_206_0, l1_i, l1_1, l1_0, l2_0, l2_1, l2_2, l2_3, l3_0, w2_0, w2_1, w2_2, w2_3, d1_0, d1_1, d1_2, d1_3, d2_i, d2_1, d2_0, ev_0, ev_1, ev_16, ev_17, ev_18, ev_2, ev_3, ev_4, ev_5, ev_6, ev_7, ev_8, ev_9, ev_20, ev_21, ev_22, ev_23, ev_24, ev_25, ev_27, ev_28, ev_30, ev_31, ev_32, ev_33, ev_34, ev_35, ev_36, ev_37, ev_38, ev_39, ev_40, ev_41, ev_42, ev_43, ev_45, ev_46, ev_47, ev_48, ev_49, ev_50, ev_51, ev_52, ev_54, ev_55, ev_57, ev_58, ev_59, k2_0, k2_1, k2_2, k3a, k3b, k4, o1_s, xbin_0, xbin_1, xbin_2, xbin_3, xbin_4, xbin_5, xbin_6, xbin_7, xbin_8, xbin_9, xbin_11, xbin_12, xun_0, xun_1, xun_2, xun_3, xun_4, xun_5, k6a, k8, k8b, k9, k20, k20b_0, k20b_1, k20b_2, k20b_3, k20b_4, k20b_5, k21_0, k21_1, k21_2, k21_3, k21_4, k21_5, k23, k24, k25, k27, k28, k40, nz_1, nz_2, nz_3, k31_0, k31_1, k31_2, k31_3, k32u, k33, k34, k35, k35b, k36, k37, k38, k47, k49, k49b_0, k49b_1, k49b_2, k49b_3, k50_0, k50_s, k51_0, k51_s, k55, k58, k58b, rk_0, rk_1, rk_2, rk_9, rk_3, rk_4, rk_5, sw_n, sw_c, xtb_n, xtb_c, lset_0, lset_2, lset_1, lkm_0, lkm_2, lkm_9, lkm_1, lkm_n, if_some1, c_10, c_01, c_x0, c_1x, c_n0, c_nn, List.getElem?_cons_zero, List.getElem?_cons_succ, List.set_cons_zero, List.set_cons_succ, List.length_cons, List.length_nil, Int.reduceToNat, Nat.reduceDiv, Nat.reduceMod, Nat.reduceSub, Nat.reduceAdd, Nat.reduceMul, Nat.reduceLT, Nat.reduceLeDiff, Nat.reduceEqDiff, Int.reduceMod, Int.reduceSub, Int.reduceNeg, Int.reduceAdd, Int.reduceMul, Int.reduceLT, Int.reduceLE, Int.reduceEq, put_ss, if_true, if_false, ite_true, ite_false, reduceIte, eq_self, and_true, true_and, and_false, false_and, or_true, true_or, or_false, false_or, not_true_eq_false, not_false_eq_true, k5_158_3, k34_158_3, k5_158_2, k6_160, k35_160, n_160, y1, hp, h0, b4, q1, q2, q3, q4, q5, c1, c3, c4, c5, t2, s0, s1, s2, s3, s4, s5, s6, s7, s8, s9, s10, s11, s12, s13, s14, s15, w32_of]
          · rw [lf_s]
            simp (disch := first | omega | assumption) only [ea_206_0, eb_206_0, ec_206_0, l1_i, l1_1, l1_0, l2_0, l2_1, l2_2, l2_3, l3_0, w2_0, w2_1, w2_2, w2_3, d1_0, d1_1, d1_2, d1_3, d2_i, d2_1, d2_0, ev_0, ev_1, ev_16, ev_17, ev_18, ev_2, ev_3, ev_4, ev_5, ev_6, ev_7, ev_8, ev_9, ev_20, ev_21, ev_22, ev_23, ev_24, ev_25, ev_27, ev_28, ev_30, ev_31, ev_32, ev_33, ev_34, ev_35, ev_36, ev_37, ev_38, ev_39, ev_40, ev_41, ev_42, ev_43, ev_45, ev_46, ev_47, ev_48, ev_49, ev_50, ev_51, ev_52, ev_54, ev_55, ev_57, ev_58, ev_59, k2_0, k2_1, k2_2, k3a, k3b, k4, o1_s, xbin_0, xbin_1, xbin_2, xbin_3, xbin_4, xbin_5, xbin_6, xbin_7, xbin_8, xbin_9, xbin_11, xbin_12, xun_0, xun_1, xun_2, xun_3, xun_4, xun_5, k6a, k8, k8b, k9, k20, k20b_0, k20b_1, k20b_2, k20b_3, k20b_4, k20b_5, k21_0, k21_1, k21_2, k21_3, k21_4, k21_5, k23, k24, k25, k27, k28, k40, nz_1, nz_2, nz_3, k31_0, k31_1, k31_2, k31_3, k32u, k33, k34, k35, k35b, k36, k37, k38, k47, k49, k49b_0, k49b_1, k49b_2, k49b_3, k50_0, k50_s, k51_0, k51_s, k55, k58, k58b, rk_0, rk_1, rk_2, rk_9, rk_3, rk_4, rk_5, sw_n, sw_c, xtb_n, xtb_c, lset_0, lset_2, lset_1, lkm_0, lkm_2, lkm_9, lkm_1, lkm_n, if_some1, c_10, c_01, c_x0, c_1x, c_n0, c_nn, List.getElem?_cons_zero, List.getElem?_cons_succ, List.set_cons_zero, List.set_cons_succ, List.length_cons, List.length_nil, Int.reduceToNat, Nat.reduceDiv, Nat.reduceMod, Nat.reduceSub, Nat.reduceAdd, Nat.reduceMul, Nat.reduceLT, Nat.reduceLeDiff, Nat.reduceEqDiff, Int.reduceMod, Int.reduceSub, Int.reduceNeg, Int.reduceAdd, Int.reduceMul, Int.reduceLT, Int.reduceLE, Int.reduceEq, put_ss, if_true, if_false, ite_true, ite_false, reduceIte, eq_self, and_true, true_and, and_false, false_and, or_true, true_or, or_false, false_or, not_true_eq_false, not_false_eq_true, k5_158_3, k34_158_3, k5_158_2, k6_160, k35_160, n_160, y1, hp, h0, b4, q1, q2, q3, q4, q5, c1, c3, c4, c5, hu, s0, s1, s2, s3, s4, s5, s6, s7, s8, s9, s10, s11, s12, s13, s14, s15, w32_of]
theorem L_206 (hF : 100000 ≤ F) : ∀ (k : Nat) (p : Int) (f : Nat) (m : Mem) (w : Nat × Int) (N : Nat), 0 ≤ p → p ≤ n → n - p < k → n - p < f → k < N → YM m b n → KYm m → 0 ≤ m 158 4 → m 158 4 + (n - p) ≤ 2900 → ∃ w', LF F (d + 3) la_206_0 lb_206_0 lc_206_0 N ([(2, 158), (0, p), w], Hp L xs m) = some (0, [], ([(2, 158), (0, if bdT (tks b n f p) then -1 else n), w'], Hp L xs (aMs m (tks b n f p)))) := by
  intro k
  induction k with
  | zero => intro p f m w N h0 h1 h2; omega
  | succ k ih =>
    intro p f m w N h0 h1 h2 hf hN Y hK g0 g1
    obtain ⟨y1, y2, y3, y4⟩ := Y
    have Y : YM m b n := ⟨y1, y2, y3, y4⟩
    obtain ⟨N, rfl⟩ : ∃ n', N = n' + 1 := ⟨N - 1, by omega⟩
    by_cases hp : p < n
    · obtain ⟨b1, b2, b3, b4⟩ := YM_b Y (p := p) h0 hp
      by_cases q1 : bt b n p = 9 ∨ bt b n p = 10 ∨ bt b n p = 13 ∨ bt b n p = 32
      · have e1 : pb b n p = pb b n (p + 1) := by
          rw [pb_s hp]
          rcases q1 with q1 | q1 | q1 | q1 <;> rw [q1] <;> rfl
        rw [tks_p e1]
        obtain ⟨w', c1⟩ := ih (p + 1) f m (0, bt b n p) N (by omega) (by omega) (by omega) (by omega) (by omega) Y hK g0 (by omega)
        refine ⟨w', ?_⟩
        rcases q1 with q1 | q1 | q1 | q1
        all_goals
          rw [q1] at c1 b4
          rw [lf_s]
          simp (disch := first | omega | assumption) only [ea_206_0, eb_206_0, ec_206_0, l1_i, l1_1, l1_0, l2_0, l2_1, l2_2, l2_3, l3_0, w2_0, w2_1, w2_2, w2_3, d1_0, d1_1, d1_2, d1_3, d2_i, d2_1, d2_0, ev_0, ev_1, ev_16, ev_17, ev_18, ev_2, ev_3, ev_4, ev_5, ev_6, ev_7, ev_8, ev_9, ev_20, ev_21, ev_22, ev_23, ev_24, ev_25, ev_27, ev_28, ev_30, ev_31, ev_32, ev_33, ev_34, ev_35, ev_36, ev_37, ev_38, ev_39, ev_40, ev_41, ev_42, ev_43, ev_45, ev_46, ev_47, ev_48, ev_49, ev_50, ev_51, ev_52, ev_54, ev_55, ev_57, ev_58, ev_59, k2_0, k2_1, k2_2, k3a, k3b, k4, o1_s, xbin_0, xbin_1, xbin_2, xbin_3, xbin_4, xbin_5, xbin_6, xbin_7, xbin_8, xbin_9, xbin_11, xbin_12, xun_0, xun_1, xun_2, xun_3, xun_4, xun_5, k6a, k8, k8b, k9, k20, k20b_0, k20b_1, k20b_2, k20b_3, k20b_4, k20b_5, k21_0, k21_1, k21_2, k21_3, k21_4, k21_5, k23, k24, k25, k27, k28, k40, nz_1, nz_2, nz_3, k31_0, k31_1, k31_2, k31_3, k32u, k33, k34, k35, k35b, k36, k37, k38, k47, k49, k49b_0, k49b_1, k49b_2, k49b_3, k50_0, k50_s, k51_0, k51_s, k55, k58, k58b, rk_0, rk_1, rk_2, rk_9, rk_3, rk_4, rk_5, sw_n, sw_c, xtb_n, xtb_c, lset_0, lset_2, lset_1, lkm_0, lkm_2, lkm_9, lkm_1, lkm_n, if_some1, c_10, c_01, c_x0, c_1x, c_n0, c_nn, List.getElem?_cons_zero, List.getElem?_cons_succ, List.set_cons_zero, List.set_cons_succ, List.length_cons, List.length_nil, Int.reduceToNat, Nat.reduceDiv, Nat.reduceMod, Nat.reduceSub, Nat.reduceAdd, Nat.reduceMul, Nat.reduceLT, Nat.reduceLeDiff, Nat.reduceEqDiff, Int.reduceMod, Int.reduceSub, Int.reduceNeg, Int.reduceAdd, Int.reduceMul, Int.reduceLT, Int.reduceLE, Int.reduceEq, put_ss, if_true, if_false, ite_true, ite_false, reduceIte, eq_self, and_true, true_and, and_false, false_and, or_true, true_or, or_false, false_or, not_true_eq_false, not_false_eq_true, k5_158_3, k34_158_3, k5_158_2, k6_160, k35_160, n_160, y1, hp, h0, b4, w32_of, c1]
      · by_cases q5 : bt b n p = 35
        · have e0 : pb b n p = pB (bt b n) n (n - (p + 1) + 1).toNat true (p + 1) := by
            rw [pb_s hp, if_pos q5, show (n - (p + 1) + 1).toNat = (n - p).toNat from by omega]
          obtain ⟨e, i1, i2, c1, i3⟩ := L_206_1 (F := F) (L := L) (xs := xs) (d := d + 3) (w := (0, bt b n p)) Y (n - (p + 1)).toNat (p + 1) (F - 1) (by omega) (by omega) (by omega) (by omega)
          have e1 : pb b n p = pb b n e := e0.trans i3
          rw [tks_p e1]
          obtain ⟨w', c2⟩ := ih e f m (0, bt b n p) N (by omega) (by omega) (by omega) (by omega) (by omega) Y hK g0 (by omega)
          refine ⟨w', ?_⟩
          have c3 : LF F (d + 3) la_206_1 lb_206_1 lc_206_1 F ([(2, 158), (0, p), (0, bt b n p)], Hp L xs m) = some (0, [], ([(2, 158), (0, e), (0, bt b n p)], Hp L xs m)) := by
            obtain ⟨G, rfl⟩ : ∃ G, F = G + 1 := ⟨F - 1, by omega⟩
            rw [lf_s]
            rw [show G + 1 - 1 = G from rfl] at c1
            have q6 : ¬ bt b n p = 10 := by omega
            simp (disch := first | omega | assumption) only [ea_206_1, eb_206_1, ec_206_1, l1_i, l1_1, l1_0, l2_0, l2_1, l2_2, l2_3, l3_0, w2_0, w2_1, w2_2, w2_3, d1_0, d1_1, d1_2, d1_3, d2_i, d2_1, d2_0, ev_0, ev_1, ev_16, ev_17, ev_18, ev_2, ev_3, ev_4, ev_5, ev_6, ev_7, ev_8, ev_9, ev_20, ev_21, ev_22, ev_23, ev_24, ev_25, ev_27, ev_28, ev_30, ev_31, ev_32, ev_33, ev_34, ev_35, ev_36, ev_37, ev_38, ev_39, ev_40, ev_41, ev_42, ev_43, ev_45, ev_46, ev_47, ev_48, ev_49, ev_50, ev_51, ev_52, ev_54, ev_55, ev_57, ev_58, ev_59, k2_0, k2_1, k2_2, k3a, k3b, k4, o1_s, xbin_0, xbin_1, xbin_2, xbin_3, xbin_4, xbin_5, xbin_6, xbin_7, xbin_8, xbin_9, xbin_11, xbin_12, xun_0, xun_1, xun_2, xun_3, xun_4, xun_5, k6a, k8, k8b, k9, k20, k20b_0, k20b_1, k20b_2, k20b_3, k20b_4, k20b_5, k21_0, k21_1, k21_2, k21_3, k21_4, k21_5, k23, k24, k25, k27, k28, k40, nz_1, nz_2, nz_3, k31_0, k31_1, k31_2, k31_3, k32u, k33, k34, k35, k35b, k36, k37, k38, k47, k49, k49b_0, k49b_1, k49b_2, k49b_3, k50_0, k50_s, k51_0, k51_s, k55, k58, k58b, rk_0, rk_1, rk_2, rk_9, rk_3, rk_4, rk_5, sw_n, sw_c, xtb_n, xtb_c, lset_0, lset_2, lset_1, lkm_0, lkm_2, lkm_9, lkm_1, lkm_n, if_some1, c_10, c_01, c_x0, c_1x, c_n0, c_nn, List.getElem?_cons_zero, List.getElem?_cons_succ, List.set_cons_zero, List.set_cons_succ, List.length_cons, List.length_nil, Int.reduceToNat, Nat.reduceDiv, Nat.reduceMod, Nat.reduceSub, Nat.reduceAdd, Nat.reduceMul, Nat.reduceLT, Nat.reduceLeDiff, Nat.reduceEqDiff, Int.reduceMod, Int.reduceSub, Int.reduceNeg, Int.reduceAdd, Int.reduceMul, Int.reduceLT, Int.reduceLE, Int.reduceEq, put_ss, if_true, if_false, ite_true, ite_false, reduceIte, eq_self, and_true, true_and, and_false, false_and, or_true, true_or, or_false, false_or, not_true_eq_false, not_false_eq_true, k5_158_3, k34_158_3, k5_158_2, k6_160, k35_160, n_160, y1, hp, b4, q6, w32_of, c1]
          rw [q5] at c3 c2 b4
          rw [lf_s]
          simp (disch := first | omega | assumption) only [ea_206_0, eb_206_0, ec_206_0, l1_i, l1_1, l1_0, l2_0, l2_1, l2_2, l2_3, l3_0, w2_0, w2_1, w2_2, w2_3, d1_0, d1_1, d1_2, d1_3, d2_i, d2_1, d2_0, ev_0, ev_1, ev_16, ev_17, ev_18, ev_2, ev_3, ev_4, ev_5, ev_6, ev_7, ev_8, ev_9, ev_20, ev_21, ev_22, ev_23, ev_24, ev_25, ev_27, ev_28, ev_30, ev_31, ev_32, ev_33, ev_34, ev_35, ev_36, ev_37, ev_38, ev_39, ev_40, ev_41, ev_42, ev_43, ev_45, ev_46, ev_47, ev_48, ev_49, ev_50, ev_51, ev_52, ev_54, ev_55, ev_57, ev_58, ev_59, k2_0, k2_1, k2_2, k3a, k3b, k4, o1_s, xbin_0, xbin_1, xbin_2, xbin_3, xbin_4, xbin_5, xbin_6, xbin_7, xbin_8, xbin_9, xbin_11, xbin_12, xun_0, xun_1, xun_2, xun_3, xun_4, xun_5, k6a, k8, k8b, k9, k20, k20b_0, k20b_1, k20b_2, k20b_3, k20b_4, k20b_5, k21_0, k21_1, k21_2, k21_3, k21_4, k21_5, k23, k24, k25, k27, k28, k40, nz_1, nz_2, nz_3, k31_0, k31_1, k31_2, k31_3, k32u, k33, k34, k35, k35b, k36, k37, k38, k47, k49, k49b_0, k49b_1, k49b_2, k49b_3, k50_0, k50_s, k51_0, k51_s, k55, k58, k58b, rk_0, rk_1, rk_2, rk_9, rk_3, rk_4, rk_5, sw_n, sw_c, xtb_n, xtb_c, lset_0, lset_2, lset_1, lkm_0, lkm_2, lkm_9, lkm_1, lkm_n, if_some1, c_10, c_01, c_x0, c_1x, c_n0, c_nn, List.getElem?_cons_zero, List.getElem?_cons_succ, List.set_cons_zero, List.set_cons_succ, List.length_cons, List.length_nil, Int.reduceToNat, Nat.reduceDiv, Nat.reduceMod, Nat.reduceSub, Nat.reduceAdd, Nat.reduceMul, Nat.reduceLT, Nat.reduceLeDiff, Nat.reduceEqDiff, Int.reduceMod, Int.reduceSub, Int.reduceNeg, Int.reduceAdd, Int.reduceMul, Int.reduceLT, Int.reduceLE, Int.reduceEq, put_ss, if_true, if_false, ite_true, ite_false, reduceIte, eq_self, and_true, true_and, and_false, false_and, or_true, true_or, or_false, false_or, not_true_eq_false, not_false_eq_true, k5_158_3, k34_158_3, k5_158_2, k6_160, k35_160, n_160, y1, hp, h0, b4, w32_of, c3, c2]
        · have e1 : pb b n p = p := by
            rw [pb_s hp, if_neg q5, if_neg (fun z => q1 (Or.inr (Or.inl z))), if_pos ⟨fun z => q1 (Or.inl z), fun z => q1 (Or.inr (Or.inr (Or.inl z))), fun z => q1 (Or.inr (Or.inr (Or.inr z)))⟩]
          obtain ⟨f, rfl⟩ : ∃ f', f = f' + 1 := ⟨f - 1, by omega⟩
          have e2 : tks b n (f + 1) p = tok b n p :: (if (tok b n p).2.2.2 = -1 then [] else tks b n f (tok b n p).2.2.2) := by
            show (if n ≤ pb b n p then [] else tok b n (pb b n p) :: (if (tok b n (pb b n p)).2.2.2 = -1 then [] else tks b n f (tok b n (pb b n p)).2.2.2)) = _
            rw [e1, if_neg (by omega)]
          rw [e2]
          obtain ⟨w1, c1⟩ := T_206 (F := F) (L := L) (xs := xs) (d := d) (w := w) (N := N) hF Y hK h0 hp g0 (by omega) (fun z => q1 (Or.inl z)) (fun z => q1 (Or.inr (Or.inl z))) (fun z => q1 (Or.inr (Or.inr (Or.inl z)))) (fun z => q1 (Or.inr (Or.inr (Or.inr z)))) q5
          rw [c1]
          have T := TkG_ok Y h0 hp
          by_cases t2 : (tok b n p).2.2.2 = -1
          · rw [if_pos t2]
            have e3 : bdT [tok b n p] = true := by
              show (decide ((tok b n p).2.2.2 = -1) || false) = true
              rw [decide_eq_true t2]
              rfl
            rw [e3, if_pos rfl, t2]
            exact ⟨w1, E_206 (by omega)⟩
          · rw [if_neg t2]
            have e3 : bdT (tok b n p :: tks b n f (tok b n p).2.2.2) = bdT (tks b n f (tok b n p).2.2.2) := by
              show (decide ((tok b n p).2.2.2 = -1) || bdT (tks b n f (tok b n p).2.2.2)) = _
              rw [decide_eq_false t2]
              rfl
            rw [e3]
            have K := KM_aM (m := m) (k := (tok b n p).1) (p := (tok b n p).2.1) (v := (tok b n p).2.2.1)
            have e4 : aM m (tok b n p).1 (tok b n p).2.1 (tok b n p).2.2.1 158 4 = m 158 4 + 1 := rfl
            rcases T with ⟨t1, t3, _⟩ | ⟨t1, t3, t4, t5, t6⟩
            · exact absurd t3 t2
            · exact ih (tok b n p).2.2.2 f (aM m (tok b n p).1 (tok b n p).2.1 (tok b n p).2.2.1) w1 N (by omega) (by omega) (by omega) (by omega) (by omega) (KM_YM K Y) (KM_KY K hK) (by omega) (by omega)
    · have hp2 : p = n := by omega
      subst hp2
      rw [tks_n]
      refine ⟨w, ?_⟩
      rw [lf_s]
      simp (disch := first | omega | assumption) only [ea_206_0, eb_206_0, ec_206_0, l1_i, l1_1, l1_0, l2_0, l2_1, l2_2, l2_3, l3_0, w2_0, w2_1, w2_2, w2_3, d1_0, d1_1, d1_2, d1_3, d2_i, d2_1, d2_0, ev_0, ev_1, ev_16, ev_17, ev_18, ev_2, ev_3, ev_4, ev_5, ev_6, ev_7, ev_8, ev_9, ev_20, ev_21, ev_22, ev_23, ev_24, ev_25, ev_27, ev_28, ev_30, ev_31, ev_32, ev_33, ev_34, ev_35, ev_36, ev_37, ev_38, ev_39, ev_40, ev_41, ev_42, ev_43, ev_45, ev_46, ev_47, ev_48, ev_49, ev_50, ev_51, ev_52, ev_54, ev_55, ev_57, ev_58, ev_59, k2_0, k2_1, k2_2, k3a, k3b, k4, o1_s, xbin_0, xbin_1, xbin_2, xbin_3, xbin_4, xbin_5, xbin_6, xbin_7, xbin_8, xbin_9, xbin_11, xbin_12, xun_0, xun_1, xun_2, xun_3, xun_4, xun_5, k6a, k8, k8b, k9, k20, k20b_0, k20b_1, k20b_2, k20b_3, k20b_4, k20b_5, k21_0, k21_1, k21_2, k21_3, k21_4, k21_5, k23, k24, k25, k27, k28, k40, nz_1, nz_2, nz_3, k31_0, k31_1, k31_2, k31_3, k32u, k33, k34, k35, k35b, k36, k37, k38, k47, k49, k49b_0, k49b_1, k49b_2, k49b_3, k50_0, k50_s, k51_0, k51_s, k55, k58, k58b, rk_0, rk_1, rk_2, rk_9, rk_3, rk_4, rk_5, sw_n, sw_c, xtb_n, xtb_c, lset_0, lset_2, lset_1, lkm_0, lkm_2, lkm_9, lkm_1, lkm_n, if_some1, c_10, c_01, c_x0, c_1x, c_n0, c_nn, List.getElem?_cons_zero, List.getElem?_cons_succ, List.set_cons_zero, List.set_cons_succ, List.length_cons, List.length_nil, Int.reduceToNat, Nat.reduceDiv, Nat.reduceMod, Nat.reduceSub, Nat.reduceAdd, Nat.reduceMul, Nat.reduceLT, Nat.reduceLeDiff, Nat.reduceEqDiff, Int.reduceMod, Int.reduceSub, Int.reduceNeg, Int.reduceAdd, Int.reduceMul, Int.reduceLT, Int.reduceLE, Int.reduceEq, put_ss, if_true, if_false, ite_true, ite_false, reduceIte, eq_self, and_true, true_and, and_false, false_and, or_true, true_or, or_false, false_or, not_true_eq_false, not_false_eq_true, k5_158_3, k34_158_3, k5_158_2, k6_160, k35_160, n_160, y1, h0, Int.lt_irrefl]
      rfl
/-- the model's split, whole -/
def mSp (m : Mem) (n : Int) (l : List (Int × Int × Int × Int)) : Mem := if bdT l then aMs (put m 158 4 0) l else aM (aMs (put m 158 4 0) l) 0 n 0
theorem aMs_n : ∀ (l : List (Int × Int × Int × Int)) (m : Mem), aMs m l 158 4 = m 158 4 + l.length
  | [], m => by show m 158 4 = m 158 4 + ((0 : Nat) : Int); omega
  | t :: l, m => by
    have h1 := aMs_n l (aM m t.1 t.2.1 t.2.2.1)
    have e : aMs m (t :: l) = aMs (aM m t.1 t.2.1 t.2.2.1) l := rfl
    have e4 : aM m t.1 t.2.1 t.2.2.1 158 4 = m 158 4 + 1 := rfl
    rw [e, h1, e4, List.length_cons]
    omega
theorem KM_aMs : ∀ (l : List (Int × Int × Int × Int)) (m : Mem), KM m (aMs m l)
  | [], m => fun _ _ _ => rfl
  | t :: l, m => KM_tr KM_aM (KM_aMs l (aM m t.1 t.2.1 t.2.2.1))
theorem M_206 (hF : 100000 ≤ F) (Y : YM m b n) (hK : KYm m) (hn : n ≤ 1400) : Cx F (d + 4) 206 [158] (Hp L xs m) = some ([], Hp L xs (mSp m n (tks b n (n + 1).toNat 0))) := by
  obtain ⟨y1, y2, y3, y4⟩ := Y
  have Y' : YM (put m 158 4 0) b n := ⟨y1, y2, y3, y4⟩
  have e5 : put m 158 4 0 158 4 = 0 := rfl
  obtain ⟨w', c1⟩ := L_206 (F := F) (L := L) (xs := xs) (d := d) (b := b) (n := n) hF (n + 1).toNat 0 (n + 1).toNat (put m 158 4 0) (9, 0) F (by omega) (by omega) (by omega) (by omega) (by omega) Y' hK (by omega) (by omega)
  have k1 := aMs_n (tks b n (n + 1).toNat 0) (put m 158 4 0)
  have K := KM_aMs (tks b n (n + 1).toNat 0) (put m 158 4 0)
  have hlen : ((tks b n (n + 1).toNat 0).length : Int) ≤ n - 0 := tks_len (m := fun a k => if a = 51 ∧ k = 1 then n else if a = 52 then b k else 0) (L := L) (xs := xs) (b := b) (n := n) ⟨rfl, y2, y3, fun k hk => ⟨by
    obtain ⟨z1, z2, z3⟩ := y4 k hk
    show iand (b k) 255 = b k
    rw [iand_255]; exact Int.emod_eq_of_lt z2 (by omega), (y4 k hk).2⟩⟩ (n + 1).toNat 0 (by omega) (by omega)
  unfold mSp
  cases hb : bdT (tks b n (n + 1).toNat 0) with
  | true =>
    rw [hb] at c1
    simp only [if_true] at c1 ⊢
    simp (disch := first | omega | assumption) only [c_206, tx_206, ev_0, ev_1, ev_16, ev_17, ev_18, ev_2, ev_3, ev_4, ev_5, ev_6, ev_7, ev_8, ev_9, ev_20, ev_21, ev_22, ev_23, ev_24, ev_25, ev_27, ev_28, ev_30, ev_31, ev_32, ev_33, ev_34, ev_35, ev_36, ev_37, ev_38, ev_39, ev_40, ev_41, ev_42, ev_43, ev_45, ev_46, ev_47, ev_48, ev_49, ev_50, ev_51, ev_52, ev_54, ev_55, ev_57, ev_58, ev_59, k2_0, k2_1, k2_2, k3a, k3b, k4, o1_s, xbin_0, xbin_1, xbin_2, xbin_3, xbin_4, xbin_5, xbin_6, xbin_7, xbin_8, xbin_9, xbin_11, xbin_12, xun_0, xun_1, xun_2, xun_3, xun_4, xun_5, k6a, k8, k8b, k9, k20, k20b_0, k20b_1, k20b_2, k20b_3, k20b_4, k20b_5, k21_0, k21_1, k21_2, k21_3, k21_4, k21_5, k23, k24, k25, k27, k28, k40, nz_1, nz_2, nz_3, k31_0, k31_1, k31_2, k31_3, k32u, k33, k34, k35, k35b, k36, k37, k38, k47, k49, k49b_0, k49b_1, k49b_2, k49b_3, k50_0, k50_s, k51_0, k51_s, k55, k58, k58b, rk_0, rk_1, rk_2, rk_9, rk_3, rk_4, rk_5, sw_n, sw_c, xtb_n, xtb_c, lset_0, lset_2, lset_1, lkm_0, lkm_2, lkm_9, lkm_1, lkm_n, if_some1, c_10, c_01, c_x0, c_1x, c_n0, c_nn, List.getElem?_cons_zero, List.getElem?_cons_succ, List.set_cons_zero, List.set_cons_succ, List.length_cons, List.length_nil, Int.reduceToNat, Nat.reduceDiv, Nat.reduceMod, Nat.reduceSub, Nat.reduceAdd, Nat.reduceMul, Nat.reduceLT, Nat.reduceLeDiff, Nat.reduceEqDiff, Int.reduceMod, Int.reduceSub, Int.reduceNeg, Int.reduceAdd, Int.reduceMul, Int.reduceLT, Int.reduceLE, Int.reduceEq, put_ss, if_true, if_false, ite_true, ite_false, reduceIte, eq_self, and_true, true_and, and_false, false_and, or_true, true_or, or_false, false_or, not_true_eq_false, not_false_eq_true, k5_158_3, k34_158_3, k5_158_4, k34_158_4, k54_158_4, k54b_158_4_0, c1]
  | false =>
    rw [hb] at c1
    simp only [Bool.false_eq_true, if_false] at c1 ⊢
    have c2 := M_203 (F := F) (L := L) (xs := xs) (d := d + 2) (m := aMs (put m 158 4 0) (tks b n (n + 1).toNat 0)) (k := 0) (p := n) (v := 0) (by omega) (by omega)
    have e1 : aMs (put m 158 4 0) (tks b n (n + 1).toNat 0) 158 3 = n := (K 158 3 (by omega)).trans y1
    have h0 : 0 ≤ n := y2
    simp (disch := first | omega | assumption) only [c_206, tx_206, ev_0, ev_1, ev_16, ev_17, ev_18, ev_2, ev_3, ev_4, ev_5, ev_6, ev_7, ev_8, ev_9, ev_20, ev_21, ev_22, ev_23, ev_24, ev_25, ev_27, ev_28, ev_30, ev_31, ev_32, ev_33, ev_34, ev_35, ev_36, ev_37, ev_38, ev_39, ev_40, ev_41, ev_42, ev_43, ev_45, ev_46, ev_47, ev_48, ev_49, ev_50, ev_51, ev_52, ev_54, ev_55, ev_57, ev_58, ev_59, k2_0, k2_1, k2_2, k3a, k3b, k4, o1_s, xbin_0, xbin_1, xbin_2, xbin_3, xbin_4, xbin_5, xbin_6, xbin_7, xbin_8, xbin_9, xbin_11, xbin_12, xun_0, xun_1, xun_2, xun_3, xun_4, xun_5, k6a, k8, k8b, k9, k20, k20b_0, k20b_1, k20b_2, k20b_3, k20b_4, k20b_5, k21_0, k21_1, k21_2, k21_3, k21_4, k21_5, k23, k24, k25, k27, k28, k40, nz_1, nz_2, nz_3, k31_0, k31_1, k31_2, k31_3, k32u, k33, k34, k35, k35b, k36, k37, k38, k47, k49, k49b_0, k49b_1, k49b_2, k49b_3, k50_0, k50_s, k51_0, k51_s, k55, k58, k58b, rk_0, rk_1, rk_2, rk_9, rk_3, rk_4, rk_5, sw_n, sw_c, xtb_n, xtb_c, lset_0, lset_2, lset_1, lkm_0, lkm_2, lkm_9, lkm_1, lkm_n, if_some1, c_10, c_01, c_x0, c_1x, c_n0, c_nn, List.getElem?_cons_zero, List.getElem?_cons_succ, List.set_cons_zero, List.set_cons_succ, List.length_cons, List.length_nil, Int.reduceToNat, Nat.reduceDiv, Nat.reduceMod, Nat.reduceSub, Nat.reduceAdd, Nat.reduceMul, Nat.reduceLT, Nat.reduceLeDiff, Nat.reduceEqDiff, Int.reduceMod, Int.reduceSub, Int.reduceNeg, Int.reduceAdd, Int.reduceMul, Int.reduceLT, Int.reduceLE, Int.reduceEq, put_ss, if_true, if_false, ite_true, ite_false, reduceIte, eq_self, and_true, true_and, and_false, false_and, or_true, true_or, or_false, false_or, not_true_eq_false, not_false_eq_true, k5_158_3, k34_158_3, k5_158_4, k34_158_4, k54_158_4, k54b_158_4_0, c1, h0, e1, c2]
end SplitW
