/-! WIRES: the model's loops of registers and gates -/
section Ml1
variable {F L d N : Nat} {xs : Nat → Int32} {m : Mem} {x : Int}
def rgW : Nat → Mem → Mem
  | 0, m => m
  | k + 1, m => mb (68 + 16 * k) 16 (m 207 k) (rgW k m)
theorem mb_o {f i : Nat} {w : Int} {a k : Nat} (h : a ≠ 216) : mb f i w m a k = m a k := by
  unfold mb
  rw [if_neg (fun z => h z.1)]
theorem rgW_o {a j : Nat} (h : a ≠ 216) : ∀ k, rgW k m a j = m a j
  | 0 => rfl
  | k + 1 => by
    show mb (68 + 16 * k) 16 (m 207 k) (rgW k m) a j = _
    rw [mb_o h]
    exact rgW_o h k
theorem L_330r {k : Nat} (hF : 100000 ≤ F) (hk : k < 8) : LF F (d + 1) la_330_0 lb_330_0 lc_330_0 (N + 1) ([(2, 158), (0, x), (0, (k : Int))], Hp L xs (rgW k m)) = LF F (d + 1) la_330_0 lb_330_0 lc_330_0 N ([(2, 158), (0, x), (0, ((k + 1 : Nat) : Int))], Hp L xs (rgW (k + 1) m)) := by
  have h1 : (k : Int) < 8 := by omega
  have e1 : w32 (16 * (k : Int)) = 16 * (k : Int) := w32_of (by omega) (by omega)
  have e2 : w32 (68 + 16 * (k : Int)) = ((68 + 16 * k : Nat) : Int) := w32_of (by omega) (by omega)
  have e3 : w32 ((k : Int) + 1) = ((k + 1 : Nat) : Int) := w32_of (by omega) (by omega)
  have e4 : rgW k m 207 k = m 207 k := rgW_o (by omega) k
  have c : Cx F (d + 1) 329 [158, ((68 + 16 * k : Nat) : Int), m 207 k] (Hp L xs (rgW k m)) = some ([], Hp L xs (rgW (k + 1) m)) := M_329 (f := 68 + 16 * k) hF (by omega)
  rw [lf_s]
  simp (disch := omega) only [ea_330_0, eb_330_0, ec_330_0, l1_i, l1_1, l1_0, l2_0, l2_1, l2_2, l2_3, l3_0, w2_0, w2_1, w2_2, w2_3, d1_0, d1_1, d1_2, d1_3, d2_i, d2_1, d2_0, ev_0, ev_1, ev_16, ev_17, ev_18, ev_2, ev_3, ev_4, ev_5, ev_6, ev_7, ev_8, ev_9, ev_20, ev_21, ev_22, ev_23, ev_24, ev_25, ev_27, ev_28, ev_30, ev_31, ev_32, ev_33, ev_34, ev_35, ev_36, ev_37, ev_38, ev_39, ev_40, ev_41, ev_42, ev_43, ev_45, ev_46, ev_47, ev_48, ev_49, ev_50, ev_51, ev_52, ev_54, ev_55, ev_57, ev_58, ev_59, k2_0, k2_1, k2_2, k3a, k3b, k4, o1_s, xbin_0, xbin_1, xbin_2, xbin_3, xbin_4, xbin_5, xbin_6, xbin_7, xbin_8, xbin_9, xbin_11, xbin_12, xun_0, xun_1, xun_2, xun_3, xun_4, xun_5, k6a, k8, k8b, k9, k20, k20b_0, k20b_1, k20b_2, k20b_3, k20b_4, k20b_5, k21_0, k21_1, k21_2, k21_3, k21_4, k21_5, k23, k24, k25, k27, k28, k40, nz_1, nz_2, nz_3, k31_0, k31_1, k31_2, k31_3, k32u, k33, k34, k35, k35b, k36, k37, k38, k47, k49, k49b_0, k49b_1, k49b_2, k49b_3, k50_0, k50_s, k51_0, k51_s, k55, k58, k58b, rk_0, rk_1, rk_2, rk_9, rk_3, rk_4, rk_5, sw_n, sw_c, xtb_n, xtb_c, lset_0, lset_2, lset_1, lkm_0, lkm_2, lkm_9, lkm_1, lkm_n, if_some1, c_10, c_01, c_x0, c_1x, c_n0, c_nn, List.getElem?_cons_zero, List.getElem?_cons_succ, List.set_cons_zero, List.set_cons_succ, List.length_cons, List.length_nil, Int.reduceToNat, Nat.reduceDiv, Nat.reduceMod, Nat.reduceSub, Nat.reduceAdd, Nat.reduceMul, Nat.reduceLT, Nat.reduceLeDiff, Nat.reduceEqDiff, Int.reduceMod, Int.reduceSub, Int.reduceNeg, Int.reduceAdd, Int.reduceMul, Int.reduceLT, Int.reduceLE, Int.reduceEq, put_ss, if_true, if_false, ite_true, ite_false, reduceIte, eq_self, and_true, true_and, and_false, false_and, or_true, true_or, or_false, false_or, not_true_eq_false, not_false_eq_true, k5_158_94, k6_207, k35_207, n_207, h1, e1, e2, e3, e4, c, Int.toNat_natCast]
theorem L_330ra (hF : 100000 ≤ F) : ∀ (j k N : Nat), k + j = 8 → j < N → LF F (d + 1) la_330_0 lb_330_0 lc_330_0 N ([(2, 158), (0, x), (0, (k : Int))], Hp L xs (rgW k m)) = some (0, [], ([(2, 158), (0, x), (0, 8)], Hp L xs (rgW 8 m))) := by
  intro j
  induction j with
  | zero =>
    intro k N hk hN
    obtain ⟨N, rfl⟩ : ∃ n, N = n + 1 := ⟨N - 1, by omega⟩
    have : k = 8 := by omega
    subst this
    have h1 : ¬ ((8 : Nat) : Int) < 8 := by omega
    rw [lf_s]
    simp (disch := omega) only [ea_330_0, eb_330_0, ec_330_0, l1_i, l1_1, l1_0, l2_0, l2_1, l2_2, l2_3, l3_0, w2_0, w2_1, w2_2, w2_3, d1_0, d1_1, d1_2, d1_3, d2_i, d2_1, d2_0, ev_0, ev_1, ev_16, ev_17, ev_18, ev_2, ev_3, ev_4, ev_5, ev_6, ev_7, ev_8, ev_9, ev_20, ev_21, ev_22, ev_23, ev_24, ev_25, ev_27, ev_28, ev_30, ev_31, ev_32, ev_33, ev_34, ev_35, ev_36, ev_37, ev_38, ev_39, ev_40, ev_41, ev_42, ev_43, ev_45, ev_46, ev_47, ev_48, ev_49, ev_50, ev_51, ev_52, ev_54, ev_55, ev_57, ev_58, ev_59, k2_0, k2_1, k2_2, k3a, k3b, k4, o1_s, xbin_0, xbin_1, xbin_2, xbin_3, xbin_4, xbin_5, xbin_6, xbin_7, xbin_8, xbin_9, xbin_11, xbin_12, xun_0, xun_1, xun_2, xun_3, xun_4, xun_5, k6a, k8, k8b, k9, k20, k20b_0, k20b_1, k20b_2, k20b_3, k20b_4, k20b_5, k21_0, k21_1, k21_2, k21_3, k21_4, k21_5, k23, k24, k25, k27, k28, k40, nz_1, nz_2, nz_3, k31_0, k31_1, k31_2, k31_3, k32u, k33, k34, k35, k35b, k36, k37, k38, k47, k49, k49b_0, k49b_1, k49b_2, k49b_3, k50_0, k50_s, k51_0, k51_s, k55, k58, k58b, rk_0, rk_1, rk_2, rk_9, rk_3, rk_4, rk_5, sw_n, sw_c, xtb_n, xtb_c, lset_0, lset_2, lset_1, lkm_0, lkm_2, lkm_9, lkm_1, lkm_n, if_some1, c_10, c_01, c_x0, c_1x, c_n0, c_nn, List.getElem?_cons_zero, List.getElem?_cons_succ, List.set_cons_zero, List.set_cons_succ, List.length_cons, List.length_nil, Int.reduceToNat, Nat.reduceDiv, Nat.reduceMod, Nat.reduceSub, Nat.reduceAdd, Nat.reduceMul, Nat.reduceLT, Nat.reduceLeDiff, Nat.reduceEqDiff, Int.reduceMod, Int.reduceSub, Int.reduceNeg, Int.reduceAdd, Int.reduceMul, Int.reduceLT, Int.reduceLE, Int.reduceEq, put_ss, if_true, if_false, ite_true, ite_false, reduceIte, eq_self, and_true, true_and, and_false, false_and, or_true, true_or, or_false, false_or, not_true_eq_false, not_false_eq_true, h1]
    rfl
  | succ j ih =>
    intro k N hk hN
    obtain ⟨N, rfl⟩ : ∃ n, N = n + 1 := ⟨N - 1, by omega⟩
    rw [L_330r hF (by omega)]
    exact ih (k + 1) N (by omega) (by omega)
/-- one gate of the model -/
theorem L_330g {j : Nat} (h0 : (j : Int) ≤ x) (hx : x < 4104) (hl : 0 ≤ m 201 j ∧ m 201 j < 4104) (hr : 0 ≤ m 202 j ∧ m 202 j < 4104) (hv : ∀ j : Nat, m 216 j = 0 ∨ m 216 j = 1) : LF F d la_330_1 lb_330_1 lc_330_1 (N + 1) ([(2, 158), (0, x), (0, (j : Int))], Hp L xs m) = LF F d la_330_1 lb_330_1 lc_330_1 N ([(2, 158), (0, x), (0, ((j + 1 : Nat) : Int))], Hp L xs (put m 216 j (1 - iand (m 216 (m 201 j).toNat) (m 216 (m 202 j).toNat)))) := by
  have e3 : w32 ((j : Int) + 1) = ((j + 1 : Nat) : Int) := w32_of (by omega) (by omega)
  have n1 : ¬ (0 : Int) = 1 := by decide
  have i00 : 1 - iand 0 0 = 1 := by decide
  have i01 : 1 - iand 0 1 = 1 := by decide
  have i10 : 1 - iand 1 0 = 1 := by decide
  have i11 : 1 - iand 1 1 = 0 := by decide
  rw [lf_s]
  rcases hv (m 201 j).toNat with z1 | z1 <;> rcases hv (m 202 j).toNat with z2 | z2 <;> rw [z1, z2] <;> simp (disch := omega) only [ea_330_1, eb_330_1, ec_330_1, l1_i, l1_1, l1_0, l2_0, l2_1, l2_2, l2_3, l3_0, w2_0, w2_1, w2_2, w2_3, d1_0, d1_1, d1_2, d1_3, d2_i, d2_1, d2_0, ev_0, ev_1, ev_16, ev_17, ev_18, ev_2, ev_3, ev_4, ev_5, ev_6, ev_7, ev_8, ev_9, ev_20, ev_21, ev_22, ev_23, ev_24, ev_25, ev_27, ev_28, ev_30, ev_31, ev_32, ev_33, ev_34, ev_35, ev_36, ev_37, ev_38, ev_39, ev_40, ev_41, ev_42, ev_43, ev_45, ev_46, ev_47, ev_48, ev_49, ev_50, ev_51, ev_52, ev_54, ev_55, ev_57, ev_58, ev_59, k2_0, k2_1, k2_2, k3a, k3b, k4, o1_s, xbin_0, xbin_1, xbin_2, xbin_3, xbin_4, xbin_5, xbin_6, xbin_7, xbin_8, xbin_9, xbin_11, xbin_12, xun_0, xun_1, xun_2, xun_3, xun_4, xun_5, k6a, k8, k8b, k9, k20, k20b_0, k20b_1, k20b_2, k20b_3, k20b_4, k20b_5, k21_0, k21_1, k21_2, k21_3, k21_4, k21_5, k23, k24, k25, k27, k28, k40, nz_1, nz_2, nz_3, k31_0, k31_1, k31_2, k31_3, k32u, k33, k34, k35, k35b, k36, k37, k38, k47, k49, k49b_0, k49b_1, k49b_2, k49b_3, k50_0, k50_s, k51_0, k51_s, k55, k58, k58b, rk_0, rk_1, rk_2, rk_9, rk_3, rk_4, rk_5, sw_n, sw_c, xtb_n, xtb_c, lset_0, lset_2, lset_1, lkm_0, lkm_2, lkm_9, lkm_1, lkm_n, if_some1, c_10, c_01, c_x0, c_1x, c_n0, c_nn, List.getElem?_cons_zero, List.getElem?_cons_succ, List.set_cons_zero, List.set_cons_succ, List.length_cons, List.length_nil, Int.reduceToNat, Nat.reduceDiv, Nat.reduceMod, Nat.reduceSub, Nat.reduceAdd, Nat.reduceMul, Nat.reduceLT, Nat.reduceLeDiff, Nat.reduceEqDiff, Int.reduceMod, Int.reduceSub, Int.reduceNeg, Int.reduceAdd, Int.reduceMul, Int.reduceLT, Int.reduceLE, Int.reduceEq, put_ss, if_true, if_false, ite_true, ite_false, reduceIte, eq_self, and_true, true_and, and_false, false_and, or_true, true_or, or_false, false_or, not_true_eq_false, not_false_eq_true, k5_158_117, k6_216, k35_216, n_216, k5_158_87, k6_201, k35_201, n_201, k5_158_88, k6_202, k35_202, n_202, h0, e3, z1, z2, n1, i00, i01, i10, i11, Int.toNat_natCast] <;> rfl
theorem L_330e {j : Int} (h : ¬ j ≤ x) : LF F d la_330_1 lb_330_1 lc_330_1 (N + 1) ([(2, 158), (0, x), (0, j)], Hp L xs m) = some (0, [], ([(2, 158), (0, x), (0, j)], Hp L xs m)) := by
  rw [lf_s]
  simp (disch := omega) only [ea_330_1, eb_330_1, ec_330_1, l1_i, l1_1, l1_0, l2_0, l2_1, l2_2, l2_3, l3_0, w2_0, w2_1, w2_2, w2_3, d1_0, d1_1, d1_2, d1_3, d2_i, d2_1, d2_0, ev_0, ev_1, ev_16, ev_17, ev_18, ev_2, ev_3, ev_4, ev_5, ev_6, ev_7, ev_8, ev_9, ev_20, ev_21, ev_22, ev_23, ev_24, ev_25, ev_27, ev_28, ev_30, ev_31, ev_32, ev_33, ev_34, ev_35, ev_36, ev_37, ev_38, ev_39, ev_40, ev_41, ev_42, ev_43, ev_45, ev_46, ev_47, ev_48, ev_49, ev_50, ev_51, ev_52, ev_54, ev_55, ev_57, ev_58, ev_59, k2_0, k2_1, k2_2, k3a, k3b, k4, o1_s, xbin_0, xbin_1, xbin_2, xbin_3, xbin_4, xbin_5, xbin_6, xbin_7, xbin_8, xbin_9, xbin_11, xbin_12, xun_0, xun_1, xun_2, xun_3, xun_4, xun_5, k6a, k8, k8b, k9, k20, k20b_0, k20b_1, k20b_2, k20b_3, k20b_4, k20b_5, k21_0, k21_1, k21_2, k21_3, k21_4, k21_5, k23, k24, k25, k27, k28, k40, nz_1, nz_2, nz_3, k31_0, k31_1, k31_2, k31_3, k32u, k33, k34, k35, k35b, k36, k37, k38, k47, k49, k49b_0, k49b_1, k49b_2, k49b_3, k50_0, k50_s, k51_0, k51_s, k55, k58, k58b, rk_0, rk_1, rk_2, rk_9, rk_3, rk_4, rk_5, sw_n, sw_c, xtb_n, xtb_c, lset_0, lset_2, lset_1, lkm_0, lkm_2, lkm_9, lkm_1, lkm_n, if_some1, c_10, c_01, c_x0, c_1x, c_n0, c_nn, List.getElem?_cons_zero, List.getElem?_cons_succ, List.set_cons_zero, List.set_cons_succ, List.length_cons, List.length_nil, Int.reduceToNat, Nat.reduceDiv, Nat.reduceMod, Nat.reduceSub, Nat.reduceAdd, Nat.reduceMul, Nat.reduceLT, Nat.reduceLeDiff, Nat.reduceEqDiff, Int.reduceMod, Int.reduceSub, Int.reduceNeg, Int.reduceAdd, Int.reduceMul, Int.reduceLT, Int.reduceLE, Int.reduceEq, put_ss, if_true, if_false, ite_true, ite_false, reduceIte, eq_self, and_true, true_and, and_false, false_and, or_true, true_or, or_false, false_or, not_true_eq_false, not_false_eq_true, h]
end Ml1
