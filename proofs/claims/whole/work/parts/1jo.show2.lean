/-! WIRES: show and settle of the class -/
section Sh2
variable {F L d N : Nat} {xs : Nat → Int32} {m : Mem}
def rgM : Nat → Mem → Mem
  | 0, m => m
  | k + 1, m => sb (68 + 16 * k) 16 (m 80 k) (rgM k m)
theorem sb_o {f i : Nat} {w : Int} {a k : Nat} (h : a ≠ 77) : sb f i w m a k = m a k := by
  unfold sb
  rw [if_neg (fun z => h z.1)]
theorem rgM_o {a j : Nat} (h : a ≠ 77) : ∀ k, rgM k m a j = m a j
  | 0 => rfl
  | k + 1 => by
    show sb (68 + 16 * k) 16 (m 80 k) (rgM k m) a j = _
    rw [sb_o h]
    exact rgM_o h k
theorem L_81 {k : Nat} (hF : 100000 ≤ F) (hk : k < 8) : LF F (d + 1) la_81_0 lb_81_0 lc_81_0 (N + 1) ([(2, 78), (2, 77), (0, (k : Int))], Hp L xs (rgM k m)) = LF F (d + 1) la_81_0 lb_81_0 lc_81_0 N ([(2, 78), (2, 77), (0, ((k + 1 : Nat) : Int))], Hp L xs (rgM (k + 1) m)) := by
  have h1 : (k : Int) < 8 := by omega
  have e1 : w32 (16 * (k : Int)) = 16 * (k : Int) := w32_of (by omega) (by omega)
  have e2 : w32 (68 + 16 * (k : Int)) = ((68 + 16 * k : Nat) : Int) := w32_of (by omega) (by omega)
  have e3 : w32 ((k : Int) + 1) = ((k + 1 : Nat) : Int) := w32_of (by omega) (by omega)
  have e4 : rgM k m 80 k = m 80 k := rgM_o (by omega) k
  have c : Cx F (d + 1) 82 [77, ((68 + 16 * k : Nat) : Int), 16, m 80 k] (Hp L xs (rgM k m)) = some ([], Hp L xs (rgM (k + 1) m)) := C_82 (f := 68 + 16 * k) (nb := 16) hF (by omega) (by omega)
  rw [lf_s]
  simp (disch := omega) only [ea_81_0, eb_81_0, ec_81_0, l1_i, l1_1, l1_0, l2_0, l2_1, l2_2, l2_3, l3_0, w2_0, w2_1, w2_2, w2_3, d1_0, d1_1, d1_2, d1_3, d2_i, d2_1, d2_0, ev_0, ev_1, ev_16, ev_17, ev_18, ev_2, ev_3, ev_4, ev_5, ev_6, ev_7, ev_8, ev_9, ev_20, ev_21, ev_22, ev_23, ev_24, ev_25, ev_27, ev_28, ev_30, ev_31, ev_32, ev_33, ev_34, ev_35, ev_36, ev_37, ev_38, ev_39, ev_40, ev_41, ev_42, ev_43, ev_45, ev_46, ev_47, ev_48, ev_49, ev_50, ev_51, ev_52, ev_54, ev_55, ev_57, ev_58, ev_59, k2_0, k2_1, k2_2, k3a, k3b, k4, o1_s, xbin_0, xbin_1, xbin_2, xbin_3, xbin_4, xbin_5, xbin_6, xbin_7, xbin_8, xbin_9, xbin_11, xbin_12, xun_0, xun_1, xun_2, xun_3, xun_4, xun_5, k6a, k8, k8b, k9, k20, k20b_0, k20b_1, k20b_2, k20b_3, k20b_4, k20b_5, k21_0, k21_1, k21_2, k21_3, k21_4, k21_5, k23, k24, k25, k27, k28, k40, nz_1, nz_2, nz_3, k31_0, k31_1, k31_2, k31_3, k32u, k33, k34, k35, k35b, k36, k37, k38, k47, k49, k49b_0, k49b_1, k49b_2, k49b_3, k50_0, k50_s, k51_0, k51_s, k55, k58, k58b, rk_0, rk_1, rk_2, rk_9, rk_3, rk_4, rk_5, sw_n, sw_c, xtb_n, xtb_c, lset_0, lset_2, lset_1, lkm_0, lkm_2, lkm_9, lkm_1, lkm_n, if_some1, c_10, c_01, c_x0, c_1x, c_n0, c_nn, List.getElem?_cons_zero, List.getElem?_cons_succ, List.set_cons_zero, List.set_cons_succ, List.length_cons, List.length_nil, Int.reduceToNat, Nat.reduceDiv, Nat.reduceMod, Nat.reduceSub, Nat.reduceAdd, Nat.reduceMul, Nat.reduceLT, Nat.reduceLeDiff, Nat.reduceEqDiff, Int.reduceMod, Int.reduceSub, Int.reduceNeg, Int.reduceAdd, Int.reduceMul, Int.reduceLT, Int.reduceLE, Int.reduceEq, put_ss, if_true, if_false, ite_true, ite_false, reduceIte, eq_self, and_true, true_and, and_false, false_and, or_true, true_or, or_false, false_or, not_true_eq_false, not_false_eq_true, k5_78_1, k6_80, k35_80, n_80, h1, e1, e2, e3, e4, c, Int.toNat_natCast]
theorem L_81a (hF : 100000 ≤ F) : ∀ (j k N : Nat), k + j = 8 → j < N → LF F (d + 1) la_81_0 lb_81_0 lc_81_0 N ([(2, 78), (2, 77), (0, (k : Int))], Hp L xs (rgM k m)) = some (0, [], ([(2, 78), (2, 77), (0, 8)], Hp L xs (rgM 8 m))) := by
  intro j
  induction j with
  | zero =>
    intro k N hk hN
    obtain ⟨N, rfl⟩ : ∃ n, N = n + 1 := ⟨N - 1, by omega⟩
    have : k = 8 := by omega
    subst this
    have h1 : ¬ ((8 : Nat) : Int) < 8 := by omega
    rw [lf_s]
    simp (disch := omega) only [ea_81_0, eb_81_0, ec_81_0, l1_i, l1_1, l1_0, l2_0, l2_1, l2_2, l2_3, l3_0, w2_0, w2_1, w2_2, w2_3, d1_0, d1_1, d1_2, d1_3, d2_i, d2_1, d2_0, ev_0, ev_1, ev_16, ev_17, ev_18, ev_2, ev_3, ev_4, ev_5, ev_6, ev_7, ev_8, ev_9, ev_20, ev_21, ev_22, ev_23, ev_24, ev_25, ev_27, ev_28, ev_30, ev_31, ev_32, ev_33, ev_34, ev_35, ev_36, ev_37, ev_38, ev_39, ev_40, ev_41, ev_42, ev_43, ev_45, ev_46, ev_47, ev_48, ev_49, ev_50, ev_51, ev_52, ev_54, ev_55, ev_57, ev_58, ev_59, k2_0, k2_1, k2_2, k3a, k3b, k4, o1_s, xbin_0, xbin_1, xbin_2, xbin_3, xbin_4, xbin_5, xbin_6, xbin_7, xbin_8, xbin_9, xbin_11, xbin_12, xun_0, xun_1, xun_2, xun_3, xun_4, xun_5, k6a, k8, k8b, k9, k20, k20b_0, k20b_1, k20b_2, k20b_3, k20b_4, k20b_5, k21_0, k21_1, k21_2, k21_3, k21_4, k21_5, k23, k24, k25, k27, k28, k40, nz_1, nz_2, nz_3, k31_0, k31_1, k31_2, k31_3, k32u, k33, k34, k35, k35b, k36, k37, k38, k47, k49, k49b_0, k49b_1, k49b_2, k49b_3, k50_0, k50_s, k51_0, k51_s, k55, k58, k58b, rk_0, rk_1, rk_2, rk_9, rk_3, rk_4, rk_5, sw_n, sw_c, xtb_n, xtb_c, lset_0, lset_2, lset_1, lkm_0, lkm_2, lkm_9, lkm_1, lkm_n, if_some1, c_10, c_01, c_x0, c_1x, c_n0, c_nn, List.getElem?_cons_zero, List.getElem?_cons_succ, List.set_cons_zero, List.set_cons_succ, List.length_cons, List.length_nil, Int.reduceToNat, Nat.reduceDiv, Nat.reduceMod, Nat.reduceSub, Nat.reduceAdd, Nat.reduceMul, Nat.reduceLT, Nat.reduceLeDiff, Nat.reduceEqDiff, Int.reduceMod, Int.reduceSub, Int.reduceNeg, Int.reduceAdd, Int.reduceMul, Int.reduceLT, Int.reduceLE, Int.reduceEq, put_ss, if_true, if_false, ite_true, ite_false, reduceIte, eq_self, and_true, true_and, and_false, false_and, or_true, true_or, or_false, false_or, not_true_eq_false, not_false_eq_true, h1]
    rfl
  | succ j ih =>
    intro k N hk hN
    obtain ⟨N, rfl⟩ : ∃ n, N = n + 1 := ⟨N - 1, by omega⟩
    rw [L_81 hF (by omega)]
    exact ih (k + 1) N (by omega) (by omega)
/-- what the machine shows -/
def sh5 (m : Mem) : Mem := sb 66 2 (m 78 6) (sb 50 16 (m 78 5) (sb 34 16 (m 78 4) (sb 18 16 (m 78 3) (sb 2 16 (m 78 2) (put (put m 77 0 0) 77 1 1)))))
def shM (m : Mem) : Mem := sb 196 16 (dat m) (rgM 8 (sh5 m))
end Sh2
section St2
variable {F L d N : Nat} {xs : Nat → Int32} {m : Mem} {k : Int}
theorem iand_bb {x y : Int} (hx : x = 0 ∨ x = 1) (hy : y = 0 ∨ y = 1) : 0 ≤ iand x y ∧ iand x y ≤ 1 := by
  rcases hx with rfl | rfl <;> rcases hy with rfl | rfl <;> decide
theorem L_112 (h0 : 0 ≤ m 73 6 ∧ m 73 6 ≤ k) (hk : k < 4104) (hl : ∀ j : Nat, 0 ≤ m 74 j ∧ m 74 j < 4104) (hr : ∀ j : Nat, 0 ≤ m 75 j ∧ m 75 j < 4104) (hv : ∀ j : Nat, m 77 j = 0 ∨ m 77 j = 1) : LF F d la_112_0 lb_112_0 lc_112_0 (N + 1) ([(2, 73), (0, k)], Hp L xs m) = LF F d la_112_0 lb_112_0 lc_112_0 N ([(2, 73), (0, k)], Hp L xs (st1 m)) := by
  have h1 : m 73 6 ≤ k := h0.2
  have l := hl (m 73 6).toNat
  have r := hr (m 73 6).toNat
  have b := iand_bb (hv (m 74 (m 73 6).toNat).toNat) (hv (m 75 (m 73 6).toNat).toNat)
  rw [lf_s]
  simp (disch := omega) only [ea_112_0, eb_112_0, ec_112_0, l1_i, l1_1, l1_0, l2_0, l2_1, l2_2, l2_3, l3_0, w2_0, w2_1, w2_2, w2_3, d1_0, d1_1, d1_2, d1_3, d2_i, d2_1, d2_0, ev_0, ev_1, ev_16, ev_17, ev_18, ev_2, ev_3, ev_4, ev_5, ev_6, ev_7, ev_8, ev_9, ev_20, ev_21, ev_22, ev_23, ev_24, ev_25, ev_27, ev_28, ev_30, ev_31, ev_32, ev_33, ev_34, ev_35, ev_36, ev_37, ev_38, ev_39, ev_40, ev_41, ev_42, ev_43, ev_45, ev_46, ev_47, ev_48, ev_49, ev_50, ev_51, ev_52, ev_54, ev_55, ev_57, ev_58, ev_59, k2_0, k2_1, k2_2, k3a, k3b, k4, o1_s, xbin_0, xbin_1, xbin_2, xbin_3, xbin_4, xbin_5, xbin_6, xbin_7, xbin_8, xbin_9, xbin_11, xbin_12, xun_0, xun_1, xun_2, xun_3, xun_4, xun_5, k6a, k8, k8b, k9, k20, k20b_0, k20b_1, k20b_2, k20b_3, k20b_4, k20b_5, k21_0, k21_1, k21_2, k21_3, k21_4, k21_5, k23, k24, k25, k27, k28, k40, nz_1, nz_2, nz_3, k31_0, k31_1, k31_2, k31_3, k32u, k33, k34, k35, k35b, k36, k37, k38, k47, k49, k49b_0, k49b_1, k49b_2, k49b_3, k50_0, k50_s, k51_0, k51_s, k55, k58, k58b, rk_0, rk_1, rk_2, rk_9, rk_3, rk_4, rk_5, sw_n, sw_c, xtb_n, xtb_c, lset_0, lset_2, lset_1, lkm_0, lkm_2, lkm_9, lkm_1, lkm_n, if_some1, c_10, c_01, c_x0, c_1x, c_n0, c_nn, List.getElem?_cons_zero, List.getElem?_cons_succ, List.set_cons_zero, List.set_cons_succ, List.length_cons, List.length_nil, Int.reduceToNat, Nat.reduceDiv, Nat.reduceMod, Nat.reduceSub, Nat.reduceAdd, Nat.reduceMul, Nat.reduceLT, Nat.reduceLeDiff, Nat.reduceEqDiff, Int.reduceMod, Int.reduceSub, Int.reduceNeg, Int.reduceAdd, Int.reduceMul, Int.reduceLT, Int.reduceLE, Int.reduceEq, put_ss, if_true, if_false, ite_true, ite_false, reduceIte, eq_self, and_true, true_and, and_false, false_and, or_true, true_or, or_false, false_or, not_true_eq_false, not_false_eq_true, k5_73_2, k6_74, k35_74, n_74, k5_73_3, k6_75, k35_75, n_75, k5_73_5, k6_77, k35_77, n_77, k5_73_6, k34_73_6, k54_73_6, k54b_73_6_0, h1, w32_of]
  rfl
theorem L_112e (h : ¬ m 73 6 ≤ k) : LF F d la_112_0 lb_112_0 lc_112_0 (N + 1) ([(2, 73), (0, k)], Hp L xs m) = some (0, [], ([(2, 73), (0, k)], Hp L xs m)) := by
  rw [lf_s]
  simp (disch := omega) only [ea_112_0, eb_112_0, ec_112_0, l1_i, l1_1, l1_0, l2_0, l2_1, l2_2, l2_3, l3_0, w2_0, w2_1, w2_2, w2_3, d1_0, d1_1, d1_2, d1_3, d2_i, d2_1, d2_0, ev_0, ev_1, ev_16, ev_17, ev_18, ev_2, ev_3, ev_4, ev_5, ev_6, ev_7, ev_8, ev_9, ev_20, ev_21, ev_22, ev_23, ev_24, ev_25, ev_27, ev_28, ev_30, ev_31, ev_32, ev_33, ev_34, ev_35, ev_36, ev_37, ev_38, ev_39, ev_40, ev_41, ev_42, ev_43, ev_45, ev_46, ev_47, ev_48, ev_49, ev_50, ev_51, ev_52, ev_54, ev_55, ev_57, ev_58, ev_59, k2_0, k2_1, k2_2, k3a, k3b, k4, o1_s, xbin_0, xbin_1, xbin_2, xbin_3, xbin_4, xbin_5, xbin_6, xbin_7, xbin_8, xbin_9, xbin_11, xbin_12, xun_0, xun_1, xun_2, xun_3, xun_4, xun_5, k6a, k8, k8b, k9, k20, k20b_0, k20b_1, k20b_2, k20b_3, k20b_4, k20b_5, k21_0, k21_1, k21_2, k21_3, k21_4, k21_5, k23, k24, k25, k27, k28, k40, nz_1, nz_2, nz_3, k31_0, k31_1, k31_2, k31_3, k32u, k33, k34, k35, k35b, k36, k37, k38, k47, k49, k49b_0, k49b_1, k49b_2, k49b_3, k50_0, k50_s, k51_0, k51_s, k55, k58, k58b, rk_0, rk_1, rk_2, rk_9, rk_3, rk_4, rk_5, sw_n, sw_c, xtb_n, xtb_c, lset_0, lset_2, lset_1, lkm_0, lkm_2, lkm_9, lkm_1, lkm_n, if_some1, c_10, c_01, c_x0, c_1x, c_n0, c_nn, List.getElem?_cons_zero, List.getElem?_cons_succ, List.set_cons_zero, List.set_cons_succ, List.length_cons, List.length_nil, Int.reduceToNat, Nat.reduceDiv, Nat.reduceMod, Nat.reduceSub, Nat.reduceAdd, Nat.reduceMul, Nat.reduceLT, Nat.reduceLeDiff, Nat.reduceEqDiff, Int.reduceMod, Int.reduceSub, Int.reduceNeg, Int.reduceAdd, Int.reduceMul, Int.reduceLT, Int.reduceLE, Int.reduceEq, put_ss, if_true, if_false, ite_true, ite_false, reduceIte, eq_self, and_true, true_and, and_false, false_and, or_true, true_or, or_false, false_or, not_true_eq_false, not_false_eq_true, k5_73_6, k34_73_6, k54_73_6, k54b_73_6_0, h]
end St2
