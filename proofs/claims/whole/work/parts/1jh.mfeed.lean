/-! FEED OF THE MODEL; the tapes stay alike -/
section MFd
variable {F L d N : Nat} {xs : Nat → Int32} {m : Mem} {a b c g e : Int}
/-- one byte behind the model's tape -/
def u1b (v : Int) (m : Mem) : Mem := put (put m 159 (m 158 1).toNat v) 158 1 (m 158 1 + 1)
def fbv (a b c g e : Int) (k : Int) : Int := iand (ishr (sel5 a b c g e k) (24 - 8 * (k % 4))) 255
theorem L_250 {k : Int} {w : Nat × Int} (hk : 0 ≤ k ∧ k < 20) (hn : 0 ≤ m 158 1 ∧ m 158 1 < 3000) : ∃ w', LF F d la_250_0 lb_250_0 lc_250_0 (N + 1) ([(2, 158), (0, a), (0, b), (0, c), (0, g), (0, e), (0, k), w], Hp L xs m) = LF F d la_250_0 lb_250_0 lc_250_0 N ([(2, 158), (0, a), (0, b), (0, c), (0, g), (0, e), (0, k + 1), w'], Hp L xs (u1b (fbv a b c g e k) m)) := by
  have h1 : k < 20 := hk.2
  have e0 : k.tmod 4 = k % 4 := Int.tmod_eq_emod_of_nonneg hk.1
  have e4 : (4 : Int) ≠ 0 := by decide
  have eX : ∀ x y : Int, iand (ishr x (24 - 8 * (k % 4))) 255 = y → iand (ishr x (24 - 8 * (k % 4))) 255 = y := fun _ _ h => h
  refine ⟨(0, sel5 a b c g e k), ?_⟩
  rw [lf_s]
  unfold fbv sel5
  by_cases c1 : k < 4
  · rw [if_pos c1]
    simp (disch := first | assumption | omega) only [ea_250_0, eb_250_0, ec_250_0, l1_i, l1_1, l1_0, l2_0, l2_1, l2_2, l2_3, l3_0, w2_0, w2_1, w2_2, w2_3, d1_0, d1_1, d1_2, d1_3, d2_i, d2_1, d2_0, ev_0, ev_1, ev_16, ev_17, ev_18, ev_2, ev_3, ev_4, ev_5, ev_6, ev_7, ev_8, ev_9, ev_20, ev_21, ev_22, ev_23, ev_24, ev_25, ev_27, ev_28, ev_30, ev_31, ev_32, ev_33, ev_34, ev_35, ev_36, ev_37, ev_38, ev_39, ev_40, ev_41, ev_42, ev_43, ev_45, ev_46, ev_47, ev_48, ev_49, ev_50, ev_51, ev_52, ev_54, ev_55, ev_57, ev_58, ev_59, k2_0, k2_1, k2_2, k3a, k3b, k4, o1_s, xbin_0, xbin_1, xbin_2, xbin_3, xbin_4, xbin_5, xbin_6, xbin_7, xbin_8, xbin_9, xbin_11, xbin_12, xun_0, xun_1, xun_2, xun_3, xun_4, xun_5, k6a, k8, k8b, k9, k20, k20b_0, k20b_1, k20b_2, k20b_3, k20b_4, k20b_5, k21_0, k21_1, k21_2, k21_3, k21_4, k21_5, k23, k24, k25, k27, k28, k40, nz_1, nz_2, nz_3, k31_0, k31_1, k31_2, k31_3, k32u, k33, k34, k35, k35b, k36, k37, k38, k47, k49, k49b_0, k49b_1, k49b_2, k49b_3, k50_0, k50_s, k51_0, k51_s, k55, k58, k58b, rk_0, rk_1, rk_2, rk_9, rk_3, rk_4, rk_5, sw_n, sw_c, xtb_n, xtb_c, lset_0, lset_2, lset_1, lkm_0, lkm_2, lkm_9, lkm_1, lkm_n, if_some1, c_10, c_01, c_x0, c_1x, c_n0, c_nn, List.getElem?_cons_zero, List.getElem?_cons_succ, List.set_cons_zero, List.set_cons_succ, List.length_cons, List.length_nil, Int.reduceToNat, Nat.reduceDiv, Nat.reduceMod, Nat.reduceSub, Nat.reduceAdd, Nat.reduceMul, Nat.reduceLT, Nat.reduceLeDiff, Nat.reduceEqDiff, Int.reduceMod, Int.reduceSub, Int.reduceNeg, Int.reduceAdd, Int.reduceMul, Int.reduceLT, Int.reduceLE, Int.reduceEq, put_ss, if_true, if_false, ite_true, ite_false, reduceIte, eq_self, and_true, true_and, and_false, false_and, or_true, true_or, or_false, false_or, not_true_eq_false, not_false_eq_true, k5_158_0, k6_159, k35_159, n_159, k5_158_1, k34_158_1, k54_158_1, k54b_158_1_0, h1, c1, e0, w32_of]
    rfl
  rw [if_neg c1]
  by_cases c2 : k < 8
  · rw [if_pos c2]
    simp (disch := first | assumption | omega) only [ea_250_0, eb_250_0, ec_250_0, l1_i, l1_1, l1_0, l2_0, l2_1, l2_2, l2_3, l3_0, w2_0, w2_1, w2_2, w2_3, d1_0, d1_1, d1_2, d1_3, d2_i, d2_1, d2_0, ev_0, ev_1, ev_16, ev_17, ev_18, ev_2, ev_3, ev_4, ev_5, ev_6, ev_7, ev_8, ev_9, ev_20, ev_21, ev_22, ev_23, ev_24, ev_25, ev_27, ev_28, ev_30, ev_31, ev_32, ev_33, ev_34, ev_35, ev_36, ev_37, ev_38, ev_39, ev_40, ev_41, ev_42, ev_43, ev_45, ev_46, ev_47, ev_48, ev_49, ev_50, ev_51, ev_52, ev_54, ev_55, ev_57, ev_58, ev_59, k2_0, k2_1, k2_2, k3a, k3b, k4, o1_s, xbin_0, xbin_1, xbin_2, xbin_3, xbin_4, xbin_5, xbin_6, xbin_7, xbin_8, xbin_9, xbin_11, xbin_12, xun_0, xun_1, xun_2, xun_3, xun_4, xun_5, k6a, k8, k8b, k9, k20, k20b_0, k20b_1, k20b_2, k20b_3, k20b_4, k20b_5, k21_0, k21_1, k21_2, k21_3, k21_4, k21_5, k23, k24, k25, k27, k28, k40, nz_1, nz_2, nz_3, k31_0, k31_1, k31_2, k31_3, k32u, k33, k34, k35, k35b, k36, k37, k38, k47, k49, k49b_0, k49b_1, k49b_2, k49b_3, k50_0, k50_s, k51_0, k51_s, k55, k58, k58b, rk_0, rk_1, rk_2, rk_9, rk_3, rk_4, rk_5, sw_n, sw_c, xtb_n, xtb_c, lset_0, lset_2, lset_1, lkm_0, lkm_2, lkm_9, lkm_1, lkm_n, if_some1, c_10, c_01, c_x0, c_1x, c_n0, c_nn, List.getElem?_cons_zero, List.getElem?_cons_succ, List.set_cons_zero, List.set_cons_succ, List.length_cons, List.length_nil, Int.reduceToNat, Nat.reduceDiv, Nat.reduceMod, Nat.reduceSub, Nat.reduceAdd, Nat.reduceMul, Nat.reduceLT, Nat.reduceLeDiff, Nat.reduceEqDiff, Int.reduceMod, Int.reduceSub, Int.reduceNeg, Int.reduceAdd, Int.reduceMul, Int.reduceLT, Int.reduceLE, Int.reduceEq, put_ss, if_true, if_false, ite_true, ite_false, reduceIte, eq_self, and_true, true_and, and_false, false_and, or_true, true_or, or_false, false_or, not_true_eq_false, not_false_eq_true, k5_158_0, k6_159, k35_159, n_159, k5_158_1, k34_158_1, k54_158_1, k54b_158_1_0, h1, c1, c2, e0, w32_of]
    rfl
  rw [if_neg c2]
  by_cases c3 : k < 12
  · rw [if_pos c3]
    simp (disch := first | assumption | omega) only [ea_250_0, eb_250_0, ec_250_0, l1_i, l1_1, l1_0, l2_0, l2_1, l2_2, l2_3, l3_0, w2_0, w2_1, w2_2, w2_3, d1_0, d1_1, d1_2, d1_3, d2_i, d2_1, d2_0, ev_0, ev_1, ev_16, ev_17, ev_18, ev_2, ev_3, ev_4, ev_5, ev_6, ev_7, ev_8, ev_9, ev_20, ev_21, ev_22, ev_23, ev_24, ev_25, ev_27, ev_28, ev_30, ev_31, ev_32, ev_33, ev_34, ev_35, ev_36, ev_37, ev_38, ev_39, ev_40, ev_41, ev_42, ev_43, ev_45, ev_46, ev_47, ev_48, ev_49, ev_50, ev_51, ev_52, ev_54, ev_55, ev_57, ev_58, ev_59, k2_0, k2_1, k2_2, k3a, k3b, k4, o1_s, xbin_0, xbin_1, xbin_2, xbin_3, xbin_4, xbin_5, xbin_6, xbin_7, xbin_8, xbin_9, xbin_11, xbin_12, xun_0, xun_1, xun_2, xun_3, xun_4, xun_5, k6a, k8, k8b, k9, k20, k20b_0, k20b_1, k20b_2, k20b_3, k20b_4, k20b_5, k21_0, k21_1, k21_2, k21_3, k21_4, k21_5, k23, k24, k25, k27, k28, k40, nz_1, nz_2, nz_3, k31_0, k31_1, k31_2, k31_3, k32u, k33, k34, k35, k35b, k36, k37, k38, k47, k49, k49b_0, k49b_1, k49b_2, k49b_3, k50_0, k50_s, k51_0, k51_s, k55, k58, k58b, rk_0, rk_1, rk_2, rk_9, rk_3, rk_4, rk_5, sw_n, sw_c, xtb_n, xtb_c, lset_0, lset_2, lset_1, lkm_0, lkm_2, lkm_9, lkm_1, lkm_n, if_some1, c_10, c_01, c_x0, c_1x, c_n0, c_nn, List.getElem?_cons_zero, List.getElem?_cons_succ, List.set_cons_zero, List.set_cons_succ, List.length_cons, List.length_nil, Int.reduceToNat, Nat.reduceDiv, Nat.reduceMod, Nat.reduceSub, Nat.reduceAdd, Nat.reduceMul, Nat.reduceLT, Nat.reduceLeDiff, Nat.reduceEqDiff, Int.reduceMod, Int.reduceSub, Int.reduceNeg, Int.reduceAdd, Int.reduceMul, Int.reduceLT, Int.reduceLE, Int.reduceEq, put_ss, if_true, if_false, ite_true, ite_false, reduceIte, eq_self, and_true, true_and, and_false, false_and, or_true, true_or, or_false, false_or, not_true_eq_false, not_false_eq_true, k5_158_0, k6_159, k35_159, n_159, k5_158_1, k34_158_1, k54_158_1, k54b_158_1_0, h1, c1, c2, c3, e0, w32_of]
    rfl
  rw [if_neg c3]
  by_cases c4 : k < 16
  · rw [if_pos c4]
    simp (disch := first | assumption | omega) only [ea_250_0, eb_250_0, ec_250_0, l1_i, l1_1, l1_0, l2_0, l2_1, l2_2, l2_3, l3_0, w2_0, w2_1, w2_2, w2_3, d1_0, d1_1, d1_2, d1_3, d2_i, d2_1, d2_0, ev_0, ev_1, ev_16, ev_17, ev_18, ev_2, ev_3, ev_4, ev_5, ev_6, ev_7, ev_8, ev_9, ev_20, ev_21, ev_22, ev_23, ev_24, ev_25, ev_27, ev_28, ev_30, ev_31, ev_32, ev_33, ev_34, ev_35, ev_36, ev_37, ev_38, ev_39, ev_40, ev_41, ev_42, ev_43, ev_45, ev_46, ev_47, ev_48, ev_49, ev_50, ev_51, ev_52, ev_54, ev_55, ev_57, ev_58, ev_59, k2_0, k2_1, k2_2, k3a, k3b, k4, o1_s, xbin_0, xbin_1, xbin_2, xbin_3, xbin_4, xbin_5, xbin_6, xbin_7, xbin_8, xbin_9, xbin_11, xbin_12, xun_0, xun_1, xun_2, xun_3, xun_4, xun_5, k6a, k8, k8b, k9, k20, k20b_0, k20b_1, k20b_2, k20b_3, k20b_4, k20b_5, k21_0, k21_1, k21_2, k21_3, k21_4, k21_5, k23, k24, k25, k27, k28, k40, nz_1, nz_2, nz_3, k31_0, k31_1, k31_2, k31_3, k32u, k33, k34, k35, k35b, k36, k37, k38, k47, k49, k49b_0, k49b_1, k49b_2, k49b_3, k50_0, k50_s, k51_0, k51_s, k55, k58, k58b, rk_0, rk_1, rk_2, rk_9, rk_3, rk_4, rk_5, sw_n, sw_c, xtb_n, xtb_c, lset_0, lset_2, lset_1, lkm_0, lkm_2, lkm_9, lkm_1, lkm_n, if_some1, c_10, c_01, c_x0, c_1x, c_n0, c_nn, List.getElem?_cons_zero, List.getElem?_cons_succ, List.set_cons_zero, List.set_cons_succ, List.length_cons, List.length_nil, Int.reduceToNat, Nat.reduceDiv, Nat.reduceMod, Nat.reduceSub, Nat.reduceAdd, Nat.reduceMul, Nat.reduceLT, Nat.reduceLeDiff, Nat.reduceEqDiff, Int.reduceMod, Int.reduceSub, Int.reduceNeg, Int.reduceAdd, Int.reduceMul, Int.reduceLT, Int.reduceLE, Int.reduceEq, put_ss, if_true, if_false, ite_true, ite_false, reduceIte, eq_self, and_true, true_and, and_false, false_and, or_true, true_or, or_false, false_or, not_true_eq_false, not_false_eq_true, k5_158_0, k6_159, k35_159, n_159, k5_158_1, k34_158_1, k54_158_1, k54b_158_1_0, h1, c1, c2, c3, c4, e0, w32_of]
    rfl
  rw [if_neg c4]
  simp (disch := first | assumption | omega) only [ea_250_0, eb_250_0, ec_250_0, l1_i, l1_1, l1_0, l2_0, l2_1, l2_2, l2_3, l3_0, w2_0, w2_1, w2_2, w2_3, d1_0, d1_1, d1_2, d1_3, d2_i, d2_1, d2_0, ev_0, ev_1, ev_16, ev_17, ev_18, ev_2, ev_3, ev_4, ev_5, ev_6, ev_7, ev_8, ev_9, ev_20, ev_21, ev_22, ev_23, ev_24, ev_25, ev_27, ev_28, ev_30, ev_31, ev_32, ev_33, ev_34, ev_35, ev_36, ev_37, ev_38, ev_39, ev_40, ev_41, ev_42, ev_43, ev_45, ev_46, ev_47, ev_48, ev_49, ev_50, ev_51, ev_52, ev_54, ev_55, ev_57, ev_58, ev_59, k2_0, k2_1, k2_2, k3a, k3b, k4, o1_s, xbin_0, xbin_1, xbin_2, xbin_3, xbin_4, xbin_5, xbin_6, xbin_7, xbin_8, xbin_9, xbin_11, xbin_12, xun_0, xun_1, xun_2, xun_3, xun_4, xun_5, k6a, k8, k8b, k9, k20, k20b_0, k20b_1, k20b_2, k20b_3, k20b_4, k20b_5, k21_0, k21_1, k21_2, k21_3, k21_4, k21_5, k23, k24, k25, k27, k28, k40, nz_1, nz_2, nz_3, k31_0, k31_1, k31_2, k31_3, k32u, k33, k34, k35, k35b, k36, k37, k38, k47, k49, k49b_0, k49b_1, k49b_2, k49b_3, k50_0, k50_s, k51_0, k51_s, k55, k58, k58b, rk_0, rk_1, rk_2, rk_9, rk_3, rk_4, rk_5, sw_n, sw_c, xtb_n, xtb_c, lset_0, lset_2, lset_1, lkm_0, lkm_2, lkm_9, lkm_1, lkm_n, if_some1, c_10, c_01, c_x0, c_1x, c_n0, c_nn, List.getElem?_cons_zero, List.getElem?_cons_succ, List.set_cons_zero, List.set_cons_succ, List.length_cons, List.length_nil, Int.reduceToNat, Nat.reduceDiv, Nat.reduceMod, Nat.reduceSub, Nat.reduceAdd, Nat.reduceMul, Nat.reduceLT, Nat.reduceLeDiff, Nat.reduceEqDiff, Int.reduceMod, Int.reduceSub, Int.reduceNeg, Int.reduceAdd, Int.reduceMul, Int.reduceLT, Int.reduceLE, Int.reduceEq, put_ss, if_true, if_false, ite_true, ite_false, reduceIte, eq_self, and_true, true_and, and_false, false_and, or_true, true_or, or_false, false_or, not_true_eq_false, not_false_eq_true, k5_158_0, k6_159, k35_159, n_159, k5_158_1, k34_158_1, k54_158_1, k54b_158_1_0, h1, c1, c2, c3, c4, e0, w32_of]
  rfl
theorem L_250e {w : Nat × Int} : LF F d la_250_0 lb_250_0 lc_250_0 (N + 1) ([(2, 158), (0, a), (0, b), (0, c), (0, g), (0, e), (0, 20), w], Hp L xs m) = some (0, [], ([(2, 158), (0, a), (0, b), (0, c), (0, g), (0, e), (0, 20), w], Hp L xs m)) := by
  have h1 : ¬ (20 : Int) < 20 := by omega
  rw [lf_s]
  simp (disch := omega) only [ea_250_0, eb_250_0, ec_250_0, l1_i, l1_1, l1_0, l2_0, l2_1, l2_2, l2_3, l3_0, w2_0, w2_1, w2_2, w2_3, d1_0, d1_1, d1_2, d1_3, d2_i, d2_1, d2_0, ev_0, ev_1, ev_16, ev_17, ev_18, ev_2, ev_3, ev_4, ev_5, ev_6, ev_7, ev_8, ev_9, ev_20, ev_21, ev_22, ev_23, ev_24, ev_25, ev_27, ev_28, ev_30, ev_31, ev_32, ev_33, ev_34, ev_35, ev_36, ev_37, ev_38, ev_39, ev_40, ev_41, ev_42, ev_43, ev_45, ev_46, ev_47, ev_48, ev_49, ev_50, ev_51, ev_52, ev_54, ev_55, ev_57, ev_58, ev_59, k2_0, k2_1, k2_2, k3a, k3b, k4, o1_s, xbin_0, xbin_1, xbin_2, xbin_3, xbin_4, xbin_5, xbin_6, xbin_7, xbin_8, xbin_9, xbin_11, xbin_12, xun_0, xun_1, xun_2, xun_3, xun_4, xun_5, k6a, k8, k8b, k9, k20, k20b_0, k20b_1, k20b_2, k20b_3, k20b_4, k20b_5, k21_0, k21_1, k21_2, k21_3, k21_4, k21_5, k23, k24, k25, k27, k28, k40, nz_1, nz_2, nz_3, k31_0, k31_1, k31_2, k31_3, k32u, k33, k34, k35, k35b, k36, k37, k38, k47, k49, k49b_0, k49b_1, k49b_2, k49b_3, k50_0, k50_s, k51_0, k51_s, k55, k58, k58b, rk_0, rk_1, rk_2, rk_9, rk_3, rk_4, rk_5, sw_n, sw_c, xtb_n, xtb_c, lset_0, lset_2, lset_1, lkm_0, lkm_2, lkm_9, lkm_1, lkm_n, if_some1, c_10, c_01, c_x0, c_1x, c_n0, c_nn, List.getElem?_cons_zero, List.getElem?_cons_succ, List.set_cons_zero, List.set_cons_succ, List.length_cons, List.length_nil, Int.reduceToNat, Nat.reduceDiv, Nat.reduceMod, Nat.reduceSub, Nat.reduceAdd, Nat.reduceMul, Nat.reduceLT, Nat.reduceLeDiff, Nat.reduceEqDiff, Int.reduceMod, Int.reduceSub, Int.reduceNeg, Int.reduceAdd, Int.reduceMul, Int.reduceLT, Int.reduceLE, Int.reduceEq, put_ss, if_true, if_false, ite_true, ite_false, reduceIte, eq_self, and_true, true_and, and_false, false_and, or_true, true_or, or_false, false_or, not_true_eq_false, not_false_eq_true, h1]
/-- the model's memory behind a feed: bytes k to 19 -/
theorem L_250a : ∀ (f : Nat) (k : Int) (m : Mem) (w : Nat × Int) (N : Nat), 0 ≤ k → k + f = 20 → 0 ≤ m 158 1 → m 158 1 + f ≤ 3000 → f < N → ∃ (w' : Nat × Int) (m' : Mem), LF F d la_250_0 lb_250_0 lc_250_0 N ([(2, 158), (0, a), (0, b), (0, c), (0, g), (0, e), (0, k), w], Hp L xs m) = some (0, [], ([(2, 158), (0, a), (0, b), (0, c), (0, g), (0, e), (0, 20), w'], Hp L xs m')) ∧ m' 158 1 = m 158 1 + f ∧ (∀ a k : Nat, a ≠ 159 → (a = 158 → k ≠ 1) → m' a k = m a k) ∧ (∀ j : Nat, (j : Int) < m 158 1 → m' 159 j = m 159 j) ∧ ∀ i : Nat, i < f → m' 159 ((m 158 1).toNat + i) = fbv a b c g e (k + i) := by
  intro f
  induction f with
  | zero =>
    intro k m w N hk hf h0 h1 hN
    obtain ⟨N, rfl⟩ : ∃ n, N = n + 1 := ⟨N - 1, by omega⟩
    have : k = 20 := by omega
    subst this
    exact ⟨w, m, L_250e, by omega, fun _ _ _ _ => rfl, fun _ _ => rfl, fun i hi => by omega⟩
  | succ f ih =>
    intro k m w N hk hf h0 h1 hN
    obtain ⟨N, rfl⟩ : ∃ n, N = n + 1 := ⟨N - 1, by omega⟩
    obtain ⟨w1, c1⟩ := L_250 (F := F) (L := L) (xs := xs) (d := d) (N := N) (m := m) (a := a) (b := b) (c := c) (g := g) (e := e) (k := k) (w := w) (by omega) (by omega)
    have n1 : u1b (fbv a b c g e k) m 158 1 = m 158 1 + 1 := rfl
    obtain ⟨w2, m2, c2, n2, fr, lo, hi⟩ := ih (k + 1) (u1b (fbv a b c g e k) m) w1 N (by omega) (by omega) (by omega) (by omega) (by omega)
    rw [n1] at n2 lo hi
    have u9 : ∀ j : Nat, u1b (fbv a b c g e k) m 159 j = if j = (m 158 1).toNat then fbv a b c g e k else m 159 j := fun j => rfl
    refine ⟨w2, m2, c1.trans c2, by omega, ?_, ?_, ?_⟩
    · intro x y h2 h3
      rw [fr x y h2 h3]
      unfold u1b
      rw [put_ss, put_ss]
      by_cases c5 : x = 158
      · rw [if_pos c5, if_neg (h3 c5), if_neg h2]
      · rw [if_neg c5, if_neg h2]
    · intro j hj
      rw [lo j (by omega), u9, if_neg (by omega)]
    · intro i hi'
      rcases Nat.eq_zero_or_pos i with rfl | hp
      · rw [lo _ (by omega), u9, if_pos (by omega)]
        congr 1
        omega
      · obtain ⟨i, rfl⟩ : ∃ j, i = j + 1 := ⟨i - 1, by omega⟩
        have := hi i (by omega)
        rw [show (m 158 1 + 1).toNat + i = (m 158 1).toNat + (i + 1) from by omega] at this
        rw [this]
        congr 1
        omega
theorem M_250 (hF : 100000 ≤ F) (hn : 0 ≤ m 158 1 ∧ m 158 1 ≤ 3000) : ∃ m', Cx F (d + 1) 250 [158, a, b, c, g, e] (Hp L xs m) = (if m 158 1 + 20 ≤ 3000 then some ([m 158 1 + 20], Hp L xs m') else some ([-1], Hp L xs m)) ∧ m' 158 1 = m 158 1 + 20 ∧ (∀ a k : Nat, a ≠ 159 → (a = 158 → k ≠ 1) → m' a k = m a k) ∧ (∀ j : Nat, (j : Int) < m 158 1 → m' 159 j = m 159 j) ∧ ∀ i : Nat, i < 20 → m' 159 ((m 158 1).toNat + i) = fbv a b c g e i := by
  by_cases h : m 158 1 + 20 ≤ 3000
  · obtain ⟨w', m', c1, c2, c3, c4, c5⟩ := L_250a (F := F) (L := L) (xs := xs) (d := d) (a := a) (b := b) (c := c) (g := g) (e := e) 20 0 m (9, 0) F (by omega) (by omega) (by omega) (by omega) (by omega)
    refine ⟨m', ?_, c2, c3, c4, fun i hi => ?_⟩
    · rw [if_pos h]
      have h' : ¬ 3000 < m 158 1 + 20 := by omega
      have c2' : m' 158 1 = m 158 1 + 20 := c2
      simp (disch := omega) only [c_250, tx_250, ev_0, ev_1, ev_16, ev_17, ev_18, ev_2, ev_3, ev_4, ev_5, ev_6, ev_7, ev_8, ev_9, ev_20, ev_21, ev_22, ev_23, ev_24, ev_25, ev_27, ev_28, ev_30, ev_31, ev_32, ev_33, ev_34, ev_35, ev_36, ev_37, ev_38, ev_39, ev_40, ev_41, ev_42, ev_43, ev_45, ev_46, ev_47, ev_48, ev_49, ev_50, ev_51, ev_52, ev_54, ev_55, ev_57, ev_58, ev_59, k2_0, k2_1, k2_2, k3a, k3b, k4, o1_s, xbin_0, xbin_1, xbin_2, xbin_3, xbin_4, xbin_5, xbin_6, xbin_7, xbin_8, xbin_9, xbin_11, xbin_12, xun_0, xun_1, xun_2, xun_3, xun_4, xun_5, k6a, k8, k8b, k9, k20, k20b_0, k20b_1, k20b_2, k20b_3, k20b_4, k20b_5, k21_0, k21_1, k21_2, k21_3, k21_4, k21_5, k23, k24, k25, k27, k28, k40, nz_1, nz_2, nz_3, k31_0, k31_1, k31_2, k31_3, k32u, k33, k34, k35, k35b, k36, k37, k38, k47, k49, k49b_0, k49b_1, k49b_2, k49b_3, k50_0, k50_s, k51_0, k51_s, k55, k58, k58b, rk_0, rk_1, rk_2, rk_9, rk_3, rk_4, rk_5, sw_n, sw_c, xtb_n, xtb_c, lset_0, lset_2, lset_1, lkm_0, lkm_2, lkm_9, lkm_1, lkm_n, if_some1, c_10, c_01, c_x0, c_1x, c_n0, c_nn, List.getElem?_cons_zero, List.getElem?_cons_succ, List.set_cons_zero, List.set_cons_succ, List.length_cons, List.length_nil, Int.reduceToNat, Nat.reduceDiv, Nat.reduceMod, Nat.reduceSub, Nat.reduceAdd, Nat.reduceMul, Nat.reduceLT, Nat.reduceLeDiff, Nat.reduceEqDiff, Int.reduceMod, Int.reduceSub, Int.reduceNeg, Int.reduceAdd, Int.reduceMul, Int.reduceLT, Int.reduceLE, Int.reduceEq, put_ss, if_true, if_false, ite_true, ite_false, reduceIte, eq_self, and_true, true_and, and_false, false_and, or_true, true_or, or_false, false_or, not_true_eq_false, not_false_eq_true, k5_158_1, k34_158_1, k54_158_1, k54b_158_1_0, h', w32_of, c1, c2']
    · rw [c5 i hi]
      congr 1
      omega
  · refine ⟨fun x y => if x = 158 ∧ y = 1 then m 158 1 + 20 else if x = 159 then (if (y : Int) < m 158 1 then m 159 y else fbv a b c g e ((y - (m 158 1).toNat : Nat) : Int)) else m x y, ?_, ?_, ?_, ?_, ?_⟩
    · rw [if_neg h]
      have h' : 3000 < m 158 1 + 20 := by omega
      simp (disch := omega) only [c_250, tx_250, ev_0, ev_1, ev_16, ev_17, ev_18, ev_2, ev_3, ev_4, ev_5, ev_6, ev_7, ev_8, ev_9, ev_20, ev_21, ev_22, ev_23, ev_24, ev_25, ev_27, ev_28, ev_30, ev_31, ev_32, ev_33, ev_34, ev_35, ev_36, ev_37, ev_38, ev_39, ev_40, ev_41, ev_42, ev_43, ev_45, ev_46, ev_47, ev_48, ev_49, ev_50, ev_51, ev_52, ev_54, ev_55, ev_57, ev_58, ev_59, k2_0, k2_1, k2_2, k3a, k3b, k4, o1_s, xbin_0, xbin_1, xbin_2, xbin_3, xbin_4, xbin_5, xbin_6, xbin_7, xbin_8, xbin_9, xbin_11, xbin_12, xun_0, xun_1, xun_2, xun_3, xun_4, xun_5, k6a, k8, k8b, k9, k20, k20b_0, k20b_1, k20b_2, k20b_3, k20b_4, k20b_5, k21_0, k21_1, k21_2, k21_3, k21_4, k21_5, k23, k24, k25, k27, k28, k40, nz_1, nz_2, nz_3, k31_0, k31_1, k31_2, k31_3, k32u, k33, k34, k35, k35b, k36, k37, k38, k47, k49, k49b_0, k49b_1, k49b_2, k49b_3, k50_0, k50_s, k51_0, k51_s, k55, k58, k58b, rk_0, rk_1, rk_2, rk_9, rk_3, rk_4, rk_5, sw_n, sw_c, xtb_n, xtb_c, lset_0, lset_2, lset_1, lkm_0, lkm_2, lkm_9, lkm_1, lkm_n, if_some1, c_10, c_01, c_x0, c_1x, c_n0, c_nn, List.getElem?_cons_zero, List.getElem?_cons_succ, List.set_cons_zero, List.set_cons_succ, List.length_cons, List.length_nil, Int.reduceToNat, Nat.reduceDiv, Nat.reduceMod, Nat.reduceSub, Nat.reduceAdd, Nat.reduceMul, Nat.reduceLT, Nat.reduceLeDiff, Nat.reduceEqDiff, Int.reduceMod, Int.reduceSub, Int.reduceNeg, Int.reduceAdd, Int.reduceMul, Int.reduceLT, Int.reduceLE, Int.reduceEq, put_ss, if_true, if_false, ite_true, ite_false, reduceIte, eq_self, and_true, true_and, and_false, false_and, or_true, true_or, or_false, false_or, not_true_eq_false, not_false_eq_true, k5_158_1, k34_158_1, k54_158_1, k54b_158_1_0, h', w32_of]
    · exact if_pos ⟨rfl, rfl⟩
    · intro x y h1 h2
      show (if x = 158 ∧ y = 1 then _ else _) = _
      rw [if_neg (fun w => h2 w.1 w.2), if_neg h1]
    · intro j hj
      show (if (159 = 158 ∧ j = 1) then _ else (if (159 : Nat) = 159 then (if (j : Int) < m 158 1 then _ else _) else _)) = _
      rw [if_neg (by omega), if_pos rfl, if_pos hj]
    · intro i hi
      show (if (159 = 158 ∧ _ = 1) then _ else (if (159 : Nat) = 159 then (if (((m 158 1).toNat + i : Nat) : Int) < m 158 1 then _ else _) else _)) = _
      rw [if_neg (by omega), if_pos rfl, if_neg (by omega)]
      congr 2
      omega
/-- what the tapes hold behind a feed -/
def bfd (q : Nat → Int) (n : Int) (a b c g e : Int) (k : Nat) : Int := if (k : Int) < n then q k else fbt a b c g e (k - n.toNat)
theorem fbv_t {i : Nat} : fbv a b c g e (i : Int) = fbt a b c g e i := by
  unfold fbv fbt
  rw [iand_255]
theorem fbt_r {i : Nat} : 0 ≤ fbt a b c g e i ∧ fbt a b c g e i ≤ 255 := by
  unfold fbt
  omega
theorem MTp_fd {q : Nat → Int} {n : Int} {m' : Mem} (Y : MTp m q n) (hn : n + 20 ≤ 3000) (h1 : m' 158 1 = m 158 1 + 20) (h2 : ∀ j : Nat, (j : Int) < m 158 1 → m' 159 j = m 159 j) (h3 : ∀ i : Nat, i < 20 → m' 159 ((m 158 1).toNat + i) = fbv a b c g e i) : MTp m' (bfd q n a b c g e) (n + 20) := by
  obtain ⟨y1, y2, y3, y4⟩ := Y
  refine ⟨by omega, by omega, by omega, ?_⟩
  intro k hk
  unfold bfd
  by_cases c1 : (k : Int) < n
  · rw [if_pos c1, h2 k (by omega)]
    exact y4 k c1
  · rw [if_neg c1]
    have := h3 (k - n.toNat) (by omega)
    rw [y1, show n.toNat + (k - n.toNat) = k from by omega, fbv_t] at this
    exact ⟨this, fbt_r⟩
theorem bm_255 (x : Int) : iand (Int.bmod x 256) 255 = x % 256 := by
  rw [iand_255]
  exact Int.bmod_emod
theorem t20_h {h : Int} {i : Nat} (h0 : 0 ≤ m 51 1) (hi : i < 20) : iand (t20 a b c g e m 52 ((m 51 1).toNat + i)) 255 = fbt a b c g e i := by
  have e1 := t4b_n (v := a) (m := m)
  have e2 := t4b_n (v := b) (m := t4b a m)
  have e3 := t4b_n (v := c) (m := t4b b (t4b a m))
  have e4 := t4b_n (v := g) (m := t4b c (t4b b (t4b a m)))
  unfold fbt t20
  have hd : ∃ q r : Nat, i = 4 * q + r ∧ r < 4 ∧ q < 5 := ⟨i / 4, i % 4, by omega, by omega, by omega⟩
  obtain ⟨q, r, rfl, hr, hq⟩ := hd
  have hm : (((4 * q + r : Nat) : Int)) % 4 = r := by omega
  rw [hm]
  have hc : q = 0 ∨ q = 1 ∨ q = 2 ∨ q = 3 ∨ q = 4 := by omega
  unfold sel5
  rcases hc with rfl | rfl | rfl | rfl | rfl
  · rw [if_pos (by omega), t4b_l (by omega) (by omega), t4b_l (by omega) (by omega), t4b_l (by omega) (by omega), t4b_l (by omega) (by omega), show (m 51 1).toNat + (4 * 0 + r) = (m 51 1).toNat + r from by omega, t4b_h h0 hr, bm_255]
  · rw [if_neg (by omega), if_pos (by omega), t4b_l (by omega) (by omega), t4b_l (by omega) (by omega), t4b_l (by omega) (by omega), show (m 51 1).toNat + (4 * 1 + r) = (t4b a m 51 1).toNat + r from by omega, t4b_h (by omega) hr, bm_255]
  · rw [if_neg (by omega), if_neg (by omega), if_pos (by omega), t4b_l (by omega) (by omega), t4b_l (by omega) (by omega), show (m 51 1).toNat + (4 * 2 + r) = (t4b b (t4b a m) 51 1).toNat + r from by omega, t4b_h (by omega) hr, bm_255]
  · rw [if_neg (by omega), if_neg (by omega), if_neg (by omega), if_pos (by omega), t4b_l (by omega) (by omega), show (m 51 1).toNat + (4 * 3 + r) = (t4b c (t4b b (t4b a m)) 51 1).toNat + r from by omega, t4b_h (by omega) hr, bm_255]
  · rw [if_neg (by omega), if_neg (by omega), if_neg (by omega), if_neg (by omega), show (m 51 1).toNat + (4 * 4 + r) = (t4b g (t4b c (t4b b (t4b a m))) 51 1).toNat + r from by omega, t4b_h (by omega) hr, bm_255]
theorem t20_n : t20 a b c g e m 51 1 = m 51 1 + 20 := by
  unfold t20
  rw [t4b_n, t4b_n, t4b_n, t4b_n, t4b_n]
  omega
theorem t20_o {x k : Nat} (h1 : x ≠ 52) (h2 : x = 51 → k ≠ 1) : t20 a b c g e m x k = m x k := by
  unfold t20
  rw [t4b_o h1 h2, t4b_o h1 h2, t4b_o h1 h2, t4b_o h1 h2, t4b_o h1 h2]
theorem t20_l {k : Nat} (h0 : 0 ≤ m 51 1) (hk : (k : Int) < m 51 1) : t20 a b c g e m 52 k = m 52 k := by
  have e1 := t4b_n (v := a) (m := m)
  have e2 := t4b_n (v := b) (m := t4b a m)
  have e3 := t4b_n (v := c) (m := t4b b (t4b a m))
  have e4 := t4b_n (v := g) (m := t4b c (t4b b (t4b a m)))
  unfold t20
  rw [t4b_l (by omega) (by omega), t4b_l (by omega) (by omega), t4b_l (by omega) (by omega), t4b_l (by omega) (by omega), t4b_l (by omega) (by omega)]
theorem BY_fd {q : Nat → Int} {n : Int} (Y : BY m q n) (hn : n + 20 ≤ 3000) : BY (t20 a b c g e m) (bfd q n a b c g e) (n + 20) := by
  obtain ⟨y1, y2, y3, y4⟩ := Y
  refine ⟨by rw [t20_n, y1], by omega, by omega, ?_⟩
  intro k hk
  unfold bfd
  by_cases c1 : (k : Int) < n
  · rw [if_pos c1, t20_l (by omega) (by omega)]
    exact y4 k c1
  · rw [if_neg c1]
    have := t20_h (h := 0) (a := a) (b := b) (c := c) (g := g) (e := e) (m := m) (i := k - n.toNat) (by omega) (by omega)
    rw [y1, show n.toNat + (k - n.toNat) = k from by omega] at this
    exact ⟨this, fbt_r⟩
end MFd
