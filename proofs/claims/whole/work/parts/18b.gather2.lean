/-! THE CLASS'S TOPS: gatherConditions -/
def gC (m : Mem) (i : Int) : Mem := tel (put m 57 6 (m 57 6 + 1)) i 3 (m 57 6 + 1)
def gN : xT → Mem → Mem
  | .tag k (.nest i (.append _ b)) => fun m => match k with
    | 45 => gC m i
    | _ => gN b (gC m i)
  | _ => fun m => m
theorem Kt_gC {m : Mem} {i : Int} : Kt m (gC m i) := Kt_tr (Kt_put (by decide) (by decide)) Kt_tel
theorem gC_57 {m : Mem} {i : Int} (j : Nat) (h : j ≠ 15) (h6 : j ≠ 6) : gC m i 57 j = m 57 j := by
  unfold gC
  rw [tel_57 j h, put_ss, if_pos rfl, if_neg h6]
theorem gC_6 {m : Mem} {i : Int} : gC m i 57 6 = m 57 6 + 1 := by
  unfold gC
  rw [tel_57 6 (by decide)]
  rfl
section Gac
variable {F : Nat}
theorem L_161 : ∀ (k : Nat) (t : xT), tsz t < k → ∀ (m : Mem) (x r : Int), PN (kd m) t x r → kd m r = 59 → 0 ≤ x → r < m 51 5 → m 51 5 ≤ 3001 → m 57 4 ≤ 1510 → 0 ≤ m 57 6 → m 57 6 ≤ x + 5 → ∀ (L : Nat) (xs : Nat → Int32) (d : Nat) (f : Int) (n : Nat), r - x < n → LF F (d + 2) la_161_0 lb_161_0 lc_161_0 n ([(2, 57), (2, 51), (0, f), (0, x)], Hp L xs m) = some (0, [], ([(2, 57), (2, 51), (0, f), (0, r)], Hp L xs (gN t m))) ∧ Kt m (gN t m) ∧ (∀ j, j ≠ 15 → j ≠ 6 → gN t m 57 j = m 57 j) ∧ m 57 6 ≤ gN t m 57 6 ∧ gN t m 57 6 ≤ r + 5 := by
  intro k
  induction k with
  | zero => intro t ht; exact absurd ht (Nat.not_lt_zero _)
  | succ k ih =>
    intro t ht m x r h hr h0 hre hN h4 h60 h6x L xs d f n hn
    have hnn := PN_n t h
    obtain ⟨n, rfl⟩ : ∃ n', n = n' + 1 := ⟨n - 1, by omega⟩
    obtain ⟨n, rfl⟩ : ∃ n', n = n' + 1 := ⟨n - 1, by omega⟩
    have hx : x < m 51 5 := by omega
    have hx1 : x + 1 < m 51 5 := by omega
    have q1 := Kt_gC (m := m) (i := x)
    have q2 := gC_6 (m := m) (i := x)
    have q3 := fun j h h' => gC_57 (m := m) (i := x) j h h'
    have q4 : gC m x 51 5 = m 51 5 := q1.1 51 5 (by omega)
    have q5 := Kt_kd q1
    have q6 : gC m x 57 4 = m 57 4 := q1.2
    have cc := fun D => C_159 (L := L) (xs := xs) (F := F) (d := D) (m := put m 57 6 (m 57 6 + 1)) (a2 := x) (a3 := 3) (a4 := m 57 6 + 1) hN h4
    have e0 : tel (put m 57 6 (m 57 6 + 1)) x 3 (m 57 6 + 1) = gC m x := rfl
    rw [e0] at cc
    have kk := fun D y => C_128 (L := L) (xs := xs) (F := F) (d := D) (m := gC m x) (a1 := y) (by rw [q4]; exact hN)
    rw [q5] at kk
    rcases inv_N h with ⟨a, b, rfl, g1, g2, g3⟩ | ⟨a, b, rfl, g1, g2, g3⟩
    · subst g2
      have e1 : gN (nd 45 x a b) m = gC m x := rfl
      rw [e1]
      refine ⟨?_, q1, q3, by omega, by omega⟩
      rw [lf_s]
      simp (disch := first | omega | assumption) only [ea_161_0, eb_161_0, ec_161_0, l1_i, l1_1, l1_0, l2_0, l2_1, l2_2, l2_3, l3_0, w2_0, w2_1, w2_2, w2_3, d1_0, d1_1, d1_2, d1_3, d2_i, d2_1, d2_0, ev_0, ev_1, ev_16, ev_17, ev_18, ev_2, ev_3, ev_4, ev_5, ev_6, ev_7, ev_8, ev_9, ev_20, ev_21, ev_22, ev_23, ev_24, ev_25, ev_27, ev_28, ev_30, ev_31, ev_32, ev_33, ev_34, ev_35, ev_36, ev_37, ev_38, ev_39, ev_40, ev_41, ev_42, ev_43, ev_45, ev_46, ev_47, ev_48, ev_49, ev_50, ev_51, ev_52, ev_54, ev_55, ev_57, ev_58, ev_59, k2_0, k2_1, k2_2, k3a, k3b, k4, o1_s, xbin_0, xbin_1, xbin_2, xbin_3, xbin_4, xbin_5, xbin_6, xbin_7, xbin_8, xbin_9, xbin_11, xbin_12, xun_0, xun_1, xun_2, xun_3, xun_4, xun_5, k6a, k8, k8b, k9, k20, k20b_0, k20b_1, k20b_2, k20b_3, k20b_4, k20b_5, k21_0, k21_1, k21_2, k21_3, k21_4, k21_5, k23, k24, k25, k27, k28, k40, nz_1, nz_2, nz_3, k31_0, k31_1, k31_2, k31_3, k32u, k33, k34, k35, k35b, k36, k37, k38, k47, k49, k49b_0, k49b_1, k49b_2, k49b_3, k50_0, k50_s, k51_0, k51_s, k55, k58, k58b, rk_0, rk_1, rk_2, rk_9, rk_3, rk_4, rk_5, sw_n, sw_c, xtb_n, xtb_c, lset_0, lset_2, lset_1, lkm_0, lkm_2, lkm_9, lkm_1, lkm_n, if_some1, c_10, c_01, c_x0, c_1x, c_n0, c_nn, List.getElem?_cons_zero, List.getElem?_cons_succ, List.set_cons_zero, List.set_cons_succ, List.length_cons, List.length_nil, Int.reduceToNat, Nat.reduceDiv, Nat.reduceMod, Nat.reduceSub, Nat.reduceAdd, Nat.reduceMul, Nat.reduceLT, Nat.reduceLeDiff, Nat.reduceEqDiff, Int.reduceMod, Int.reduceSub, Int.reduceNeg, Int.reduceAdd, Int.reduceMul, Int.reduceLT, Int.reduceLE, Int.reduceEq, put_ss, if_true, if_false, ite_true, ite_false, reduceIte, eq_self, and_true, true_and, and_false, false_and, or_true, true_or, or_false, false_or, not_true_eq_false, not_false_eq_true, k5_57_1, k6_59, k35_59, n_59, k5_57_2, k6_60, k35_60, n_60, k5_57_4, k34_57_4, k54_57_4, k54b_57_4_0, k5_57_15, k34_57_15, k5_57_16, k34_57_16, k34i_57_16, k5_57_5, k34_57_5, k54_57_5, k54b_57_5_0, k5_57_6, k34_57_6, k54_57_6, k54b_57_6_0, k5_57_7, k34_57_7, k54_57_7, k54b_57_7_0, k5_57_8, k34_57_8, k54_57_8, k54b_57_8_0, k5_57_9, k6_62, k35_62, n_62, k5_57_10, k6_63, k35_63, n_63, k5_57_11, k6_64, k35_64, n_64, k5_57_12, k6_65, k35_65, n_65, k5_57_13, k6_66, k35_66, n_66, k5_57_14, k34_57_14, k54_57_14, k54b_57_14_0, k5_51_5, k34_51_5, k54_51_5, k54b_51_5_0, C_128, cc, kk, q4, w32_of, put_ss, g1, hx, hx1, hr, lf_s]
    · rw [tsz_nd] at ht
      have hnn2 := PN_n b g3
      have e1 : gN (nd 46 x a b) m = gN b (gC m x) := rfl
      rw [e1]
      obtain ⟨c1, c2, c3, c4, c6⟩ := ih b (by omega) (gC m x) (x + 2) r (by rw [q5]; exact g3) (by rw [q5]; exact hr) (by omega) (by omega) (by omega) (by omega) (by omega) (by omega) L xs d f n (by omega)
      refine ⟨?_, Kt_tr q1 c2, fun j h h' => (c3 j h h').trans (q3 j h h'), by omega, c6⟩
      rw [lf_s]
      simp (disch := first | omega | assumption) only [ea_161_0, eb_161_0, ec_161_0, l1_i, l1_1, l1_0, l2_0, l2_1, l2_2, l2_3, l3_0, w2_0, w2_1, w2_2, w2_3, d1_0, d1_1, d1_2, d1_3, d2_i, d2_1, d2_0, ev_0, ev_1, ev_16, ev_17, ev_18, ev_2, ev_3, ev_4, ev_5, ev_6, ev_7, ev_8, ev_9, ev_20, ev_21, ev_22, ev_23, ev_24, ev_25, ev_27, ev_28, ev_30, ev_31, ev_32, ev_33, ev_34, ev_35, ev_36, ev_37, ev_38, ev_39, ev_40, ev_41, ev_42, ev_43, ev_45, ev_46, ev_47, ev_48, ev_49, ev_50, ev_51, ev_52, ev_54, ev_55, ev_57, ev_58, ev_59, k2_0, k2_1, k2_2, k3a, k3b, k4, o1_s, xbin_0, xbin_1, xbin_2, xbin_3, xbin_4, xbin_5, xbin_6, xbin_7, xbin_8, xbin_9, xbin_11, xbin_12, xun_0, xun_1, xun_2, xun_3, xun_4, xun_5, k6a, k8, k8b, k9, k20, k20b_0, k20b_1, k20b_2, k20b_3, k20b_4, k20b_5, k21_0, k21_1, k21_2, k21_3, k21_4, k21_5, k23, k24, k25, k27, k28, k40, nz_1, nz_2, nz_3, k31_0, k31_1, k31_2, k31_3, k32u, k33, k34, k35, k35b, k36, k37, k38, k47, k49, k49b_0, k49b_1, k49b_2, k49b_3, k50_0, k50_s, k51_0, k51_s, k55, k58, k58b, rk_0, rk_1, rk_2, rk_9, rk_3, rk_4, rk_5, sw_n, sw_c, xtb_n, xtb_c, lset_0, lset_2, lset_1, lkm_0, lkm_2, lkm_9, lkm_1, lkm_n, if_some1, c_10, c_01, c_x0, c_1x, c_n0, c_nn, List.getElem?_cons_zero, List.getElem?_cons_succ, List.set_cons_zero, List.set_cons_succ, List.length_cons, List.length_nil, Int.reduceToNat, Nat.reduceDiv, Nat.reduceMod, Nat.reduceSub, Nat.reduceAdd, Nat.reduceMul, Nat.reduceLT, Nat.reduceLeDiff, Nat.reduceEqDiff, Int.reduceMod, Int.reduceSub, Int.reduceNeg, Int.reduceAdd, Int.reduceMul, Int.reduceLT, Int.reduceLE, Int.reduceEq, put_ss, if_true, if_false, ite_true, ite_false, reduceIte, eq_self, and_true, true_and, and_false, false_and, or_true, true_or, or_false, false_or, not_true_eq_false, not_false_eq_true, k5_57_1, k6_59, k35_59, n_59, k5_57_2, k6_60, k35_60, n_60, k5_57_4, k34_57_4, k54_57_4, k54b_57_4_0, k5_57_15, k34_57_15, k5_57_16, k34_57_16, k34i_57_16, k5_57_5, k34_57_5, k54_57_5, k54b_57_5_0, k5_57_6, k34_57_6, k54_57_6, k54b_57_6_0, k5_57_7, k34_57_7, k54_57_7, k54b_57_7_0, k5_57_8, k34_57_8, k54_57_8, k54b_57_8_0, k5_57_9, k6_62, k35_62, n_62, k5_57_10, k6_63, k35_63, n_63, k5_57_11, k6_64, k35_64, n_64, k5_57_12, k6_65, k35_65, n_65, k5_57_13, k6_66, k35_66, n_66, k5_57_14, k34_57_14, k54_57_14, k54b_57_14_0, k5_51_5, k34_51_5, k54_51_5, k54b_51_5_0, C_128, cc, kk, q4, w32_of, put_ss, ad2, g1, g2, hx, hx1, c1, lf_s]
variable {m : Mem} {L d : Nat} {xs : Nat → Int32}
theorem C_161 {t : xT} {x r : Int} (hP : PN (kd m) t x r) (hr : kd m r = 59) (h0 : 0 ≤ x) (hre : r < m 51 5) (hN : m 51 5 ≤ 3001) (h4 : m 57 4 ≤ 1510) (h60 : 0 ≤ m 57 6) (h6x : m 57 6 ≤ x + 5) (hF : 100000 ≤ F) : Cx F (d + 3) 161 [57, 51, x] (Hp L xs m) = some ([r + 1], Hp L xs (gN t m)) ∧ Kt m (gN t m) ∧ (∀ j, j ≠ 15 → j ≠ 6 → gN t m 57 j = m 57 j) ∧ m 57 6 ≤ gN t m 57 6 ∧ gN t m 57 6 ≤ r + 5 := by
  have hnn := PN_n t hP
  obtain ⟨c1, c2⟩ := L_161 (F := F) (tsz t + 1) t (by omega) m x r hP hr h0 hre hN h4 h60 h6x L xs d x F (by omega)
  refine ⟨?_, c2⟩
  simp (disch := first | omega | assumption) only [c_161, tx_161, ev_0, ev_1, ev_16, ev_17, ev_18, ev_2, ev_3, ev_4, ev_5, ev_6, ev_7, ev_8, ev_9, ev_20, ev_21, ev_22, ev_23, ev_24, ev_25, ev_27, ev_28, ev_30, ev_31, ev_32, ev_33, ev_34, ev_35, ev_36, ev_37, ev_38, ev_39, ev_40, ev_41, ev_42, ev_43, ev_45, ev_46, ev_47, ev_48, ev_49, ev_50, ev_51, ev_52, ev_54, ev_55, ev_57, ev_58, ev_59, k2_0, k2_1, k2_2, k3a, k3b, k4, o1_s, xbin_0, xbin_1, xbin_2, xbin_3, xbin_4, xbin_5, xbin_6, xbin_7, xbin_8, xbin_9, xbin_11, xbin_12, xun_0, xun_1, xun_2, xun_3, xun_4, xun_5, k6a, k8, k8b, k9, k20, k20b_0, k20b_1, k20b_2, k20b_3, k20b_4, k20b_5, k21_0, k21_1, k21_2, k21_3, k21_4, k21_5, k23, k24, k25, k27, k28, k40, nz_1, nz_2, nz_3, k31_0, k31_1, k31_2, k31_3, k32u, k33, k34, k35, k35b, k36, k37, k38, k47, k49, k49b_0, k49b_1, k49b_2, k49b_3, k50_0, k50_s, k51_0, k51_s, k55, k58, k58b, rk_0, rk_1, rk_2, rk_9, rk_3, rk_4, rk_5, sw_n, sw_c, xtb_n, xtb_c, lset_0, lset_2, lset_1, lkm_0, lkm_2, lkm_9, lkm_1, lkm_n, if_some1, c_10, c_01, c_x0, c_1x, c_n0, c_nn, List.getElem?_cons_zero, List.getElem?_cons_succ, List.set_cons_zero, List.set_cons_succ, List.length_cons, List.length_nil, Int.reduceToNat, Nat.reduceDiv, Nat.reduceMod, Nat.reduceSub, Nat.reduceAdd, Nat.reduceMul, Nat.reduceLT, Nat.reduceLeDiff, Nat.reduceEqDiff, Int.reduceMod, Int.reduceSub, Int.reduceNeg, Int.reduceAdd, Int.reduceMul, Int.reduceLT, Int.reduceLE, Int.reduceEq, put_ss, if_true, if_false, ite_true, ite_false, reduceIte, eq_self, and_true, true_and, and_false, false_and, or_true, true_or, or_false, false_or, not_true_eq_false, not_false_eq_true, k5_57_1, k6_59, k35_59, n_59, k5_57_2, k6_60, k35_60, n_60, k5_57_4, k34_57_4, k54_57_4, k54b_57_4_0, k5_57_15, k34_57_15, k5_57_16, k34_57_16, k34i_57_16, k5_57_5, k34_57_5, k54_57_5, k54b_57_5_0, k5_57_6, k34_57_6, k54_57_6, k54b_57_6_0, k5_57_7, k34_57_7, k54_57_7, k54b_57_7_0, k5_57_8, k34_57_8, k54_57_8, k54b_57_8_0, k5_57_9, k6_62, k35_62, n_62, k5_57_10, k6_63, k35_63, n_63, k5_57_11, k6_64, k35_64, n_64, k5_57_12, k6_65, k35_65, n_65, k5_57_13, k6_66, k35_66, n_66, k5_57_14, k34_57_14, k54_57_14, k54b_57_14_0, k5_51_5, k34_51_5, k54_51_5, k54b_51_5_0, w32_of, c1]
end Gac
