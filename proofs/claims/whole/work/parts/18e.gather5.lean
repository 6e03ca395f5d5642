/-! THE CLASS'S TOPS: gather, whole -/
def gT : xT → Mem → Mem
  | .tag k (.nest i (.append a b)) => fun m => match k with
    | 41 => gT b (gV m (i + 1) 1 1)
    | 42 => gT b (gV m (i + 1) 2 (idT m (i + 3)))
    | 43 => gT b (gN a m)
    | 44 => gT b (gRq a (gH m (i + 1) (hN a)))
    | _ => m
  | _ => fun m => m
def GJ (m : Mem) (p : Int) : Prop := 0 ≤ m 57 5 ∧ 3 * m 57 5 ≤ p ∧ 0 ≤ m 57 6 ∧ m 57 6 ≤ p + 5 ∧ 0 ≤ m 57 7 ∧ 5 * m 57 7 ≤ p ∧ 0 ≤ m 57 14 ∧ m 57 14 ≤ p ∧ m 57 4 ≤ 1510 ∧ m 51 5 ≤ 3001
theorem Kt_gV {m : Mem} {i k n : Int} : Kt m (gV m i k n) := by
  unfold gV
  split
  · exact Kt_tr (Kt_tr (Kt_tr (Kt_tr (Kt_tr Kt_bgL Kt_tel) (Kt_put (by decide) (fun z => absurd z.1 (by decide)))) (Kt_put (by decide) (fun z => absurd z.1 (by decide)))) (Kt_put (by decide) (by decide))) (Kt_put (by decide) (by decide))
  · exact Kt_tr (Kt_tr Kt_bgL Kt_tel) (Kt_put (by decide) (by decide))
theorem gV_57 {m : Mem} {i k n : Int} (j : Nat) (h : j ≠ 15) (h2 : j ≠ 16) (h3 : j ≠ 5) (h4 : j ≠ 8) : gV m i k n 57 j = m 57 j := by
  unfold gV
  rw [put_ss, if_pos rfl, if_neg h4]
  split
  · rw [put_ss, if_pos rfl, if_neg h3, put_ss, if_neg (by decide), put_ss, if_neg (by decide), tel_57 j h, bgL_57 j h2]
  · rw [tel_57 j h, bgL_57 j h2]
theorem gV_5 {m : Mem} {i k n : Int} (h : m 57 5 < 500) : gV m i k n 57 5 = m 57 5 + 1 := by
  unfold gV
  rw [if_pos h]
  rfl
section Gat3
variable {F : Nat}
theorem L_158 (hF : 100000 ≤ F) : ∀ (k : Nat) (t : xT), tsz t < k → ∀ (m : Mem) (p e : Int), PT (kd m) (VF (fun i => m 55 i)) t p e → 0 ≤ p → e < m 51 5 → e ≤ 1500 → GJ m p → ∀ (L : Nat) (xs : Nat → Int32) (d : Nat) (left : Int) (w : Nat × Int) (n : Nat), e - p < left → left ≤ 3001 → e - p < n → p ≤ e ∧ (∃ left' w', LF F (d + 3) la_158_0 lb_158_0 lc_158_0 n ([(2, 57), (2, 51), (0, p), (0, left), w], Hp L xs m) = some (0, [], ([(2, 57), (2, 51), (0, e), (0, left'), w'], Hp L xs (gT t m)))) ∧ Kt m (gT t m) ∧ GJ (gT t m) e := by
  intro k
  induction k with
  | zero => intro t ht; exact absurd ht (Nat.not_lt_zero _)
  | succ k ih =>
    intro t ht m p e h h0 hre h15 G L xs d left w n hl hl2 hn
    have hpe := PT_le (tsz t + 1) t (by omega) _ _ h
    obtain ⟨j1, j2, j3, j4, j5, j6, j7, j8, j9, j10⟩ := G
    obtain ⟨n, rfl⟩ : ∃ n', n = n' + 1 := ⟨n - 1, by omega⟩
    have hl0 : 0 < left := by omega
    refine ⟨hpe, ?_⟩
    rcases inv_T h with ⟨i, a, b, rfl, g1, g2⟩ | ⟨a, b, rfl, g1, g2, g3, g4⟩ | ⟨a, b, rfl, g1, g2, g3, g4, g5, g6, g7⟩ | ⟨a, b, rfl, g1, r, g2, g3, g4⟩ | ⟨a, b, rfl, g1, g2, g3, r, g4, g5⟩
    · subst g1
      have e1 : gT (nd 40 i a b) m = m := rfl
      rw [e1]
      refine ⟨⟨left, w, ?_⟩, Kt_rf, j1, j2, j3, j4, j5, j6, j7, j8, j9, j10⟩
      rw [lf_s]
      simp (disch := first | omega | assumption) only [ea_158_0, eb_158_0, ec_158_0, l1_i, l1_1, l1_0, l2_0, l2_1, l2_2, l2_3, l3_0, w2_0, w2_1, w2_2, w2_3, d1_0, d1_1, d1_2, d1_3, d2_i, d2_1, d2_0, ev_0, ev_1, ev_16, ev_17, ev_18, ev_2, ev_3, ev_4, ev_5, ev_6, ev_7, ev_8, ev_9, ev_20, ev_21, ev_22, ev_23, ev_24, ev_25, ev_27, ev_28, ev_30, ev_31, ev_32, ev_33, ev_34, ev_35, ev_36, ev_37, ev_38, ev_39, ev_40, ev_41, ev_42, ev_43, ev_45, ev_46, ev_47, ev_48, ev_49, ev_50, ev_51, ev_52, ev_54, ev_55, ev_57, ev_58, ev_59, k2_0, k2_1, k2_2, k3a, k3b, k4, o1_s, xbin_0, xbin_1, xbin_2, xbin_3, xbin_4, xbin_5, xbin_6, xbin_7, xbin_8, xbin_9, xbin_11, xbin_12, xun_0, xun_1, xun_2, xun_3, xun_4, xun_5, k6a, k8, k8b, k9, k20, k20b_0, k20b_1, k20b_2, k20b_3, k20b_4, k20b_5, k21_0, k21_1, k21_2, k21_3, k21_4, k21_5, k23, k24, k25, k27, k28, k40, nz_1, nz_2, nz_3, k31_0, k31_1, k31_2, k31_3, k32u, k33, k34, k35, k35b, k36, k37, k38, k47, k49, k49b_0, k49b_1, k49b_2, k49b_3, k50_0, k50_s, k51_0, k51_s, k55, k58, k58b, rk_0, rk_1, rk_2, rk_9, rk_3, rk_4, rk_5, sw_n, sw_c, xtb_n, xtb_c, lset_0, lset_2, lset_1, lkm_0, lkm_2, lkm_9, lkm_1, lkm_n, if_some1, c_10, c_01, c_x0, c_1x, c_n0, c_nn, List.getElem?_cons_zero, List.getElem?_cons_succ, List.set_cons_zero, List.set_cons_succ, List.length_cons, List.length_nil, Int.reduceToNat, Nat.reduceDiv, Nat.reduceMod, Nat.reduceSub, Nat.reduceAdd, Nat.reduceMul, Nat.reduceLT, Nat.reduceLeDiff, Nat.reduceEqDiff, Int.reduceMod, Int.reduceSub, Int.reduceNeg, Int.reduceAdd, Int.reduceMul, Int.reduceLT, Int.reduceLE, Int.reduceEq, put_ss, if_true, if_false, ite_true, ite_false, reduceIte, eq_self, and_true, true_and, and_false, false_and, or_true, true_or, or_false, false_or, not_true_eq_false, not_false_eq_true, k5_57_1, k6_59, k35_59, n_59, k5_57_2, k6_60, k35_60, n_60, k5_57_4, k34_57_4, k54_57_4, k54b_57_4_0, k5_57_15, k34_57_15, k5_57_16, k34_57_16, k34i_57_16, k5_57_5, k34_57_5, k54_57_5, k54b_57_5_0, k5_57_6, k34_57_6, k54_57_6, k54b_57_6_0, k5_57_7, k34_57_7, k54_57_7, k54b_57_7_0, k5_57_8, k34_57_8, k54_57_8, k54b_57_8_0, k5_57_9, k6_62, k35_62, n_62, k5_57_10, k6_63, k35_63, n_63, k5_57_11, k6_64, k35_64, n_64, k5_57_12, k6_65, k35_65, n_65, k5_57_13, k6_66, k35_66, n_66, k5_57_14, k34_57_14, k54_57_14, k54b_57_14_0, k5_51_5, k34_51_5, k54_51_5, k54b_51_5_0, C_128, w32_of, g2, hl0]
    · rw [tsz_nd] at ht
      have hle := PT_le (tsz b + 1) b (by omega) _ _ g4
      have e1 : gT (nd 41 p a b) m = gT b (gV m (p + 1) 1 1) := rfl
      rw [e1]
      have u1 := Kt_gV (m := m) (i := p + 1) (k := 1) (n := 1)
      have u2 := fun j h1 h2 h3 h4 => gV_57 (m := m) (i := p + 1) (k := 1) (n := 1) j h1 h2 h3 h4
      have u5 := gV_5 (m := m) (i := p + 1) (k := 1) (n := 1) (by omega)
      have v6 := u2 6 (by decide) (by decide) (by decide) (by decide)
      have v7 := u2 7 (by decide) (by decide) (by decide) (by decide)
      have v14 := u2 14 (by decide) (by decide) (by decide) (by decide)
      have v4 := u1.2
      have v51 := u1.1 51 5 (by omega)
      have cc := fun D => C_160n (L := L) (xs := xs) (F := F) (d := D) (m := m) (a2 := p + 1) ⟨j1, by omega, j5, by omega, j7, by omega, j9, j10⟩ ⟨by omega, by omega⟩ (by rw [ad2, g3]; decide)
      rw [show p + 1 + 2 = p + 3 by omega] at cc
      generalize hz : gV m (p + 1) 1 1 = m1 at *
      obtain ⟨k1, ⟨l', w', c1⟩, k2, k3⟩ := ih b (by omega) m1 (p + 3) e (by rw [Kt_kd u1, Kt_55 u1]; exact g4) (by omega) (by omega) h15 ⟨by omega, by omega, by omega, by omega, by omega, by omega, by omega, by omega, by omega, by omega⟩ L xs d (left + -1) (0, 4) n (by omega) (by omega) (by omega)
      refine ⟨⟨l', w', ?_⟩, Kt_tr u1 k2, k3⟩
      rw [lf_s]
      simp (disch := first | omega | assumption) only [ea_158_0, eb_158_0, ec_158_0, l1_i, l1_1, l1_0, l2_0, l2_1, l2_2, l2_3, l3_0, w2_0, w2_1, w2_2, w2_3, d1_0, d1_1, d1_2, d1_3, d2_i, d2_1, d2_0, ev_0, ev_1, ev_16, ev_17, ev_18, ev_2, ev_3, ev_4, ev_5, ev_6, ev_7, ev_8, ev_9, ev_20, ev_21, ev_22, ev_23, ev_24, ev_25, ev_27, ev_28, ev_30, ev_31, ev_32, ev_33, ev_34, ev_35, ev_36, ev_37, ev_38, ev_39, ev_40, ev_41, ev_42, ev_43, ev_45, ev_46, ev_47, ev_48, ev_49, ev_50, ev_51, ev_52, ev_54, ev_55, ev_57, ev_58, ev_59, k2_0, k2_1, k2_2, k3a, k3b, k4, o1_s, xbin_0, xbin_1, xbin_2, xbin_3, xbin_4, xbin_5, xbin_6, xbin_7, xbin_8, xbin_9, xbin_11, xbin_12, xun_0, xun_1, xun_2, xun_3, xun_4, xun_5, k6a, k8, k8b, k9, k20, k20b_0, k20b_1, k20b_2, k20b_3, k20b_4, k20b_5, k21_0, k21_1, k21_2, k21_3, k21_4, k21_5, k23, k24, k25, k27, k28, k40, nz_1, nz_2, nz_3, k31_0, k31_1, k31_2, k31_3, k32u, k33, k34, k35, k35b, k36, k37, k38, k47, k49, k49b_0, k49b_1, k49b_2, k49b_3, k50_0, k50_s, k51_0, k51_s, k55, k58, k58b, rk_0, rk_1, rk_2, rk_9, rk_3, rk_4, rk_5, sw_n, sw_c, xtb_n, xtb_c, lset_0, lset_2, lset_1, lkm_0, lkm_2, lkm_9, lkm_1, lkm_n, if_some1, c_10, c_01, c_x0, c_1x, c_n0, c_nn, List.getElem?_cons_zero, List.getElem?_cons_succ, List.set_cons_zero, List.set_cons_succ, List.length_cons, List.length_nil, Int.reduceToNat, Nat.reduceDiv, Nat.reduceMod, Nat.reduceSub, Nat.reduceAdd, Nat.reduceMul, Nat.reduceLT, Nat.reduceLeDiff, Nat.reduceEqDiff, Int.reduceMod, Int.reduceSub, Int.reduceNeg, Int.reduceAdd, Int.reduceMul, Int.reduceLT, Int.reduceLE, Int.reduceEq, put_ss, if_true, if_false, ite_true, ite_false, reduceIte, eq_self, and_true, true_and, and_false, false_and, or_true, true_or, or_false, false_or, not_true_eq_false, not_false_eq_true, k5_57_1, k6_59, k35_59, n_59, k5_57_2, k6_60, k35_60, n_60, k5_57_4, k34_57_4, k54_57_4, k54b_57_4_0, k5_57_15, k34_57_15, k5_57_16, k34_57_16, k34i_57_16, k5_57_5, k34_57_5, k54_57_5, k54b_57_5_0, k5_57_6, k34_57_6, k54_57_6, k54b_57_6_0, k5_57_7, k34_57_7, k54_57_7, k54b_57_7_0, k5_57_8, k34_57_8, k54_57_8, k54b_57_8_0, k5_57_9, k6_62, k35_62, n_62, k5_57_10, k6_63, k35_63, n_63, k5_57_11, k6_64, k35_64, n_64, k5_57_12, k6_65, k35_65, n_65, k5_57_13, k6_66, k35_66, n_66, k5_57_14, k34_57_14, k54_57_14, k54b_57_14_0, k5_51_5, k34_51_5, k54_51_5, k54b_51_5_0, C_128, cc, w32_of, g1, hl0, c1]
    · rw [tsz_nd] at ht
      have hle := PT_le (tsz b + 1) b (by omega) _ _ g7
      have e1 : gT (nd 42 p a b) m = gT b (gV m (p + 1) 2 (idT m (p + 3))) := rfl
      rw [e1]
      have u1 := Kt_gV (m := m) (i := p + 1) (k := 2) (n := idT m (p + 3))
      have u2 := fun j h1 h2 h3 h4 => gV_57 (m := m) (i := p + 1) (k := 2) (n := idT m (p + 3)) j h1 h2 h3 h4
      have u5 := gV_5 (m := m) (i := p + 1) (k := 2) (n := idT m (p + 3)) (by omega)
      have v6 := u2 6 (by decide) (by decide) (by decide) (by decide)
      have v7 := u2 7 (by decide) (by decide) (by decide) (by decide)
      have v14 := u2 14 (by decide) (by decide) (by decide) (by decide)
      have v4 := u1.2
      have v51 := u1.1 51 5 (by omega)
      have cc := fun D => C_160y (L := L) (xs := xs) (F := F) (d := D) (m := m) (a2 := p + 1) ⟨j1, by omega, j5, by omega, j7, by omega, j9, j10⟩ ⟨by omega, by omega⟩ (by rw [ad2]; exact g3)
      rw [show p + 1 + 2 = p + 3 by omega, show p + 1 + 5 = p + 6 by omega] at cc
      generalize hz : gV m (p + 1) 2 (idT m (p + 3)) = m1 at *
      obtain ⟨k1, ⟨l', w', c1⟩, k2, k3⟩ := ih b (by omega) m1 (p + 6) e (by rw [Kt_kd u1, Kt_55 u1]; exact g7) (by omega) (by omega) h15 ⟨by omega, by omega, by omega, by omega, by omega, by omega, by omega, by omega, by omega, by omega⟩ L xs d (left + -1) (0, 4) n (by omega) (by omega) (by omega)
      refine ⟨⟨l', w', ?_⟩, Kt_tr u1 k2, k3⟩
      rw [lf_s]
      simp (disch := first | omega | assumption) only [ea_158_0, eb_158_0, ec_158_0, l1_i, l1_1, l1_0, l2_0, l2_1, l2_2, l2_3, l3_0, w2_0, w2_1, w2_2, w2_3, d1_0, d1_1, d1_2, d1_3, d2_i, d2_1, d2_0, ev_0, ev_1, ev_16, ev_17, ev_18, ev_2, ev_3, ev_4, ev_5, ev_6, ev_7, ev_8, ev_9, ev_20, ev_21, ev_22, ev_23, ev_24, ev_25, ev_27, ev_28, ev_30, ev_31, ev_32, ev_33, ev_34, ev_35, ev_36, ev_37, ev_38, ev_39, ev_40, ev_41, ev_42, ev_43, ev_45, ev_46, ev_47, ev_48, ev_49, ev_50, ev_51, ev_52, ev_54, ev_55, ev_57, ev_58, ev_59, k2_0, k2_1, k2_2, k3a, k3b, k4, o1_s, xbin_0, xbin_1, xbin_2, xbin_3, xbin_4, xbin_5, xbin_6, xbin_7, xbin_8, xbin_9, xbin_11, xbin_12, xun_0, xun_1, xun_2, xun_3, xun_4, xun_5, k6a, k8, k8b, k9, k20, k20b_0, k20b_1, k20b_2, k20b_3, k20b_4, k20b_5, k21_0, k21_1, k21_2, k21_3, k21_4, k21_5, k23, k24, k25, k27, k28, k40, nz_1, nz_2, nz_3, k31_0, k31_1, k31_2, k31_3, k32u, k33, k34, k35, k35b, k36, k37, k38, k47, k49, k49b_0, k49b_1, k49b_2, k49b_3, k50_0, k50_s, k51_0, k51_s, k55, k58, k58b, rk_0, rk_1, rk_2, rk_9, rk_3, rk_4, rk_5, sw_n, sw_c, xtb_n, xtb_c, lset_0, lset_2, lset_1, lkm_0, lkm_2, lkm_9, lkm_1, lkm_n, if_some1, c_10, c_01, c_x0, c_1x, c_n0, c_nn, List.getElem?_cons_zero, List.getElem?_cons_succ, List.set_cons_zero, List.set_cons_succ, List.length_cons, List.length_nil, Int.reduceToNat, Nat.reduceDiv, Nat.reduceMod, Nat.reduceSub, Nat.reduceAdd, Nat.reduceMul, Nat.reduceLT, Nat.reduceLeDiff, Nat.reduceEqDiff, Int.reduceMod, Int.reduceSub, Int.reduceNeg, Int.reduceAdd, Int.reduceMul, Int.reduceLT, Int.reduceLE, Int.reduceEq, put_ss, if_true, if_false, ite_true, ite_false, reduceIte, eq_self, and_true, true_and, and_false, false_and, or_true, true_or, or_false, false_or, not_true_eq_false, not_false_eq_true, k5_57_1, k6_59, k35_59, n_59, k5_57_2, k6_60, k35_60, n_60, k5_57_4, k34_57_4, k54_57_4, k54b_57_4_0, k5_57_15, k34_57_15, k5_57_16, k34_57_16, k34i_57_16, k5_57_5, k34_57_5, k54_57_5, k54b_57_5_0, k5_57_6, k34_57_6, k54_57_6, k54b_57_6_0, k5_57_7, k34_57_7, k54_57_7, k54b_57_7_0, k5_57_8, k34_57_8, k54_57_8, k54b_57_8_0, k5_57_9, k6_62, k35_62, n_62, k5_57_10, k6_63, k35_63, n_63, k5_57_11, k6_64, k35_64, n_64, k5_57_12, k6_65, k35_65, n_65, k5_57_13, k6_66, k35_66, n_66, k5_57_14, k34_57_14, k54_57_14, k54b_57_14_0, k5_51_5, k34_51_5, k54_51_5, k54b_51_5_0, C_128, cc, w32_of, g1, hl0, c1]
    · rw [tsz_nd] at ht
      have hle := PT_le (tsz b + 1) b (by omega) _ _ g4
      have hnn := PN_n a g2
      have e1 : gT (nd 43 p a b) m = gT b (gN a m) := rfl
      rw [e1]
      have cc := fun D => C_161 (L := L) (xs := xs) (F := F) (d := D) (m := m) (t := a) (x := p + 1) (r := r) g2 g3 (by omega) (by omega) j10 j9 j3 (by omega) hF
      obtain ⟨_, u1, u2, v6, v6b⟩ := cc 0
      have v5 := u2 5 (by decide) (by decide)
      have v7 := u2 7 (by decide) (by decide)
      have v14 := u2 14 (by decide) (by decide)
      have v4 := u1.2
      have v51 := u1.1 51 5 (by omega)
      have c8 := fun D => (cc D).1
      clear cc
      generalize hz : gN a m = m1 at *
      obtain ⟨k1, ⟨l', w', c1⟩, k2, k3⟩ := ih b (by omega) m1 (r + 1) e (by rw [Kt_kd u1, Kt_55 u1]; exact g4) (by omega) (by omega) h15 ⟨by omega, by omega, by omega, by omega, by omega, by omega, by omega, by omega, by omega, by omega⟩ L xs d (left + -1) (0, 5) n (by omega) (by omega) (by omega)
      refine ⟨⟨l', w', ?_⟩, Kt_tr u1 k2, k3⟩
      rw [lf_s]
      simp (disch := first | omega | assumption) only [ea_158_0, eb_158_0, ec_158_0, l1_i, l1_1, l1_0, l2_0, l2_1, l2_2, l2_3, l3_0, w2_0, w2_1, w2_2, w2_3, d1_0, d1_1, d1_2, d1_3, d2_i, d2_1, d2_0, ev_0, ev_1, ev_16, ev_17, ev_18, ev_2, ev_3, ev_4, ev_5, ev_6, ev_7, ev_8, ev_9, ev_20, ev_21, ev_22, ev_23, ev_24, ev_25, ev_27, ev_28, ev_30, ev_31, ev_32, ev_33, ev_34, ev_35, ev_36, ev_37, ev_38, ev_39, ev_40, ev_41, ev_42, ev_43, ev_45, ev_46, ev_47, ev_48, ev_49, ev_50, ev_51, ev_52, ev_54, ev_55, ev_57, ev_58, ev_59, k2_0, k2_1, k2_2, k3a, k3b, k4, o1_s, xbin_0, xbin_1, xbin_2, xbin_3, xbin_4, xbin_5, xbin_6, xbin_7, xbin_8, xbin_9, xbin_11, xbin_12, xun_0, xun_1, xun_2, xun_3, xun_4, xun_5, k6a, k8, k8b, k9, k20, k20b_0, k20b_1, k20b_2, k20b_3, k20b_4, k20b_5, k21_0, k21_1, k21_2, k21_3, k21_4, k21_5, k23, k24, k25, k27, k28, k40, nz_1, nz_2, nz_3, k31_0, k31_1, k31_2, k31_3, k32u, k33, k34, k35, k35b, k36, k37, k38, k47, k49, k49b_0, k49b_1, k49b_2, k49b_3, k50_0, k50_s, k51_0, k51_s, k55, k58, k58b, rk_0, rk_1, rk_2, rk_9, rk_3, rk_4, rk_5, sw_n, sw_c, xtb_n, xtb_c, lset_0, lset_2, lset_1, lkm_0, lkm_2, lkm_9, lkm_1, lkm_n, if_some1, c_10, c_01, c_x0, c_1x, c_n0, c_nn, List.getElem?_cons_zero, List.getElem?_cons_succ, List.set_cons_zero, List.set_cons_succ, List.length_cons, List.length_nil, Int.reduceToNat, Nat.reduceDiv, Nat.reduceMod, Nat.reduceSub, Nat.reduceAdd, Nat.reduceMul, Nat.reduceLT, Nat.reduceLeDiff, Nat.reduceEqDiff, Int.reduceMod, Int.reduceSub, Int.reduceNeg, Int.reduceAdd, Int.reduceMul, Int.reduceLT, Int.reduceLE, Int.reduceEq, put_ss, if_true, if_false, ite_true, ite_false, reduceIte, eq_self, and_true, true_and, and_false, false_and, or_true, true_or, or_false, false_or, not_true_eq_false, not_false_eq_true, k5_57_1, k6_59, k35_59, n_59, k5_57_2, k6_60, k35_60, n_60, k5_57_4, k34_57_4, k54_57_4, k54b_57_4_0, k5_57_15, k34_57_15, k5_57_16, k34_57_16, k34i_57_16, k5_57_5, k34_57_5, k54_57_5, k54b_57_5_0, k5_57_6, k34_57_6, k54_57_6, k54b_57_6_0, k5_57_7, k34_57_7, k54_57_7, k54b_57_7_0, k5_57_8, k34_57_8, k54_57_8, k54b_57_8_0, k5_57_9, k6_62, k35_62, n_62, k5_57_10, k6_63, k35_63, n_63, k5_57_11, k6_64, k35_64, n_64, k5_57_12, k6_65, k35_65, n_65, k5_57_13, k6_66, k35_66, n_66, k5_57_14, k34_57_14, k54_57_14, k54b_57_14_0, k5_51_5, k34_51_5, k54_51_5, k54b_51_5_0, C_128, c8, w32_of, g1, hl0, c1]
    · rw [tsz_nd] at ht
      have hle := PT_le (tsz b + 1) b (by omega) _ _ g5
      have hph := PH_lt g4
      have e1 : gT (nd 44 p a b) m = gT b (gRq a (gH m (p + 1) (hN a))) := rfl
      rw [e1]
      have cc := fun D => C_162 (L := L) (xs := xs) (F := F) (d := D) (m := m) (t := a) (x := p + 1) (q := r) (by rw [ad2]; exact g3) (by rw [show p + 1 + 2 = p + 3 by omega]; exact g4) (by omega) (by omega) j10 (by omega) j9 j5 (by omega) j7 (by omega) hF
      obtain ⟨_, u1, u2, v14, v14b, hlr⟩ := cc 0
      have y2 := fun j h1 h2 h3 => gH_57 (m := m) (x := p + 1) (n := hN a) j h1 h2 h3
      have y7 := gH_7 (m := m) (x := p + 1) (n := hN a)
      have v5 := (u2 5 (by decide)).trans (y2 5 (by decide) (by decide) (by decide))
      have v6 := (u2 6 (by decide)).trans (y2 6 (by decide) (by decide) (by decide))
      have v7 := (u2 7 (by decide)).trans y7
      have v4 := u1.2
      have v51 := u1.1 51 5 (by omega)
      have c8 := fun D => (cc D).1
      clear cc u2 y2 y7
      generalize hz : gRq a (gH m (p + 1) (hN a)) = m1 at *
      obtain ⟨k1, ⟨l', w', c1⟩, k2, k3⟩ := ih b (by omega) m1 r e (by rw [Kt_kd u1, Kt_55 u1]; exact g5) (by omega) (by omega) h15 ⟨by omega, by omega, by omega, by omega, by omega, by omega, by omega, by omega, by omega, by omega⟩ L xs d (left + -1) (0, 6) n (by omega) (by omega) (by omega)
      refine ⟨⟨l', w', ?_⟩, Kt_tr u1 k2, k3⟩
      rw [lf_s]
      simp (disch := first | omega | assumption) only [ea_158_0, eb_158_0, ec_158_0, l1_i, l1_1, l1_0, l2_0, l2_1, l2_2, l2_3, l3_0, w2_0, w2_1, w2_2, w2_3, d1_0, d1_1, d1_2, d1_3, d2_i, d2_1, d2_0, ev_0, ev_1, ev_16, ev_17, ev_18, ev_2, ev_3, ev_4, ev_5, ev_6, ev_7, ev_8, ev_9, ev_20, ev_21, ev_22, ev_23, ev_24, ev_25, ev_27, ev_28, ev_30, ev_31, ev_32, ev_33, ev_34, ev_35, ev_36, ev_37, ev_38, ev_39, ev_40, ev_41, ev_42, ev_43, ev_45, ev_46, ev_47, ev_48, ev_49, ev_50, ev_51, ev_52, ev_54, ev_55, ev_57, ev_58, ev_59, k2_0, k2_1, k2_2, k3a, k3b, k4, o1_s, xbin_0, xbin_1, xbin_2, xbin_3, xbin_4, xbin_5, xbin_6, xbin_7, xbin_8, xbin_9, xbin_11, xbin_12, xun_0, xun_1, xun_2, xun_3, xun_4, xun_5, k6a, k8, k8b, k9, k20, k20b_0, k20b_1, k20b_2, k20b_3, k20b_4, k20b_5, k21_0, k21_1, k21_2, k21_3, k21_4, k21_5, k23, k24, k25, k27, k28, k40, nz_1, nz_2, nz_3, k31_0, k31_1, k31_2, k31_3, k32u, k33, k34, k35, k35b, k36, k37, k38, k47, k49, k49b_0, k49b_1, k49b_2, k49b_3, k50_0, k50_s, k51_0, k51_s, k55, k58, k58b, rk_0, rk_1, rk_2, rk_9, rk_3, rk_4, rk_5, sw_n, sw_c, xtb_n, xtb_c, lset_0, lset_2, lset_1, lkm_0, lkm_2, lkm_9, lkm_1, lkm_n, if_some1, c_10, c_01, c_x0, c_1x, c_n0, c_nn, List.getElem?_cons_zero, List.getElem?_cons_succ, List.set_cons_zero, List.set_cons_succ, List.length_cons, List.length_nil, Int.reduceToNat, Nat.reduceDiv, Nat.reduceMod, Nat.reduceSub, Nat.reduceAdd, Nat.reduceMul, Nat.reduceLT, Nat.reduceLeDiff, Nat.reduceEqDiff, Int.reduceMod, Int.reduceSub, Int.reduceNeg, Int.reduceAdd, Int.reduceMul, Int.reduceLT, Int.reduceLE, Int.reduceEq, put_ss, if_true, if_false, ite_true, ite_false, reduceIte, eq_self, and_true, true_and, and_false, false_and, or_true, true_or, or_false, false_or, not_true_eq_false, not_false_eq_true, k5_57_1, k6_59, k35_59, n_59, k5_57_2, k6_60, k35_60, n_60, k5_57_4, k34_57_4, k54_57_4, k54b_57_4_0, k5_57_15, k34_57_15, k5_57_16, k34_57_16, k34i_57_16, k5_57_5, k34_57_5, k54_57_5, k54b_57_5_0, k5_57_6, k34_57_6, k54_57_6, k54b_57_6_0, k5_57_7, k34_57_7, k54_57_7, k54b_57_7_0, k5_57_8, k34_57_8, k54_57_8, k54b_57_8_0, k5_57_9, k6_62, k35_62, n_62, k5_57_10, k6_63, k35_63, n_63, k5_57_11, k6_64, k35_64, n_64, k5_57_12, k6_65, k35_65, n_65, k5_57_13, k6_66, k35_66, n_66, k5_57_14, k34_57_14, k54_57_14, k54b_57_14_0, k5_51_5, k34_51_5, k54_51_5, k54b_51_5_0, C_128, c8, w32_of, g1, hl0, c1]
def gE (t : xT) (m : Mem) : Mem := put (gT t m) 66 (imin (gT t m 57 7) 300).toNat (gT t m 57 14)
variable {L d : Nat} {xs : Nat → Int32} {m : Mem}
theorem C_158 (hF : 100000 ≤ F) {t : xT} {e : Int} (h : PT (kd m) (VF (fun i => m 55 i)) t 0 e) (he : e < m 51 5) (h15 : e ≤ 1500) (G : GJ m 0) : Cx F (d + 4) 158 [57, 51] (Hp L xs m) = some ([], Hp L xs (gE t m)) ∧ Kt m (gT t m) ∧ GJ (gT t m) e := by
  obtain ⟨k1, ⟨l', w', c1⟩, k2, k3⟩ := L_158 (F := F) hF (tsz t + 1) t (by omega) m 0 e h (by omega) he h15 G L xs d (m 51 5) (9, 0) F (by omega) G.2.2.2.2.2.2.2.2.2 (by omega)
  refine ⟨?_, k2, k3⟩
  have i1 : 0 ≤ imin (gT t m 57 7) 300 ∧ imin (gT t m 57 7) 300 < 301 := by
    have := k3.2.2.2.2.1
    unfold imin
    split <;> omega
  obtain ⟨i1, i2⟩ := i1
  unfold gE
  simp (disch := first | omega | assumption) only [c_158, tx_158, ev_0, ev_1, ev_16, ev_17, ev_18, ev_2, ev_3, ev_4, ev_5, ev_6, ev_7, ev_8, ev_9, ev_20, ev_21, ev_22, ev_23, ev_24, ev_25, ev_27, ev_28, ev_30, ev_31, ev_32, ev_33, ev_34, ev_35, ev_36, ev_37, ev_38, ev_39, ev_40, ev_41, ev_42, ev_43, ev_45, ev_46, ev_47, ev_48, ev_49, ev_50, ev_51, ev_52, ev_54, ev_55, ev_57, ev_58, ev_59, k2_0, k2_1, k2_2, k3a, k3b, k4, o1_s, xbin_0, xbin_1, xbin_2, xbin_3, xbin_4, xbin_5, xbin_6, xbin_7, xbin_8, xbin_9, xbin_11, xbin_12, xun_0, xun_1, xun_2, xun_3, xun_4, xun_5, k6a, k8, k8b, k9, k20, k20b_0, k20b_1, k20b_2, k20b_3, k20b_4, k20b_5, k21_0, k21_1, k21_2, k21_3, k21_4, k21_5, k23, k24, k25, k27, k28, k40, nz_1, nz_2, nz_3, k31_0, k31_1, k31_2, k31_3, k32u, k33, k34, k35, k35b, k36, k37, k38, k47, k49, k49b_0, k49b_1, k49b_2, k49b_3, k50_0, k50_s, k51_0, k51_s, k55, k58, k58b, rk_0, rk_1, rk_2, rk_9, rk_3, rk_4, rk_5, sw_n, sw_c, xtb_n, xtb_c, lset_0, lset_2, lset_1, lkm_0, lkm_2, lkm_9, lkm_1, lkm_n, if_some1, c_10, c_01, c_x0, c_1x, c_n0, c_nn, List.getElem?_cons_zero, List.getElem?_cons_succ, List.set_cons_zero, List.set_cons_succ, List.length_cons, List.length_nil, Int.reduceToNat, Nat.reduceDiv, Nat.reduceMod, Nat.reduceSub, Nat.reduceAdd, Nat.reduceMul, Nat.reduceLT, Nat.reduceLeDiff, Nat.reduceEqDiff, Int.reduceMod, Int.reduceSub, Int.reduceNeg, Int.reduceAdd, Int.reduceMul, Int.reduceLT, Int.reduceLE, Int.reduceEq, put_ss, if_true, if_false, ite_true, ite_false, reduceIte, eq_self, and_true, true_and, and_false, false_and, or_true, true_or, or_false, false_or, not_true_eq_false, not_false_eq_true, k5_57_1, k6_59, k35_59, n_59, k5_57_2, k6_60, k35_60, n_60, k5_57_4, k34_57_4, k54_57_4, k54b_57_4_0, k5_57_15, k34_57_15, k5_57_16, k34_57_16, k34i_57_16, k5_57_5, k34_57_5, k54_57_5, k54b_57_5_0, k5_57_6, k34_57_6, k54_57_6, k54b_57_6_0, k5_57_7, k34_57_7, k54_57_7, k54b_57_7_0, k5_57_8, k34_57_8, k54_57_8, k54b_57_8_0, k5_57_9, k6_62, k35_62, n_62, k5_57_10, k6_63, k35_63, n_63, k5_57_11, k6_64, k35_64, n_64, k5_57_12, k6_65, k35_65, n_65, k5_57_13, k6_66, k35_66, n_66, k5_57_14, k34_57_14, k54_57_14, k54b_57_14_0, k5_51_5, k34_51_5, k54_51_5, k54b_51_5_0, c1, C_344, w32_of]
end Gat3
