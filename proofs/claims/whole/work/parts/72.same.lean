/-! CALLS THAT CHANGE NOTHING: both answer the same -/
/-- a call of both, one behind the other -/
def Bth (F d L : Nat) (xs : Nat → Int32) (c c' : Nat) (as : List Int) (m : Mem) (K : Nat) : Prop := ∃ r m1 m2, Cx F d c (50 :: as) (Hp L xs m) = some ([r], Hp L xs m1) ∧ Cx F d c' (158 :: as) (Hp L xs m1) = some ([r], Hp L xs m2) ∧ INv (K + 1) m2
section Sam
variable {F L D K : Nat} {xs : Nat → Int32} {m : Mem} {w i v : Int}
theorem Bth_e {d c c' : Nat} {as : List Int} {r r' : Int} (I : INv K m) (h1 : Cx F d c (50 :: as) (Hp L xs m) = some ([r], Hp L xs m)) (h2 : Cx F d c' (158 :: as) (Hp L xs m) = some ([r'], Hp L xs m)) (e : r' = r) : Bth F d L xs c c' as m K := by
  subst e
  exact ⟨r', m, m, h1, h2, INv_s I⟩
theorem b_fault (I : INv K m) : Bth F (D + 32) L xs 183 318 [w] m K := by
  obtain ⟨f1, f2, f3⟩ := I.2.2.1.2.2.2.2.1
  refine Bth_e I (C_183 f1) (M_318 (by rw [f2]; exact f1)) ?_
  rw [f2]
  unfold ftV
  rcases f1 with z | z
  · rw [if_pos z, if_pos z]
  · rw [(f3 z).1, (f3 z).2]
theorem C_184_n (h : w < 0 ∨ 10 < w) {d : Nat} : Cx F (d + 1) 184 [50, w] (Hp L xs m) = some ([-1], Hp L xs m) := by
  have n0 : ¬ w = 0 := by omega
  have n1 : ¬ w = 1 := by omega
  have n2 : ¬ w = 2 := by omega
  have n3' : ¬ w = 3 := by omega
  have n4 : ¬ w = 4 := by omega
  have n5 : ¬ w = 5 := by omega
  have n6 : ¬ w = 6 := by omega
  have n7 : ¬ w = 7 := by omega
  have n8 : ¬ w = 8 := by omega
  have n9 : ¬ w = 9 := by omega
  have n10 : ¬ w = 10 := by omega
  simp (disch := first | omega | assumption) only [c_184, tr_184, ev_0, ev_1, ev_16, ev_17, ev_18, ev_2, ev_3, ev_4, ev_5, ev_6, ev_7, ev_8, ev_9, ev_20, ev_21, ev_22, ev_23, ev_24, ev_25, ev_27, ev_28, ev_30, ev_31, ev_32, ev_33, ev_34, ev_35, ev_36, ev_37, ev_38, ev_39, ev_40, ev_41, ev_42, ev_43, ev_45, ev_46, ev_47, ev_48, ev_49, ev_50, ev_51, ev_52, ev_54, ev_55, ev_57, ev_58, ev_59, k2_0, k2_1, k2_2, k3a, k3b, k4, o1_s, xbin_0, xbin_1, xbin_2, xbin_3, xbin_4, xbin_5, xbin_6, xbin_7, xbin_8, xbin_9, xbin_11, xbin_12, xun_0, xun_1, xun_2, xun_3, xun_4, xun_5, k6a, k8, k8b, k9, k20, k20b_0, k20b_1, k20b_2, k20b_3, k20b_4, k20b_5, k21_0, k21_1, k21_2, k21_3, k21_4, k21_5, k23, k24, k25, k27, k28, k40, nz_1, nz_2, nz_3, k31_0, k31_1, k31_2, k31_3, k32u, k33, k34, k35, k35b, k36, k37, k38, k47, k49, k49b_0, k49b_1, k49b_2, k49b_3, k50_0, k50_s, k51_0, k51_s, k55, k58, k58b, rk_0, rk_1, rk_2, rk_9, rk_3, rk_4, rk_5, sw_n, sw_c, xtb_n, xtb_c, lset_0, lset_2, lset_1, lkm_0, lkm_2, lkm_9, lkm_1, lkm_n, if_some1, c_10, c_01, c_x0, c_1x, c_n0, c_nn, List.getElem?_cons_zero, List.getElem?_cons_succ, List.set_cons_zero, List.set_cons_succ, List.length_cons, List.length_nil, Int.reduceToNat, Nat.reduceDiv, Nat.reduceMod, Nat.reduceSub, Nat.reduceAdd, Nat.reduceMul, Nat.reduceLT, Nat.reduceLeDiff, Nat.reduceEqDiff, Int.reduceMod, Int.reduceSub, Int.reduceNeg, Int.reduceAdd, Int.reduceMul, Int.reduceLT, Int.reduceLE, Int.reduceEq, put_ss, if_true, if_false, ite_true, ite_false, reduceIte, eq_self, and_true, true_and, and_false, false_and, or_true, true_or, or_false, false_or, not_true_eq_false, not_false_eq_true, n0, n1, n2, n3', n4, n5, n6, n7, n8, n9, n10]
theorem M_319_n (h : w < 0 ∨ 10 < w) {d : Nat} : Cx F (d + 1) 319 [158, w] (Hp L xs m) = some ([-1], Hp L xs m) := by
  have n0 : ¬ w = 0 := by omega
  have n1 : ¬ w = 1 := by omega
  have n2 : ¬ w = 2 := by omega
  have n3' : ¬ w = 3 := by omega
  have n4 : ¬ w = 4 := by omega
  have n5 : ¬ w = 5 := by omega
  have n6 : ¬ w = 6 := by omega
  have n7 : ¬ w = 7 := by omega
  have n8 : ¬ w = 8 := by omega
  have n9 : ¬ w = 9 := by omega
  have n10 : ¬ w = 10 := by omega
  simp (disch := first | omega | assumption) only [c_319, tr_319, ev_0, ev_1, ev_16, ev_17, ev_18, ev_2, ev_3, ev_4, ev_5, ev_6, ev_7, ev_8, ev_9, ev_20, ev_21, ev_22, ev_23, ev_24, ev_25, ev_27, ev_28, ev_30, ev_31, ev_32, ev_33, ev_34, ev_35, ev_36, ev_37, ev_38, ev_39, ev_40, ev_41, ev_42, ev_43, ev_45, ev_46, ev_47, ev_48, ev_49, ev_50, ev_51, ev_52, ev_54, ev_55, ev_57, ev_58, ev_59, k2_0, k2_1, k2_2, k3a, k3b, k4, o1_s, xbin_0, xbin_1, xbin_2, xbin_3, xbin_4, xbin_5, xbin_6, xbin_7, xbin_8, xbin_9, xbin_11, xbin_12, xun_0, xun_1, xun_2, xun_3, xun_4, xun_5, k6a, k8, k8b, k9, k20, k20b_0, k20b_1, k20b_2, k20b_3, k20b_4, k20b_5, k21_0, k21_1, k21_2, k21_3, k21_4, k21_5, k23, k24, k25, k27, k28, k40, nz_1, nz_2, nz_3, k31_0, k31_1, k31_2, k31_3, k32u, k33, k34, k35, k35b, k36, k37, k38, k47, k49, k49b_0, k49b_1, k49b_2, k49b_3, k50_0, k50_s, k51_0, k51_s, k55, k58, k58b, rk_0, rk_1, rk_2, rk_9, rk_3, rk_4, rk_5, sw_n, sw_c, xtb_n, xtb_c, lset_0, lset_2, lset_1, lkm_0, lkm_2, lkm_9, lkm_1, lkm_n, if_some1, c_10, c_01, c_x0, c_1x, c_n0, c_nn, List.getElem?_cons_zero, List.getElem?_cons_succ, List.set_cons_zero, List.set_cons_succ, List.length_cons, List.length_nil, Int.reduceToNat, Nat.reduceDiv, Nat.reduceMod, Nat.reduceSub, Nat.reduceAdd, Nat.reduceMul, Nat.reduceLT, Nat.reduceLeDiff, Nat.reduceEqDiff, Int.reduceMod, Int.reduceSub, Int.reduceNeg, Int.reduceAdd, Int.reduceMul, Int.reduceLT, Int.reduceLE, Int.reduceEq, put_ss, if_true, if_false, ite_true, ite_false, reduceIte, eq_self, and_true, true_and, and_false, false_and, or_true, true_or, or_false, false_or, not_true_eq_false, not_false_eq_true, n0, n1, n2, n3', n4, n5, n6, n7, n8, n9, n10]
/-- the code that stands, told for both of its places -/
theorem cd_nm {cd : Nat} (h : CDx cd m) : (m 158 54 = 0 ∨ m 158 54 = 1) ∧ m cd 0 = (if m 158 54 = 1 then m 158 55 else 0) ∧ m cd 5 = (if m 158 54 = 1 then m 158 60 else 0) ∧ m cd 10 = (if m 158 54 = 1 then m 158 61 else 0) ∧ m cd 11 = (if m 158 54 = 1 then m 158 70 else 0) ∧ m cd 12 = (if m 158 54 = 1 then m 158 68 else 0) := by
  rcases h with ⟨h1, h2, h3, h4, h5, h6⟩ | ⟨h1, -, ⟨⟨g1, g2, g3, g4, g5⟩, -⟩⟩
  · have z : ¬ m 158 54 = 1 := by omega
    rw [if_neg z, if_neg z, if_neg z, if_neg z, if_neg z]
    exact ⟨Or.inl h1, h2, h3, h4, h5, h6⟩
  · have z : m 158 54 = 1 := h1.1
    rw [if_pos z, if_pos z, if_pos z, if_pos z, if_pos z]
    exact ⟨Or.inr z, g1, g2, g3, g4, g5⟩
theorem b_count (I : INv K m) : Bth F (D + 32) L xs 184 319 [w] m K := by
  obtain ⟨cd, ot, c1, c2, c3, c4⟩ := I.2.2.1.2.2.2.2.2.1
  obtain ⟨⟨ne1, ne2⟩, -, -, -⟩ := I.2.2.1.2.2.2.2.2.2
  obtain ⟨q0, q1, q2, q3, q4, q5⟩ := cd_nm c4
  have E := I.1.1
  have W := I.1.2
  obtain ⟨b, n, Yc, Ym, hn⟩ := I.2.1
  by_cases h : w < 0 ∨ 10 < w
  · exact Bth_e I (C_184_n h) (M_319_n h) rfl
  have hw : w = 0 ∨ w = 1 ∨ w = 2 ∨ w = 3 ∨ w = 4 ∨ w = 5 ∨ w = 6 ∨ w = 7 ∨ w = 8 ∨ w = 9 ∨ w = 10 := by omega
  rcases hw with rfl | rfl | rfl | rfl | rfl | rfl | rfl | rfl | rfl | rfl | rfl
  · rcases c1 with ⟨rfl, rfl⟩ | ⟨rfl, rfl⟩
    · exact Bth_e I (C_184_0_83 c2) (M_319_0 q0) q2.symm
    · exact Bth_e I (C_184_0_93 c2) (M_319_0 q0) q2.symm
  · rcases c1 with ⟨rfl, rfl⟩ | ⟨rfl, rfl⟩
    · exact Bth_e I (C_184_1_83 c2) (M_319_1 q0) q3.symm
    · exact Bth_e I (C_184_1_93 c2) (M_319_1 q0) q3.symm
  · rcases c1 with ⟨rfl, rfl⟩ | ⟨rfl, rfl⟩
    · exact Bth_e I (C_184_2_83 c2) (M_319_2 q0) q1.symm
    · exact Bth_e I (C_184_2_93 c2) (M_319_2 q0) q1.symm
  · rcases c1 with ⟨rfl, rfl⟩ | ⟨rfl, rfl⟩
    · exact Bth_e I (C_184_3_83 c2) (M_319_3 q0) q5.symm
    · exact Bth_e I (C_184_3_93 c2) (M_319_3 q0) q5.symm
  · rcases c1 with ⟨rfl, rfl⟩ | ⟨rfl, rfl⟩
    · exact Bth_e I (C_184_4_83 c2) (M_319_4 q0) q4.symm
    · exact Bth_e I (C_184_4_93 c2) (M_319_4 q0) q4.symm
  · exact Bth_e I C_184_5 M_319_5 (by rw [ne1])
  · exact Bth_e I C_184_6 M_319_6 ne2
  · exact Bth_e I C_184_7 M_319_7 (by rw [Yc.1, Ym.1])
  · refine Bth_e I (C_184_8 W.1) M_319_8 ?_
    have z := W.1.2.2.2.2.2.1
    rw [E.2.1.1, E.2.1.2.1]
    exact w32_of (by omega) (by omega)
  · exact Bth_e I C_184_9 M_319_9 E.2.1.2.2.1
  · exact Bth_e I C_184_10 M_319_10 E.2.1.2.2.2.1
theorem fd_eq {n n' x0 x1 x2 x3 y0 y1 y2 y3 : Int} (hn : n' = n) (h : 0 ≤ i → i < n → y0 = x0 ∧ y1 = x1 ∧ y2 = x2 ∧ y3 = x3) : fdV i n' w y0 y1 y2 y3 = fdV i n w x0 x1 x2 x3 := by
  unfold fdV
  rw [hn]
  by_cases c : 0 ≤ i ∧ i < n
  · obtain ⟨e0, e1, e2, e3⟩ := h c.1 c.2
    rw [e0, e1, e2, e3]
  · rw [if_neg c, if_neg c]
theorem CDx_o {cd : Nat} (h : CDx cd m) : (m 158 55 ≤ 12000 ∨ m 158 54 = 0) ∧ m cd 0 ≤ 3000 ∧ m cd 5 ≤ 40 ∧ (m 158 60 ≤ 40 ∨ m 158 54 = 0) := by
  rcases h with ⟨h1, h2, h3, h4, h5, h6⟩ | ⟨⟨h1, h2, h3, -⟩, -, ⟨⟨g1, g2, -⟩, -⟩⟩
  · omega
  · omega
theorem CDx_f {cd : Nat} (h : CDx cd m) : (∀ i : Nat, (i : Int) < m cd 0 → m (cd + 1) i = m 184 i ∧ m (cd + 2) i = m 185 i ∧ m (cd + 3) i = m 186 i ∧ m (cd + 4) i = m 187 i) ∧ (∀ p : Nat, (p : Int) < m cd 5 → m (cd + 5) p = m 188 p ∧ m (cd + 6) p = m 189 p ∧ m (cd + 7) p = m 190 p ∧ m (cd + 8) p = m 191 p) ∧ (∀ k : Nat, (k : Int) < m cd 12 → m (cd + 9) k = m 193 k ∧ 0 ≤ m 193 k ∧ m 193 k < 65536) := by
  rcases h with ⟨h1, h2, h3, h4, h5, h6⟩ | ⟨⟨-, -, -, h4⟩, -, ⟨⟨g1, g2, -, -, g5⟩, g6, g7, g8⟩⟩
  · exact ⟨fun i hi => by omega, fun i hi => by omega, fun i hi => by omega⟩
  · exact ⟨fun i hi => g6 i (by omega), fun i hi => g7 i (by omega), fun i hi => ⟨g8 i (by omega), h4 i (by omega)⟩⟩
theorem M_320z {d : Nat} (hj : m 158 54 = 0) : Cx F (d + 1) 320 [158, i, w] (Hp L xs m) = some ([-1], Hp L xs m) := by
  simp (disch := first | omega | assumption) only [c_320, tr_320, ev_0, ev_1, ev_16, ev_17, ev_18, ev_2, ev_3, ev_4, ev_5, ev_6, ev_7, ev_8, ev_9, ev_20, ev_21, ev_22, ev_23, ev_24, ev_25, ev_27, ev_28, ev_30, ev_31, ev_32, ev_33, ev_34, ev_35, ev_36, ev_37, ev_38, ev_39, ev_40, ev_41, ev_42, ev_43, ev_45, ev_46, ev_47, ev_48, ev_49, ev_50, ev_51, ev_52, ev_54, ev_55, ev_57, ev_58, ev_59, k2_0, k2_1, k2_2, k3a, k3b, k4, o1_s, xbin_0, xbin_1, xbin_2, xbin_3, xbin_4, xbin_5, xbin_6, xbin_7, xbin_8, xbin_9, xbin_11, xbin_12, xun_0, xun_1, xun_2, xun_3, xun_4, xun_5, k6a, k8, k8b, k9, k20, k20b_0, k20b_1, k20b_2, k20b_3, k20b_4, k20b_5, k21_0, k21_1, k21_2, k21_3, k21_4, k21_5, k23, k24, k25, k27, k28, k40, nz_1, nz_2, nz_3, k31_0, k31_1, k31_2, k31_3, k32u, k33, k34, k35, k35b, k36, k37, k38, k47, k49, k49b_0, k49b_1, k49b_2, k49b_3, k50_0, k50_s, k51_0, k51_s, k55, k58, k58b, rk_0, rk_1, rk_2, rk_9, rk_3, rk_4, rk_5, sw_n, sw_c, xtb_n, xtb_c, lset_0, lset_2, lset_1, lkm_0, lkm_2, lkm_9, lkm_1, lkm_n, if_some1, c_10, c_01, c_x0, c_1x, c_n0, c_nn, List.getElem?_cons_zero, List.getElem?_cons_succ, List.set_cons_zero, List.set_cons_succ, List.length_cons, List.length_nil, Int.reduceToNat, Nat.reduceDiv, Nat.reduceMod, Nat.reduceSub, Nat.reduceAdd, Nat.reduceMul, Nat.reduceLT, Nat.reduceLeDiff, Nat.reduceEqDiff, Int.reduceMod, Int.reduceSub, Int.reduceNeg, Int.reduceAdd, Int.reduceMul, Int.reduceLT, Int.reduceLE, Int.reduceEq, put_ss, if_true, if_false, ite_true, ite_false, reduceIte, eq_self, and_true, true_and, and_false, false_and, or_true, true_or, or_false, false_or, not_true_eq_false, not_false_eq_true, k5_158_54, k34_158_54, k34i_158_54, k5_158_55, k34_158_55, k5_158_56, k6_184, k35_184, n_184, k5_158_57, k6_185, k35_185, n_185, k5_158_58, k6_186, k35_186, n_186, k5_158_59, k6_187, k35_187, n_187, hj]
theorem M_321z {d : Nat} (hj : m 158 54 = 0) : Cx F (d + 1) 321 [158, i, w] (Hp L xs m) = some ([-1], Hp L xs m) := by
  simp (disch := first | omega | assumption) only [c_321, tr_321, ev_0, ev_1, ev_16, ev_17, ev_18, ev_2, ev_3, ev_4, ev_5, ev_6, ev_7, ev_8, ev_9, ev_20, ev_21, ev_22, ev_23, ev_24, ev_25, ev_27, ev_28, ev_30, ev_31, ev_32, ev_33, ev_34, ev_35, ev_36, ev_37, ev_38, ev_39, ev_40, ev_41, ev_42, ev_43, ev_45, ev_46, ev_47, ev_48, ev_49, ev_50, ev_51, ev_52, ev_54, ev_55, ev_57, ev_58, ev_59, k2_0, k2_1, k2_2, k3a, k3b, k4, o1_s, xbin_0, xbin_1, xbin_2, xbin_3, xbin_4, xbin_5, xbin_6, xbin_7, xbin_8, xbin_9, xbin_11, xbin_12, xun_0, xun_1, xun_2, xun_3, xun_4, xun_5, k6a, k8, k8b, k9, k20, k20b_0, k20b_1, k20b_2, k20b_3, k20b_4, k20b_5, k21_0, k21_1, k21_2, k21_3, k21_4, k21_5, k23, k24, k25, k27, k28, k40, nz_1, nz_2, nz_3, k31_0, k31_1, k31_2, k31_3, k32u, k33, k34, k35, k35b, k36, k37, k38, k47, k49, k49b_0, k49b_1, k49b_2, k49b_3, k50_0, k50_s, k51_0, k51_s, k55, k58, k58b, rk_0, rk_1, rk_2, rk_9, rk_3, rk_4, rk_5, sw_n, sw_c, xtb_n, xtb_c, lset_0, lset_2, lset_1, lkm_0, lkm_2, lkm_9, lkm_1, lkm_n, if_some1, c_10, c_01, c_x0, c_1x, c_n0, c_nn, List.getElem?_cons_zero, List.getElem?_cons_succ, List.set_cons_zero, List.set_cons_succ, List.length_cons, List.length_nil, Int.reduceToNat, Nat.reduceDiv, Nat.reduceMod, Nat.reduceSub, Nat.reduceAdd, Nat.reduceMul, Nat.reduceLT, Nat.reduceLeDiff, Nat.reduceEqDiff, Int.reduceMod, Int.reduceSub, Int.reduceNeg, Int.reduceAdd, Int.reduceMul, Int.reduceLT, Int.reduceLE, Int.reduceEq, put_ss, if_true, if_false, ite_true, ite_false, reduceIte, eq_self, and_true, true_and, and_false, false_and, or_true, true_or, or_false, false_or, not_true_eq_false, not_false_eq_true, k5_158_54, k34_158_54, k34i_158_54, k5_158_60, k34_158_60, k5_158_62, k6_188, k35_188, n_188, k5_158_63, k6_189, k35_189, n_189, k5_158_64, k6_190, k35_190, n_190, k5_158_65, k6_191, k35_191, n_191, hj]
theorem fd_0 {x0 x1 x2 x3 : Int} {n : Int} (h : n = 0) : fdV i n w x0 x1 x2 x3 = -1 := by
  unfold fdV
  rw [if_neg (by omega)]
theorem b_order (I : INv K m) : Bth F (D + 32) L xs 185 320 [i, w] m K := by
  obtain ⟨cd, ot, c1, c2, c3, c4⟩ := I.2.2.1.2.2.2.2.2.1
  obtain ⟨q0, q1, -⟩ := cd_nm c4
  obtain ⟨o1', o2, o3, o4⟩ := CDx_o c4
  obtain ⟨f1, f2, f3⟩ := CDx_f c4
  have key : ∀ h : m 158 55 ≤ 12000, fdV i (if m 158 54 = 1 then m 158 55 else 0) w (m 184 i.toNat) (m 185 i.toNat) (m 186 i.toNat) (m 187 i.toNat) = fdV i (m cd 0) w (m (cd + 1) i.toNat) (m (cd + 2) i.toNat) (m (cd + 3) i.toNat) (m (cd + 4) i.toNat) := fun h => fd_eq q1.symm (fun h0 h1 => by
    obtain ⟨z1, z2, z3, z4⟩ := f1 i.toNat (by omega)
    exact ⟨z1.symm, z2.symm, z3.symm, z4.symm⟩)
  by_cases h55 : m 158 55 ≤ 12000
  · rcases c1 with ⟨rfl, rfl⟩ | ⟨rfl, rfl⟩
    · exact Bth_e I (C_185_83 c2 o2) (M_320 q0 h55) (key h55)
    · exact Bth_e I (C_185_93 c2 o2) (M_320 q0 h55) (key h55)
  · have z : m 158 54 = 0 := by omega
    have z0 : m cd 0 = 0 := by rw [q1, if_neg (by omega)]
    rcases c1 with ⟨rfl, rfl⟩ | ⟨rfl, rfl⟩
    · exact Bth_e I (C_185_83 c2 o2) (M_320z z) (fd_0 z0).symm
    · exact Bth_e I (C_185_93 c2 o2) (M_320z z) (fd_0 z0).symm
theorem b_proc (I : INv K m) : Bth F (D + 32) L xs 186 321 [i, w] m K := by
  obtain ⟨cd, ot, c1, c2, c3, c4⟩ := I.2.2.1.2.2.2.2.2.1
  obtain ⟨q0, -, q2, -⟩ := cd_nm c4
  obtain ⟨o1', o2, o3, o4⟩ := CDx_o c4
  obtain ⟨f1, f2, f3⟩ := CDx_f c4
  by_cases h60 : m 158 60 ≤ 40
  · have key : fdV i (if m 158 54 = 1 then m 158 60 else 0) w (m 188 i.toNat) (m 189 i.toNat) (m 190 i.toNat) (m 191 i.toNat) = fdV i (m cd 5) w (m (cd + 5) i.toNat) (m (cd + 6) i.toNat) (m (cd + 7) i.toNat) (m (cd + 8) i.toNat) := fd_eq q2.symm (fun h0 h1 => by
      obtain ⟨z1, z2, z3, z4⟩ := f2 i.toNat (by omega)
      exact ⟨z1.symm, z2.symm, z3.symm, z4.symm⟩)
    rcases c1 with ⟨rfl, rfl⟩ | ⟨rfl, rfl⟩
    · exact Bth_e I (C_186_83 c2 o3) (M_321 q0 h60) key
    · exact Bth_e I (C_186_93 c2 o3) (M_321 q0 h60) key
  · have z : m 158 54 = 0 := by omega
    have z0 : m cd 5 = 0 := by rw [q2, if_neg (by omega)]
    rcases c1 with ⟨rfl, rfl⟩ | ⟨rfl, rfl⟩
    · exact Bth_e I (C_186_83 c2 o3) (M_321z z) (fd_0 z0).symm
    · exact Bth_e I (C_186_93 c2 o3) (M_321z z) (fd_0 z0).symm
/-- the size of the code, and a program's size -/
theorem CDx_s {cd : Nat} (hc : cd = 83 ∨ cd = 93) (h : CDx cd m) : (m 158 54 = 0 ∧ m cd 12 = 0) ∨ (m 158 54 = 1 ∧ m cd 12 = m 158 68 ∧ 82 ≤ m 158 68 ∧ m 158 68 ≤ 6000) := by
  rcases h with ⟨h1, h2, h3, h4, h5, h6⟩ | ⟨⟨h1, -⟩, ⟨np, n, fe, h, u, nc, cs, Q⟩, ⟨⟨-, -, -, -, g5⟩, -⟩⟩
  · exact Or.inl ⟨h1, h6⟩
  · obtain ⟨-, -, -, -, -, ⟨z1, z2, z3⟩, -⟩ := Q
    unfold Bq at z3
    exact Or.inr ⟨h1, g5, z1, by omega⟩
theorem M_322z {d : Nat} (hj : m 158 54 = 0) : Cx F (d + 1) 322 [158, i] (Hp L xs m) = some ([-1], Hp L xs m) := by
  simp (disch := first | omega | assumption) only [c_322, tr_322, ev_0, ev_1, ev_16, ev_17, ev_18, ev_2, ev_3, ev_4, ev_5, ev_6, ev_7, ev_8, ev_9, ev_20, ev_21, ev_22, ev_23, ev_24, ev_25, ev_27, ev_28, ev_30, ev_31, ev_32, ev_33, ev_34, ev_35, ev_36, ev_37, ev_38, ev_39, ev_40, ev_41, ev_42, ev_43, ev_45, ev_46, ev_47, ev_48, ev_49, ev_50, ev_51, ev_52, ev_54, ev_55, ev_57, ev_58, ev_59, k2_0, k2_1, k2_2, k3a, k3b, k4, o1_s, xbin_0, xbin_1, xbin_2, xbin_3, xbin_4, xbin_5, xbin_6, xbin_7, xbin_8, xbin_9, xbin_11, xbin_12, xun_0, xun_1, xun_2, xun_3, xun_4, xun_5, k6a, k8, k8b, k9, k20, k20b_0, k20b_1, k20b_2, k20b_3, k20b_4, k20b_5, k21_0, k21_1, k21_2, k21_3, k21_4, k21_5, k23, k24, k25, k27, k28, k40, nz_1, nz_2, nz_3, k31_0, k31_1, k31_2, k31_3, k32u, k33, k34, k35, k35b, k36, k37, k38, k47, k49, k49b_0, k49b_1, k49b_2, k49b_3, k50_0, k50_s, k51_0, k51_s, k55, k58, k58b, rk_0, rk_1, rk_2, rk_9, rk_3, rk_4, rk_5, sw_n, sw_c, xtb_n, xtb_c, lset_0, lset_2, lset_1, lkm_0, lkm_2, lkm_9, lkm_1, lkm_n, if_some1, c_10, c_01, c_x0, c_1x, c_n0, c_nn, List.getElem?_cons_zero, List.getElem?_cons_succ, List.set_cons_zero, List.set_cons_succ, List.length_cons, List.length_nil, Int.reduceToNat, Nat.reduceDiv, Nat.reduceMod, Nat.reduceSub, Nat.reduceAdd, Nat.reduceMul, Nat.reduceLT, Nat.reduceLeDiff, Nat.reduceEqDiff, Int.reduceMod, Int.reduceSub, Int.reduceNeg, Int.reduceAdd, Int.reduceMul, Int.reduceLT, Int.reduceLE, Int.reduceEq, put_ss, if_true, if_false, ite_true, ite_false, reduceIte, eq_self, and_true, true_and, and_false, false_and, or_true, true_or, or_false, false_or, not_true_eq_false, not_false_eq_true, k5_158_54, k34_158_54, k34i_158_54, k5_158_68, k34_158_68, k5_158_69, k6_193, k35_193, n_193, hj]
theorem b_word (I : INv K m) : Bth F (D + 32) L xs 187 322 [i] m K := by
  obtain ⟨cd, ot, c1, c2, c3, c4⟩ := I.2.2.1.2.2.2.2.2.1
  obtain ⟨f1, f2, f3⟩ := CDx_f c4
  rcases CDx_s (by omega) c4 with ⟨z1, z2⟩ | ⟨z1, z2, z3, z4⟩
  · rcases c1 with ⟨rfl, rfl⟩ | ⟨rfl, rfl⟩
    · exact Bth_e I (C_187_83 c2 (by omega)) (M_322z z1) (if_neg (by omega)).symm
    · exact Bth_e I (C_187_93 c2 (by omega)) (M_322z z1) (if_neg (by omega)).symm
  · have key : wdV (m 158 54) (m 158 68) (m 193 i.toNat) i = if 0 ≤ i ∧ i < m cd 12 then m (cd + 9) i.toNat else -1 := by
      unfold wdV
      by_cases c : 0 ≤ i ∧ i < m 158 68
      · rw [if_pos ⟨z1, c⟩, if_pos (by omega), (f3 i.toNat (by omega)).1]
      · rw [if_neg (by omega), if_neg (by omega)]
    rcases c1 with ⟨rfl, rfl⟩ | ⟨rfl, rfl⟩
    · exact Bth_e I (C_187_83 c2 (by omega)) (M_322 (Or.inr z1) (by omega)) key
    · exact Bth_e I (C_187_93 c2 (by omega)) (M_322 (Or.inr z1) (by omega)) key
theorem b_net (I : INv K m) : Bth F (D + 32) L xs 188 323 [i, w] m K := by
  obtain ⟨⟨ne1, ne2⟩, n1, n2, n3⟩ := I.2.2.1.2.2.2.2.2.2
  obtain ⟨q1, -⟩ := I.2.2.2.1
  refine Bth_e I (C_188 q1.2) (M_323 (by omega) (by omega)) ?_
  unfold neV
  by_cases c1 : w = 0 ∧ 2 ≤ i ∧ i < 196
  · rw [if_pos c1, if_pos c1]
    exact n2 i.toNat (by omega) (by omega)
  · rw [if_neg c1, if_neg c1, ne1]
    by_cases c2 : i < 212 ∨ m 73 0 ≤ i
    · rw [if_pos c2, if_pos c2]
    · obtain ⟨z1, z2⟩ := n1 i.toNat (by omega) (by omega)
      rw [if_neg c2, if_neg c2, z1, z2]
theorem b_look (I : INv K m) : Bth F (D + 32) L xs 195 331 [i] m K := by
  have e := wmx_id I.1.1
  refine Bth_e I (C_195 I.1.2) ?_ rfl
  have z := M_331 (F := F) (L := L) (xs := xs) (d := D + 30) (k := i) (G := m) (m := m) I.1.2
  rw [e] at z
  exact z
theorem b_mem (I : INv K m) : Bth F (D + 32) L xs 196 332 [i] m K := Bth_e I C_196 M_332 (by rw [I.1.1.2.2.1])
theorem b_out (I : INv K m) : Bth F (D + 32) L xs 197 333 [i] m K := by
  refine Bth_e I (C_197 I.1.2.1.2.2.2.2.2.2.1.1) M_333 ?_
  rw [I.1.1.2.1.2.2.1, I.1.1.2.2.2.2.2]
end Sam
