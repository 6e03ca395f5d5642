/-! COMPILE: main, and what is too large, by both -/
section Cnt
variable {v V K : Int → Int} {e : Int}
theorem sN_n : ∀ (k : Nat) (t : xT), tsz t < k → ∀ (x r : Int) (s : tS6), PN K t x r → (sN v t s).2.1 = s.2.1 ∧ (sN v t s).2.2.1 = s.2.2.1 + nN t ∧ (sN v t s).2.2.2.1 = s.2.2.2.1 ∧ (sN v t s).2.2.2.2.1 = s.2.2.2.2.1 := by
  intro k
  induction k with
  | zero => intro t ht; exact absurd ht (Nat.not_lt_zero _)
  | succ k ih =>
    intro t ht x r s h
    rcases inv_N h with ⟨a, b, rfl, g1, g2, g3⟩ | ⟨a, b, rfl, g1, g2, g3⟩
    · exact ⟨rfl, rfl, rfl, rfl⟩
    · rw [tsz_nd] at ht
      obtain ⟨h1, h2, h3, h4⟩ := ih b (by omega) (x + 2) r (sC v x s) g3
      refine ⟨h1, ?_, h3, h4⟩
      show (sN v b (sC v x s)).2.2.1 = s.2.2.1 + (nN b + 1)
      rw [h2]
      show s.2.2.1 + 1 + nN b = _
      omega
theorem sT_n : ∀ (k : Nat) (t : xT), tsz t < k → ∀ (p : Int) (s : tS6), PT K V t p e → (sT v t s).2.1 = s.2.1 + (vwT v t).length ∧ (sT v t s).2.2.1 = s.2.2.1 + kT t ∧ (sT v t s).2.2.2.1 = s.2.2.2.1 + (rT t).length := by
  intro k
  induction k with
  | zero => intro t ht; exact absurd ht (Nat.not_lt_zero _)
  | succ k ih =>
    intro t ht p s h
    rcases inv_T h with ⟨i, a, b, rfl, g1, g2⟩ | ⟨a, b, rfl, g1, g2, g3, g4⟩ | ⟨a, b, rfl, g1, g2, g3, g4, g5, g6, g7⟩ | ⟨a, b, rfl, g1, r, g2, g3, g4⟩ | ⟨a, b, rfl, g1, g2, g3, r, g4, g5⟩
    · exact ⟨(Int.add_zero _).symm, (Int.add_zero _).symm, (Int.add_zero _).symm⟩
    · rw [tsz_nd] at ht
      obtain ⟨h1, h2, h3⟩ := ih b (by omega) _ (sV v p s) g4
      refine ⟨?_, h2, h3⟩
      show (sT v b (sV v p s)).2.1 = s.2.1 + ((1 :: vwT v b).length : Int)
      rw [h1, List.length_cons]
      show s.2.1 + 1 + _ = _
      omega
    · rw [tsz_nd] at ht
      obtain ⟨h1, h2, h3⟩ := ih b (by omega) _ (sA v p s) g7
      refine ⟨?_, h2, h3⟩
      show (sT v b (sA v p s)).2.1 = s.2.1 + ((v (p + 3) :: vwT v b).length : Int)
      rw [h1, List.length_cons]
      show s.2.1 + 1 + _ = _
      omega
    · rw [tsz_nd] at ht
      obtain ⟨n1, n2, n3, n4⟩ := sN_n (v := v) (tsz a + 1) a (by omega) _ _ s g2
      obtain ⟨h1, h2, h3⟩ := ih b (by omega) _ (sN v a s) g4
      refine ⟨?_, ?_, ?_⟩
      · show (sT v b (sN v a s)).2.1 = s.2.1 + ((vwT v b).length : Int)
        rw [h1, n1]
      · show (sT v b (sN v a s)).2.2.1 = s.2.2.1 + (nN a + kT b)
        rw [h2, n2]
        omega
      · show (sT v b (sN v a s)).2.2.2.1 = s.2.2.2.1 + ((rT b).length : Int)
        rw [h3, n3]
    · rw [tsz_nd] at ht
      obtain ⟨h1, h2, h3⟩ := ih b (by omega) _ (sP v p (hN a) s) g5
      refine ⟨h1, h2, ?_⟩
      show (sT v b (sP v p (hN a) s)).2.2.2.1 = s.2.2.2.1 + ((rsT a :: rT b).length : Int)
      rw [h3, List.length_cons]
      show s.2.2.2.1 + 1 + _ = _
      omega
theorem cN_t : ∀ (k : Nat) (t : xT), tsz t < k → ∀ (x r : Int), PN K t x r → ∀ y ∈ cN v t, ∃ j, x ≤ j ∧ j < r ∧ K j = 2 ∧ y = v j := by
  intro k
  induction k with
  | zero => intro t ht; exact absurd ht (Nat.not_lt_zero _)
  | succ k ih =>
    intro t ht x r h y hy
    rcases inv_N h with ⟨a, b, rfl, g1, g2, g3⟩ | ⟨a, b, rfl, g1, g2, g3⟩
    · have hy' : y ∈ [v x] := hy
      rw [List.mem_singleton] at hy'
      exact ⟨x, Int.le_refl _, by omega, g1, hy'⟩
    · rw [tsz_nd] at ht
      have hy' : y ∈ v x :: cN v b := hy
      have hle := (PN_n b g3).1
      have hle2 := (PN_n b g3).2.1
      rcases List.mem_cons.mp hy' with z | z
      · exact ⟨x, Int.le_refl _, by omega, g1, z⟩
      · obtain ⟨j, j1, j2, j3, j4⟩ := ih b (by omega) (x + 2) r g3 y z
        exact ⟨j, by omega, j2, j3, j4⟩
theorem cT_t : ∀ (k : Nat) (t : xT), tsz t < k → ∀ (p : Int), PT K V t p e → ∀ y ∈ cT v t, ∃ j, p ≤ j ∧ j < e ∧ K j = 2 ∧ y = v j := by
  intro k
  induction k with
  | zero => intro t ht; exact absurd ht (Nat.not_lt_zero _)
  | succ k ih =>
    intro t ht p h y hy
    rcases inv_T h with ⟨i, a, b, rfl, g1, g2⟩ | ⟨a, b, rfl, g1, g2, g3, g4⟩ | ⟨a, b, rfl, g1, g2, g3, g4, g5, g6, g7⟩ | ⟨a, b, rfl, g1, r, g2, g3, g4⟩ | ⟨a, b, rfl, g1, g2, g3, r, g4, g5⟩
    · exact absurd hy (List.not_mem_nil)
    · rw [tsz_nd] at ht
      have hle := PT_le (tsz b + 1) b (by omega) _ _ g4
      have hy' : y ∈ v (p + 1) :: cT v b := hy
      rcases List.mem_cons.mp hy' with z | z
      · exact ⟨p + 1, by omega, by omega, g2, z⟩
      · obtain ⟨j, j1, j2, j3, j4⟩ := ih b (by omega) _ g4 y z
        exact ⟨j, by omega, j2, j3, j4⟩
    · rw [tsz_nd] at ht
      have hle := PT_le (tsz b + 1) b (by omega) _ _ g7
      have hy' : y ∈ v (p + 1) :: cT v b := hy
      rcases List.mem_cons.mp hy' with z | z
      · exact ⟨p + 1, by omega, by omega, g2, z⟩
      · obtain ⟨j, j1, j2, j3, j4⟩ := ih b (by omega) _ g7 y z
        exact ⟨j, by omega, j2, j3, j4⟩
    · rw [tsz_nd] at ht
      have hle := PT_le (tsz b + 1) b (by omega) _ _ g4
      have hn := (PN_n a g2).1
      have hn2 := (PN_n a g2).2.1
      have hy' : y ∈ cN v a ++ cT v b := hy
      rcases List.mem_append.mp hy' with z | z
      · obtain ⟨j, j1, j2, j3, j4⟩ := cN_t (v := v) (tsz a + 1) a (by omega) _ _ g2 y z
        exact ⟨j, by omega, by omega, j3, j4⟩
      · obtain ⟨j, j1, j2, j3, j4⟩ := ih b (by omega) _ g4 y z
        exact ⟨j, by omega, j2, j3, j4⟩
    · rw [tsz_nd] at ht
      have hle := PT_le (tsz b + 1) b (by omega) _ _ g5
      have hph := PH_lt g4
      have hy' : y ∈ v (p + 1) :: cT v b := hy
      rcases List.mem_cons.mp hy' with z | z
      · exact ⟨p + 1, by omega, by omega, g2, z⟩
      · obtain ⟨j, j1, j2, j3, j4⟩ := ih b (by omega) _ g5 y z
        exact ⟨j, by omega, j2, j3, j4⟩
end Cnt
section Mn
variable {F L d : Nat} {xs : Nat → Int32} {M m : Mem} {s : tS6} {c k l : Int}
theorem C_153 {a1 : Int} (h7 : M 57 7 ≤ 300) : Cx F (d + 1) 153 [57, a1] (Hp L xs M) = some ([prm M a1], Hp L xs M) := by
  unfold prm
  by_cases h1 : a1 < 0
  · simp (disch := omega) only [c_153, tr_153, ev_0, ev_1, ev_16, ev_17, ev_18, ev_2, ev_3, ev_4, ev_5, ev_6, ev_7, ev_8, ev_9, ev_20, ev_21, ev_22, ev_23, ev_24, ev_25, ev_27, ev_28, ev_30, ev_31, ev_32, ev_33, ev_34, ev_35, ev_36, ev_37, ev_38, ev_39, ev_40, ev_41, ev_42, ev_43, ev_45, ev_46, ev_47, ev_48, ev_49, ev_50, ev_51, ev_52, ev_54, ev_55, ev_57, ev_58, ev_59, k2_0, k2_1, k2_2, k3a, k3b, k4, o1_s, xbin_0, xbin_1, xbin_2, xbin_3, xbin_4, xbin_5, xbin_6, xbin_7, xbin_8, xbin_9, xbin_11, xbin_12, xun_0, xun_1, xun_2, xun_3, xun_4, xun_5, k6a, k8, k8b, k9, k20, k20b_0, k20b_1, k20b_2, k20b_3, k20b_4, k20b_5, k21_0, k21_1, k21_2, k21_3, k21_4, k21_5, k23, k24, k25, k27, k28, k40, nz_1, nz_2, nz_3, k31_0, k31_1, k31_2, k31_3, k32u, k33, k34, k35, k35b, k36, k37, k38, k47, k49, k49b_0, k49b_1, k49b_2, k49b_3, k50_0, k50_s, k51_0, k51_s, k55, k58, k58b, rk_0, rk_1, rk_2, rk_9, rk_3, rk_4, rk_5, sw_n, sw_c, xtb_n, xtb_c, lset_0, lset_2, lset_1, lkm_0, lkm_2, lkm_9, lkm_1, lkm_n, if_some1, c_10, c_01, c_x0, c_1x, c_n0, c_nn, List.getElem?_cons_zero, List.getElem?_cons_succ, List.set_cons_zero, List.set_cons_succ, List.length_cons, List.length_nil, Int.reduceToNat, Nat.reduceDiv, Nat.reduceMod, Nat.reduceSub, Nat.reduceAdd, Nat.reduceMul, Nat.reduceLT, Nat.reduceLeDiff, Nat.reduceEqDiff, Int.reduceMod, Int.reduceSub, Int.reduceNeg, Int.reduceAdd, Int.reduceMul, Int.reduceLT, Int.reduceLE, Int.reduceEq, put_ss, if_true, if_false, ite_true, ite_false, reduceIte, eq_self, and_true, true_and, and_false, false_and, or_true, true_or, or_false, false_or, not_true_eq_false, not_false_eq_true, k5_57_11, k6_64, k35_64, n_64, k5_57_7, k34_57_7, k54_57_7, k54b_57_7_0, h1]
  · by_cases h2 : M 57 7 ≤ a1
    · simp (disch := omega) only [c_153, tr_153, ev_0, ev_1, ev_16, ev_17, ev_18, ev_2, ev_3, ev_4, ev_5, ev_6, ev_7, ev_8, ev_9, ev_20, ev_21, ev_22, ev_23, ev_24, ev_25, ev_27, ev_28, ev_30, ev_31, ev_32, ev_33, ev_34, ev_35, ev_36, ev_37, ev_38, ev_39, ev_40, ev_41, ev_42, ev_43, ev_45, ev_46, ev_47, ev_48, ev_49, ev_50, ev_51, ev_52, ev_54, ev_55, ev_57, ev_58, ev_59, k2_0, k2_1, k2_2, k3a, k3b, k4, o1_s, xbin_0, xbin_1, xbin_2, xbin_3, xbin_4, xbin_5, xbin_6, xbin_7, xbin_8, xbin_9, xbin_11, xbin_12, xun_0, xun_1, xun_2, xun_3, xun_4, xun_5, k6a, k8, k8b, k9, k20, k20b_0, k20b_1, k20b_2, k20b_3, k20b_4, k20b_5, k21_0, k21_1, k21_2, k21_3, k21_4, k21_5, k23, k24, k25, k27, k28, k40, nz_1, nz_2, nz_3, k31_0, k31_1, k31_2, k31_3, k32u, k33, k34, k35, k35b, k36, k37, k38, k47, k49, k49b_0, k49b_1, k49b_2, k49b_3, k50_0, k50_s, k51_0, k51_s, k55, k58, k58b, rk_0, rk_1, rk_2, rk_9, rk_3, rk_4, rk_5, sw_n, sw_c, xtb_n, xtb_c, lset_0, lset_2, lset_1, lkm_0, lkm_2, lkm_9, lkm_1, lkm_n, if_some1, c_10, c_01, c_x0, c_1x, c_n0, c_nn, List.getElem?_cons_zero, List.getElem?_cons_succ, List.set_cons_zero, List.set_cons_succ, List.length_cons, List.length_nil, Int.reduceToNat, Nat.reduceDiv, Nat.reduceMod, Nat.reduceSub, Nat.reduceAdd, Nat.reduceMul, Nat.reduceLT, Nat.reduceLeDiff, Nat.reduceEqDiff, Int.reduceMod, Int.reduceSub, Int.reduceNeg, Int.reduceAdd, Int.reduceMul, Int.reduceLT, Int.reduceLE, Int.reduceEq, put_ss, if_true, if_false, ite_true, ite_false, reduceIte, eq_self, and_true, true_and, and_false, false_and, or_true, true_or, or_false, false_or, not_true_eq_false, not_false_eq_true, k5_57_11, k6_64, k35_64, n_64, k5_57_7, k34_57_7, k54_57_7, k54b_57_7_0, h1, h2]
    · simp (disch := omega) only [c_153, tr_153, ev_0, ev_1, ev_16, ev_17, ev_18, ev_2, ev_3, ev_4, ev_5, ev_6, ev_7, ev_8, ev_9, ev_20, ev_21, ev_22, ev_23, ev_24, ev_25, ev_27, ev_28, ev_30, ev_31, ev_32, ev_33, ev_34, ev_35, ev_36, ev_37, ev_38, ev_39, ev_40, ev_41, ev_42, ev_43, ev_45, ev_46, ev_47, ev_48, ev_49, ev_50, ev_51, ev_52, ev_54, ev_55, ev_57, ev_58, ev_59, k2_0, k2_1, k2_2, k3a, k3b, k4, o1_s, xbin_0, xbin_1, xbin_2, xbin_3, xbin_4, xbin_5, xbin_6, xbin_7, xbin_8, xbin_9, xbin_11, xbin_12, xun_0, xun_1, xun_2, xun_3, xun_4, xun_5, k6a, k8, k8b, k9, k20, k20b_0, k20b_1, k20b_2, k20b_3, k20b_4, k20b_5, k21_0, k21_1, k21_2, k21_3, k21_4, k21_5, k23, k24, k25, k27, k28, k40, nz_1, nz_2, nz_3, k31_0, k31_1, k31_2, k31_3, k32u, k33, k34, k35, k35b, k36, k37, k38, k47, k49, k49b_0, k49b_1, k49b_2, k49b_3, k50_0, k50_s, k51_0, k51_s, k55, k58, k58b, rk_0, rk_1, rk_2, rk_9, rk_3, rk_4, rk_5, sw_n, sw_c, xtb_n, xtb_c, lset_0, lset_2, lset_1, lkm_0, lkm_2, lkm_9, lkm_1, lkm_n, if_some1, c_10, c_01, c_x0, c_1x, c_n0, c_nn, List.getElem?_cons_zero, List.getElem?_cons_succ, List.set_cons_zero, List.set_cons_succ, List.length_cons, List.length_nil, Int.reduceToNat, Nat.reduceDiv, Nat.reduceMod, Nat.reduceSub, Nat.reduceAdd, Nat.reduceMul, Nat.reduceLT, Nat.reduceLeDiff, Nat.reduceEqDiff, Int.reduceMod, Int.reduceSub, Int.reduceNeg, Int.reduceAdd, Int.reduceMul, Int.reduceLT, Int.reduceLE, Int.reduceEq, put_ss, if_true, if_false, ite_true, ite_false, reduceIte, eq_self, and_true, true_and, and_false, false_and, or_true, true_or, or_false, false_or, not_true_eq_false, not_false_eq_true, k5_57_11, k6_64, k35_64, n_64, k5_57_7, k34_57_7, k54_57_7, k54b_57_7_0, h1, h2]
/-- main's number, as the class finds it -/
def mnC (M : Mem) : Int := if kI (idM M 660205) (idv M 660205) = 4 ∧ prm (idM M 660205) (nmI (idM M 660205) (idv M 660205)) = 0 then nmI (idM M 660205) (idv M 660205) else -1
theorem C_156 (hF : 100000 ≤ F) (h0 : 0 ≤ M 57 4) (h4 : M 57 4 < 1510) (h7 : M 57 7 ≤ 300) : Cx F (d + 7) 156 [57] (Hp L xs M) = some ([mnC M], Hp L xs (idM M 660205)) := by
  have c1 := S_145_44 (F := F) (L := L) (xs := xs) (d := d) (m := M) hF
  have c2 := C_148 (F := F) (L := L) (xs := xs) (d := d + 5) (m := M) (c := 660205) hF h0 h4
  have h4' : idM M 660205 57 4 ≤ 1510 := by
    rcases idM_4 (m := M) 660205 with z | z <;> omega
  have h7' : idM M 660205 57 7 ≤ 300 := by
    rw [KC_idM (m := M) 660205 57 7 (by omega)]
    exact h7
  unfold mnC
  generalize idM M 660205 = M' at *
  generalize idv M 660205 = id at *
  have c3 := C_149 (F := F) (L := L) (xs := xs) (d := d + 5) (a1 := id) h4'
  have c4 := C_150 (F := F) (L := L) (xs := xs) (d := d + 5) (a1 := id) h4'
  have c5 := C_153 (F := F) (L := L) (xs := xs) (d := d + 5) (a1 := nmI M' id) h7'
  by_cases g1 : kI M' id = 4
  · by_cases g2 : prm M' (nmI M' id) = 0
    · rw [if_pos ⟨g1, g2⟩]
      simp (disch := omega) only [c_156, tr_156, ev_0, ev_1, ev_16, ev_17, ev_18, ev_2, ev_3, ev_4, ev_5, ev_6, ev_7, ev_8, ev_9, ev_20, ev_21, ev_22, ev_23, ev_24, ev_25, ev_27, ev_28, ev_30, ev_31, ev_32, ev_33, ev_34, ev_35, ev_36, ev_37, ev_38, ev_39, ev_40, ev_41, ev_42, ev_43, ev_45, ev_46, ev_47, ev_48, ev_49, ev_50, ev_51, ev_52, ev_54, ev_55, ev_57, ev_58, ev_59, k2_0, k2_1, k2_2, k3a, k3b, k4, o1_s, xbin_0, xbin_1, xbin_2, xbin_3, xbin_4, xbin_5, xbin_6, xbin_7, xbin_8, xbin_9, xbin_11, xbin_12, xun_0, xun_1, xun_2, xun_3, xun_4, xun_5, k6a, k8, k8b, k9, k20, k20b_0, k20b_1, k20b_2, k20b_3, k20b_4, k20b_5, k21_0, k21_1, k21_2, k21_3, k21_4, k21_5, k23, k24, k25, k27, k28, k40, nz_1, nz_2, nz_3, k31_0, k31_1, k31_2, k31_3, k32u, k33, k34, k35, k35b, k36, k37, k38, k47, k49, k49b_0, k49b_1, k49b_2, k49b_3, k50_0, k50_s, k51_0, k51_s, k55, k58, k58b, rk_0, rk_1, rk_2, rk_9, rk_3, rk_4, rk_5, sw_n, sw_c, xtb_n, xtb_c, lset_0, lset_2, lset_1, lkm_0, lkm_2, lkm_9, lkm_1, lkm_n, if_some1, c_10, c_01, c_x0, c_1x, c_n0, c_nn, List.getElem?_cons_zero, List.getElem?_cons_succ, List.set_cons_zero, List.set_cons_succ, List.length_cons, List.length_nil, Int.reduceToNat, Nat.reduceDiv, Nat.reduceMod, Nat.reduceSub, Nat.reduceAdd, Nat.reduceMul, Nat.reduceLT, Nat.reduceLeDiff, Nat.reduceEqDiff, Int.reduceMod, Int.reduceSub, Int.reduceNeg, Int.reduceAdd, Int.reduceMul, Int.reduceLT, Int.reduceLE, Int.reduceEq, put_ss, if_true, if_false, ite_true, ite_false, reduceIte, eq_self, and_true, true_and, and_false, false_and, or_true, true_or, or_false, false_or, not_true_eq_false, not_false_eq_true, c1, c2, c3, c4, c5, g1, g2]
    · rw [if_neg (fun z => g2 z.2)]
      simp (disch := omega) only [c_156, tr_156, ev_0, ev_1, ev_16, ev_17, ev_18, ev_2, ev_3, ev_4, ev_5, ev_6, ev_7, ev_8, ev_9, ev_20, ev_21, ev_22, ev_23, ev_24, ev_25, ev_27, ev_28, ev_30, ev_31, ev_32, ev_33, ev_34, ev_35, ev_36, ev_37, ev_38, ev_39, ev_40, ev_41, ev_42, ev_43, ev_45, ev_46, ev_47, ev_48, ev_49, ev_50, ev_51, ev_52, ev_54, ev_55, ev_57, ev_58, ev_59, k2_0, k2_1, k2_2, k3a, k3b, k4, o1_s, xbin_0, xbin_1, xbin_2, xbin_3, xbin_4, xbin_5, xbin_6, xbin_7, xbin_8, xbin_9, xbin_11, xbin_12, xun_0, xun_1, xun_2, xun_3, xun_4, xun_5, k6a, k8, k8b, k9, k20, k20b_0, k20b_1, k20b_2, k20b_3, k20b_4, k20b_5, k21_0, k21_1, k21_2, k21_3, k21_4, k21_5, k23, k24, k25, k27, k28, k40, nz_1, nz_2, nz_3, k31_0, k31_1, k31_2, k31_3, k32u, k33, k34, k35, k35b, k36, k37, k38, k47, k49, k49b_0, k49b_1, k49b_2, k49b_3, k50_0, k50_s, k51_0, k51_s, k55, k58, k58b, rk_0, rk_1, rk_2, rk_9, rk_3, rk_4, rk_5, sw_n, sw_c, xtb_n, xtb_c, lset_0, lset_2, lset_1, lkm_0, lkm_2, lkm_9, lkm_1, lkm_n, if_some1, c_10, c_01, c_x0, c_1x, c_n0, c_nn, List.getElem?_cons_zero, List.getElem?_cons_succ, List.set_cons_zero, List.set_cons_succ, List.length_cons, List.length_nil, Int.reduceToNat, Nat.reduceDiv, Nat.reduceMod, Nat.reduceSub, Nat.reduceAdd, Nat.reduceMul, Nat.reduceLT, Nat.reduceLeDiff, Nat.reduceEqDiff, Int.reduceMod, Int.reduceSub, Int.reduceNeg, Int.reduceAdd, Int.reduceMul, Int.reduceLT, Int.reduceLE, Int.reduceEq, put_ss, if_true, if_false, ite_true, ite_false, reduceIte, eq_self, and_true, true_and, and_false, false_and, or_true, true_or, or_false, false_or, not_true_eq_false, not_false_eq_true, c1, c2, c3, c4, c5, g1, g2]
  · rw [if_neg (fun z => g1 z.1)]
    simp (disch := omega) only [c_156, tr_156, ev_0, ev_1, ev_16, ev_17, ev_18, ev_2, ev_3, ev_4, ev_5, ev_6, ev_7, ev_8, ev_9, ev_20, ev_21, ev_22, ev_23, ev_24, ev_25, ev_27, ev_28, ev_30, ev_31, ev_32, ev_33, ev_34, ev_35, ev_36, ev_37, ev_38, ev_39, ev_40, ev_41, ev_42, ev_43, ev_45, ev_46, ev_47, ev_48, ev_49, ev_50, ev_51, ev_52, ev_54, ev_55, ev_57, ev_58, ev_59, k2_0, k2_1, k2_2, k3a, k3b, k4, o1_s, xbin_0, xbin_1, xbin_2, xbin_3, xbin_4, xbin_5, xbin_6, xbin_7, xbin_8, xbin_9, xbin_11, xbin_12, xun_0, xun_1, xun_2, xun_3, xun_4, xun_5, k6a, k8, k8b, k9, k20, k20b_0, k20b_1, k20b_2, k20b_3, k20b_4, k20b_5, k21_0, k21_1, k21_2, k21_3, k21_4, k21_5, k23, k24, k25, k27, k28, k40, nz_1, nz_2, nz_3, k31_0, k31_1, k31_2, k31_3, k32u, k33, k34, k35, k35b, k36, k37, k38, k47, k49, k49b_0, k49b_1, k49b_2, k49b_3, k50_0, k50_s, k51_0, k51_s, k55, k58, k58b, rk_0, rk_1, rk_2, rk_9, rk_3, rk_4, rk_5, sw_n, sw_c, xtb_n, xtb_c, lset_0, lset_2, lset_1, lkm_0, lkm_2, lkm_9, lkm_1, lkm_n, if_some1, c_10, c_01, c_x0, c_1x, c_n0, c_nn, List.getElem?_cons_zero, List.getElem?_cons_succ, List.set_cons_zero, List.set_cons_succ, List.length_cons, List.length_nil, Int.reduceToNat, Nat.reduceDiv, Nat.reduceMod, Nat.reduceSub, Nat.reduceAdd, Nat.reduceMul, Nat.reduceLT, Nat.reduceLeDiff, Nat.reduceEqDiff, Int.reduceMod, Int.reduceSub, Int.reduceNeg, Int.reduceAdd, Int.reduceMul, Int.reduceLT, Int.reduceLE, Int.reduceEq, put_ss, if_true, if_false, ite_true, ite_false, reduceIte, eq_self, and_true, true_and, and_false, false_and, or_true, true_or, or_false, false_or, not_true_eq_false, not_false_eq_true, c1, c2, c3, c4, c5, g1]
/-- it is what the names tell -/
theorem mnC_eq (T : TCs M s) (h0 : 0 ≤ M 57 4) (hI : ∀ y ∈ cds s, ∃ id : Nat, (id : Int) < M 57 4 ∧ M 58 id = y) (hp : (look s.1 660205).1 = 4 → 0 ≤ (look s.1 660205).2 ∧ (look s.1 660205).2 < s.2.2.2.1) : mnC M = if (look s.1 660205).1 = 4 ∧ s.2.2.2.2.2.getD (look s.1 660205).2.toNat 0 = 0 then (look s.1 660205).2 else -1 := by
  obtain ⟨t1, t2, t3, t4, t5, t6, t7, t8⟩ := T
  have q57 : idM M 660205 57 7 = M 57 7 := KC_idM (m := M) 660205 57 7 (by omega)
  have q64 : ∀ j, idM M 660205 64 j = M 64 j := fun j => KC_idM (m := M) 660205 64 j (by omega)
  have kn : kI (idM M 660205) (idv M 660205) = (look s.1 660205).1 ∧ ((look s.1 660205).1 = 4 → nmI (idM M 660205) (idv M 660205) = (look s.1 660205).2) := by
    unfold kI nmI
    unfold idv idM
    by_cases hf : fst1 (M 58) 660205 0 (M 57 4).toNat = -1
    · have hno := fst1_no2 hf
      have hl : (look s.1 660205).1 = 0 := (look_0 t1.1).mpr (fun z => by
        obtain ⟨id, i1, i2⟩ := hI _ z
        exact hno id (by omega) i2)
      rw [if_pos hf, if_pos hf]
      refine ⟨?_, fun z => by omega⟩
      rw [if_neg (by
        show ¬ (M 57 4 < 0 ∨ M 57 4 + 1 ≤ M 57 4)
        omega), hl]
      simp only [put_ss, Nat.reduceEqDiff, if_true, if_false]
    · rw [if_neg hf, if_neg hf]
      rcases fst1_b (f := M 58) (c := 660205) (M 57 4).toNat 0 with z | ⟨z1, z2, z3⟩
      · exact absurd z hf
      · have e := t1.2 (fst1 (M 58) 660205 0 (M 57 4).toNat) z1 (by omega)
        rw [z3] at e
        rw [if_neg (by omega), if_neg (by omega), ← e]
        exact ⟨rfl, fun _ => rfl⟩
  unfold mnC
  rw [kn.1]
  by_cases h4 : (look s.1 660205).1 = 4
  · obtain ⟨p0, p1⟩ := hp h4
    rw [kn.2 h4]
    have ep : prm (idM M 660205) (look s.1 660205).2 = s.2.2.2.2.2.getD (look s.1 660205).2.toNat 0 := by
      unfold prm
      rw [q57, if_neg (by omega), q64]
      exact t8 _ (by omega)
    rw [ep]
  · rw [if_neg (fun z => h4 z.1), if_neg (fun z => h4 z.1)]
def bkG (m : Mem) (k l : Int) : Mem := put (put (put m 158 15 1) 158 9 k) 158 10 l
theorem M_207g (hb : m 158 15 = 0) : Cx F (d + 1) 207 [158, k, l] (Hp L xs m) = some ([], Hp L xs (bkG m k l)) := by
  unfold bkG
  simp (disch := first | omega | assumption) only [c_207, tr_207, ev_0, ev_1, ev_16, ev_17, ev_18, ev_2, ev_3, ev_4, ev_5, ev_6, ev_7, ev_8, ev_9, ev_20, ev_21, ev_22, ev_23, ev_24, ev_25, ev_27, ev_28, ev_30, ev_31, ev_32, ev_33, ev_34, ev_35, ev_36, ev_37, ev_38, ev_39, ev_40, ev_41, ev_42, ev_43, ev_45, ev_46, ev_47, ev_48, ev_49, ev_50, ev_51, ev_52, ev_54, ev_55, ev_57, ev_58, ev_59, k2_0, k2_1, k2_2, k3a, k3b, k4, o1_s, xbin_0, xbin_1, xbin_2, xbin_3, xbin_4, xbin_5, xbin_6, xbin_7, xbin_8, xbin_9, xbin_11, xbin_12, xun_0, xun_1, xun_2, xun_3, xun_4, xun_5, k6a, k8, k8b, k9, k20, k20b_0, k20b_1, k20b_2, k20b_3, k20b_4, k20b_5, k21_0, k21_1, k21_2, k21_3, k21_4, k21_5, k23, k24, k25, k27, k28, k40, nz_1, nz_2, nz_3, k31_0, k31_1, k31_2, k31_3, k32u, k33, k34, k35, k35b, k36, k37, k38, k47, k49, k49b_0, k49b_1, k49b_2, k49b_3, k50_0, k50_s, k51_0, k51_s, k55, k58, k58b, rk_0, rk_1, rk_2, rk_9, rk_3, rk_4, rk_5, sw_n, sw_c, xtb_n, xtb_c, lset_0, lset_2, lset_1, lkm_0, lkm_2, lkm_9, lkm_1, lkm_n, if_some1, c_10, c_01, c_x0, c_1x, c_n0, c_nn, List.getElem?_cons_zero, List.getElem?_cons_succ, List.set_cons_zero, List.set_cons_succ, List.length_cons, List.length_nil, Int.reduceToNat, Nat.reduceDiv, Nat.reduceMod, Nat.reduceSub, Nat.reduceAdd, Nat.reduceMul, Nat.reduceLT, Nat.reduceLeDiff, Nat.reduceEqDiff, Int.reduceMod, Int.reduceSub, Int.reduceNeg, Int.reduceAdd, Int.reduceMul, Int.reduceLT, Int.reduceLE, Int.reduceEq, put_ss, if_true, if_false, ite_true, ite_false, reduceIte, eq_self, and_true, true_and, and_false, false_and, or_true, true_or, or_false, false_or, not_true_eq_false, not_false_eq_true, k5_158_15, k34_158_15, k34i_158_15, k5_158_9, k34_158_9, k5_158_10, k34_158_10, put_ss, hb]
end Mn
