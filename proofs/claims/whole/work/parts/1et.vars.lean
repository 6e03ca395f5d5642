/-! THE MODEL: places of vars, flags cleared -/
def vsm (m : Mem) : Nat → Int
  | 0 => 0
  | k + 1 => vsm m k + m 168 k
def vvw (G : Int) (V : Nat → Int) (m : Mem) : Mem := fun a k => if a = 158 then (if k = 75 then G else m a k) else if a = 169 then V k else m a k
def vfn (m : Mem) (V0 : Nat → Int) (k : Nat) : Nat → Int := fun q => if q < k then m 158 74 + vsm m q else V0 q
section Vrs
variable {F L d : Nat} {xs : Nat → Int32} {m : Mem} {main more G w : Int} {V V0 : Nat → Int} {z : Nat × Int}
theorem vv_p {k : Nat} : put (vvw G V m) 169 k w = vvw G (vput V k w) m := by
  funext a q
  rw [put_ss]
  unfold vvw vput
  by_cases h : a = 169
  · have h2 : ¬ a = 158 := by omega
    rw [if_pos h, if_neg h2, if_neg h2, if_pos h, if_pos h]
  · rw [if_neg h]
    by_cases h2 : a = 158
    · rw [if_pos h2, if_pos h2]
    · rw [if_neg h2, if_neg h2, if_neg h, if_neg h]
theorem vv_g : put (vvw G V m) 158 75 w = vvw w V m := by
  funext a q
  rw [put_ss]
  unfold vvw
  by_cases h : a = 158
  · rw [if_pos h, if_pos h, if_pos h]
    by_cases h2 : q = 75
    · rw [if_pos h2, if_pos h2]
    · rw [if_neg h2, if_neg h2, if_neg h2]
  · rw [if_neg h, if_neg h, if_neg h]
theorem L_289_3 {n : Nat} (hn : m 158 21 = (n : Int)) (hn2 : n ≤ 1600) (hS : 0 ≤ m 158 74 ∧ m 158 74 ≤ 1000000) (hb : ∀ k, k ≤ n → 0 ≤ vsm m k ∧ vsm m k ≤ 1000000) : ∀ (j k N : Nat), k + j = n → j < N → LF F (d + 3) la_289_3 lb_289_3 lc_289_3 N ([(2, 158), (0, main), (0, more), (0, (k : Int)), z], Hp L xs (vvw (vsm m k) (vfn m V0 k) m)) = some (0, [], ([(2, 158), (0, main), (0, more), (0, (n : Int)), z], Hp L xs (vvw (vsm m n) (vfn m V0 n) m))) := by
  intro j
  induction j with
  | zero =>
    intro k N h hN
    obtain ⟨N, rfl⟩ : ∃ n', N = n' + 1 := ⟨N - 1, by omega⟩
    have e : k = n := by omega
    subst e
    have e21 : vvw (vsm m k) (vfn m V0 k) m 158 21 = (k : Int) := hn
    rw [lf_s]
    simp (disch := omega) only [ea_289_3, eb_289_3, ec_289_3, l1_i, l1_1, l1_0, l2_0, l2_1, l2_2, l2_3, l3_0, w2_0, w2_1, w2_2, w2_3, d1_0, d1_1, d1_2, d1_3, d2_i, d2_1, d2_0, ev_0, ev_1, ev_16, ev_17, ev_18, ev_2, ev_3, ev_4, ev_5, ev_6, ev_7, ev_8, ev_9, ev_20, ev_21, ev_22, ev_23, ev_24, ev_25, ev_27, ev_28, ev_30, ev_31, ev_32, ev_33, ev_34, ev_35, ev_36, ev_37, ev_38, ev_39, ev_40, ev_41, ev_42, ev_43, ev_45, ev_46, ev_47, ev_48, ev_49, ev_50, ev_51, ev_52, ev_54, ev_55, ev_57, ev_58, ev_59, k2_0, k2_1, k2_2, k3a, k3b, k4, o1_s, xbin_0, xbin_1, xbin_2, xbin_3, xbin_4, xbin_5, xbin_6, xbin_7, xbin_8, xbin_9, xbin_11, xbin_12, xun_0, xun_1, xun_2, xun_3, xun_4, xun_5, k6a, k8, k8b, k9, k20, k20b_0, k20b_1, k20b_2, k20b_3, k20b_4, k20b_5, k21_0, k21_1, k21_2, k21_3, k21_4, k21_5, k23, k24, k25, k27, k28, k40, nz_1, nz_2, nz_3, k31_0, k31_1, k31_2, k31_3, k32u, k33, k34, k35, k35b, k36, k37, k38, k47, k49, k49b_0, k49b_1, k49b_2, k49b_3, k50_0, k50_s, k51_0, k51_s, k55, k58, k58b, rk_0, rk_1, rk_2, rk_9, rk_3, rk_4, rk_5, sw_n, sw_c, xtb_n, xtb_c, lset_0, lset_2, lset_1, lkm_0, lkm_2, lkm_9, lkm_1, lkm_n, if_some1, c_10, c_01, c_x0, c_1x, c_n0, c_nn, List.getElem?_cons_zero, List.getElem?_cons_succ, List.set_cons_zero, List.set_cons_succ, List.length_cons, List.length_nil, Int.reduceToNat, Nat.reduceDiv, Nat.reduceMod, Nat.reduceSub, Nat.reduceAdd, Nat.reduceMul, Nat.reduceLT, Nat.reduceLeDiff, Nat.reduceEqDiff, Int.reduceMod, Int.reduceSub, Int.reduceNeg, Int.reduceAdd, Int.reduceMul, Int.reduceLT, Int.reduceLE, Int.reduceEq, put_ss, if_true, if_false, ite_true, ite_false, reduceIte, eq_self, and_true, true_and, and_false, false_and, or_true, true_or, or_false, false_or, not_true_eq_false, not_false_eq_true, k5_158_21, k34_158_21, k54_158_21, k54b_158_21_0, e21, Int.lt_irrefl]
    try rfl
  | succ j ih =>
    intro k N h hN
    obtain ⟨N, rfl⟩ : ∃ n', N = n' + 1 := ⟨N - 1, by omega⟩
    have c1 := ih (k + 1) N (by omega) (by omega)
    have hlt : (k : Int) < (n : Int) := by omega
    have k0 : (k : Int).toNat = k := Int.toNat_natCast k
    obtain ⟨q1, q2⟩ := hb k (by omega)
    obtain ⟨q3, q4⟩ := hb (k + 1) (by omega)
    have es : vsm m (k + 1) = vsm m k + m 168 k := rfl
    have e21 : vvw (vsm m k) (vfn m V0 k) m 158 21 = (n : Int) := hn
    have e74 : ∀ V, vvw (vsm m k) V m 158 74 = m 158 74 := fun V => rfl
    have e75 : ∀ V, vvw (vsm m k) V m 158 75 = vsm m k := fun V => rfl
    have e168 : ∀ V q, vvw (vsm m k) V m 168 q = m 168 q := fun V q => rfl
    have e1 : put (vvw (vsm m k) (vfn m V0 k) m) 169 k (m 158 74 + vsm m k) = vvw (vsm m k) (vfn m V0 (k + 1)) m := by
      rw [vv_p]
      have e : vput (vfn m V0 k) k (m 158 74 + vsm m k) = vfn m V0 (k + 1) := by
        funext q
        unfold vput vfn
        by_cases h : q = k
        · subst h
          rw [if_pos rfl, if_pos (by omega)]
        · rw [if_neg h]
          by_cases h2 : q < k
          · rw [if_pos h2, if_pos (by omega)]
          · rw [if_neg h2, if_neg (by omega)]
      rw [e]
    have e2 : put (vvw (vsm m k) (vfn m V0 (k + 1)) m) 158 75 (vsm m k + m 168 k) = vvw (vsm m (k + 1)) (vfn m V0 (k + 1)) m := vv_g
    have ecast : ((k + 1 : Nat) : Int) = (k : Int) + 1 := by omega
    rw [ecast] at c1
    rw [lf_s]
    simp (disch := omega) only [ea_289_3, eb_289_3, ec_289_3, l1_i, l1_1, l1_0, l2_0, l2_1, l2_2, l2_3, l3_0, w2_0, w2_1, w2_2, w2_3, d1_0, d1_1, d1_2, d1_3, d2_i, d2_1, d2_0, ev_0, ev_1, ev_16, ev_17, ev_18, ev_2, ev_3, ev_4, ev_5, ev_6, ev_7, ev_8, ev_9, ev_20, ev_21, ev_22, ev_23, ev_24, ev_25, ev_27, ev_28, ev_30, ev_31, ev_32, ev_33, ev_34, ev_35, ev_36, ev_37, ev_38, ev_39, ev_40, ev_41, ev_42, ev_43, ev_45, ev_46, ev_47, ev_48, ev_49, ev_50, ev_51, ev_52, ev_54, ev_55, ev_57, ev_58, ev_59, k2_0, k2_1, k2_2, k3a, k3b, k4, o1_s, xbin_0, xbin_1, xbin_2, xbin_3, xbin_4, xbin_5, xbin_6, xbin_7, xbin_8, xbin_9, xbin_11, xbin_12, xun_0, xun_1, xun_2, xun_3, xun_4, xun_5, k6a, k8, k8b, k9, k20, k20b_0, k20b_1, k20b_2, k20b_3, k20b_4, k20b_5, k21_0, k21_1, k21_2, k21_3, k21_4, k21_5, k23, k24, k25, k27, k28, k40, nz_1, nz_2, nz_3, k31_0, k31_1, k31_2, k31_3, k32u, k33, k34, k35, k35b, k36, k37, k38, k47, k49, k49b_0, k49b_1, k49b_2, k49b_3, k50_0, k50_s, k51_0, k51_s, k55, k58, k58b, rk_0, rk_1, rk_2, rk_9, rk_3, rk_4, rk_5, sw_n, sw_c, xtb_n, xtb_c, lset_0, lset_2, lset_1, lkm_0, lkm_2, lkm_9, lkm_1, lkm_n, if_some1, c_10, c_01, c_x0, c_1x, c_n0, c_nn, List.getElem?_cons_zero, List.getElem?_cons_succ, List.set_cons_zero, List.set_cons_succ, List.length_cons, List.length_nil, Int.reduceToNat, Nat.reduceDiv, Nat.reduceMod, Nat.reduceSub, Nat.reduceAdd, Nat.reduceMul, Nat.reduceLT, Nat.reduceLeDiff, Nat.reduceEqDiff, Int.reduceMod, Int.reduceSub, Int.reduceNeg, Int.reduceAdd, Int.reduceMul, Int.reduceLT, Int.reduceLE, Int.reduceEq, put_ss, if_true, if_false, ite_true, ite_false, reduceIte, eq_self, and_true, true_and, and_false, false_and, or_true, true_or, or_false, false_or, not_true_eq_false, not_false_eq_true, k5_158_21, k34_158_21, k54_158_21, k54b_158_21_0, k5_158_23, k6_169, k35_169, n_169, k5_158_22, k6_168, k35_168, n_168, k5_158_74, k34_158_74, k54_158_74, k54b_158_74_0, k5_158_75, k34_158_75, k54_158_75, k54b_158_75_0, e21, e74, e75, e168, hlt, k0, w32_of, e1, e2, c1]
    try rfl
def fz (E : Nat → Int) (k : Nat) : Nat → Int := fun q => if q < k then 0 else E q
theorem L_289_0 {E : Nat → Int} {y1 y2 : Nat × Int} : ∀ (j k N : Nat), k + j = 36000 → j < N → LF F (d + 3) la_289_0 lb_289_0 lc_289_0 N ([(2, 158), (0, main), (0, (k : Int)), y1, y2], Hp L xs (fv (fz E k) m)) = some (0, [], ([(2, 158), (0, main), (0, 36000), y1, y2], Hp L xs (fv (fz E 36000) m))) := by
  intro j
  induction j with
  | zero =>
    intro k N h hN
    obtain ⟨N, rfl⟩ : ∃ n', N = n' + 1 := ⟨N - 1, by omega⟩
    have e : k = 36000 := by omega
    subst e
    have ec : ((36000 : Nat) : Int) = 36000 := rfl
    rw [ec, lf_s]
    simp (disch := omega) only [ea_289_0, eb_289_0, ec_289_0, l1_i, l1_1, l1_0, l2_0, l2_1, l2_2, l2_3, l3_0, w2_0, w2_1, w2_2, w2_3, d1_0, d1_1, d1_2, d1_3, d2_i, d2_1, d2_0, ev_0, ev_1, ev_16, ev_17, ev_18, ev_2, ev_3, ev_4, ev_5, ev_6, ev_7, ev_8, ev_9, ev_20, ev_21, ev_22, ev_23, ev_24, ev_25, ev_27, ev_28, ev_30, ev_31, ev_32, ev_33, ev_34, ev_35, ev_36, ev_37, ev_38, ev_39, ev_40, ev_41, ev_42, ev_43, ev_45, ev_46, ev_47, ev_48, ev_49, ev_50, ev_51, ev_52, ev_54, ev_55, ev_57, ev_58, ev_59, k2_0, k2_1, k2_2, k3a, k3b, k4, o1_s, xbin_0, xbin_1, xbin_2, xbin_3, xbin_4, xbin_5, xbin_6, xbin_7, xbin_8, xbin_9, xbin_11, xbin_12, xun_0, xun_1, xun_2, xun_3, xun_4, xun_5, k6a, k8, k8b, k9, k20, k20b_0, k20b_1, k20b_2, k20b_3, k20b_4, k20b_5, k21_0, k21_1, k21_2, k21_3, k21_4, k21_5, k23, k24, k25, k27, k28, k40, nz_1, nz_2, nz_3, k31_0, k31_1, k31_2, k31_3, k32u, k33, k34, k35, k35b, k36, k37, k38, k47, k49, k49b_0, k49b_1, k49b_2, k49b_3, k50_0, k50_s, k51_0, k51_s, k55, k58, k58b, rk_0, rk_1, rk_2, rk_9, rk_3, rk_4, rk_5, sw_n, sw_c, xtb_n, xtb_c, lset_0, lset_2, lset_1, lkm_0, lkm_2, lkm_9, lkm_1, lkm_n, if_some1, c_10, c_01, c_x0, c_1x, c_n0, c_nn, List.getElem?_cons_zero, List.getElem?_cons_succ, List.set_cons_zero, List.set_cons_succ, List.length_cons, List.length_nil, Int.reduceToNat, Nat.reduceDiv, Nat.reduceMod, Nat.reduceSub, Nat.reduceAdd, Nat.reduceMul, Nat.reduceLT, Nat.reduceLeDiff, Nat.reduceEqDiff, Int.reduceMod, Int.reduceSub, Int.reduceNeg, Int.reduceAdd, Int.reduceMul, Int.reduceLT, Int.reduceLE, Int.reduceEq, put_ss, if_true, if_false, ite_true, ite_false, reduceIte, eq_self, and_true, true_and, and_false, false_and, or_true, true_or, or_false, false_or, not_true_eq_false, not_false_eq_true, k5_158_79, k6_198, k35_198, n_198, Int.lt_irrefl]
    try rfl
  | succ j ih =>
    intro k N h hN
    obtain ⟨N, rfl⟩ : ∃ n', N = n' + 1 := ⟨N - 1, by omega⟩
    have c1 := ih (k + 1) N (by omega) (by omega)
    have hlt : (k : Int) < 36000 := by omega
    have k0 : (k : Int).toNat = k := Int.toNat_natCast k
    have e1 : put (fv (fz E k) m) 198 k 0 = fv (fz E (k + 1)) m := by
      rw [fv_p]
      have e : vput (fz E k) k 0 = fz E (k + 1) := by
        funext q
        unfold vput fz
        by_cases h : q = k
        · subst h
          rw [if_pos rfl, if_pos (by omega)]
        · rw [if_neg h]
          by_cases h2 : q < k
          · rw [if_pos h2, if_pos (by omega)]
          · rw [if_neg h2, if_neg (by omega)]
      rw [e]
    have ecast : ((k + 1 : Nat) : Int) = (k : Int) + 1 := by omega
    rw [ecast] at c1
    rw [lf_s]
    simp (disch := omega) only [ea_289_0, eb_289_0, ec_289_0, l1_i, l1_1, l1_0, l2_0, l2_1, l2_2, l2_3, l3_0, w2_0, w2_1, w2_2, w2_3, d1_0, d1_1, d1_2, d1_3, d2_i, d2_1, d2_0, ev_0, ev_1, ev_16, ev_17, ev_18, ev_2, ev_3, ev_4, ev_5, ev_6, ev_7, ev_8, ev_9, ev_20, ev_21, ev_22, ev_23, ev_24, ev_25, ev_27, ev_28, ev_30, ev_31, ev_32, ev_33, ev_34, ev_35, ev_36, ev_37, ev_38, ev_39, ev_40, ev_41, ev_42, ev_43, ev_45, ev_46, ev_47, ev_48, ev_49, ev_50, ev_51, ev_52, ev_54, ev_55, ev_57, ev_58, ev_59, k2_0, k2_1, k2_2, k3a, k3b, k4, o1_s, xbin_0, xbin_1, xbin_2, xbin_3, xbin_4, xbin_5, xbin_6, xbin_7, xbin_8, xbin_9, xbin_11, xbin_12, xun_0, xun_1, xun_2, xun_3, xun_4, xun_5, k6a, k8, k8b, k9, k20, k20b_0, k20b_1, k20b_2, k20b_3, k20b_4, k20b_5, k21_0, k21_1, k21_2, k21_3, k21_4, k21_5, k23, k24, k25, k27, k28, k40, nz_1, nz_2, nz_3, k31_0, k31_1, k31_2, k31_3, k32u, k33, k34, k35, k35b, k36, k37, k38, k47, k49, k49b_0, k49b_1, k49b_2, k49b_3, k50_0, k50_s, k51_0, k51_s, k55, k58, k58b, rk_0, rk_1, rk_2, rk_9, rk_3, rk_4, rk_5, sw_n, sw_c, xtb_n, xtb_c, lset_0, lset_2, lset_1, lkm_0, lkm_2, lkm_9, lkm_1, lkm_n, if_some1, c_10, c_01, c_x0, c_1x, c_n0, c_nn, List.getElem?_cons_zero, List.getElem?_cons_succ, List.set_cons_zero, List.set_cons_succ, List.length_cons, List.length_nil, Int.reduceToNat, Nat.reduceDiv, Nat.reduceMod, Nat.reduceSub, Nat.reduceAdd, Nat.reduceMul, Nat.reduceLT, Nat.reduceLeDiff, Nat.reduceEqDiff, Int.reduceMod, Int.reduceSub, Int.reduceNeg, Int.reduceAdd, Int.reduceMul, Int.reduceLT, Int.reduceLE, Int.reduceEq, put_ss, if_true, if_false, ite_true, ite_false, reduceIte, eq_self, and_true, true_and, and_false, false_and, or_true, true_or, or_false, false_or, not_true_eq_false, not_false_eq_true, k5_158_79, k6_198, k35_198, n_198, hlt, k0, w32_of, e1, c1]
    try rfl
end Vrs
