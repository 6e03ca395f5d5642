/-! THE MODEL'S LOOPS: notes, flags, places of vars -/
def ntv (m : Mem) (t : Int) : Int := if 0 ≤ t then m 180 t.toNat else if t = -1 then m 158 74 + m 158 75 else m 169 (-10 - t).toNat
section Lps
variable {F L d : Nat} {xs : Nat → Int32} {m : Mem} {C : Nat → Int} {A v main more : Int}
theorem L_289_5 (hP : ∀ k : Nat, 0 ≤ m 180 k ∧ m 180 k ≤ 1000000) (hV : ∀ k : Nat, -1000000 ≤ m 169 k ∧ m 169 k ≤ 1000000) (hS : 0 ≤ m 158 74 ∧ m 158 74 ≤ 1000000) (hGl : -1000000 ≤ m 158 75 ∧ m 158 75 ≤ 1000000) : ∀ (l : List It) (A : Int) (k : Nat) (C : Nat → Int) (N : Nat) (z : Nat × Int), NoOk (m 199) (m 200) l A (k : Int) → (∀ i, i ∈ l → i.2.1 = 4 → (0 ≤ i.2.2 ∧ i.2.2 < 12000) ∨ i.2.2 = -1 ∨ (0 ≤ -10 - i.2.2 ∧ -10 - i.2.2 < 1600)) → 0 ≤ A → A + l.length < 69990 → m 158 80 = ((k + nno l : Nat) : Int) → k + nno l < 30000 → nno l < N → ∃ z2 : Nat × Int, LF F (d + 3) la_289_5 lb_289_5 lc_289_5 N ([(2, 158), (0, main), (0, more), (0, (k : Int)), z], Hp L xs (cv C m)) = some (0, [], ([(2, 158), (0, main), (0, more), (0, m 158 80), z2], Hp L xs (cv (patN (ntv m) l A C) m)))
  | [], A, k, C, N, z => fun _ _ _ _ h _ hN => by
    refine ⟨z, ?_⟩
    obtain ⟨N, rfl⟩ : ∃ n', N = n' + 1 := ⟨N - 1, by omega⟩
    have h2 : m 158 80 = (k : Int) := h
    have e80 : cv C m 158 80 = m 158 80 := cv_o (by decide)
    rw [← h2, lf_s]
    simp (disch := omega) only [ea_289_5, eb_289_5, ec_289_5, l1_i, l1_1, l1_0, l2_0, l2_1, l2_2, l2_3, l3_0, w2_0, w2_1, w2_2, w2_3, d1_0, d1_1, d1_2, d1_3, d2_i, d2_1, d2_0, ev_0, ev_1, ev_16, ev_17, ev_18, ev_2, ev_3, ev_4, ev_5, ev_6, ev_7, ev_8, ev_9, ev_20, ev_21, ev_22, ev_23, ev_24, ev_25, ev_27, ev_28, ev_30, ev_31, ev_32, ev_33, ev_34, ev_35, ev_36, ev_37, ev_38, ev_39, ev_40, ev_41, ev_42, ev_43, ev_45, ev_46, ev_47, ev_48, ev_49, ev_50, ev_51, ev_52, ev_54, ev_55, ev_57, ev_58, ev_59, k2_0, k2_1, k2_2, k3a, k3b, k4, o1_s, xbin_0, xbin_1, xbin_2, xbin_3, xbin_4, xbin_5, xbin_6, xbin_7, xbin_8, xbin_9, xbin_11, xbin_12, xun_0, xun_1, xun_2, xun_3, xun_4, xun_5, k6a, k8, k8b, k9, k20, k20b_0, k20b_1, k20b_2, k20b_3, k20b_4, k20b_5, k21_0, k21_1, k21_2, k21_3, k21_4, k21_5, k23, k24, k25, k27, k28, k40, nz_1, nz_2, nz_3, k31_0, k31_1, k31_2, k31_3, k32u, k33, k34, k35, k35b, k36, k37, k38, k47, k49, k49b_0, k49b_1, k49b_2, k49b_3, k50_0, k50_s, k51_0, k51_s, k55, k58, k58b, rk_0, rk_1, rk_2, rk_9, rk_3, rk_4, rk_5, sw_n, sw_c, xtb_n, xtb_c, lset_0, lset_2, lset_1, lkm_0, lkm_2, lkm_9, lkm_1, lkm_n, if_some1, c_10, c_01, c_x0, c_1x, c_n0, c_nn, List.getElem?_cons_zero, List.getElem?_cons_succ, List.set_cons_zero, List.set_cons_succ, List.length_cons, List.length_nil, Int.reduceToNat, Nat.reduceDiv, Nat.reduceMod, Nat.reduceSub, Nat.reduceAdd, Nat.reduceMul, Nat.reduceLT, Nat.reduceLeDiff, Nat.reduceEqDiff, Int.reduceMod, Int.reduceSub, Int.reduceNeg, Int.reduceAdd, Int.reduceMul, Int.reduceLT, Int.reduceLE, Int.reduceEq, put_ss, if_true, if_false, ite_true, ite_false, reduceIte, eq_self, and_true, true_and, and_false, false_and, or_true, true_or, or_false, false_or, not_true_eq_false, not_false_eq_true, k5_158_80, k34_158_80, k54_158_80, k54b_158_80_0, e80, Int.lt_irrefl]
    rfl
  | i :: l, A, k, C, N, z => fun hG hL h0 hl h hk hN => by
    have en : nno (i :: l) = (if i.2.1 = 4 then 1 else 0) + nno l := rfl
    have el : (((i :: l).length : Nat) : Int) = (l.length : Int) + 1 := rfl
    rw [el] at hl
    rw [en] at h hk hN
    obtain ⟨G1, G2⟩ := hG
    have eP : patN (ntv m) (i :: l) A C = patN (ntv m) l (A + 1) (if i.2.1 = 4 then filC C A (ntv m i.2.2) else C) := rfl
    rw [eP]
    by_cases hg : i.2.1 = 4
    · rw [if_pos hg] at h hk hN G2
      obtain ⟨N, rfl⟩ : ∃ n', N = n' + 1 := ⟨N - 1, by omega⟩
      obtain ⟨u, v⟩ := G1 hg
      have hlk := hL i (List.mem_cons_self ..) hg
      have hlt : (k : Int) < m 158 80 := by rw [h]; omega
      have e80 : cv C m 158 80 = m 158 80 := cv_o (by decide)
      have e74 : cv C m 158 74 = m 158 74 := cv_o (by decide)
      have e75 : cv C m 158 75 = m 158 75 := cv_o (by decide)
      have e199 : ∀ q, cv C m 199 q = m 199 q := fun q => cv_o (by decide)
      have e200 : ∀ q, cv C m 200 q = m 200 q := fun q => cv_o (by decide)
      have e169 : ∀ q, cv C m 169 q = m 169 q := fun q => cv_o (by decide)
      have e180 : ∀ q, cv C m 180 q = m 180 q := fun q => cv_o (by decide)
      have ecast : ((k + 1 : Nat) : Int) = (k : Int) + 1 := by omega
      rw [if_pos hg]
      obtain ⟨z2, ih⟩ := L_289_5 hP hV hS hGl l (A + 1) (k + 1) (filC C A (ntv m i.2.2)) N (0, i.2.2) G2 (fun i hi => hL i (List.mem_cons_of_mem _ hi)) (by omega) (by omega) (by rw [h]; omega) (by omega) (by omega)
      rw [ecast] at ih
      refine ⟨z2, ?_⟩
      have hb : -2147483648 ≤ ntv m i.2.2 ∧ ntv m i.2.2 < 2147483648 := by
        unfold ntv
        split
        · have := hP i.2.2.toNat; omega
        · split
          · omega
          · have := hV (-10 - i.2.2).toNat; omega
      have c290 := fun D => M_290 (F := F) (L := L) (xs := xs) (d := D) (m := m) (C := C) (A := A) (v := ntv m i.2.2) (by omega) hb
      rw [lf_s]
      by_cases c1 : 0 ≤ i.2.2
      · have en1 : ntv m i.2.2 = m 180 i.2.2.toNat := by unfold ntv; rw [if_pos c1]
        rw [en1] at c290 ih ⊢
        have hc : i.2.2 < 12000 := by omega
        simp (disch := omega) only [ea_289_5, eb_289_5, ec_289_5, l1_i, l1_1, l1_0, l2_0, l2_1, l2_2, l2_3, l3_0, w2_0, w2_1, w2_2, w2_3, d1_0, d1_1, d1_2, d1_3, d2_i, d2_1, d2_0, ev_0, ev_1, ev_16, ev_17, ev_18, ev_2, ev_3, ev_4, ev_5, ev_6, ev_7, ev_8, ev_9, ev_20, ev_21, ev_22, ev_23, ev_24, ev_25, ev_27, ev_28, ev_30, ev_31, ev_32, ev_33, ev_34, ev_35, ev_36, ev_37, ev_38, ev_39, ev_40, ev_41, ev_42, ev_43, ev_45, ev_46, ev_47, ev_48, ev_49, ev_50, ev_51, ev_52, ev_54, ev_55, ev_57, ev_58, ev_59, k2_0, k2_1, k2_2, k3a, k3b, k4, o1_s, xbin_0, xbin_1, xbin_2, xbin_3, xbin_4, xbin_5, xbin_6, xbin_7, xbin_8, xbin_9, xbin_11, xbin_12, xun_0, xun_1, xun_2, xun_3, xun_4, xun_5, k6a, k8, k8b, k9, k20, k20b_0, k20b_1, k20b_2, k20b_3, k20b_4, k20b_5, k21_0, k21_1, k21_2, k21_3, k21_4, k21_5, k23, k24, k25, k27, k28, k40, nz_1, nz_2, nz_3, k31_0, k31_1, k31_2, k31_3, k32u, k33, k34, k35, k35b, k36, k37, k38, k47, k49, k49b_0, k49b_1, k49b_2, k49b_3, k50_0, k50_s, k51_0, k51_s, k55, k58, k58b, rk_0, rk_1, rk_2, rk_9, rk_3, rk_4, rk_5, sw_n, sw_c, xtb_n, xtb_c, lset_0, lset_2, lset_1, lkm_0, lkm_2, lkm_9, lkm_1, lkm_n, if_some1, c_10, c_01, c_x0, c_1x, c_n0, c_nn, List.getElem?_cons_zero, List.getElem?_cons_succ, List.set_cons_zero, List.set_cons_succ, List.length_cons, List.length_nil, Int.reduceToNat, Nat.reduceDiv, Nat.reduceMod, Nat.reduceSub, Nat.reduceAdd, Nat.reduceMul, Nat.reduceLT, Nat.reduceLeDiff, Nat.reduceEqDiff, Int.reduceMod, Int.reduceSub, Int.reduceNeg, Int.reduceAdd, Int.reduceMul, Int.reduceLT, Int.reduceLE, Int.reduceEq, put_ss, if_true, if_false, ite_true, ite_false, reduceIte, eq_self, and_true, true_and, and_false, false_and, or_true, true_or, or_false, false_or, not_true_eq_false, not_false_eq_true, k5_158_80, k34_158_80, k54_158_80, k54b_158_80_0, k5_158_81, k6_199, k35_199, n_199, k5_158_82, k6_200, k35_200, n_200, k5_158_45, k6_180, k35_180, n_180, k5_158_23, k6_169, k35_169, n_169, k5_158_74, k34_158_74, k54_158_74, k54b_158_74_0, k5_158_75, k34_158_75, k54_158_75, k54b_158_75_0, k5_158_73, k6_195, k35_195, k55_195, k55c_195, n_195, e80, e74, e75, e199, e200, e169, e180, cv_195, hlt, u, v, c1, w32_of, c290, ih]
        try rfl
      · by_cases c2 : i.2.2 = -1
        · have en1 : ntv m i.2.2 = m 158 74 + m 158 75 := by unfold ntv; rw [if_neg c1, if_pos c2]
          rw [en1] at c290 ih ⊢
          rw [c2] at v ih
          have c3 : ¬ (0 : Int) ≤ -1 := by decide
          simp (disch := omega) only [ea_289_5, eb_289_5, ec_289_5, l1_i, l1_1, l1_0, l2_0, l2_1, l2_2, l2_3, l3_0, w2_0, w2_1, w2_2, w2_3, d1_0, d1_1, d1_2, d1_3, d2_i, d2_1, d2_0, ev_0, ev_1, ev_16, ev_17, ev_18, ev_2, ev_3, ev_4, ev_5, ev_6, ev_7, ev_8, ev_9, ev_20, ev_21, ev_22, ev_23, ev_24, ev_25, ev_27, ev_28, ev_30, ev_31, ev_32, ev_33, ev_34, ev_35, ev_36, ev_37, ev_38, ev_39, ev_40, ev_41, ev_42, ev_43, ev_45, ev_46, ev_47, ev_48, ev_49, ev_50, ev_51, ev_52, ev_54, ev_55, ev_57, ev_58, ev_59, k2_0, k2_1, k2_2, k3a, k3b, k4, o1_s, xbin_0, xbin_1, xbin_2, xbin_3, xbin_4, xbin_5, xbin_6, xbin_7, xbin_8, xbin_9, xbin_11, xbin_12, xun_0, xun_1, xun_2, xun_3, xun_4, xun_5, k6a, k8, k8b, k9, k20, k20b_0, k20b_1, k20b_2, k20b_3, k20b_4, k20b_5, k21_0, k21_1, k21_2, k21_3, k21_4, k21_5, k23, k24, k25, k27, k28, k40, nz_1, nz_2, nz_3, k31_0, k31_1, k31_2, k31_3, k32u, k33, k34, k35, k35b, k36, k37, k38, k47, k49, k49b_0, k49b_1, k49b_2, k49b_3, k50_0, k50_s, k51_0, k51_s, k55, k58, k58b, rk_0, rk_1, rk_2, rk_9, rk_3, rk_4, rk_5, sw_n, sw_c, xtb_n, xtb_c, lset_0, lset_2, lset_1, lkm_0, lkm_2, lkm_9, lkm_1, lkm_n, if_some1, c_10, c_01, c_x0, c_1x, c_n0, c_nn, List.getElem?_cons_zero, List.getElem?_cons_succ, List.set_cons_zero, List.set_cons_succ, List.length_cons, List.length_nil, Int.reduceToNat, Nat.reduceDiv, Nat.reduceMod, Nat.reduceSub, Nat.reduceAdd, Nat.reduceMul, Nat.reduceLT, Nat.reduceLeDiff, Nat.reduceEqDiff, Int.reduceMod, Int.reduceSub, Int.reduceNeg, Int.reduceAdd, Int.reduceMul, Int.reduceLT, Int.reduceLE, Int.reduceEq, put_ss, if_true, if_false, ite_true, ite_false, reduceIte, eq_self, and_true, true_and, and_false, false_and, or_true, true_or, or_false, false_or, not_true_eq_false, not_false_eq_true, k5_158_80, k34_158_80, k54_158_80, k54b_158_80_0, k5_158_81, k6_199, k35_199, n_199, k5_158_82, k6_200, k35_200, n_200, k5_158_45, k6_180, k35_180, n_180, k5_158_23, k6_169, k35_169, n_169, k5_158_74, k34_158_74, k54_158_74, k54b_158_74_0, k5_158_75, k34_158_75, k54_158_75, k54b_158_75_0, k5_158_73, k6_195, k35_195, k55_195, k55c_195, n_195, e80, e74, e75, e199, e200, e169, e180, cv_195, hlt, u, v, c3, w32_of, c290, ih]
          try rfl
        · have en1 : ntv m i.2.2 = m 169 (-10 - i.2.2).toNat := by unfold ntv; rw [if_neg c1, if_neg c2]
          rw [en1] at c290 ih ⊢
          have hc : 0 ≤ -10 - i.2.2 ∧ -10 - i.2.2 < 1600 := by omega
          simp (disch := omega) only [ea_289_5, eb_289_5, ec_289_5, l1_i, l1_1, l1_0, l2_0, l2_1, l2_2, l2_3, l3_0, w2_0, w2_1, w2_2, w2_3, d1_0, d1_1, d1_2, d1_3, d2_i, d2_1, d2_0, ev_0, ev_1, ev_16, ev_17, ev_18, ev_2, ev_3, ev_4, ev_5, ev_6, ev_7, ev_8, ev_9, ev_20, ev_21, ev_22, ev_23, ev_24, ev_25, ev_27, ev_28, ev_30, ev_31, ev_32, ev_33, ev_34, ev_35, ev_36, ev_37, ev_38, ev_39, ev_40, ev_41, ev_42, ev_43, ev_45, ev_46, ev_47, ev_48, ev_49, ev_50, ev_51, ev_52, ev_54, ev_55, ev_57, ev_58, ev_59, k2_0, k2_1, k2_2, k3a, k3b, k4, o1_s, xbin_0, xbin_1, xbin_2, xbin_3, xbin_4, xbin_5, xbin_6, xbin_7, xbin_8, xbin_9, xbin_11, xbin_12, xun_0, xun_1, xun_2, xun_3, xun_4, xun_5, k6a, k8, k8b, k9, k20, k20b_0, k20b_1, k20b_2, k20b_3, k20b_4, k20b_5, k21_0, k21_1, k21_2, k21_3, k21_4, k21_5, k23, k24, k25, k27, k28, k40, nz_1, nz_2, nz_3, k31_0, k31_1, k31_2, k31_3, k32u, k33, k34, k35, k35b, k36, k37, k38, k47, k49, k49b_0, k49b_1, k49b_2, k49b_3, k50_0, k50_s, k51_0, k51_s, k55, k58, k58b, rk_0, rk_1, rk_2, rk_9, rk_3, rk_4, rk_5, sw_n, sw_c, xtb_n, xtb_c, lset_0, lset_2, lset_1, lkm_0, lkm_2, lkm_9, lkm_1, lkm_n, if_some1, c_10, c_01, c_x0, c_1x, c_n0, c_nn, List.getElem?_cons_zero, List.getElem?_cons_succ, List.set_cons_zero, List.set_cons_succ, List.length_cons, List.length_nil, Int.reduceToNat, Nat.reduceDiv, Nat.reduceMod, Nat.reduceSub, Nat.reduceAdd, Nat.reduceMul, Nat.reduceLT, Nat.reduceLeDiff, Nat.reduceEqDiff, Int.reduceMod, Int.reduceSub, Int.reduceNeg, Int.reduceAdd, Int.reduceMul, Int.reduceLT, Int.reduceLE, Int.reduceEq, put_ss, if_true, if_false, ite_true, ite_false, reduceIte, eq_self, and_true, true_and, and_false, false_and, or_true, true_or, or_false, false_or, not_true_eq_false, not_false_eq_true, k5_158_80, k34_158_80, k54_158_80, k54b_158_80_0, k5_158_81, k6_199, k35_199, n_199, k5_158_82, k6_200, k35_200, n_200, k5_158_45, k6_180, k35_180, n_180, k5_158_23, k6_169, k35_169, n_169, k5_158_74, k34_158_74, k54_158_74, k54b_158_74_0, k5_158_75, k34_158_75, k54_158_75, k54b_158_75_0, k5_158_73, k6_195, k35_195, k55_195, k55c_195, n_195, e80, e74, e75, e199, e200, e169, e180, cv_195, hlt, u, v, c1, c2, w32_of, c290, ih]
          try rfl
    · rw [if_neg hg] at h hk hN G2
      rw [if_neg hg]
      rw [Nat.zero_add] at h hk hN
      exact L_289_5 hP hV hS hGl l (A + 1) k C N z G2 (fun i hi => hL i (List.mem_cons_of_mem _ hi)) (by omega) (by omega) h hk hN
/-! flags -/
def fv (E : Nat → Int) (m : Mem) : Mem := fun a k => if a = 198 then E k else m a k
theorem fv_198 {E : Nat → Int} {k : Nat} : fv E m 198 k = E k := rfl
theorem fv_o {E : Nat → Int} {a k : Nat} (h : a ≠ 198) : fv E m a k = m a k := by
  unfold fv
  rw [if_neg h]
theorem fv_p {E : Nat → Int} {k : Nat} {w : Int} : put (fv E m) 198 k w = fv (vput E k w) m := by
  funext a q
  rw [put_ss]
  unfold fv vput
  by_cases h : a = 198
  · rw [if_pos h, if_pos h, if_pos h]
  · rw [if_neg h, if_neg h, if_neg h]
abbrev bad (m : Mem) (E : Nat → Int) (q : Nat) : Prop := E q = 0 ∧ outR (m 180 (m 197 q).toNat) (m 196 q)
def fcl (m : Mem) (E : Nat → Int) (k e : Nat) : Nat → Int := fun q => if (k ≤ q ∧ q < e) ∧ bad m E q then 1 else E q
def anyB (m : Mem) (E : Nat → Int) : Nat → Nat → Bool
  | 0, _ => false
  | j + 1, k => decide (bad m E k) || anyB m E j (k + 1)
theorem anyB_c {E E2 : Nat → Int} : ∀ (j k : Nat), (∀ q, k ≤ q → E q = E2 q) → anyB m E j k = anyB m E2 j k
  | 0, k => fun _ => rfl
  | j + 1, k => fun h => by
    show (decide (bad m E k) || anyB m E j (k + 1)) = (decide (bad m E2 k) || anyB m E2 j (k + 1))
    rw [anyB_c j (k + 1) (fun q hq => h q (by omega))]
    have e : decide (bad m E k) = decide (bad m E2 k) := by
      unfold bad
      rw [h k (Nat.le_refl _)]
    rw [e]
theorem L_289_2 (hP : ∀ k : Nat, 0 ≤ m 180 k ∧ m 180 k ≤ 1000000) (hA : ∀ k : Nat, (k : Int) < m 158 76 → (0 ≤ m 196 k ∧ m 196 k ≤ 1000000) ∧ (0 ≤ m 197 k ∧ m 197 k < 12000)) (hg : m 158 76 < 30000) {z : Nat × Int} : ∀ (j k : Nat) (E : Nat → Int) (more : Int) (N : Nat), (∀ q, E q = 0 ∨ E q = 1) → ((k + j : Nat) : Int) = m 158 76 → j < N → LF F (d + 3) la_289_2 lb_289_2 lc_289_2 N ([(2, 158), (0, main), (0, more), (0, (k : Int)), z], Hp L xs (fv E m)) = some (0, [], ([(2, 158), (0, main), (0, if anyB m E j k = true then 1 else more), (0, m 158 76), z], Hp L xs (fv (fcl m E k (k + j)) m))) := by
  intro j
  induction j with
  | zero =>
    intro k E more N hE h hN
    obtain ⟨N, rfl⟩ : ∃ n', N = n' + 1 := ⟨N - 1, by omega⟩
    have h2 : m 158 76 = (k : Int) := by omega
    have e76 : fv E m 158 76 = m 158 76 := fv_o (by decide)
    have ef : fcl m E k (k + 0) = E := by
      funext q
      unfold fcl
      rw [if_neg (by omega)]
    have ea : anyB m E 0 k = false := rfl
    rw [ef, ea, ← h2, lf_s]
    simp (disch := omega) only [ea_289_2, eb_289_2, ec_289_2, l1_i, l1_1, l1_0, l2_0, l2_1, l2_2, l2_3, l3_0, w2_0, w2_1, w2_2, w2_3, d1_0, d1_1, d1_2, d1_3, d2_i, d2_1, d2_0, ev_0, ev_1, ev_16, ev_17, ev_18, ev_2, ev_3, ev_4, ev_5, ev_6, ev_7, ev_8, ev_9, ev_20, ev_21, ev_22, ev_23, ev_24, ev_25, ev_27, ev_28, ev_30, ev_31, ev_32, ev_33, ev_34, ev_35, ev_36, ev_37, ev_38, ev_39, ev_40, ev_41, ev_42, ev_43, ev_45, ev_46, ev_47, ev_48, ev_49, ev_50, ev_51, ev_52, ev_54, ev_55, ev_57, ev_58, ev_59, k2_0, k2_1, k2_2, k3a, k3b, k4, o1_s, xbin_0, xbin_1, xbin_2, xbin_3, xbin_4, xbin_5, xbin_6, xbin_7, xbin_8, xbin_9, xbin_11, xbin_12, xun_0, xun_1, xun_2, xun_3, xun_4, xun_5, k6a, k8, k8b, k9, k20, k20b_0, k20b_1, k20b_2, k20b_3, k20b_4, k20b_5, k21_0, k21_1, k21_2, k21_3, k21_4, k21_5, k23, k24, k25, k27, k28, k40, nz_1, nz_2, nz_3, k31_0, k31_1, k31_2, k31_3, k32u, k33, k34, k35, k35b, k36, k37, k38, k47, k49, k49b_0, k49b_1, k49b_2, k49b_3, k50_0, k50_s, k51_0, k51_s, k55, k58, k58b, rk_0, rk_1, rk_2, rk_9, rk_3, rk_4, rk_5, sw_n, sw_c, xtb_n, xtb_c, lset_0, lset_2, lset_1, lkm_0, lkm_2, lkm_9, lkm_1, lkm_n, if_some1, c_10, c_01, c_x0, c_1x, c_n0, c_nn, List.getElem?_cons_zero, List.getElem?_cons_succ, List.set_cons_zero, List.set_cons_succ, List.length_cons, List.length_nil, Int.reduceToNat, Nat.reduceDiv, Nat.reduceMod, Nat.reduceSub, Nat.reduceAdd, Nat.reduceMul, Nat.reduceLT, Nat.reduceLeDiff, Nat.reduceEqDiff, Int.reduceMod, Int.reduceSub, Int.reduceNeg, Int.reduceAdd, Int.reduceMul, Int.reduceLT, Int.reduceLE, Int.reduceEq, put_ss, if_true, if_false, ite_true, ite_false, reduceIte, eq_self, and_true, true_and, and_false, false_and, or_true, true_or, or_false, false_or, not_true_eq_false, not_false_eq_true, k5_158_76, k34_158_76, k54_158_76, k54b_158_76_0, e76, Int.lt_irrefl, Bool.false_eq_true]
  | succ j ih =>
    intro k E more N hE h hN
    obtain ⟨N, rfl⟩ : ∃ n', N = n' + 1 := ⟨N - 1, by omega⟩
    have hlt : (k : Int) < m 158 76 := by omega
    obtain ⟨⟨a1, a2⟩, a3, a4⟩ := hA k hlt
    obtain ⟨p1, p2⟩ := hP (m 197 k).toNat
    have e76 : fv E m 158 76 = m 158 76 := fv_o (by decide)
    have e196 : ∀ q, fv E m 196 q = m 196 q := fun q => fv_o (by decide)
    have e197 : ∀ q, fv E m 197 q = m 197 q := fun q => fv_o (by decide)
    have e180 : ∀ q, fv E m 180 q = m 180 q := fun q => fv_o (by decide)
    have ecast : ((k + 1 : Nat) : Int) = (k : Int) + 1 := by omega
    have k0 : (k : Int).toNat = k := Int.toNat_natCast k
    have ea : anyB m E (j + 1) k = (decide (bad m E k) || anyB m E j (k + 1)) := rfl
    have c288 := fun D => M_288 (F := F) (L := L) (xs := xs) (d := D) (m := fv E m) (A := m 196 k) (t := m 180 (m 197 k).toNat) (by omega) (by omega)
    have hkj : k + (j + 1) = k + 1 + j := by omega
    by_cases hb : bad m E k
    · have c1 := ih (k + 1) (vput E k 1) 1 N (fun q => by
        unfold vput
        split
        · exact Or.inr rfl
        · exact hE q) (by omega) (by omega)
      have ef : fcl m (vput E k 1) (k + 1) (k + 1 + j) = fcl m E k (k + (j + 1)) := by
        funext q
        unfold fcl
        by_cases cq : q = k
        · subst cq
          have v1 : vput E q 1 q = 1 := by unfold vput; rw [if_pos rfl]
          rw [if_neg (by omega), v1, if_pos ⟨by omega, hb⟩]
        · have v1 : vput E k 1 q = E q := by unfold vput; rw [if_neg cq]
          unfold bad
          rw [v1]
          by_cases c : (k ≤ q ∧ q < k + (j + 1)) ∧ E q = 0 ∧ outR (m 180 (m 197 q).toNat) (m 196 q)
          · rw [if_pos c, if_pos ⟨by omega, c.2⟩]
          · rw [if_neg c, if_neg (fun w => c ⟨by omega, w.2⟩)]
      have eany : (if anyB m (vput E k 1) j (k + 1) = true then (1 : Int) else 1) = (if anyB m E (j + 1) k = true then 1 else more) := by
        rw [ea, decide_eq_true hb, Bool.true_or, if_pos rfl]
        split <;> rfl
      rw [ef, eany, ecast] at c1
      have hz : E k = 0 := hb.1
      have c288' := c288
      rw [show (if outR (m 180 (m 197 k).toNat) (m 196 k) then (0 : Int) else 1) = 0 from if_pos hb.2] at c288'
      have e4 : put (fv E m) 198 k 1 = fv (vput E k 1) m := fv_p
      rw [lf_s]
      simp (disch := omega) only [ea_289_2, eb_289_2, ec_289_2, l1_i, l1_1, l1_0, l2_0, l2_1, l2_2, l2_3, l3_0, w2_0, w2_1, w2_2, w2_3, d1_0, d1_1, d1_2, d1_3, d2_i, d2_1, d2_0, ev_0, ev_1, ev_16, ev_17, ev_18, ev_2, ev_3, ev_4, ev_5, ev_6, ev_7, ev_8, ev_9, ev_20, ev_21, ev_22, ev_23, ev_24, ev_25, ev_27, ev_28, ev_30, ev_31, ev_32, ev_33, ev_34, ev_35, ev_36, ev_37, ev_38, ev_39, ev_40, ev_41, ev_42, ev_43, ev_45, ev_46, ev_47, ev_48, ev_49, ev_50, ev_51, ev_52, ev_54, ev_55, ev_57, ev_58, ev_59, k2_0, k2_1, k2_2, k3a, k3b, k4, o1_s, xbin_0, xbin_1, xbin_2, xbin_3, xbin_4, xbin_5, xbin_6, xbin_7, xbin_8, xbin_9, xbin_11, xbin_12, xun_0, xun_1, xun_2, xun_3, xun_4, xun_5, k6a, k8, k8b, k9, k20, k20b_0, k20b_1, k20b_2, k20b_3, k20b_4, k20b_5, k21_0, k21_1, k21_2, k21_3, k21_4, k21_5, k23, k24, k25, k27, k28, k40, nz_1, nz_2, nz_3, k31_0, k31_1, k31_2, k31_3, k32u, k33, k34, k35, k35b, k36, k37, k38, k47, k49, k49b_0, k49b_1, k49b_2, k49b_3, k50_0, k50_s, k51_0, k51_s, k55, k58, k58b, rk_0, rk_1, rk_2, rk_9, rk_3, rk_4, rk_5, sw_n, sw_c, xtb_n, xtb_c, lset_0, lset_2, lset_1, lkm_0, lkm_2, lkm_9, lkm_1, lkm_n, if_some1, c_10, c_01, c_x0, c_1x, c_n0, c_nn, List.getElem?_cons_zero, List.getElem?_cons_succ, List.set_cons_zero, List.set_cons_succ, List.length_cons, List.length_nil, Int.reduceToNat, Nat.reduceDiv, Nat.reduceMod, Nat.reduceSub, Nat.reduceAdd, Nat.reduceMul, Nat.reduceLT, Nat.reduceLeDiff, Nat.reduceEqDiff, Int.reduceMod, Int.reduceSub, Int.reduceNeg, Int.reduceAdd, Int.reduceMul, Int.reduceLT, Int.reduceLE, Int.reduceEq, put_ss, if_true, if_false, ite_true, ite_false, reduceIte, eq_self, and_true, true_and, and_false, false_and, or_true, true_or, or_false, false_or, not_true_eq_false, not_false_eq_true, k5_158_76, k34_158_76, k54_158_76, k54b_158_76_0, k5_158_77, k6_196, k35_196, n_196, k5_158_78, k6_197, k35_197, n_197, k5_158_79, k6_198, k35_198, n_198, k5_158_45, k6_180, k35_180, n_180, e76, e196, e197, e180, fv_198, hlt, k0, hz, w32_of, c288', e4, c1]
      try rfl
    · have c1 := ih (k + 1) E more N hE (by omega) (by omega)
      have ef : fcl m E (k + 1) (k + 1 + j) = fcl m E k (k + (j + 1)) := by
        funext q
        unfold fcl
        by_cases cq : q = k
        · subst cq
          rw [if_neg (by omega), if_neg (fun w => hb w.2)]
        · by_cases c : (k ≤ q ∧ q < k + (j + 1)) ∧ bad m E q
          · rw [if_pos c, if_pos ⟨by omega, c.2⟩]
          · rw [if_neg c, if_neg (fun w => c ⟨by omega, w.2⟩)]
      have eany : anyB m E (j + 1) k = anyB m E j (k + 1) := by
        rw [ea, decide_eq_false hb, Bool.false_or]
      rw [ef, ← eany, ecast] at c1
      rw [lf_s]
      rcases hE k with hz | hz
      · have hno : ¬ outR (m 180 (m 197 k).toNat) (m 196 k) := fun w => hb ⟨hz, w⟩
        have c288' := c288
        rw [show (if outR (m 180 (m 197 k).toNat) (m 196 k) then (0 : Int) else 1) = 1 from if_neg hno] at c288'
        simp (disch := omega) only [ea_289_2, eb_289_2, ec_289_2, l1_i, l1_1, l1_0, l2_0, l2_1, l2_2, l2_3, l3_0, w2_0, w2_1, w2_2, w2_3, d1_0, d1_1, d1_2, d1_3, d2_i, d2_1, d2_0, ev_0, ev_1, ev_16, ev_17, ev_18, ev_2, ev_3, ev_4, ev_5, ev_6, ev_7, ev_8, ev_9, ev_20, ev_21, ev_22, ev_23, ev_24, ev_25, ev_27, ev_28, ev_30, ev_31, ev_32, ev_33, ev_34, ev_35, ev_36, ev_37, ev_38, ev_39, ev_40, ev_41, ev_42, ev_43, ev_45, ev_46, ev_47, ev_48, ev_49, ev_50, ev_51, ev_52, ev_54, ev_55, ev_57, ev_58, ev_59, k2_0, k2_1, k2_2, k3a, k3b, k4, o1_s, xbin_0, xbin_1, xbin_2, xbin_3, xbin_4, xbin_5, xbin_6, xbin_7, xbin_8, xbin_9, xbin_11, xbin_12, xun_0, xun_1, xun_2, xun_3, xun_4, xun_5, k6a, k8, k8b, k9, k20, k20b_0, k20b_1, k20b_2, k20b_3, k20b_4, k20b_5, k21_0, k21_1, k21_2, k21_3, k21_4, k21_5, k23, k24, k25, k27, k28, k40, nz_1, nz_2, nz_3, k31_0, k31_1, k31_2, k31_3, k32u, k33, k34, k35, k35b, k36, k37, k38, k47, k49, k49b_0, k49b_1, k49b_2, k49b_3, k50_0, k50_s, k51_0, k51_s, k55, k58, k58b, rk_0, rk_1, rk_2, rk_9, rk_3, rk_4, rk_5, sw_n, sw_c, xtb_n, xtb_c, lset_0, lset_2, lset_1, lkm_0, lkm_2, lkm_9, lkm_1, lkm_n, if_some1, c_10, c_01, c_x0, c_1x, c_n0, c_nn, List.getElem?_cons_zero, List.getElem?_cons_succ, List.set_cons_zero, List.set_cons_succ, List.length_cons, List.length_nil, Int.reduceToNat, Nat.reduceDiv, Nat.reduceMod, Nat.reduceSub, Nat.reduceAdd, Nat.reduceMul, Nat.reduceLT, Nat.reduceLeDiff, Nat.reduceEqDiff, Int.reduceMod, Int.reduceSub, Int.reduceNeg, Int.reduceAdd, Int.reduceMul, Int.reduceLT, Int.reduceLE, Int.reduceEq, put_ss, if_true, if_false, ite_true, ite_false, reduceIte, eq_self, and_true, true_and, and_false, false_and, or_true, true_or, or_false, false_or, not_true_eq_false, not_false_eq_true, k5_158_76, k34_158_76, k54_158_76, k54b_158_76_0, k5_158_77, k6_196, k35_196, n_196, k5_158_78, k6_197, k35_197, n_197, k5_158_79, k6_198, k35_198, n_198, k5_158_45, k6_180, k35_180, n_180, e76, e196, e197, e180, fv_198, hlt, k0, hz, w32_of, c288', c1]
        try rfl
      · simp (disch := omega) only [ea_289_2, eb_289_2, ec_289_2, l1_i, l1_1, l1_0, l2_0, l2_1, l2_2, l2_3, l3_0, w2_0, w2_1, w2_2, w2_3, d1_0, d1_1, d1_2, d1_3, d2_i, d2_1, d2_0, ev_0, ev_1, ev_16, ev_17, ev_18, ev_2, ev_3, ev_4, ev_5, ev_6, ev_7, ev_8, ev_9, ev_20, ev_21, ev_22, ev_23, ev_24, ev_25, ev_27, ev_28, ev_30, ev_31, ev_32, ev_33, ev_34, ev_35, ev_36, ev_37, ev_38, ev_39, ev_40, ev_41, ev_42, ev_43, ev_45, ev_46, ev_47, ev_48, ev_49, ev_50, ev_51, ev_52, ev_54, ev_55, ev_57, ev_58, ev_59, k2_0, k2_1, k2_2, k3a, k3b, k4, o1_s, xbin_0, xbin_1, xbin_2, xbin_3, xbin_4, xbin_5, xbin_6, xbin_7, xbin_8, xbin_9, xbin_11, xbin_12, xun_0, xun_1, xun_2, xun_3, xun_4, xun_5, k6a, k8, k8b, k9, k20, k20b_0, k20b_1, k20b_2, k20b_3, k20b_4, k20b_5, k21_0, k21_1, k21_2, k21_3, k21_4, k21_5, k23, k24, k25, k27, k28, k40, nz_1, nz_2, nz_3, k31_0, k31_1, k31_2, k31_3, k32u, k33, k34, k35, k35b, k36, k37, k38, k47, k49, k49b_0, k49b_1, k49b_2, k49b_3, k50_0, k50_s, k51_0, k51_s, k55, k58, k58b, rk_0, rk_1, rk_2, rk_9, rk_3, rk_4, rk_5, sw_n, sw_c, xtb_n, xtb_c, lset_0, lset_2, lset_1, lkm_0, lkm_2, lkm_9, lkm_1, lkm_n, if_some1, c_10, c_01, c_x0, c_1x, c_n0, c_nn, List.getElem?_cons_zero, List.getElem?_cons_succ, List.set_cons_zero, List.set_cons_succ, List.length_cons, List.length_nil, Int.reduceToNat, Nat.reduceDiv, Nat.reduceMod, Nat.reduceSub, Nat.reduceAdd, Nat.reduceMul, Nat.reduceLT, Nat.reduceLeDiff, Nat.reduceEqDiff, Int.reduceMod, Int.reduceSub, Int.reduceNeg, Int.reduceAdd, Int.reduceMul, Int.reduceLT, Int.reduceLE, Int.reduceEq, put_ss, if_true, if_false, ite_true, ite_false, reduceIte, eq_self, and_true, true_and, and_false, false_and, or_true, true_or, or_false, false_or, not_true_eq_false, not_false_eq_true, k5_158_76, k34_158_76, k54_158_76, k54b_158_76_0, k5_158_77, k6_196, k35_196, n_196, k5_158_78, k6_197, k35_197, n_197, k5_158_79, k6_198, k35_198, n_198, k5_158_45, k6_180, k35_180, n_180, e76, e196, e197, e180, fv_198, hlt, k0, hz, w32_of, c1]
        try rfl
end Lps
