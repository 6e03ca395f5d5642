/-! THE MODEL'S LOOPS BEHIND A LAYING: flags, goes, notes -/
/-- a view of the code alone -/
def cv (C : Nat → Int) (m : Mem) : Mem := fun a k => if a = 195 then C k else m a k
section Fil
variable {F L d : Nat} {xs : Nat → Int32} {m : Mem} {C : Nat → Int} {A v main more : Int}
theorem cv_195 {k : Nat} : cv C m 195 k = C k := rfl
theorem cv_o {a k : Nat} (h : a ≠ 195) : cv C m a k = m a k := by
  unfold cv
  rw [if_neg h]
theorem cv_p {k : Nat} {w : Int} : put (cv C m) 195 k w = cv (vput C k w) m := by
  funext a q
  rw [put_ss]
  unfold cv vput
  by_cases h : a = 195
  · rw [if_pos h, if_pos h, if_pos h]
  · rw [if_neg h, if_neg h, if_neg h]
theorem M_288 {t : Int} (ht : 0 ≤ t ∧ t ≤ 1000000) (hA : 0 ≤ A ∧ A ≤ 1000000) : Cx F (d + 1) 288 [A, t] (Hp L xs m) = some ([if outR t A then 0 else 1], Hp L xs m) := by
  by_cases c : outR t A
  · rw [if_pos c]
    rcases c with c | c
    · have c1 : ¬ (-2048 ≤ t - A - 1) := by omega
      simp (disch := omega) only [c_288, tr_288, ev_0, ev_1, ev_16, ev_17, ev_18, ev_2, ev_3, ev_4, ev_5, ev_6, ev_7, ev_8, ev_9, ev_20, ev_21, ev_22, ev_23, ev_24, ev_25, ev_27, ev_28, ev_30, ev_31, ev_32, ev_33, ev_34, ev_35, ev_36, ev_37, ev_38, ev_39, ev_40, ev_41, ev_42, ev_43, ev_45, ev_46, ev_47, ev_48, ev_49, ev_50, ev_51, ev_52, ev_54, ev_55, ev_57, ev_58, ev_59, k2_0, k2_1, k2_2, k3a, k3b, k4, o1_s, xbin_0, xbin_1, xbin_2, xbin_3, xbin_4, xbin_5, xbin_6, xbin_7, xbin_8, xbin_9, xbin_11, xbin_12, xun_0, xun_1, xun_2, xun_3, xun_4, xun_5, k6a, k8, k8b, k9, k20, k20b_0, k20b_1, k20b_2, k20b_3, k20b_4, k20b_5, k21_0, k21_1, k21_2, k21_3, k21_4, k21_5, k23, k24, k25, k27, k28, k40, nz_1, nz_2, nz_3, k31_0, k31_1, k31_2, k31_3, k32u, k33, k34, k35, k35b, k36, k37, k38, k47, k49, k49b_0, k49b_1, k49b_2, k49b_3, k50_0, k50_s, k51_0, k51_s, k55, k58, k58b, rk_0, rk_1, rk_2, rk_9, rk_3, rk_4, rk_5, sw_n, sw_c, xtb_n, xtb_c, lset_0, lset_2, lset_1, lkm_0, lkm_2, lkm_9, lkm_1, lkm_n, if_some1, c_10, c_01, c_x0, c_1x, c_n0, c_nn, List.getElem?_cons_zero, List.getElem?_cons_succ, List.set_cons_zero, List.set_cons_succ, List.length_cons, List.length_nil, Int.reduceToNat, Nat.reduceDiv, Nat.reduceMod, Nat.reduceSub, Nat.reduceAdd, Nat.reduceMul, Nat.reduceLT, Nat.reduceLeDiff, Nat.reduceEqDiff, Int.reduceMod, Int.reduceSub, Int.reduceNeg, Int.reduceAdd, Int.reduceMul, Int.reduceLT, Int.reduceLE, Int.reduceEq, put_ss, if_true, if_false, ite_true, ite_false, reduceIte, eq_self, and_true, true_and, and_false, false_and, or_true, true_or, or_false, false_or, not_true_eq_false, not_false_eq_true, w32_of, c1]
    · have c1 : -2048 ≤ t - A - 1 := by omega
      have c2 : ¬ (t - A - 1 ≤ 2047) := by omega
      simp (disch := omega) only [c_288, tr_288, ev_0, ev_1, ev_16, ev_17, ev_18, ev_2, ev_3, ev_4, ev_5, ev_6, ev_7, ev_8, ev_9, ev_20, ev_21, ev_22, ev_23, ev_24, ev_25, ev_27, ev_28, ev_30, ev_31, ev_32, ev_33, ev_34, ev_35, ev_36, ev_37, ev_38, ev_39, ev_40, ev_41, ev_42, ev_43, ev_45, ev_46, ev_47, ev_48, ev_49, ev_50, ev_51, ev_52, ev_54, ev_55, ev_57, ev_58, ev_59, k2_0, k2_1, k2_2, k3a, k3b, k4, o1_s, xbin_0, xbin_1, xbin_2, xbin_3, xbin_4, xbin_5, xbin_6, xbin_7, xbin_8, xbin_9, xbin_11, xbin_12, xun_0, xun_1, xun_2, xun_3, xun_4, xun_5, k6a, k8, k8b, k9, k20, k20b_0, k20b_1, k20b_2, k20b_3, k20b_4, k20b_5, k21_0, k21_1, k21_2, k21_3, k21_4, k21_5, k23, k24, k25, k27, k28, k40, nz_1, nz_2, nz_3, k31_0, k31_1, k31_2, k31_3, k32u, k33, k34, k35, k35b, k36, k37, k38, k47, k49, k49b_0, k49b_1, k49b_2, k49b_3, k50_0, k50_s, k51_0, k51_s, k55, k58, k58b, rk_0, rk_1, rk_2, rk_9, rk_3, rk_4, rk_5, sw_n, sw_c, xtb_n, xtb_c, lset_0, lset_2, lset_1, lkm_0, lkm_2, lkm_9, lkm_1, lkm_n, if_some1, c_10, c_01, c_x0, c_1x, c_n0, c_nn, List.getElem?_cons_zero, List.getElem?_cons_succ, List.set_cons_zero, List.set_cons_succ, List.length_cons, List.length_nil, Int.reduceToNat, Nat.reduceDiv, Nat.reduceMod, Nat.reduceSub, Nat.reduceAdd, Nat.reduceMul, Nat.reduceLT, Nat.reduceLeDiff, Nat.reduceEqDiff, Int.reduceMod, Int.reduceSub, Int.reduceNeg, Int.reduceAdd, Int.reduceMul, Int.reduceLT, Int.reduceLE, Int.reduceEq, put_ss, if_true, if_false, ite_true, ite_false, reduceIte, eq_self, and_true, true_and, and_false, false_and, or_true, true_or, or_false, false_or, not_true_eq_false, not_false_eq_true, w32_of, c1, c2]
  · rw [if_neg c]
    have c1 : -2048 ≤ t - A - 1 := by omega
    have c2 : t - A - 1 ≤ 2047 := by omega
    simp (disch := omega) only [c_288, tr_288, ev_0, ev_1, ev_16, ev_17, ev_18, ev_2, ev_3, ev_4, ev_5, ev_6, ev_7, ev_8, ev_9, ev_20, ev_21, ev_22, ev_23, ev_24, ev_25, ev_27, ev_28, ev_30, ev_31, ev_32, ev_33, ev_34, ev_35, ev_36, ev_37, ev_38, ev_39, ev_40, ev_41, ev_42, ev_43, ev_45, ev_46, ev_47, ev_48, ev_49, ev_50, ev_51, ev_52, ev_54, ev_55, ev_57, ev_58, ev_59, k2_0, k2_1, k2_2, k3a, k3b, k4, o1_s, xbin_0, xbin_1, xbin_2, xbin_3, xbin_4, xbin_5, xbin_6, xbin_7, xbin_8, xbin_9, xbin_11, xbin_12, xun_0, xun_1, xun_2, xun_3, xun_4, xun_5, k6a, k8, k8b, k9, k20, k20b_0, k20b_1, k20b_2, k20b_3, k20b_4, k20b_5, k21_0, k21_1, k21_2, k21_3, k21_4, k21_5, k23, k24, k25, k27, k28, k40, nz_1, nz_2, nz_3, k31_0, k31_1, k31_2, k31_3, k32u, k33, k34, k35, k35b, k36, k37, k38, k47, k49, k49b_0, k49b_1, k49b_2, k49b_3, k50_0, k50_s, k51_0, k51_s, k55, k58, k58b, rk_0, rk_1, rk_2, rk_9, rk_3, rk_4, rk_5, sw_n, sw_c, xtb_n, xtb_c, lset_0, lset_2, lset_1, lkm_0, lkm_2, lkm_9, lkm_1, lkm_n, if_some1, c_10, c_01, c_x0, c_1x, c_n0, c_nn, List.getElem?_cons_zero, List.getElem?_cons_succ, List.set_cons_zero, List.set_cons_succ, List.length_cons, List.length_nil, Int.reduceToNat, Nat.reduceDiv, Nat.reduceMod, Nat.reduceSub, Nat.reduceAdd, Nat.reduceMul, Nat.reduceLT, Nat.reduceLeDiff, Nat.reduceEqDiff, Int.reduceMod, Int.reduceSub, Int.reduceNeg, Int.reduceAdd, Int.reduceMul, Int.reduceLT, Int.reduceLE, Int.reduceEq, put_ss, if_true, if_false, ite_true, ite_false, reduceIte, eq_self, and_true, true_and, and_false, false_and, or_true, true_or, or_false, false_or, not_true_eq_false, not_false_eq_true, w32_of, c1, c2]
theorem M_290 (hA : 0 ≤ A ∧ A < 69999) (hv : -2147483648 ≤ v ∧ v < 2147483648) : Cx F (d + 1) 290 [158, A, v] (Hp L xs (cv C m)) = some ([], Hp L xs (cv (filC C A v) m)) := by
  have e3 : ishr v 8 = v / 256 := ishr_k 8 (by decide) hv.1 hv.2
  have ne : ¬ ((A + 1).toNat = A.toNat) := by omega
  have ev : vput C A.toNat (ior (C A.toNat) (v % 256)) (A + 1).toNat = C (A + 1).toNat := by
    unfold vput
    rw [if_neg ne]
  have e4 : put (put (cv C m) 195 A.toNat (ior (C A.toNat) (v % 256))) 195 (A + 1).toNat (ior (C (A + 1).toNat) (v / 256 % 256)) = cv (filC C A v) m := by
    rw [cv_p, cv_p]
    unfold filC
    rw [ev]
  simp (disch := omega) only [c_290, tr_290, ev_0, ev_1, ev_16, ev_17, ev_18, ev_2, ev_3, ev_4, ev_5, ev_6, ev_7, ev_8, ev_9, ev_20, ev_21, ev_22, ev_23, ev_24, ev_25, ev_27, ev_28, ev_30, ev_31, ev_32, ev_33, ev_34, ev_35, ev_36, ev_37, ev_38, ev_39, ev_40, ev_41, ev_42, ev_43, ev_45, ev_46, ev_47, ev_48, ev_49, ev_50, ev_51, ev_52, ev_54, ev_55, ev_57, ev_58, ev_59, k2_0, k2_1, k2_2, k3a, k3b, k4, o1_s, xbin_0, xbin_1, xbin_2, xbin_3, xbin_4, xbin_5, xbin_6, xbin_7, xbin_8, xbin_9, xbin_11, xbin_12, xun_0, xun_1, xun_2, xun_3, xun_4, xun_5, k6a, k8, k8b, k9, k20, k20b_0, k20b_1, k20b_2, k20b_3, k20b_4, k20b_5, k21_0, k21_1, k21_2, k21_3, k21_4, k21_5, k23, k24, k25, k27, k28, k40, nz_1, nz_2, nz_3, k31_0, k31_1, k31_2, k31_3, k32u, k33, k34, k35, k35b, k36, k37, k38, k47, k49, k49b_0, k49b_1, k49b_2, k49b_3, k50_0, k50_s, k51_0, k51_s, k55, k58, k58b, rk_0, rk_1, rk_2, rk_9, rk_3, rk_4, rk_5, sw_n, sw_c, xtb_n, xtb_c, lset_0, lset_2, lset_1, lkm_0, lkm_2, lkm_9, lkm_1, lkm_n, if_some1, c_10, c_01, c_x0, c_1x, c_n0, c_nn, List.getElem?_cons_zero, List.getElem?_cons_succ, List.set_cons_zero, List.set_cons_succ, List.length_cons, List.length_nil, Int.reduceToNat, Nat.reduceDiv, Nat.reduceMod, Nat.reduceSub, Nat.reduceAdd, Nat.reduceMul, Nat.reduceLT, Nat.reduceLeDiff, Nat.reduceEqDiff, Int.reduceMod, Int.reduceSub, Int.reduceNeg, Int.reduceAdd, Int.reduceMul, Int.reduceLT, Int.reduceLE, Int.reduceEq, put_ss, if_true, if_false, ite_true, ite_false, reduceIte, eq_self, and_true, true_and, and_false, false_and, or_true, true_or, or_false, false_or, not_true_eq_false, not_false_eq_true, k5_158_73, k6_195, k35_195, k55_195, k55c_195, n_195, w32_of, iand_255, e3, cv_195, ne, if_false, e4]
def gP (m : Mem) (t : Int) : Int := m 180 t.toNat
theorem L_289_4 (hP : ∀ k : Nat, 0 ≤ m 180 k ∧ m 180 k ≤ 1000000) (h01 : ∀ k, m 198 k = 0 ∨ m 198 k = 1) : ∀ (l : List It) (A : Int) (k : Nat) (C : Nat → Int) (N : Nat) (z : Nat × Int), GoOk (m 196) (m 197) l A (k : Int) → kO (fun q => fM m (q : Int)) l k → (∀ i, i ∈ l → isG i → 0 ≤ i.2.2 ∧ i.2.2 < 12000) → 0 ≤ A → A + l.length < 69990 → m 158 76 = ((k + ngo l : Nat) : Int) → k + ngo l < 30000 → ngo l < N → ∃ z2 : Nat × Int, LF F (d + 3) la_289_4 lb_289_4 lc_289_4 N ([(2, 158), (0, main), (0, more), (0, (k : Int)), z], Hp L xs (cv C m)) = some (0, [], ([(2, 158), (0, main), (0, more), (0, m 158 76), z2], Hp L xs (cv (patG (gP m) l A C) m)))
  | [], A, k, C, N, z => fun _ _ _ _ _ h _ hN => by
    refine ⟨z, ?_⟩
    obtain ⟨N, rfl⟩ : ∃ n', N = n' + 1 := ⟨N - 1, by omega⟩
    have h2 : m 158 76 = (k : Int) := h
    have e76 : cv C m 158 76 = m 158 76 := cv_o (by decide)
    rw [← h2, lf_s]
    simp (disch := omega) only [ea_289_4, eb_289_4, ec_289_4, l1_i, l1_1, l1_0, l2_0, l2_1, l2_2, l2_3, l3_0, w2_0, w2_1, w2_2, w2_3, d1_0, d1_1, d1_2, d1_3, d2_i, d2_1, d2_0, ev_0, ev_1, ev_16, ev_17, ev_18, ev_2, ev_3, ev_4, ev_5, ev_6, ev_7, ev_8, ev_9, ev_20, ev_21, ev_22, ev_23, ev_24, ev_25, ev_27, ev_28, ev_30, ev_31, ev_32, ev_33, ev_34, ev_35, ev_36, ev_37, ev_38, ev_39, ev_40, ev_41, ev_42, ev_43, ev_45, ev_46, ev_47, ev_48, ev_49, ev_50, ev_51, ev_52, ev_54, ev_55, ev_57, ev_58, ev_59, k2_0, k2_1, k2_2, k3a, k3b, k4, o1_s, xbin_0, xbin_1, xbin_2, xbin_3, xbin_4, xbin_5, xbin_6, xbin_7, xbin_8, xbin_9, xbin_11, xbin_12, xun_0, xun_1, xun_2, xun_3, xun_4, xun_5, k6a, k8, k8b, k9, k20, k20b_0, k20b_1, k20b_2, k20b_3, k20b_4, k20b_5, k21_0, k21_1, k21_2, k21_3, k21_4, k21_5, k23, k24, k25, k27, k28, k40, nz_1, nz_2, nz_3, k31_0, k31_1, k31_2, k31_3, k32u, k33, k34, k35, k35b, k36, k37, k38, k47, k49, k49b_0, k49b_1, k49b_2, k49b_3, k50_0, k50_s, k51_0, k51_s, k55, k58, k58b, rk_0, rk_1, rk_2, rk_9, rk_3, rk_4, rk_5, sw_n, sw_c, xtb_n, xtb_c, lset_0, lset_2, lset_1, lkm_0, lkm_2, lkm_9, lkm_1, lkm_n, if_some1, c_10, c_01, c_x0, c_1x, c_n0, c_nn, List.getElem?_cons_zero, List.getElem?_cons_succ, List.set_cons_zero, List.set_cons_succ, List.length_cons, List.length_nil, Int.reduceToNat, Nat.reduceDiv, Nat.reduceMod, Nat.reduceSub, Nat.reduceAdd, Nat.reduceMul, Nat.reduceLT, Nat.reduceLeDiff, Nat.reduceEqDiff, Int.reduceMod, Int.reduceSub, Int.reduceNeg, Int.reduceAdd, Int.reduceMul, Int.reduceLT, Int.reduceLE, Int.reduceEq, put_ss, if_true, if_false, ite_true, ite_false, reduceIte, eq_self, and_true, true_and, and_false, false_and, or_true, true_or, or_false, false_or, not_true_eq_false, not_false_eq_true, k5_158_76, k34_158_76, k54_158_76, k54b_158_76_0, e76, Int.lt_irrefl]
    rfl
  | i :: l, A, k, C, N, z => fun hG hK hL h0 hl h hk hN => by
    have en : ngo (i :: l) = (if isG i then 1 else 0) + ngo l := rfl
    have el : (((i :: l).length : Nat) : Int) = (l.length : Int) + 1 := rfl
    rw [el] at hl
    rw [en] at h hk hN
    obtain ⟨G1, G2⟩ := hG
    obtain ⟨K1, K2⟩ := hK
    by_cases hg : isG i
    · rw [if_pos hg] at h hk hN G2 K2
      obtain ⟨N, rfl⟩ : ∃ n', N = n' + 1 := ⟨N - 1, by omega⟩
      obtain ⟨u, v⟩ := G1 hg
      have hlk := hL i (List.mem_cons_self ..) hg
      obtain ⟨p1, p2⟩ := hP i.2.2.toNat
      have hlt : (k : Int) < m 158 76 := by rw [h]; omega
      have e76 : cv C m 158 76 = m 158 76 := cv_o (by decide)
      have e196 : ∀ q, cv C m 196 q = m 196 q := fun q => cv_o (by decide)
      have e197 : ∀ q, cv C m 197 q = m 197 q := fun q => cv_o (by decide)
      have e198 : ∀ q, cv C m 198 q = m 198 q := fun q => cv_o (by decide)
      have e180 : ∀ q, cv C m 180 q = m 180 q := fun q => cv_o (by decide)
      have hki : (i.2.1 = 2 ↔ m 198 k = 1) := by
        have zz : (i.2.1 = 2 ↔ fM m (k : Int) = true) := K1 hg
        unfold fM at zz
        rw [Int.toNat_natCast, decide_eq_true_iff] at zz
        exact zz
      have eP : patG (gP m) (i :: l) A C = patG (gP m) l (A + 1) (if i.2.1 = 1 then vput C A.toNat (ior (C A.toNat) ((gP m i.2.2 - A - 1) % 4096)) else if i.2.1 = 2 then filC C A (gP m i.2.2) else C) := rfl
      have ecast : ((k + 1 : Nat) : Int) = (k : Int) + 1 := by omega
      have eg : gP m i.2.2 = m 180 i.2.2.toNat := rfl
      rw [eP, eg]
      rcases hg with hg | hg
      · have hz : m 198 k = 0 := by
          rcases h01 k with z | z
          · exact z
          · have := hki.mpr z
            omega
        have hzz : m 198 (k : Int).toNat = 0 := by rw [Int.toNat_natCast]; exact hz
        rw [if_pos hg]
        obtain ⟨z2, ih⟩ := L_289_4 hP h01 l (A + 1) (k + 1) (vput C A.toNat (ior (C A.toNat) ((m 180 i.2.2.toNat - A - 1) % 4096))) N (0, m 180 i.2.2.toNat) G2 K2 (fun i hi => hL i (List.mem_cons_of_mem _ hi)) (by omega) (by omega) (by rw [h]; omega) (by omega) (by omega)
        rw [ecast] at ih
        have e4 : put (cv C m) 195 A.toNat (ior (C A.toNat) ((m 180 i.2.2.toNat - A - 1) % 4096)) = cv (vput C A.toNat (ior (C A.toNat) ((m 180 i.2.2.toNat - A - 1) % 4096))) m := cv_p
        refine ⟨z2, ?_⟩
        rw [lf_s]
        simp (disch := omega) only [ea_289_4, eb_289_4, ec_289_4, l1_i, l1_1, l1_0, l2_0, l2_1, l2_2, l2_3, l3_0, w2_0, w2_1, w2_2, w2_3, d1_0, d1_1, d1_2, d1_3, d2_i, d2_1, d2_0, ev_0, ev_1, ev_16, ev_17, ev_18, ev_2, ev_3, ev_4, ev_5, ev_6, ev_7, ev_8, ev_9, ev_20, ev_21, ev_22, ev_23, ev_24, ev_25, ev_27, ev_28, ev_30, ev_31, ev_32, ev_33, ev_34, ev_35, ev_36, ev_37, ev_38, ev_39, ev_40, ev_41, ev_42, ev_43, ev_45, ev_46, ev_47, ev_48, ev_49, ev_50, ev_51, ev_52, ev_54, ev_55, ev_57, ev_58, ev_59, k2_0, k2_1, k2_2, k3a, k3b, k4, o1_s, xbin_0, xbin_1, xbin_2, xbin_3, xbin_4, xbin_5, xbin_6, xbin_7, xbin_8, xbin_9, xbin_11, xbin_12, xun_0, xun_1, xun_2, xun_3, xun_4, xun_5, k6a, k8, k8b, k9, k20, k20b_0, k20b_1, k20b_2, k20b_3, k20b_4, k20b_5, k21_0, k21_1, k21_2, k21_3, k21_4, k21_5, k23, k24, k25, k27, k28, k40, nz_1, nz_2, nz_3, k31_0, k31_1, k31_2, k31_3, k32u, k33, k34, k35, k35b, k36, k37, k38, k47, k49, k49b_0, k49b_1, k49b_2, k49b_3, k50_0, k50_s, k51_0, k51_s, k55, k58, k58b, rk_0, rk_1, rk_2, rk_9, rk_3, rk_4, rk_5, sw_n, sw_c, xtb_n, xtb_c, lset_0, lset_2, lset_1, lkm_0, lkm_2, lkm_9, lkm_1, lkm_n, if_some1, c_10, c_01, c_x0, c_1x, c_n0, c_nn, List.getElem?_cons_zero, List.getElem?_cons_succ, List.set_cons_zero, List.set_cons_succ, List.length_cons, List.length_nil, Int.reduceToNat, Nat.reduceDiv, Nat.reduceMod, Nat.reduceSub, Nat.reduceAdd, Nat.reduceMul, Nat.reduceLT, Nat.reduceLeDiff, Nat.reduceEqDiff, Int.reduceMod, Int.reduceSub, Int.reduceNeg, Int.reduceAdd, Int.reduceMul, Int.reduceLT, Int.reduceLE, Int.reduceEq, put_ss, if_true, if_false, ite_true, ite_false, reduceIte, eq_self, and_true, true_and, and_false, false_and, or_true, true_or, or_false, false_or, not_true_eq_false, not_false_eq_true, k5_158_76, k34_158_76, k54_158_76, k54b_158_76_0, k5_158_77, k6_196, k35_196, n_196, k5_158_78, k6_197, k35_197, n_197, k5_158_79, k6_198, k35_198, n_198, k5_158_45, k6_180, k35_180, n_180, k5_158_73, k6_195, k35_195, k55_195, k55c_195, n_195, e76, e196, e197, e198, e180, cv_195, hlt, u, v, hzz, w32_of, iand_4095, e4, ih]
        try rfl
      · have hz : m 198 k = 1 := hki.mp hg
        have hzz : m 198 (k : Int).toNat = 1 := by rw [Int.toNat_natCast]; exact hz
        rw [if_neg (by omega), if_pos hg]
        obtain ⟨z2, ih⟩ := L_289_4 hP h01 l (A + 1) (k + 1) (filC C A (m 180 i.2.2.toNat)) N (0, m 180 i.2.2.toNat) G2 K2 (fun i hi => hL i (List.mem_cons_of_mem _ hi)) (by omega) (by omega) (by rw [h]; omega) (by omega) (by omega)
        rw [ecast] at ih
        have c290 := fun D => M_290 (F := F) (L := L) (xs := xs) (d := D) (m := m) (C := C) (A := A) (v := m 180 i.2.2.toNat) (by omega) (by omega)
        refine ⟨z2, ?_⟩
        rw [lf_s]
        simp (disch := omega) only [ea_289_4, eb_289_4, ec_289_4, l1_i, l1_1, l1_0, l2_0, l2_1, l2_2, l2_3, l3_0, w2_0, w2_1, w2_2, w2_3, d1_0, d1_1, d1_2, d1_3, d2_i, d2_1, d2_0, ev_0, ev_1, ev_16, ev_17, ev_18, ev_2, ev_3, ev_4, ev_5, ev_6, ev_7, ev_8, ev_9, ev_20, ev_21, ev_22, ev_23, ev_24, ev_25, ev_27, ev_28, ev_30, ev_31, ev_32, ev_33, ev_34, ev_35, ev_36, ev_37, ev_38, ev_39, ev_40, ev_41, ev_42, ev_43, ev_45, ev_46, ev_47, ev_48, ev_49, ev_50, ev_51, ev_52, ev_54, ev_55, ev_57, ev_58, ev_59, k2_0, k2_1, k2_2, k3a, k3b, k4, o1_s, xbin_0, xbin_1, xbin_2, xbin_3, xbin_4, xbin_5, xbin_6, xbin_7, xbin_8, xbin_9, xbin_11, xbin_12, xun_0, xun_1, xun_2, xun_3, xun_4, xun_5, k6a, k8, k8b, k9, k20, k20b_0, k20b_1, k20b_2, k20b_3, k20b_4, k20b_5, k21_0, k21_1, k21_2, k21_3, k21_4, k21_5, k23, k24, k25, k27, k28, k40, nz_1, nz_2, nz_3, k31_0, k31_1, k31_2, k31_3, k32u, k33, k34, k35, k35b, k36, k37, k38, k47, k49, k49b_0, k49b_1, k49b_2, k49b_3, k50_0, k50_s, k51_0, k51_s, k55, k58, k58b, rk_0, rk_1, rk_2, rk_9, rk_3, rk_4, rk_5, sw_n, sw_c, xtb_n, xtb_c, lset_0, lset_2, lset_1, lkm_0, lkm_2, lkm_9, lkm_1, lkm_n, if_some1, c_10, c_01, c_x0, c_1x, c_n0, c_nn, List.getElem?_cons_zero, List.getElem?_cons_succ, List.set_cons_zero, List.set_cons_succ, List.length_cons, List.length_nil, Int.reduceToNat, Nat.reduceDiv, Nat.reduceMod, Nat.reduceSub, Nat.reduceAdd, Nat.reduceMul, Nat.reduceLT, Nat.reduceLeDiff, Nat.reduceEqDiff, Int.reduceMod, Int.reduceSub, Int.reduceNeg, Int.reduceAdd, Int.reduceMul, Int.reduceLT, Int.reduceLE, Int.reduceEq, put_ss, if_true, if_false, ite_true, ite_false, reduceIte, eq_self, and_true, true_and, and_false, false_and, or_true, true_or, or_false, false_or, not_true_eq_false, not_false_eq_true, k5_158_76, k34_158_76, k54_158_76, k54b_158_76_0, k5_158_77, k6_196, k35_196, n_196, k5_158_78, k6_197, k35_197, n_197, k5_158_79, k6_198, k35_198, n_198, k5_158_45, k6_180, k35_180, n_180, k5_158_73, k6_195, k35_195, k55_195, k55c_195, n_195, e76, e196, e197, e198, e180, cv_195, hlt, u, v, hzz, w32_of, c290, ih]
        try rfl
    · rw [if_neg hg] at h hk hN G2 K2
      have eP : patG (gP m) (i :: l) A C = patG (gP m) l (A + 1) (if i.2.1 = 1 then vput C A.toNat (ior (C A.toNat) ((gP m i.2.2 - A - 1) % 4096)) else if i.2.1 = 2 then filC C A (gP m i.2.2) else C) := rfl
      rw [eP, if_neg (fun z => hg (Or.inl z)), if_neg (fun z => hg (Or.inr z))]
      rw [Nat.zero_add] at h hk hN
      exact L_289_4 hP h01 l (A + 1) k C N z G2 K2 (fun i hi => hL i (List.mem_cons_of_mem _ hi)) (by omega) (by omega) h hk hN
end Fil
