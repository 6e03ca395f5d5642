/-! THE MODEL'S CLOCKS, told by the class's processor -/
def sgO (m : Mem) : Mem := fun a k => if a = 82 then sg (m 82 k) else m a k
section SgO
variable {m : Mem} {a k : Nat} {v : Int}
theorem sgO_78 : sgO m 78 k = m 78 k := (rfl)
theorem sgO_79 : sgO m 79 k = m 79 k := (rfl)
theorem sgO_80 : sgO m 80 k = m 80 k := (rfl)
theorem sgO_81 : sgO m 81 k = m 81 k := (rfl)
theorem sgO_82 : sgO m 82 k = sg (m 82 k) := (rfl)
theorem sgO_put (h : a ≠ 82) : sgO (put m a k v) = put (sgO m) a k v := by
  funext a' k'
  simp only [sgO, put_ss]
  by_cases h1 : a' = 82
  · have h2 : ¬ a' = a := fun z => h (z.symm.trans h1)
    have h3 : ¬ (82 : Nat) = a := fun z => h z.symm
    simp only [h1, h3, if_true, if_false]
  · simp only [h1, if_false]
theorem sgO_put2 : sgO (put m 82 k v) = put (sgO m) 82 k (sg v) := by
  funext a' k'
  simp only [sgO, put_ss, if_true]
  by_cases h1 : a' = 82
  · simp only [h1, if_true]
    by_cases h2 : k' = k
    · simp only [h2, if_true]
    · simp only [h2, if_false]
  · simp only [h1, if_false]
theorem nx_sg : nx (sgO m) = sgO (nx m) := by
  unfold nx
  rw [sgO_put (by decide), sgO_put (by decide)]
  rfl
theorem act_sg : act (sgO m) = sgO (act m) := by
  simp only [act, sgO_78, sgO_80]
  repeat' split
  all_goals first | exact nx_sg | (simp only [sgO_put, ne_eq, Nat.reduceEqDiff, not_false_eq_true, ← nx_sg])
theorem giv_sg : giv sg (sgO m) = sgO (giv id m) := by
  simp only [giv, sgO_78]
  repeat' split
  all_goals first | rfl | (simp only [sgO_put, sgO_put2, ne_eq, Nat.reduceEqDiff, not_false_eq_true, id])
theorem tkn_sg : tkn (sgO m) = sgO (tkn m) := by
  simp only [tkn, sgO_78]
  split
  · rw [sgO_put (by decide)]
  · rfl
theorem tik_sg : tik sg (sgO m) = sgO (tik id m) := by
  have e1 : dat (sgO m) = dat m := rfl
  simp only [tik, sgO_78, act_sg, giv_sg, e1]
  split
  · rw [sgO_put (by decide), sgO_put (by decide), sgO_put (by decide)]
  split
  · rfl
  split
  · rw [← nx_sg, ← tkn_sg, sgO_put (by decide)]
  · rw [nx_sg]
theorem WM_sg (W : WM m) : WM (sgO m) := W
end SgO
def wmG (G m : Mem) : Mem := wm (sgO G) (G 78 12) (G 78 13) m
theorem wm_stp {G m : Mem} : wm (tik sg (sgO G)) (G 78 12 + 1) (G 78 13 + 1) m = wmG (stp G) m := by
  have e12 : tik id G 78 12 = G 78 12 := tik_f 12 (by omega)
  have e13 : tik id G 78 13 = G 78 13 := tik_f 13 (by omega)
  have s12 : stp G 78 12 = tik id G 78 12 + 1 := rfl
  have s13 : stp G 78 13 = tik id G 78 13 + 1 := rfl
  unfold wmG
  rw [s12, s13, e12, e13, tik_sg]
  rfl
section AdvM
variable {L : Nat} {xs : Nat → Int32} {G m : Mem} {F d : Nat} {q : Int}
theorem L_327 : ∀ (j n : Nat) (G : Mem) (k : Int), WC G → 0 ≤ k → k + j = q → q ≤ 20000 → j < n → LF F (d + 4) la_327_0 lb_327_0 lc_327_0 n ([(2, 158), (0, q), (0, k)], Hp L xs (wmG G m)) = some (0, [], ([(2, 158), (0, q), (0, k + ((adv j G).1 : Int))], Hp L xs (wmG (adv j G).2 m))) := by
  intro j
  induction j with
  | zero =>
    intro n G k W hk hq hq2 hn
    obtain ⟨n, rfl⟩ : ∃ n', n = n' + 1 := ⟨n - 1, by omega⟩
    have hkq : ¬ k < q := by omega
    rw [lf_s]
    simp (disch := omega) only [ea_327_0, eb_327_0, ec_327_0, ev_0, ev_1, ev_16, ev_17, ev_18, ev_2, ev_3, ev_4, ev_5, ev_6, ev_7, ev_8, ev_9, ev_20, ev_21, ev_22, ev_23, ev_24, ev_25, ev_27, ev_28, ev_30, ev_31, ev_32, ev_33, ev_34, ev_35, ev_36, ev_37, ev_38, ev_39, ev_40, ev_41, ev_42, ev_43, ev_45, ev_46, ev_47, ev_48, ev_49, ev_50, ev_51, ev_52, ev_54, ev_55, ev_57, ev_58, ev_59, k2_0, k2_1, k2_2, k3a, k3b, k4, o1_s, xbin_0, xbin_1, xbin_2, xbin_3, xbin_4, xbin_5, xbin_6, xbin_7, xbin_8, xbin_9, xbin_11, xbin_12, xun_0, xun_1, xun_2, xun_3, xun_4, xun_5, k6a, k8, k8b, k9, k20, k20b_0, k20b_1, k20b_2, k20b_3, k20b_4, k20b_5, k21_0, k21_1, k21_2, k21_3, k21_4, k21_5, k23, k24, k25, k27, k28, k40, nz_1, nz_2, nz_3, k31_0, k31_1, k31_2, k31_3, k32u, k33, k34, k35, k35b, k36, k37, k38, k47, k49, k49b_0, k49b_1, k49b_2, k49b_3, k50_0, k50_s, k51_0, k51_s, k55, k58, k58b, rk_0, rk_1, rk_2, rk_9, rk_3, rk_4, rk_5, sw_n, sw_c, xtb_n, xtb_c, lset_0, lset_2, lset_1, lkm_0, lkm_2, lkm_9, lkm_1, lkm_n, if_some1, c_10, c_01, c_x0, c_1x, c_n0, c_nn, List.getElem?_cons_zero, List.getElem?_cons_succ, List.set_cons_zero, List.set_cons_succ, List.length_cons, List.length_nil, Int.reduceToNat, Nat.reduceDiv, Nat.reduceMod, Nat.reduceSub, Nat.reduceAdd, Nat.reduceMul, Nat.reduceLT, Nat.reduceLeDiff, Nat.reduceEqDiff, Int.reduceMod, Int.reduceSub, Int.reduceNeg, Int.reduceAdd, Int.reduceMul, Int.reduceLT, Int.reduceLE, Int.reduceEq, put_ss, if_true, if_false, ite_true, ite_false, reduceIte, eq_self, and_true, true_and, and_false, false_and, or_true, true_or, or_false, false_or, not_true_eq_false, not_false_eq_true, hkq, l1_i, l1_1, l1_0, l2_0, l2_1, l2_2, l2_3, l3_0, w2_0, w2_1, w2_2, w2_3, d1_0, d1_1, d1_2, d1_3, d2_i, d2_1, d2_0, adv, Int.natCast_zero, Int.add_zero]
  | succ j ih =>
    intro n G k W hk hq hq2 hn
    obtain ⟨n, rfl⟩ : ∃ n', n = n' + 1 := ⟨n - 1, by omega⟩
    have hkq : k < q := by omega
    have C1 := M_311 (L := L) (xs := xs) (V := sgO G) (F := F) (d := d + 2) (c := G 78 12) (e := G 78 13) (m := m) W.1.2.1
    rw [lf_s]
    unfold adv
    by_cases hs : stopd G
    · rw [if_pos hs]
      have hh : ¬ (¬ (G 78 6 = 1 ∧ G 78 3 / 4096 = 15) ∧ G 78 13 < 1000000) := fun z => by
        rcases hs with h1 | h1
        · omega
        · exact z.1 h1
      simp (disch := omega) only [ea_327_0, eb_327_0, ec_327_0, ev_0, ev_1, ev_16, ev_17, ev_18, ev_2, ev_3, ev_4, ev_5, ev_6, ev_7, ev_8, ev_9, ev_20, ev_21, ev_22, ev_23, ev_24, ev_25, ev_27, ev_28, ev_30, ev_31, ev_32, ev_33, ev_34, ev_35, ev_36, ev_37, ev_38, ev_39, ev_40, ev_41, ev_42, ev_43, ev_45, ev_46, ev_47, ev_48, ev_49, ev_50, ev_51, ev_52, ev_54, ev_55, ev_57, ev_58, ev_59, k2_0, k2_1, k2_2, k3a, k3b, k4, o1_s, xbin_0, xbin_1, xbin_2, xbin_3, xbin_4, xbin_5, xbin_6, xbin_7, xbin_8, xbin_9, xbin_11, xbin_12, xun_0, xun_1, xun_2, xun_3, xun_4, xun_5, k6a, k8, k8b, k9, k20, k20b_0, k20b_1, k20b_2, k20b_3, k20b_4, k20b_5, k21_0, k21_1, k21_2, k21_3, k21_4, k21_5, k23, k24, k25, k27, k28, k40, nz_1, nz_2, nz_3, k31_0, k31_1, k31_2, k31_3, k32u, k33, k34, k35, k35b, k36, k37, k38, k47, k49, k49b_0, k49b_1, k49b_2, k49b_3, k50_0, k50_s, k51_0, k51_s, k55, k58, k58b, rk_0, rk_1, rk_2, rk_9, rk_3, rk_4, rk_5, sw_n, sw_c, xtb_n, xtb_c, lset_0, lset_2, lset_1, lkm_0, lkm_2, lkm_9, lkm_1, lkm_n, if_some1, c_10, c_01, c_x0, c_1x, c_n0, c_nn, List.getElem?_cons_zero, List.getElem?_cons_succ, List.set_cons_zero, List.set_cons_succ, List.length_cons, List.length_nil, Int.reduceToNat, Nat.reduceDiv, Nat.reduceMod, Nat.reduceSub, Nat.reduceAdd, Nat.reduceMul, Nat.reduceLT, Nat.reduceLeDiff, Nat.reduceEqDiff, Int.reduceMod, Int.reduceSub, Int.reduceNeg, Int.reduceAdd, Int.reduceMul, Int.reduceLT, Int.reduceLE, Int.reduceEq, put_ss, if_true, if_false, ite_true, ite_false, reduceIte, eq_self, and_true, true_and, and_false, false_and, or_true, true_or, or_false, false_or, not_true_eq_false, not_false_eq_true, hkq, l1_i, l1_1, l1_0, l2_0, l2_1, l2_2, l2_3, l3_0, w2_0, w2_1, w2_2, w2_3, d1_0, d1_1, d1_2, d1_3, d2_i, d2_1, d2_0, wmG, C1, sgO_78, hh, Int.natCast_zero, Int.add_zero]
    · rw [if_neg hs]
      have hh : ¬ (G 78 6 = 1 ∧ G 78 3 / 4096 = 15) ∧ G 78 13 < 1000000 := ⟨fun z => hs (Or.inr z), by
        by_cases h1 : G 78 13 < 1000000
        · exact h1
        · exact absurd (Or.inl (by omega)) hs⟩
      have w := W.2
      have C2 := M_312 (L := L) (xs := xs) (F := F) (d := d) (m := m) (WM_sg W.1) (c := G 78 12) (e := G 78 13) (by omega) (by omega)
      have IH := ih n (stp G) (k + 1) (WC_stp W hh.2) (by omega) (by omega) hq2 (by omega)
      rw [wm_stp] at C2
      unfold wmG at C2 IH ⊢
      simp (disch := omega) only [ea_327_0, eb_327_0, ec_327_0, ev_0, ev_1, ev_16, ev_17, ev_18, ev_2, ev_3, ev_4, ev_5, ev_6, ev_7, ev_8, ev_9, ev_20, ev_21, ev_22, ev_23, ev_24, ev_25, ev_27, ev_28, ev_30, ev_31, ev_32, ev_33, ev_34, ev_35, ev_36, ev_37, ev_38, ev_39, ev_40, ev_41, ev_42, ev_43, ev_45, ev_46, ev_47, ev_48, ev_49, ev_50, ev_51, ev_52, ev_54, ev_55, ev_57, ev_58, ev_59, k2_0, k2_1, k2_2, k3a, k3b, k4, o1_s, xbin_0, xbin_1, xbin_2, xbin_3, xbin_4, xbin_5, xbin_6, xbin_7, xbin_8, xbin_9, xbin_11, xbin_12, xun_0, xun_1, xun_2, xun_3, xun_4, xun_5, k6a, k8, k8b, k9, k20, k20b_0, k20b_1, k20b_2, k20b_3, k20b_4, k20b_5, k21_0, k21_1, k21_2, k21_3, k21_4, k21_5, k23, k24, k25, k27, k28, k40, nz_1, nz_2, nz_3, k31_0, k31_1, k31_2, k31_3, k32u, k33, k34, k35, k35b, k36, k37, k38, k47, k49, k49b_0, k49b_1, k49b_2, k49b_3, k50_0, k50_s, k51_0, k51_s, k55, k58, k58b, rk_0, rk_1, rk_2, rk_9, rk_3, rk_4, rk_5, sw_n, sw_c, xtb_n, xtb_c, lset_0, lset_2, lset_1, lkm_0, lkm_2, lkm_9, lkm_1, lkm_n, if_some1, c_10, c_01, c_x0, c_1x, c_n0, c_nn, List.getElem?_cons_zero, List.getElem?_cons_succ, List.set_cons_zero, List.set_cons_succ, List.length_cons, List.length_nil, Int.reduceToNat, Nat.reduceDiv, Nat.reduceMod, Nat.reduceSub, Nat.reduceAdd, Nat.reduceMul, Nat.reduceLT, Nat.reduceLeDiff, Nat.reduceEqDiff, Int.reduceMod, Int.reduceSub, Int.reduceNeg, Int.reduceAdd, Int.reduceMul, Int.reduceLT, Int.reduceLE, Int.reduceEq, put_ss, if_true, if_false, ite_true, ite_false, reduceIte, eq_self, and_true, true_and, and_false, false_and, or_true, true_or, or_false, false_or, not_true_eq_false, not_false_eq_true, hkq, l1_i, l1_1, l1_0, l2_0, l2_1, l2_2, l2_3, l3_0, w2_0, w2_1, w2_2, w2_3, d1_0, d1_1, d1_2, d1_3, d2_i, d2_1, d2_0, C1, C2, sgO_78, hh, w32_of, IH]
      rw [show k + 1 + ((adv j (stp G)).1 : Int) = k + (((adv j (stp G)).1 + 1 : Nat) : Int) by omega]
theorem M_327 (W : WC G) (h0 : 0 ≤ q) (h1 : q ≤ 5000) (hF : 100000 ≤ F) : Cx F (d + 5) 327 [158, q] (Hp L xs (wmG G m)) = some ([((adv q.toNat G).1 : Int)], Hp L xs (wmG (adv q.toNat G).2 m)) := by
  have H := L_327 (L := L) (xs := xs) (F := F) (d := d) (q := q) (m := m) q.toNat F G 0 W (by omega) (by omega) (by omega) (by omega)
  have g1 : ¬ q < 0 := by omega
  have g2 : ¬ 5000 < q := by omega
  simp only [c_327, tx_327, ev_0, ev_1, ev_16, ev_17, ev_18, ev_2, ev_3, ev_4, ev_5, ev_6, ev_7, ev_8, ev_9, ev_20, ev_21, ev_22, ev_23, ev_24, ev_25, ev_27, ev_28, ev_30, ev_31, ev_32, ev_33, ev_34, ev_35, ev_36, ev_37, ev_38, ev_39, ev_40, ev_41, ev_42, ev_43, ev_45, ev_46, ev_47, ev_48, ev_49, ev_50, ev_51, ev_52, ev_54, ev_55, ev_57, ev_58, ev_59, k2_0, k2_1, k2_2, k3a, k3b, k4, o1_s, xbin_0, xbin_1, xbin_2, xbin_3, xbin_4, xbin_5, xbin_6, xbin_7, xbin_8, xbin_9, xbin_11, xbin_12, xun_0, xun_1, xun_2, xun_3, xun_4, xun_5, k6a, k8, k8b, k9, k20, k20b_0, k20b_1, k20b_2, k20b_3, k20b_4, k20b_5, k21_0, k21_1, k21_2, k21_3, k21_4, k21_5, k23, k24, k25, k27, k28, k40, nz_1, nz_2, nz_3, k31_0, k31_1, k31_2, k31_3, k32u, k33, k34, k35, k35b, k36, k37, k38, k47, k49, k49b_0, k49b_1, k49b_2, k49b_3, k50_0, k50_s, k51_0, k51_s, k55, k58, k58b, rk_0, rk_1, rk_2, rk_9, rk_3, rk_4, rk_5, sw_n, sw_c, xtb_n, xtb_c, lset_0, lset_2, lset_1, lkm_0, lkm_2, lkm_9, lkm_1, lkm_n, if_some1, c_10, c_01, c_x0, c_1x, c_n0, c_nn, List.getElem?_cons_zero, List.getElem?_cons_succ, List.set_cons_zero, List.set_cons_succ, List.length_cons, List.length_nil, Int.reduceToNat, Nat.reduceDiv, Nat.reduceMod, Nat.reduceSub, Nat.reduceAdd, Nat.reduceMul, Nat.reduceLT, Nat.reduceLeDiff, Nat.reduceEqDiff, Int.reduceMod, Int.reduceSub, Int.reduceNeg, Int.reduceAdd, Int.reduceMul, Int.reduceLT, Int.reduceLE, Int.reduceEq, put_ss, if_true, if_false, ite_true, ite_false, reduceIte, eq_self, and_true, true_and, and_false, false_and, or_true, true_or, or_false, false_or, not_true_eq_false, not_false_eq_true, g1, g2, H, Int.zero_add]
theorem L_328 : ∀ (j n : Nat) (G : Mem) (k : Int) (z : Nat × Int), WC G → 0 ≤ k → k + j = 20000 → j < n → LF F (d + 4) la_328_0 lb_328_0 lc_328_0 n ([(2, 158), (0, k), z], Hp L xs (wmG G m)) = some (0, [], ([(2, 158), (0, k + ((adv j G).1 : Int)), z], Hp L xs (wmG (adv j G).2 m))) := by
  intro j
  induction j with
  | zero =>
    intro n G k z W hk hq hn
    obtain ⟨n, rfl⟩ : ∃ n', n = n' + 1 := ⟨n - 1, by omega⟩
    have hkq : ¬ k < 20000 := by omega
    rw [lf_s]
    simp (disch := omega) only [ea_328_0, eb_328_0, ec_328_0, ev_0, ev_1, ev_16, ev_17, ev_18, ev_2, ev_3, ev_4, ev_5, ev_6, ev_7, ev_8, ev_9, ev_20, ev_21, ev_22, ev_23, ev_24, ev_25, ev_27, ev_28, ev_30, ev_31, ev_32, ev_33, ev_34, ev_35, ev_36, ev_37, ev_38, ev_39, ev_40, ev_41, ev_42, ev_43, ev_45, ev_46, ev_47, ev_48, ev_49, ev_50, ev_51, ev_52, ev_54, ev_55, ev_57, ev_58, ev_59, k2_0, k2_1, k2_2, k3a, k3b, k4, o1_s, xbin_0, xbin_1, xbin_2, xbin_3, xbin_4, xbin_5, xbin_6, xbin_7, xbin_8, xbin_9, xbin_11, xbin_12, xun_0, xun_1, xun_2, xun_3, xun_4, xun_5, k6a, k8, k8b, k9, k20, k20b_0, k20b_1, k20b_2, k20b_3, k20b_4, k20b_5, k21_0, k21_1, k21_2, k21_3, k21_4, k21_5, k23, k24, k25, k27, k28, k40, nz_1, nz_2, nz_3, k31_0, k31_1, k31_2, k31_3, k32u, k33, k34, k35, k35b, k36, k37, k38, k47, k49, k49b_0, k49b_1, k49b_2, k49b_3, k50_0, k50_s, k51_0, k51_s, k55, k58, k58b, rk_0, rk_1, rk_2, rk_9, rk_3, rk_4, rk_5, sw_n, sw_c, xtb_n, xtb_c, lset_0, lset_2, lset_1, lkm_0, lkm_2, lkm_9, lkm_1, lkm_n, if_some1, c_10, c_01, c_x0, c_1x, c_n0, c_nn, List.getElem?_cons_zero, List.getElem?_cons_succ, List.set_cons_zero, List.set_cons_succ, List.length_cons, List.length_nil, Int.reduceToNat, Nat.reduceDiv, Nat.reduceMod, Nat.reduceSub, Nat.reduceAdd, Nat.reduceMul, Nat.reduceLT, Nat.reduceLeDiff, Nat.reduceEqDiff, Int.reduceMod, Int.reduceSub, Int.reduceNeg, Int.reduceAdd, Int.reduceMul, Int.reduceLT, Int.reduceLE, Int.reduceEq, put_ss, if_true, if_false, ite_true, ite_false, reduceIte, eq_self, and_true, true_and, and_false, false_and, or_true, true_or, or_false, false_or, not_true_eq_false, not_false_eq_true, hkq, l1_i, l1_1, l1_0, l2_0, l2_1, l2_2, l2_3, l3_0, w2_0, w2_1, w2_2, w2_3, d1_0, d1_1, d1_2, d1_3, d2_i, d2_1, d2_0, adv, Int.natCast_zero, Int.add_zero]
  | succ j ih =>
    intro n G k z W hk hq hn
    obtain ⟨n, rfl⟩ : ∃ n', n = n' + 1 := ⟨n - 1, by omega⟩
    have hkq : k < 20000 := by omega
    have C1 := M_311 (L := L) (xs := xs) (V := sgO G) (F := F) (d := d + 2) (c := G 78 12) (e := G 78 13) (m := m) W.1.2.1
    rw [lf_s]
    unfold adv
    by_cases hs : stopd G
    · rw [if_pos hs]
      have hh : ¬ (¬ (G 78 6 = 1 ∧ G 78 3 / 4096 = 15) ∧ G 78 13 < 1000000) := fun z => by
        rcases hs with h1 | h1
        · omega
        · exact z.1 h1
      simp (disch := omega) only [ea_328_0, eb_328_0, ec_328_0, ev_0, ev_1, ev_16, ev_17, ev_18, ev_2, ev_3, ev_4, ev_5, ev_6, ev_7, ev_8, ev_9, ev_20, ev_21, ev_22, ev_23, ev_24, ev_25, ev_27, ev_28, ev_30, ev_31, ev_32, ev_33, ev_34, ev_35, ev_36, ev_37, ev_38, ev_39, ev_40, ev_41, ev_42, ev_43, ev_45, ev_46, ev_47, ev_48, ev_49, ev_50, ev_51, ev_52, ev_54, ev_55, ev_57, ev_58, ev_59, k2_0, k2_1, k2_2, k3a, k3b, k4, o1_s, xbin_0, xbin_1, xbin_2, xbin_3, xbin_4, xbin_5, xbin_6, xbin_7, xbin_8, xbin_9, xbin_11, xbin_12, xun_0, xun_1, xun_2, xun_3, xun_4, xun_5, k6a, k8, k8b, k9, k20, k20b_0, k20b_1, k20b_2, k20b_3, k20b_4, k20b_5, k21_0, k21_1, k21_2, k21_3, k21_4, k21_5, k23, k24, k25, k27, k28, k40, nz_1, nz_2, nz_3, k31_0, k31_1, k31_2, k31_3, k32u, k33, k34, k35, k35b, k36, k37, k38, k47, k49, k49b_0, k49b_1, k49b_2, k49b_3, k50_0, k50_s, k51_0, k51_s, k55, k58, k58b, rk_0, rk_1, rk_2, rk_9, rk_3, rk_4, rk_5, sw_n, sw_c, xtb_n, xtb_c, lset_0, lset_2, lset_1, lkm_0, lkm_2, lkm_9, lkm_1, lkm_n, if_some1, c_10, c_01, c_x0, c_1x, c_n0, c_nn, List.getElem?_cons_zero, List.getElem?_cons_succ, List.set_cons_zero, List.set_cons_succ, List.length_cons, List.length_nil, Int.reduceToNat, Nat.reduceDiv, Nat.reduceMod, Nat.reduceSub, Nat.reduceAdd, Nat.reduceMul, Nat.reduceLT, Nat.reduceLeDiff, Nat.reduceEqDiff, Int.reduceMod, Int.reduceSub, Int.reduceNeg, Int.reduceAdd, Int.reduceMul, Int.reduceLT, Int.reduceLE, Int.reduceEq, put_ss, if_true, if_false, ite_true, ite_false, reduceIte, eq_self, and_true, true_and, and_false, false_and, or_true, true_or, or_false, false_or, not_true_eq_false, not_false_eq_true, hkq, l1_i, l1_1, l1_0, l2_0, l2_1, l2_2, l2_3, l3_0, w2_0, w2_1, w2_2, w2_3, d1_0, d1_1, d1_2, d1_3, d2_i, d2_1, d2_0, wmG, C1, sgO_78, hh, Int.natCast_zero, Int.add_zero]
    · rw [if_neg hs]
      have hh : ¬ (G 78 6 = 1 ∧ G 78 3 / 4096 = 15) ∧ G 78 13 < 1000000 := ⟨fun z => hs (Or.inr z), by
        by_cases h1 : G 78 13 < 1000000
        · exact h1
        · exact absurd (Or.inl (by omega)) hs⟩
      have w := W.2
      have C2 := M_312 (L := L) (xs := xs) (F := F) (d := d) (m := m) (WM_sg W.1) (c := G 78 12) (e := G 78 13) (by omega) (by omega)
      have IH := ih n (stp G) (k + 1) z (WC_stp W hh.2) (by omega) (by omega) (by omega)
      rw [wm_stp] at C2
      unfold wmG at C2 IH ⊢
      simp (disch := omega) only [ea_328_0, eb_328_0, ec_328_0, ev_0, ev_1, ev_16, ev_17, ev_18, ev_2, ev_3, ev_4, ev_5, ev_6, ev_7, ev_8, ev_9, ev_20, ev_21, ev_22, ev_23, ev_24, ev_25, ev_27, ev_28, ev_30, ev_31, ev_32, ev_33, ev_34, ev_35, ev_36, ev_37, ev_38, ev_39, ev_40, ev_41, ev_42, ev_43, ev_45, ev_46, ev_47, ev_48, ev_49, ev_50, ev_51, ev_52, ev_54, ev_55, ev_57, ev_58, ev_59, k2_0, k2_1, k2_2, k3a, k3b, k4, o1_s, xbin_0, xbin_1, xbin_2, xbin_3, xbin_4, xbin_5, xbin_6, xbin_7, xbin_8, xbin_9, xbin_11, xbin_12, xun_0, xun_1, xun_2, xun_3, xun_4, xun_5, k6a, k8, k8b, k9, k20, k20b_0, k20b_1, k20b_2, k20b_3, k20b_4, k20b_5, k21_0, k21_1, k21_2, k21_3, k21_4, k21_5, k23, k24, k25, k27, k28, k40, nz_1, nz_2, nz_3, k31_0, k31_1, k31_2, k31_3, k32u, k33, k34, k35, k35b, k36, k37, k38, k47, k49, k49b_0, k49b_1, k49b_2, k49b_3, k50_0, k50_s, k51_0, k51_s, k55, k58, k58b, rk_0, rk_1, rk_2, rk_9, rk_3, rk_4, rk_5, sw_n, sw_c, xtb_n, xtb_c, lset_0, lset_2, lset_1, lkm_0, lkm_2, lkm_9, lkm_1, lkm_n, if_some1, c_10, c_01, c_x0, c_1x, c_n0, c_nn, List.getElem?_cons_zero, List.getElem?_cons_succ, List.set_cons_zero, List.set_cons_succ, List.length_cons, List.length_nil, Int.reduceToNat, Nat.reduceDiv, Nat.reduceMod, Nat.reduceSub, Nat.reduceAdd, Nat.reduceMul, Nat.reduceLT, Nat.reduceLeDiff, Nat.reduceEqDiff, Int.reduceMod, Int.reduceSub, Int.reduceNeg, Int.reduceAdd, Int.reduceMul, Int.reduceLT, Int.reduceLE, Int.reduceEq, put_ss, if_true, if_false, ite_true, ite_false, reduceIte, eq_self, and_true, true_and, and_false, false_and, or_true, true_or, or_false, false_or, not_true_eq_false, not_false_eq_true, hkq, l1_i, l1_1, l1_0, l2_0, l2_1, l2_2, l2_3, l3_0, w2_0, w2_1, w2_2, w2_3, d1_0, d1_1, d1_2, d1_3, d2_i, d2_1, d2_0, C1, C2, sgO_78, hh, w32_of, IH]
      rw [show k + 1 + ((adv j (stp G)).1 : Int) = k + (((adv j (stp G)).1 + 1 : Nat) : Int) by omega]
end AdvM
