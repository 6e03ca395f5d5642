/-! THE MAKER: links, make -/
def lbl (labs : List Int) (l : Int) : Int := if l < 0 ∨ (labs.length : Int) ≤ l then -1 else labs.getD l.toNat 0
def lnk (labs : List Int) (x : Int × Int × Int) : Int × Int × Int := (x.1, x.2.1, lbl labs x.2.2)
section Lnk
variable {L : Nat} {xs : Nat → Int32} {F d cd : Nat} {m X : Mem} {p H v a1 : Int} {s : xSt} {y : yS}
theorem C_89 (hc : cd = 83 ∨ cd = 93) (hyl : y.1.length ≤ 3000) : Cx F (d + 1) 89 [68, a1] (Hp L xs (mv cd p s (sww H y m))) = some ([lbl y.1 a1], Hp L xs (mv cd p s (sww H y m))) := by
  have o1 : ∀ k, mv cd p s (sww H y m) 70 k = sww H y m 70 k := fun k => mv_o hc (by decide) (by decide)
  unfold lbl
  by_cases h0 : a1 < 0
  · simp (disch := first | omega | assumption) only [c_89, tr_89, ev_0, ev_1, ev_16, ev_17, ev_18, ev_2, ev_3, ev_4, ev_5, ev_6, ev_7, ev_8, ev_9, ev_20, ev_21, ev_22, ev_23, ev_24, ev_25, ev_27, ev_28, ev_30, ev_31, ev_32, ev_33, ev_34, ev_35, ev_36, ev_37, ev_38, ev_39, ev_40, ev_41, ev_42, ev_43, ev_45, ev_46, ev_47, ev_48, ev_49, ev_50, ev_51, ev_52, ev_54, ev_55, ev_57, ev_58, ev_59, k2_0, k2_1, k2_2, k3a, k3b, k4, o1_s, xbin_0, xbin_1, xbin_2, xbin_3, xbin_4, xbin_5, xbin_6, xbin_7, xbin_8, xbin_9, xbin_11, xbin_12, xun_0, xun_1, xun_2, xun_3, xun_4, xun_5, k6a, k8, k8b, k9, k20, k20b_0, k20b_1, k20b_2, k20b_3, k20b_4, k20b_5, k21_0, k21_1, k21_2, k21_3, k21_4, k21_5, k23, k24, k25, k27, k28, k40, nz_1, nz_2, nz_3, k31_0, k31_1, k31_2, k31_3, k32u, k33, k34, k35, k35b, k36, k37, k38, k47, k49, k49b_0, k49b_1, k49b_2, k49b_3, k50_0, k50_s, k51_0, k51_s, k55, k58, k58b, rk_0, rk_1, rk_2, rk_9, rk_3, rk_4, rk_5, sw_n, sw_c, xtb_n, xtb_c, lset_0, lset_2, lset_1, lkm_0, lkm_2, lkm_9, lkm_1, lkm_n, if_some1, c_10, c_01, c_x0, c_1x, c_n0, c_nn, List.getElem?_cons_zero, List.getElem?_cons_succ, List.set_cons_zero, List.set_cons_succ, List.length_cons, List.length_nil, Int.reduceToNat, Nat.reduceDiv, Nat.reduceMod, Nat.reduceSub, Nat.reduceAdd, Nat.reduceMul, Nat.reduceLT, Nat.reduceLeDiff, Nat.reduceEqDiff, Int.reduceMod, Int.reduceSub, Int.reduceNeg, Int.reduceAdd, Int.reduceMul, Int.reduceLT, Int.reduceLE, Int.reduceEq, put_ss, if_true, if_false, ite_true, ite_false, reduceIte, eq_self, and_true, true_and, and_false, false_and, or_true, true_or, or_false, false_or, not_true_eq_false, not_false_eq_true, k5_68_12, k34_68_12, k54_68_12, k54b_68_12_0, k5_68_11, k6_70, k35_70, n_70, mv_12, sw_12, h0]
  · by_cases h1 : (y.1.length : Int) ≤ a1
    · simp (disch := first | omega | assumption) only [c_89, tr_89, ev_0, ev_1, ev_16, ev_17, ev_18, ev_2, ev_3, ev_4, ev_5, ev_6, ev_7, ev_8, ev_9, ev_20, ev_21, ev_22, ev_23, ev_24, ev_25, ev_27, ev_28, ev_30, ev_31, ev_32, ev_33, ev_34, ev_35, ev_36, ev_37, ev_38, ev_39, ev_40, ev_41, ev_42, ev_43, ev_45, ev_46, ev_47, ev_48, ev_49, ev_50, ev_51, ev_52, ev_54, ev_55, ev_57, ev_58, ev_59, k2_0, k2_1, k2_2, k3a, k3b, k4, o1_s, xbin_0, xbin_1, xbin_2, xbin_3, xbin_4, xbin_5, xbin_6, xbin_7, xbin_8, xbin_9, xbin_11, xbin_12, xun_0, xun_1, xun_2, xun_3, xun_4, xun_5, k6a, k8, k8b, k9, k20, k20b_0, k20b_1, k20b_2, k20b_3, k20b_4, k20b_5, k21_0, k21_1, k21_2, k21_3, k21_4, k21_5, k23, k24, k25, k27, k28, k40, nz_1, nz_2, nz_3, k31_0, k31_1, k31_2, k31_3, k32u, k33, k34, k35, k35b, k36, k37, k38, k47, k49, k49b_0, k49b_1, k49b_2, k49b_3, k50_0, k50_s, k51_0, k51_s, k55, k58, k58b, rk_0, rk_1, rk_2, rk_9, rk_3, rk_4, rk_5, sw_n, sw_c, xtb_n, xtb_c, lset_0, lset_2, lset_1, lkm_0, lkm_2, lkm_9, lkm_1, lkm_n, if_some1, c_10, c_01, c_x0, c_1x, c_n0, c_nn, List.getElem?_cons_zero, List.getElem?_cons_succ, List.set_cons_zero, List.set_cons_succ, List.length_cons, List.length_nil, Int.reduceToNat, Nat.reduceDiv, Nat.reduceMod, Nat.reduceSub, Nat.reduceAdd, Nat.reduceMul, Nat.reduceLT, Nat.reduceLeDiff, Nat.reduceEqDiff, Int.reduceMod, Int.reduceSub, Int.reduceNeg, Int.reduceAdd, Int.reduceMul, Int.reduceLT, Int.reduceLE, Int.reduceEq, put_ss, if_true, if_false, ite_true, ite_false, reduceIte, eq_self, and_true, true_and, and_false, false_and, or_true, true_or, or_false, false_or, not_true_eq_false, not_false_eq_true, k5_68_12, k34_68_12, k54_68_12, k54b_68_12_0, k5_68_11, k6_70, k35_70, n_70, mv_12, sw_12, h0, h1]
    · have e1 : sww H y m 70 a1.toNat = y.1.getD a1.toNat 0 := by
        show (if a1.toNat < y.1.length then y.1.getD a1.toNat 0 else m 70 a1.toNat) = _
        rw [if_pos (by omega)]
      simp (disch := first | omega | assumption) only [c_89, tr_89, ev_0, ev_1, ev_16, ev_17, ev_18, ev_2, ev_3, ev_4, ev_5, ev_6, ev_7, ev_8, ev_9, ev_20, ev_21, ev_22, ev_23, ev_24, ev_25, ev_27, ev_28, ev_30, ev_31, ev_32, ev_33, ev_34, ev_35, ev_36, ev_37, ev_38, ev_39, ev_40, ev_41, ev_42, ev_43, ev_45, ev_46, ev_47, ev_48, ev_49, ev_50, ev_51, ev_52, ev_54, ev_55, ev_57, ev_58, ev_59, k2_0, k2_1, k2_2, k3a, k3b, k4, o1_s, xbin_0, xbin_1, xbin_2, xbin_3, xbin_4, xbin_5, xbin_6, xbin_7, xbin_8, xbin_9, xbin_11, xbin_12, xun_0, xun_1, xun_2, xun_3, xun_4, xun_5, k6a, k8, k8b, k9, k20, k20b_0, k20b_1, k20b_2, k20b_3, k20b_4, k20b_5, k21_0, k21_1, k21_2, k21_3, k21_4, k21_5, k23, k24, k25, k27, k28, k40, nz_1, nz_2, nz_3, k31_0, k31_1, k31_2, k31_3, k32u, k33, k34, k35, k35b, k36, k37, k38, k47, k49, k49b_0, k49b_1, k49b_2, k49b_3, k50_0, k50_s, k51_0, k51_s, k55, k58, k58b, rk_0, rk_1, rk_2, rk_9, rk_3, rk_4, rk_5, sw_n, sw_c, xtb_n, xtb_c, lset_0, lset_2, lset_1, lkm_0, lkm_2, lkm_9, lkm_1, lkm_n, if_some1, c_10, c_01, c_x0, c_1x, c_n0, c_nn, List.getElem?_cons_zero, List.getElem?_cons_succ, List.set_cons_zero, List.set_cons_succ, List.length_cons, List.length_nil, Int.reduceToNat, Nat.reduceDiv, Nat.reduceMod, Nat.reduceSub, Nat.reduceAdd, Nat.reduceMul, Nat.reduceLT, Nat.reduceLeDiff, Nat.reduceEqDiff, Int.reduceMod, Int.reduceSub, Int.reduceNeg, Int.reduceAdd, Int.reduceMul, Int.reduceLT, Int.reduceLE, Int.reduceEq, put_ss, if_true, if_false, ite_true, ite_false, reduceIte, eq_self, and_true, true_and, and_false, false_and, or_true, true_or, or_false, false_or, not_true_eq_false, not_false_eq_true, k5_68_12, k34_68_12, k54_68_12, k54b_68_12_0, k5_68_11, k6_70, k35_70, n_70, mv_12, sw_12, h0, h1, o1, e1]
theorem mv_lk (hc : cd = 83 ∨ cd = 93) {A B : xO} {x : Int × Int × Int} {r : Int × Int × Int × Int} : put (mv cd p (A ++ x :: B, r) X) (cd + 3) A.length v = mv cd p (A ++ (x.1, x.2.1, v) :: B, r) X := by
  have hl : (A ++ (x.1, x.2.1, v) :: B).length = (A ++ x :: B).length := by simp
  have hg : ∀ k, k ≠ A.length → (A ++ (x.1, x.2.1, v) :: B).getD k (0, 0, 0) = (A ++ x :: B).getD k (0, 0, 0) := fun k hk => by
    simp only [List.getD_eq_getElem?_getD]
    by_cases h1 : k < A.length
    · rw [List.getElem?_append_left h1, List.getElem?_append_left h1]
    · rw [List.getElem?_append_right (by omega), List.getElem?_append_right (by omega)]
      obtain ⟨j, hj⟩ : ∃ j, k - A.length = j + 1 := ⟨k - A.length - 1, by omega⟩
      rw [hj]
      rfl
  have hg2 : (A ++ (x.1, x.2.1, v) :: B).getD A.length (0, 0, 0) = (x.1, x.2.1, v) := by
    simp [List.getD_eq_getElem?_getD]
  have hg3 : (A ++ x :: B).getD A.length (0, 0, 0) = x := by
    simp [List.getD_eq_getElem?_getD]
  have hlt : A.length < (A ++ x :: B).length := by simp
  funext a k
  simp only [mv, put_ss, hl]
  by_cases h3 : a = cd + 3
  · subst h3
    have n0 : ¬ cd + 3 = 68 := by omega
    have n1 : ¬ cd + 3 = cd := by omega
    have n2 : ¬ cd + 3 = cd + 1 := by omega
    have n3 : ¬ cd + 3 = cd + 2 := by omega
    simp only [n0, n1, n2, n3, if_true, if_false]
    by_cases hk : k = A.length
    · subst hk
      rw [if_pos rfl, if_pos hlt, hg2]
    · rw [if_neg hk, hg k hk]
  · simp only [h3, if_false]
    by_cases hk : k = A.length
    · subst hk
      rw [hg2, hg3]
    · rw [hg k hk]
theorem mg_l (hc : cd = 83 ∨ cd = 93) {A B : xO} {x : Int × Int × Int} {r : Int × Int × Int × Int} : mv cd p (A ++ x :: B, r) X (cd + 3) A.length = x.2.2 := by
  have hg3 : (A ++ x :: B).getD A.length (0, 0, 0) = x := by
    simp [List.getD_eq_getElem?_getD]
  have hlt : A.length < (A ++ x :: B).length := by simp
  unfold mv
  rw [if_neg (by omega), if_neg (by omega), if_neg (by omega), if_neg (by omega), if_pos rfl, if_pos hlt, hg3]
theorem L_85_1 (hc : cd = 83 ∨ cd = 93) (h2 : m 68 2 = (cd : Int)) (hyl : y.1.length ≤ 3000) {r : Int × Int × Int × Int} {z : Int} : ∀ (B A : xO) (n : Nat), A.length + B.length ≤ 3000 → B.length < n → ∃ i', LF F (d + 13) la_85_1 lb_85_1 lc_85_1 n ([(2, 68), (2, z), (0, (A.length : Int))], Hp L xs (mv cd p (A ++ B, r) (sww H y m))) = some (0, [], ([(2, 68), (2, z), (0, i')], Hp L xs (mv cd p (A ++ B.map (lnk y.1), r) (sww H y m)))) := by
  intro B
  induction B with
  | nil =>
    intro A n h hn
    obtain ⟨n, rfl⟩ : ∃ n', n = n' + 1 := ⟨n - 1, by omega⟩
    have hx : ¬ (A.length : Int) < ((A ++ []).length : Int) := by simp
    refine ⟨(A.length : Int), ?_⟩
    rw [lf_s]
    have e1 : (A ++ [] : xO) = A ++ ([] : xO).map (lnk y.1) := rfl
    rcases hc with hc' | hc' <;> subst hc'
    · have h2' : m 68 2 = 83 := h2
      simp (disch := first | omega | assumption) only [ea_85_1, eb_85_1, ec_85_1, l1_i, l1_1, l1_0, l2_0, l2_1, l2_2, l2_3, l3_0, w2_0, w2_1, w2_2, w2_3, d1_0, d1_1, d1_2, d1_3, d2_i, d2_1, d2_0, ev_0, ev_1, ev_16, ev_17, ev_18, ev_2, ev_3, ev_4, ev_5, ev_6, ev_7, ev_8, ev_9, ev_20, ev_21, ev_22, ev_23, ev_24, ev_25, ev_27, ev_28, ev_30, ev_31, ev_32, ev_33, ev_34, ev_35, ev_36, ev_37, ev_38, ev_39, ev_40, ev_41, ev_42, ev_43, ev_45, ev_46, ev_47, ev_48, ev_49, ev_50, ev_51, ev_52, ev_54, ev_55, ev_57, ev_58, ev_59, k2_0, k2_1, k2_2, k3a, k3b, k4, o1_s, xbin_0, xbin_1, xbin_2, xbin_3, xbin_4, xbin_5, xbin_6, xbin_7, xbin_8, xbin_9, xbin_11, xbin_12, xun_0, xun_1, xun_2, xun_3, xun_4, xun_5, k6a, k8, k8b, k9, k20, k20b_0, k20b_1, k20b_2, k20b_3, k20b_4, k20b_5, k21_0, k21_1, k21_2, k21_3, k21_4, k21_5, k23, k24, k25, k27, k28, k40, nz_1, nz_2, nz_3, k31_0, k31_1, k31_2, k31_3, k32u, k33, k34, k35, k35b, k36, k37, k38, k47, k49, k49b_0, k49b_1, k49b_2, k49b_3, k50_0, k50_s, k51_0, k51_s, k55, k58, k58b, rk_0, rk_1, rk_2, rk_9, rk_3, rk_4, rk_5, sw_n, sw_c, xtb_n, xtb_c, lset_0, lset_2, lset_1, lkm_0, lkm_2, lkm_9, lkm_1, lkm_n, if_some1, c_10, c_01, c_x0, c_1x, c_n0, c_nn, List.getElem?_cons_zero, List.getElem?_cons_succ, List.set_cons_zero, List.set_cons_succ, List.length_cons, List.length_nil, Int.reduceToNat, Nat.reduceDiv, Nat.reduceMod, Nat.reduceSub, Nat.reduceAdd, Nat.reduceMul, Nat.reduceLT, Nat.reduceLeDiff, Nat.reduceEqDiff, Int.reduceMod, Int.reduceSub, Int.reduceNeg, Int.reduceAdd, Int.reduceMul, Int.reduceLT, Int.reduceLE, Int.reduceEq, put_ss, if_true, if_false, ite_true, ite_false, reduceIte, eq_self, and_true, true_and, and_false, false_and, or_true, true_or, or_false, false_or, not_true_eq_false, not_false_eq_true, k5_68_2, k34_68_2, k5_83_0, k34_83_0, k54_83_0, k54b_83_0_0, mv_2, sw_2, h2', mv_83, hx, List.map_nil]
    · have h2' : m 68 2 = 93 := h2
      simp (disch := first | omega | assumption) only [ea_85_1, eb_85_1, ec_85_1, l1_i, l1_1, l1_0, l2_0, l2_1, l2_2, l2_3, l3_0, w2_0, w2_1, w2_2, w2_3, d1_0, d1_1, d1_2, d1_3, d2_i, d2_1, d2_0, ev_0, ev_1, ev_16, ev_17, ev_18, ev_2, ev_3, ev_4, ev_5, ev_6, ev_7, ev_8, ev_9, ev_20, ev_21, ev_22, ev_23, ev_24, ev_25, ev_27, ev_28, ev_30, ev_31, ev_32, ev_33, ev_34, ev_35, ev_36, ev_37, ev_38, ev_39, ev_40, ev_41, ev_42, ev_43, ev_45, ev_46, ev_47, ev_48, ev_49, ev_50, ev_51, ev_52, ev_54, ev_55, ev_57, ev_58, ev_59, k2_0, k2_1, k2_2, k3a, k3b, k4, o1_s, xbin_0, xbin_1, xbin_2, xbin_3, xbin_4, xbin_5, xbin_6, xbin_7, xbin_8, xbin_9, xbin_11, xbin_12, xun_0, xun_1, xun_2, xun_3, xun_4, xun_5, k6a, k8, k8b, k9, k20, k20b_0, k20b_1, k20b_2, k20b_3, k20b_4, k20b_5, k21_0, k21_1, k21_2, k21_3, k21_4, k21_5, k23, k24, k25, k27, k28, k40, nz_1, nz_2, nz_3, k31_0, k31_1, k31_2, k31_3, k32u, k33, k34, k35, k35b, k36, k37, k38, k47, k49, k49b_0, k49b_1, k49b_2, k49b_3, k50_0, k50_s, k51_0, k51_s, k55, k58, k58b, rk_0, rk_1, rk_2, rk_9, rk_3, rk_4, rk_5, sw_n, sw_c, xtb_n, xtb_c, lset_0, lset_2, lset_1, lkm_0, lkm_2, lkm_9, lkm_1, lkm_n, if_some1, c_10, c_01, c_x0, c_1x, c_n0, c_nn, List.getElem?_cons_zero, List.getElem?_cons_succ, List.set_cons_zero, List.set_cons_succ, List.length_cons, List.length_nil, Int.reduceToNat, Nat.reduceDiv, Nat.reduceMod, Nat.reduceSub, Nat.reduceAdd, Nat.reduceMul, Nat.reduceLT, Nat.reduceLeDiff, Nat.reduceEqDiff, Int.reduceMod, Int.reduceSub, Int.reduceNeg, Int.reduceAdd, Int.reduceMul, Int.reduceLT, Int.reduceLE, Int.reduceEq, put_ss, if_true, if_false, ite_true, ite_false, reduceIte, eq_self, and_true, true_and, and_false, false_and, or_true, true_or, or_false, false_or, not_true_eq_false, not_false_eq_true, k5_68_2, k34_68_2, k5_93_0, k34_93_0, k54_93_0, k54b_93_0_0, mv_2, sw_2, h2', mv_93, hx, List.map_nil]
  | cons x B ih =>
    intro A n h hn
    obtain ⟨n, rfl⟩ : ∃ n', n = n' + 1 := ⟨n - 1, by omega⟩
    have hlen : (x :: B).length = B.length + 1 := rfl
    have hx : (A.length : Int) < ((A ++ x :: B).length : Int) := by
      rw [List.length_append, hlen]; omega
    have hA : (A ++ [lnk y.1 x]).length = A.length + 1 := by simp
    obtain ⟨i', c5⟩ := ih (A ++ [lnk y.1 x]) n (by rw [hA]; omega) (by omega)
    have e1 : (A ++ [lnk y.1 x]) ++ B = A ++ (x.1, x.2.1, lbl y.1 x.2.2) :: B := by simp [lnk]
    have e2 : (A ++ [lnk y.1 x]) ++ B.map (lnk y.1) = A ++ (x :: B).map (lnk y.1) := by simp
    have e3 : ((A ++ [lnk y.1 x]).length : Int) = (A.length : Int) + 1 := by rw [hA]; omega
    rw [e1, e2, e3] at c5
    have hg := mg_l (p := p) (X := sww H y m) (A := A) (B := B) (x := x) (r := r) hc
    have hp := mv_lk (p := p) (X := sww H y m) (A := A) (B := B) (x := x) (r := r) (v := lbl y.1 x.2.2) hc
    have ht : ((A.length : Int)).toNat = A.length := Int.toNat_natCast _
    have c9 := fun (D : Nat) => C_89 (L := L) (xs := xs) (F := F) (d := D) (p := p) (s := (A ++ x :: B, r)) (H := H) (m := m) (a1 := x.2.2) hc hyl
    refine ⟨i', ?_⟩
    rw [lf_s]
    rcases hc with hc' | hc' <;> subst hc'
    · have h2' : m 68 2 = 83 := h2
      simp only [Nat.reduceAdd] at hg hp
      simp (disch := first | omega | assumption) only [ea_85_1, eb_85_1, ec_85_1, l1_i, l1_1, l1_0, l2_0, l2_1, l2_2, l2_3, l3_0, w2_0, w2_1, w2_2, w2_3, d1_0, d1_1, d1_2, d1_3, d2_i, d2_1, d2_0, ev_0, ev_1, ev_16, ev_17, ev_18, ev_2, ev_3, ev_4, ev_5, ev_6, ev_7, ev_8, ev_9, ev_20, ev_21, ev_22, ev_23, ev_24, ev_25, ev_27, ev_28, ev_30, ev_31, ev_32, ev_33, ev_34, ev_35, ev_36, ev_37, ev_38, ev_39, ev_40, ev_41, ev_42, ev_43, ev_45, ev_46, ev_47, ev_48, ev_49, ev_50, ev_51, ev_52, ev_54, ev_55, ev_57, ev_58, ev_59, k2_0, k2_1, k2_2, k3a, k3b, k4, o1_s, xbin_0, xbin_1, xbin_2, xbin_3, xbin_4, xbin_5, xbin_6, xbin_7, xbin_8, xbin_9, xbin_11, xbin_12, xun_0, xun_1, xun_2, xun_3, xun_4, xun_5, k6a, k8, k8b, k9, k20, k20b_0, k20b_1, k20b_2, k20b_3, k20b_4, k20b_5, k21_0, k21_1, k21_2, k21_3, k21_4, k21_5, k23, k24, k25, k27, k28, k40, nz_1, nz_2, nz_3, k31_0, k31_1, k31_2, k31_3, k32u, k33, k34, k35, k35b, k36, k37, k38, k47, k49, k49b_0, k49b_1, k49b_2, k49b_3, k50_0, k50_s, k51_0, k51_s, k55, k58, k58b, rk_0, rk_1, rk_2, rk_9, rk_3, rk_4, rk_5, sw_n, sw_c, xtb_n, xtb_c, lset_0, lset_2, lset_1, lkm_0, lkm_2, lkm_9, lkm_1, lkm_n, if_some1, c_10, c_01, c_x0, c_1x, c_n0, c_nn, List.getElem?_cons_zero, List.getElem?_cons_succ, List.set_cons_zero, List.set_cons_succ, List.length_cons, List.length_nil, Int.reduceToNat, Nat.reduceDiv, Nat.reduceMod, Nat.reduceSub, Nat.reduceAdd, Nat.reduceMul, Nat.reduceLT, Nat.reduceLeDiff, Nat.reduceEqDiff, Int.reduceMod, Int.reduceSub, Int.reduceNeg, Int.reduceAdd, Int.reduceMul, Int.reduceLT, Int.reduceLE, Int.reduceEq, put_ss, if_true, if_false, ite_true, ite_false, reduceIte, eq_self, and_true, true_and, and_false, false_and, or_true, true_or, or_false, false_or, not_true_eq_false, not_false_eq_true, k5_68_2, k34_68_2, k5_83_0, k34_83_0, k54_83_0, k54b_83_0_0, k5_83_3, k6_86, k35_86, n_86, mv_2, sw_2, h2', mv_83, hx, ht, hg, hp, c9, w32_of, c5]
    · have h2' : m 68 2 = 93 := h2
      simp only [Nat.reduceAdd] at hg hp
      simp (disch := first | omega | assumption) only [ea_85_1, eb_85_1, ec_85_1, l1_i, l1_1, l1_0, l2_0, l2_1, l2_2, l2_3, l3_0, w2_0, w2_1, w2_2, w2_3, d1_0, d1_1, d1_2, d1_3, d2_i, d2_1, d2_0, ev_0, ev_1, ev_16, ev_17, ev_18, ev_2, ev_3, ev_4, ev_5, ev_6, ev_7, ev_8, ev_9, ev_20, ev_21, ev_22, ev_23, ev_24, ev_25, ev_27, ev_28, ev_30, ev_31, ev_32, ev_33, ev_34, ev_35, ev_36, ev_37, ev_38, ev_39, ev_40, ev_41, ev_42, ev_43, ev_45, ev_46, ev_47, ev_48, ev_49, ev_50, ev_51, ev_52, ev_54, ev_55, ev_57, ev_58, ev_59, k2_0, k2_1, k2_2, k3a, k3b, k4, o1_s, xbin_0, xbin_1, xbin_2, xbin_3, xbin_4, xbin_5, xbin_6, xbin_7, xbin_8, xbin_9, xbin_11, xbin_12, xun_0, xun_1, xun_2, xun_3, xun_4, xun_5, k6a, k8, k8b, k9, k20, k20b_0, k20b_1, k20b_2, k20b_3, k20b_4, k20b_5, k21_0, k21_1, k21_2, k21_3, k21_4, k21_5, k23, k24, k25, k27, k28, k40, nz_1, nz_2, nz_3, k31_0, k31_1, k31_2, k31_3, k32u, k33, k34, k35, k35b, k36, k37, k38, k47, k49, k49b_0, k49b_1, k49b_2, k49b_3, k50_0, k50_s, k51_0, k51_s, k55, k58, k58b, rk_0, rk_1, rk_2, rk_9, rk_3, rk_4, rk_5, sw_n, sw_c, xtb_n, xtb_c, lset_0, lset_2, lset_1, lkm_0, lkm_2, lkm_9, lkm_1, lkm_n, if_some1, c_10, c_01, c_x0, c_1x, c_n0, c_nn, List.getElem?_cons_zero, List.getElem?_cons_succ, List.set_cons_zero, List.set_cons_succ, List.length_cons, List.length_nil, Int.reduceToNat, Nat.reduceDiv, Nat.reduceMod, Nat.reduceSub, Nat.reduceAdd, Nat.reduceMul, Nat.reduceLT, Nat.reduceLeDiff, Nat.reduceEqDiff, Int.reduceMod, Int.reduceSub, Int.reduceNeg, Int.reduceAdd, Int.reduceMul, Int.reduceLT, Int.reduceLE, Int.reduceEq, put_ss, if_true, if_false, ite_true, ite_false, reduceIte, eq_self, and_true, true_and, and_false, false_and, or_true, true_or, or_false, false_or, not_true_eq_false, not_false_eq_true, k5_68_2, k34_68_2, k5_93_0, k34_93_0, k54_93_0, k54b_93_0_0, k5_93_3, k6_96, k35_96, n_96, mv_2, sw_2, h2', mv_93, hx, ht, hg, hp, c9, w32_of, c5]
end Lnk
