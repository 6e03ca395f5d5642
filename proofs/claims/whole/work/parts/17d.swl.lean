/-! THE MAKER over statements: its view: H the handler's label, y the labels, the locals that hold (how many, their numbers by name, their names), the most of them -/
abbrev yS : Type := List Int × Int × (Nat → Int) × (Nat → Int) × Int
def sww (H : Int) (y : yS) (m : Mem) : Mem := fun a k => if a = 68 then (if k = 5 then H else if k = 7 then y.2.1 else if k = 8 then y.2.2.2.2 else if k = 12 then (y.1.length : Int) else m a k) else if a = 61 then y.2.2.1 k else if a = 69 then y.2.2.2.1 k else if a = 70 then (if k < y.1.length then y.1.getD k 0 else m a k) else m a k
section SwL
variable {cd : Nat} {p H v : Int} {s : xSt} {y : yS} {m X : Mem} {k a : Nat}
theorem mput (hc : cd = 83 ∨ cd = 93) (h : a ≠ 68) (h2 : a < 83) : put (mv cd p s X) a k v = mv cd p s (put X a k v) := by
  funext a' k'
  simp only [mv, put_ss]
  by_cases h1 : a' = a
  · subst h1
    have n0 : ¬ a' = cd := by omega
    have n1 : ¬ a' = cd + 1 := by omega
    have n2 : ¬ a' = cd + 2 := by omega
    have n3 : ¬ a' = cd + 3 := by omega
    simp only [h, n0, n1, n2, n3, if_true, if_false]
  · simp only [h1, if_false]
theorem mput68 (hk : k ≠ 3 ∧ k ≠ 9 ∧ k ≠ 10 ∧ k ≠ 13 ∧ k ≠ 14) : put (mv cd p s X) 68 k v = mv cd p s (put X 68 k v) := by
  obtain ⟨h1, h2, h3, h4, h5⟩ := hk
  funext a' k'
  simp only [mv, put_ss]
  by_cases h : a' = 68
  · subst h
    simp only [if_true]
    by_cases hk : k' = k
    · subst hk
      simp only [h1, h2, h3, h4, h5, if_true, if_false]
    · simp only [hk, if_false]
  · simp only [h, if_false]
theorem mm_5 : put (mv cd p s X) 68 5 v = mv cd p s (put X 68 5 v) := mput68 (by decide)
theorem mm_7 : put (mv cd p s X) 68 7 v = mv cd p s (put X 68 7 v) := mput68 (by decide)
theorem mm_8 : put (mv cd p s X) 68 8 v = mv cd p s (put X 68 8 v) := mput68 (by decide)
theorem mm_12 : put (mv cd p s X) 68 12 v = mv cd p s (put X 68 12 v) := mput68 (by decide)
theorem mv_8 : mv cd p s X 68 8 = X 68 8 := (rfl)
theorem mv_12 : mv cd p s X 68 12 = X 68 12 := (rfl)
theorem sw_5 : sww H y m 68 5 = H := (rfl)
theorem sw_7 : sww H y m 68 7 = y.2.1 := (rfl)
theorem sw_8 : sww H y m 68 8 = y.2.2.2.2 := (rfl)
theorem sw_12 : sww H y m 68 12 = (y.1.length : Int) := (rfl)
theorem sw_2 : sww H y m 68 2 = m 68 2 := (rfl)
theorem sw_4 : sww H y m 68 4 = m 68 4 := (rfl)
theorem sw_61 : sww H y m 61 k = y.2.2.1 k := (rfl)
theorem sw_69 : sww H y m 69 k = y.2.2.2.1 k := (rfl)
theorem sw_51 : sww H y m 51 k = m 51 k := (rfl)
theorem sw_57 : sww H y m 57 k = m 57 k := (rfl)
theorem sp_5 : put (sww H y m) 68 5 v = sww v y m := by
  funext a' k'
  simp only [sww, put_ss]
  by_cases h : a' = 68
  · by_cases hk : k' = 5
    · simp only [h, hk, if_true]
    · simp only [h, hk, if_true, if_false]
  · simp only [h, if_false]
theorem sp_7 : put (sww H y m) 68 7 v = sww H (y.1, v, y.2.2.1, y.2.2.2.1, y.2.2.2.2) m := by
  funext a' k'
  simp only [sww, put_ss]
  by_cases h : a' = 68
  · by_cases hk : k' = 7
    · simp only [h, hk, Nat.reduceEqDiff, if_true, if_false]
    · simp only [h, hk, if_true, if_false]
  · simp only [h, if_false]
theorem sp_8 : put (sww H y m) 68 8 v = sww H (y.1, y.2.1, y.2.2.1, y.2.2.2.1, v) m := by
  funext a' k'
  simp only [sww, put_ss]
  by_cases h : a' = 68
  · by_cases hk : k' = 8
    · simp only [h, hk, Nat.reduceEqDiff, if_true, if_false]
    · simp only [h, hk, if_true, if_false]
  · simp only [h, if_false]
theorem sp_61 : put (sww H y m) 61 k v = sww H (y.1, y.2.1, vput y.2.2.1 k v, y.2.2.2.1, y.2.2.2.2) m := by
  funext a' k'
  simp only [sww, put_ss, vput]
  by_cases h : a' = 61
  · subst h
    simp only [Nat.reduceEqDiff, if_true, if_false]
  · simp only [h, if_false]
theorem sp_69 : put (sww H y m) 69 k v = sww H (y.1, y.2.1, y.2.2.1, vput y.2.2.2.1 k v, y.2.2.2.2) m := by
  funext a' k'
  simp only [sww, put_ss, vput]
  by_cases h : a' = 69
  · subst h
    simp only [Nat.reduceEqDiff, if_true, if_false]
  · simp only [h, if_false]
theorem sp_70 (hk : k < y.1.length) : put (sww H y m) 70 k v = sww H (y.1.set k v, y.2) m := by
  funext a' k'
  simp only [sww, put_ss, List.length_set]
  by_cases h : a' = 70
  · subst h
    simp only [Nat.reduceEqDiff, if_true, if_false]
    by_cases h2 : k' = k
    · subst h2
      rw [if_pos rfl, if_pos hk]
      simp [List.getD_eq_getElem?_getD, hk]
    · rw [if_neg h2]
      by_cases h3 : k' < y.1.length
      · rw [if_pos h3, if_pos h3]
        simp [List.getD_eq_getElem?_getD, List.getElem?_set_ne (fun z => h2 z.symm)]
      · rw [if_neg h3, if_neg h3]
  · simp only [h, if_false]
theorem sp_nl : put (put (sww H y m) 70 y.1.length (-1)) 68 12 ((y.1.length : Int) + 1) = sww H (y.1 ++ [-1], y.2) m := by
  have hl : (y.1 ++ [(-1 : Int)]).length = y.1.length + 1 := by simp
  funext a' k'
  simp only [sww, put_ss, hl]
  by_cases h : a' = 68
  · subst h
    by_cases h2 : k' = 12
    · subst h2
      simp only [Nat.reduceEqDiff, if_true, if_false]
      omega
    · simp only [h2, Nat.reduceEqDiff, if_true, if_false]
  · simp only [h, if_false]
    by_cases h3 : a' = 70
    · subst h3
      simp only [Nat.reduceEqDiff, if_true, if_false]
      by_cases h4 : k' = y.1.length
      · subst h4
        rw [if_pos rfl, if_pos (by omega)]
        simp [List.getD_eq_getElem?_getD]
      · rw [if_neg h4]
        by_cases h5 : k' < y.1.length
        · rw [if_pos h5, if_pos (by omega)]
          simp [List.getD_eq_getElem?_getD, List.getElem?_append_left h5]
        · rw [if_neg h5, if_neg (by omega)]
    · simp only [h3, if_false]
end SwL
/-- a new label; the label of it -/
def nlb (y : yS) : yS := if y.1.length < 3000 then (y.1 ++ [-1], y.2) else y
def nln (y : yS) : Int := if y.1.length < 3000 then (y.1.length : Int) else -1
def slb (l : Int) (n : Int) (y : yS) : yS := if 0 ≤ l ∧ l < (y.1.length : Int) then (y.1.set l.toNat n, y.2) else y
/-- a local is told -/
def ymk (m : Mem) (i : Int) (y : yS) : yS := if 1510 ≤ y.2.1 then y else (y.1, y.2.1 + 1, (if 0 ≤ idT m i ∧ idT m i < m 57 4 then vput y.2.2.1 (idT m i).toNat y.2.1 else y.2.2.1), vput y.2.2.2.1 y.2.1.toNat (idT m i), imax y.2.2.2.2 (y.2.1 + 1))
def tlS (m : Mem) (i : Int) (y : yS) (s : xSt) : xSt := if kI m (idT m i) = 0 ∧ (if idT m i < 0 ∨ m 57 4 ≤ idT m i then -1 else y.2.2.1 (idT m i).toNat) = -1 then s else bl m i s
/-- locals are forgotten, n of them -/
def fgN (m : Mem) : Nat → yS → yS
  | 0, y => y
  | n + 1, y => fgN m n (y.1, y.2.1 - 1, (if 0 ≤ y.2.2.2.1 (y.2.1 - 1).toNat ∧ y.2.2.2.1 (y.2.1 - 1).toNat < m 57 4 then vput y.2.2.1 (y.2.2.2.1 (y.2.1 - 1).toNat).toNat (-1) else y.2.2.1), y.2.2.2.1, y.2.2.2.2)
section MakS
variable {L : Nat} {xs : Nat → Int32} {m : Mem} {F d : Nat} {cd : Nat} {p H a1 a2 a3 : Int} {s : xSt} {y : yS}
theorem tn_y : ((y.1.length : Int)).toNat = y.1.length := Int.toNat_natCast _
theorem mv_70 (hc : cd = 83 ∨ cd = 93) {k : Nat} {v : Int} {X : Mem} : put (mv cd p s X) 70 k v = mv cd p s (put X 70 k v) := mput hc (by decide) (by decide)
theorem mv_61 (hc : cd = 83 ∨ cd = 93) {k : Nat} {v : Int} {X : Mem} : put (mv cd p s X) 61 k v = mv cd p s (put X 61 k v) := mput hc (by decide) (by decide)
theorem mv_69 (hc : cd = 83 ∨ cd = 93) {k : Nat} {v : Int} {X : Mem} : put (mv cd p s X) 69 k v = mv cd p s (put X 69 k v) := mput hc (by decide) (by decide)
theorem mg_69 (hc : cd = 83 ∨ cd = 93) {k : Nat} {X : Mem} : mv cd p s X 69 k = X 69 k := mv_o hc (by decide) (by decide)
theorem mg_57 (hc : cd = 83 ∨ cd = 93) {k : Nat} {X : Mem} : mv cd p s X 57 k = X 57 k := mv_o hc (by decide) (by decide)
theorem C_87 (hc : cd = 83 ∨ cd = 93) : Cx F (d + 1) 87 [68] (Hp L xs (mv cd p s (sww H y m))) = some ([nln y], Hp L xs (mv cd p s (sww H (nlb y) m))) := by
  unfold nln nlb
  by_cases h1 : y.1.length < 3000
  · have h2 : ¬ (3000 : Int) ≤ y.1.length := by omega
    have e1 : (y.1.length : Int) + 1 - 1 = y.1.length := by omega
    have e2 : ((y.1 ++ [(-1 : Int)]).length : Int) = (y.1.length : Int) + 1 := by simp
    simp (disch := first | omega | assumption) only [c_87, tr_87, ev_0, ev_1, ev_16, ev_17, ev_18, ev_2, ev_3, ev_4, ev_5, ev_6, ev_7, ev_8, ev_9, ev_20, ev_21, ev_22, ev_23, ev_24, ev_25, ev_27, ev_28, ev_30, ev_31, ev_32, ev_33, ev_34, ev_35, ev_36, ev_37, ev_38, ev_39, ev_40, ev_41, ev_42, ev_43, ev_45, ev_46, ev_47, ev_48, ev_49, ev_50, ev_51, ev_52, ev_54, ev_55, ev_57, ev_58, ev_59, k2_0, k2_1, k2_2, k3a, k3b, k4, o1_s, xbin_0, xbin_1, xbin_2, xbin_3, xbin_4, xbin_5, xbin_6, xbin_7, xbin_8, xbin_9, xbin_11, xbin_12, xun_0, xun_1, xun_2, xun_3, xun_4, xun_5, k6a, k8, k8b, k9, k20, k20b_0, k20b_1, k20b_2, k20b_3, k20b_4, k20b_5, k21_0, k21_1, k21_2, k21_3, k21_4, k21_5, k23, k24, k25, k27, k28, k40, nz_1, nz_2, nz_3, k31_0, k31_1, k31_2, k31_3, k32u, k33, k34, k35, k35b, k36, k37, k38, k47, k49, k49b_0, k49b_1, k49b_2, k49b_3, k50_0, k50_s, k51_0, k51_s, k55, k58, k58b, rk_0, rk_1, rk_2, rk_9, rk_3, rk_4, rk_5, sw_n, sw_c, xtb_n, xtb_c, lset_0, lset_2, lset_1, lkm_0, lkm_2, lkm_9, lkm_1, lkm_n, if_some1, c_10, c_01, c_x0, c_1x, c_n0, c_nn, List.getElem?_cons_zero, List.getElem?_cons_succ, List.set_cons_zero, List.set_cons_succ, List.length_cons, List.length_nil, Int.reduceToNat, Nat.reduceDiv, Nat.reduceMod, Nat.reduceSub, Nat.reduceAdd, Nat.reduceMul, Nat.reduceLT, Nat.reduceLeDiff, Nat.reduceEqDiff, Int.reduceMod, Int.reduceSub, Int.reduceNeg, Int.reduceAdd, Int.reduceMul, Int.reduceLT, Int.reduceLE, Int.reduceEq, put_ss, if_true, if_false, ite_true, ite_false, reduceIte, eq_self, and_true, true_and, and_false, false_and, or_true, true_or, or_false, false_or, not_true_eq_false, not_false_eq_true, k5_68_12, k34_68_12, k54_68_12, k54b_68_12_0, k5_68_11, k6_70, k35_70, n_70, mv_12, sw_12, h1, h2, tn_y, mv_70, mm_12, put_ss, w32_of, e1, e2, sp_nl]
  · have h2 : (3000 : Int) ≤ y.1.length := by omega
    simp (disch := first | omega | assumption) only [c_87, tr_87, ev_0, ev_1, ev_16, ev_17, ev_18, ev_2, ev_3, ev_4, ev_5, ev_6, ev_7, ev_8, ev_9, ev_20, ev_21, ev_22, ev_23, ev_24, ev_25, ev_27, ev_28, ev_30, ev_31, ev_32, ev_33, ev_34, ev_35, ev_36, ev_37, ev_38, ev_39, ev_40, ev_41, ev_42, ev_43, ev_45, ev_46, ev_47, ev_48, ev_49, ev_50, ev_51, ev_52, ev_54, ev_55, ev_57, ev_58, ev_59, k2_0, k2_1, k2_2, k3a, k3b, k4, o1_s, xbin_0, xbin_1, xbin_2, xbin_3, xbin_4, xbin_5, xbin_6, xbin_7, xbin_8, xbin_9, xbin_11, xbin_12, xun_0, xun_1, xun_2, xun_3, xun_4, xun_5, k6a, k8, k8b, k9, k20, k20b_0, k20b_1, k20b_2, k20b_3, k20b_4, k20b_5, k21_0, k21_1, k21_2, k21_3, k21_4, k21_5, k23, k24, k25, k27, k28, k40, nz_1, nz_2, nz_3, k31_0, k31_1, k31_2, k31_3, k32u, k33, k34, k35, k35b, k36, k37, k38, k47, k49, k49b_0, k49b_1, k49b_2, k49b_3, k50_0, k50_s, k51_0, k51_s, k55, k58, k58b, rk_0, rk_1, rk_2, rk_9, rk_3, rk_4, rk_5, sw_n, sw_c, xtb_n, xtb_c, lset_0, lset_2, lset_1, lkm_0, lkm_2, lkm_9, lkm_1, lkm_n, if_some1, c_10, c_01, c_x0, c_1x, c_n0, c_nn, List.getElem?_cons_zero, List.getElem?_cons_succ, List.set_cons_zero, List.set_cons_succ, List.length_cons, List.length_nil, Int.reduceToNat, Nat.reduceDiv, Nat.reduceMod, Nat.reduceSub, Nat.reduceAdd, Nat.reduceMul, Nat.reduceLT, Nat.reduceLeDiff, Nat.reduceEqDiff, Int.reduceMod, Int.reduceSub, Int.reduceNeg, Int.reduceAdd, Int.reduceMul, Int.reduceLT, Int.reduceLE, Int.reduceEq, put_ss, if_true, if_false, ite_true, ite_false, reduceIte, eq_self, and_true, true_and, and_false, false_and, or_true, true_or, or_false, false_or, not_true_eq_false, not_false_eq_true, k5_68_12, k34_68_12, k54_68_12, k54b_68_12_0, k5_68_11, k6_70, k35_70, n_70, mv_12, sw_12, h1, h2]
theorem C_88 (hc : cd = 83 ∨ cd = 93) (h2 : m 68 2 = (cd : Int)) (hy : y.1.length ≤ 3000) : Cx F (d + 1) 88 [68, a1] (Hp L xs (mv cd p s (sww H y m))) = some ([], Hp L xs (mv cd p s (sww H (slb a1 (s.1.length : Int) y) m))) := by
  unfold slb
  by_cases h0 : 0 ≤ a1
  · by_cases h1 : a1 < (y.1.length : Int)
    · have h3 : a1.toNat < y.1.length := by omega
      rcases hc with hc' | hc' <;> subst hc'
      · have h2' : m 68 2 = 83 := h2
        simp (disch := first | omega | assumption) only [c_88, tr_88, ev_0, ev_1, ev_16, ev_17, ev_18, ev_2, ev_3, ev_4, ev_5, ev_6, ev_7, ev_8, ev_9, ev_20, ev_21, ev_22, ev_23, ev_24, ev_25, ev_27, ev_28, ev_30, ev_31, ev_32, ev_33, ev_34, ev_35, ev_36, ev_37, ev_38, ev_39, ev_40, ev_41, ev_42, ev_43, ev_45, ev_46, ev_47, ev_48, ev_49, ev_50, ev_51, ev_52, ev_54, ev_55, ev_57, ev_58, ev_59, k2_0, k2_1, k2_2, k3a, k3b, k4, o1_s, xbin_0, xbin_1, xbin_2, xbin_3, xbin_4, xbin_5, xbin_6, xbin_7, xbin_8, xbin_9, xbin_11, xbin_12, xun_0, xun_1, xun_2, xun_3, xun_4, xun_5, k6a, k8, k8b, k9, k20, k20b_0, k20b_1, k20b_2, k20b_3, k20b_4, k20b_5, k21_0, k21_1, k21_2, k21_3, k21_4, k21_5, k23, k24, k25, k27, k28, k40, nz_1, nz_2, nz_3, k31_0, k31_1, k31_2, k31_3, k32u, k33, k34, k35, k35b, k36, k37, k38, k47, k49, k49b_0, k49b_1, k49b_2, k49b_3, k50_0, k50_s, k51_0, k51_s, k55, k58, k58b, rk_0, rk_1, rk_2, rk_9, rk_3, rk_4, rk_5, sw_n, sw_c, xtb_n, xtb_c, lset_0, lset_2, lset_1, lkm_0, lkm_2, lkm_9, lkm_1, lkm_n, if_some1, c_10, c_01, c_x0, c_1x, c_n0, c_nn, List.getElem?_cons_zero, List.getElem?_cons_succ, List.set_cons_zero, List.set_cons_succ, List.length_cons, List.length_nil, Int.reduceToNat, Nat.reduceDiv, Nat.reduceMod, Nat.reduceSub, Nat.reduceAdd, Nat.reduceMul, Nat.reduceLT, Nat.reduceLeDiff, Nat.reduceEqDiff, Int.reduceMod, Int.reduceSub, Int.reduceNeg, Int.reduceAdd, Int.reduceMul, Int.reduceLT, Int.reduceLE, Int.reduceEq, put_ss, if_true, if_false, ite_true, ite_false, reduceIte, eq_self, and_true, true_and, and_false, false_and, or_true, true_or, or_false, false_or, not_true_eq_false, not_false_eq_true, k5_68_12, k34_68_12, k54_68_12, k54b_68_12_0, k5_68_11, k6_70, k35_70, n_70, k5_68_2, k34_68_2, k5_83_0, k34_83_0, k54_83_0, k54b_83_0_0, mv_12, sw_12, h0, h1, mv_2, sw_2, h2', mv_83, mv_70 (Or.inl rfl), sp_70 h3]
      · have h2' : m 68 2 = 93 := h2
        simp (disch := first | omega | assumption) only [c_88, tr_88, ev_0, ev_1, ev_16, ev_17, ev_18, ev_2, ev_3, ev_4, ev_5, ev_6, ev_7, ev_8, ev_9, ev_20, ev_21, ev_22, ev_23, ev_24, ev_25, ev_27, ev_28, ev_30, ev_31, ev_32, ev_33, ev_34, ev_35, ev_36, ev_37, ev_38, ev_39, ev_40, ev_41, ev_42, ev_43, ev_45, ev_46, ev_47, ev_48, ev_49, ev_50, ev_51, ev_52, ev_54, ev_55, ev_57, ev_58, ev_59, k2_0, k2_1, k2_2, k3a, k3b, k4, o1_s, xbin_0, xbin_1, xbin_2, xbin_3, xbin_4, xbin_5, xbin_6, xbin_7, xbin_8, xbin_9, xbin_11, xbin_12, xun_0, xun_1, xun_2, xun_3, xun_4, xun_5, k6a, k8, k8b, k9, k20, k20b_0, k20b_1, k20b_2, k20b_3, k20b_4, k20b_5, k21_0, k21_1, k21_2, k21_3, k21_4, k21_5, k23, k24, k25, k27, k28, k40, nz_1, nz_2, nz_3, k31_0, k31_1, k31_2, k31_3, k32u, k33, k34, k35, k35b, k36, k37, k38, k47, k49, k49b_0, k49b_1, k49b_2, k49b_3, k50_0, k50_s, k51_0, k51_s, k55, k58, k58b, rk_0, rk_1, rk_2, rk_9, rk_3, rk_4, rk_5, sw_n, sw_c, xtb_n, xtb_c, lset_0, lset_2, lset_1, lkm_0, lkm_2, lkm_9, lkm_1, lkm_n, if_some1, c_10, c_01, c_x0, c_1x, c_n0, c_nn, List.getElem?_cons_zero, List.getElem?_cons_succ, List.set_cons_zero, List.set_cons_succ, List.length_cons, List.length_nil, Int.reduceToNat, Nat.reduceDiv, Nat.reduceMod, Nat.reduceSub, Nat.reduceAdd, Nat.reduceMul, Nat.reduceLT, Nat.reduceLeDiff, Nat.reduceEqDiff, Int.reduceMod, Int.reduceSub, Int.reduceNeg, Int.reduceAdd, Int.reduceMul, Int.reduceLT, Int.reduceLE, Int.reduceEq, put_ss, if_true, if_false, ite_true, ite_false, reduceIte, eq_self, and_true, true_and, and_false, false_and, or_true, true_or, or_false, false_or, not_true_eq_false, not_false_eq_true, k5_68_12, k34_68_12, k54_68_12, k54b_68_12_0, k5_68_11, k6_70, k35_70, n_70, k5_68_2, k34_68_2, k5_93_0, k34_93_0, k54_93_0, k54b_93_0_0, mv_12, sw_12, h0, h1, mv_2, sw_2, h2', mv_93, mv_70 (Or.inr rfl), sp_70 h3]
    · simp (disch := first | omega | assumption) only [c_88, tr_88, ev_0, ev_1, ev_16, ev_17, ev_18, ev_2, ev_3, ev_4, ev_5, ev_6, ev_7, ev_8, ev_9, ev_20, ev_21, ev_22, ev_23, ev_24, ev_25, ev_27, ev_28, ev_30, ev_31, ev_32, ev_33, ev_34, ev_35, ev_36, ev_37, ev_38, ev_39, ev_40, ev_41, ev_42, ev_43, ev_45, ev_46, ev_47, ev_48, ev_49, ev_50, ev_51, ev_52, ev_54, ev_55, ev_57, ev_58, ev_59, k2_0, k2_1, k2_2, k3a, k3b, k4, o1_s, xbin_0, xbin_1, xbin_2, xbin_3, xbin_4, xbin_5, xbin_6, xbin_7, xbin_8, xbin_9, xbin_11, xbin_12, xun_0, xun_1, xun_2, xun_3, xun_4, xun_5, k6a, k8, k8b, k9, k20, k20b_0, k20b_1, k20b_2, k20b_3, k20b_4, k20b_5, k21_0, k21_1, k21_2, k21_3, k21_4, k21_5, k23, k24, k25, k27, k28, k40, nz_1, nz_2, nz_3, k31_0, k31_1, k31_2, k31_3, k32u, k33, k34, k35, k35b, k36, k37, k38, k47, k49, k49b_0, k49b_1, k49b_2, k49b_3, k50_0, k50_s, k51_0, k51_s, k55, k58, k58b, rk_0, rk_1, rk_2, rk_9, rk_3, rk_4, rk_5, sw_n, sw_c, xtb_n, xtb_c, lset_0, lset_2, lset_1, lkm_0, lkm_2, lkm_9, lkm_1, lkm_n, if_some1, c_10, c_01, c_x0, c_1x, c_n0, c_nn, List.getElem?_cons_zero, List.getElem?_cons_succ, List.set_cons_zero, List.set_cons_succ, List.length_cons, List.length_nil, Int.reduceToNat, Nat.reduceDiv, Nat.reduceMod, Nat.reduceSub, Nat.reduceAdd, Nat.reduceMul, Nat.reduceLT, Nat.reduceLeDiff, Nat.reduceEqDiff, Int.reduceMod, Int.reduceSub, Int.reduceNeg, Int.reduceAdd, Int.reduceMul, Int.reduceLT, Int.reduceLE, Int.reduceEq, put_ss, if_true, if_false, ite_true, ite_false, reduceIte, eq_self, and_true, true_and, and_false, false_and, or_true, true_or, or_false, false_or, not_true_eq_false, not_false_eq_true, k5_68_12, k34_68_12, k54_68_12, k54b_68_12_0, k5_68_11, k6_70, k35_70, n_70, k5_68_2, k34_68_2, mv_12, sw_12, h0, h1]
  · simp (disch := first | omega | assumption) only [c_88, tr_88, ev_0, ev_1, ev_16, ev_17, ev_18, ev_2, ev_3, ev_4, ev_5, ev_6, ev_7, ev_8, ev_9, ev_20, ev_21, ev_22, ev_23, ev_24, ev_25, ev_27, ev_28, ev_30, ev_31, ev_32, ev_33, ev_34, ev_35, ev_36, ev_37, ev_38, ev_39, ev_40, ev_41, ev_42, ev_43, ev_45, ev_46, ev_47, ev_48, ev_49, ev_50, ev_51, ev_52, ev_54, ev_55, ev_57, ev_58, ev_59, k2_0, k2_1, k2_2, k3a, k3b, k4, o1_s, xbin_0, xbin_1, xbin_2, xbin_3, xbin_4, xbin_5, xbin_6, xbin_7, xbin_8, xbin_9, xbin_11, xbin_12, xun_0, xun_1, xun_2, xun_3, xun_4, xun_5, k6a, k8, k8b, k9, k20, k20b_0, k20b_1, k20b_2, k20b_3, k20b_4, k20b_5, k21_0, k21_1, k21_2, k21_3, k21_4, k21_5, k23, k24, k25, k27, k28, k40, nz_1, nz_2, nz_3, k31_0, k31_1, k31_2, k31_3, k32u, k33, k34, k35, k35b, k36, k37, k38, k47, k49, k49b_0, k49b_1, k49b_2, k49b_3, k50_0, k50_s, k51_0, k51_s, k55, k58, k58b, rk_0, rk_1, rk_2, rk_9, rk_3, rk_4, rk_5, sw_n, sw_c, xtb_n, xtb_c, lset_0, lset_2, lset_1, lkm_0, lkm_2, lkm_9, lkm_1, lkm_n, if_some1, c_10, c_01, c_x0, c_1x, c_n0, c_nn, List.getElem?_cons_zero, List.getElem?_cons_succ, List.set_cons_zero, List.set_cons_succ, List.length_cons, List.length_nil, Int.reduceToNat, Nat.reduceDiv, Nat.reduceMod, Nat.reduceSub, Nat.reduceAdd, Nat.reduceMul, Nat.reduceLT, Nat.reduceLeDiff, Nat.reduceEqDiff, Int.reduceMod, Int.reduceSub, Int.reduceNeg, Int.reduceAdd, Int.reduceMul, Int.reduceLT, Int.reduceLE, Int.reduceEq, put_ss, if_true, if_false, ite_true, ite_false, reduceIte, eq_self, and_true, true_and, and_false, false_and, or_true, true_or, or_false, false_or, not_true_eq_false, not_false_eq_true, k5_68_12, k34_68_12, k54_68_12, k54b_68_12_0, k5_68_11, k6_70, k35_70, n_70, k5_68_2, k34_68_2, mv_12, sw_12, h0]
end MakS
