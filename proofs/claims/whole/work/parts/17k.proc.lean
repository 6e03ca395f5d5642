/-! THE MAKER over procs -/
section MvP
variable {cd : Nat} {p H v : Int} {s : xSt} {y : yS} {m X : Mem} {k a : Nat}
theorem mput2 (h : a ≠ 68) (h0 : a ≠ cd) (h1 : a ≠ cd + 1) (h2 : a ≠ cd + 2) (h3 : a ≠ cd + 3) : put (mv cd p s X) a k v = mv cd p s (put X a k v) := by
  funext a' k'
  simp only [mv, put_ss]
  by_cases h9 : a' = a
  · subst h9
    simp only [h, h0, h1, h2, h3, if_true, if_false]
  · simp only [h9, if_false]
theorem swput (h : a ≠ 68) (h0 : a ≠ 61) (h1 : a ≠ 69) (h2 : a ≠ 70) : put (sww H y m) a k v = sww H y (put m a k v) := by
  funext a' k'
  simp only [sww, put_ss]
  by_cases h9 : a' = a
  · subst h9
    simp only [h, h0, h1, h2, if_true, if_false]
  · simp only [h9, if_false]
theorem swput68 (hk : k ≠ 5 ∧ k ≠ 7 ∧ k ≠ 8 ∧ k ≠ 12) : put (sww H y m) 68 k v = sww H y (put m 68 k v) := by
  obtain ⟨h1, h2, h3, h4⟩ := hk
  funext a' k'
  simp only [sww, put_ss]
  by_cases h : a' = 68
  · subst h
    simp only [if_true]
    by_cases hk : k' = k
    · subst hk
      simp only [h1, h2, h3, h4, if_true, if_false]
    · simp only [hk, if_false]
  · simp only [h, if_false]
theorem mm_4 : put (mv cd p s X) 68 4 v = mv cd p s (put X 68 4 v) := mput68 (by decide)
theorem mm_15 : put (mv cd p s X) 68 15 v = mv cd p s (put X 68 15 v) := mput68 (by decide)
theorem mm_2 : put (mv cd p s X) 68 2 v = mv cd p s (put X 68 2 v) := mput68 (by decide)
theorem ss_4 : put (sww H y m) 68 4 v = sww H y (put m 68 4 v) := swput68 (by decide)
theorem ss_15 : put (sww H y m) 68 15 v = sww H y (put m 68 15 v) := swput68 (by decide)
theorem m83_88 : put (mv 83 p s (sww H y m)) 88 k v = mv 83 p s (sww H y (put m 88 k v)) := by rw [mput2 (by decide) (by decide) (by decide) (by decide) (by decide), swput (by decide) (by decide) (by decide) (by decide)]
theorem m83_89 : put (mv 83 p s (sww H y m)) 89 k v = mv 83 p s (sww H y (put m 89 k v)) := by rw [mput2 (by decide) (by decide) (by decide) (by decide) (by decide), swput (by decide) (by decide) (by decide) (by decide)]
theorem m83_90 : put (mv 83 p s (sww H y m)) 90 k v = mv 83 p s (sww H y (put m 90 k v)) := by rw [mput2 (by decide) (by decide) (by decide) (by decide) (by decide), swput (by decide) (by decide) (by decide) (by decide)]
theorem m83_91 : put (mv 83 p s (sww H y m)) 91 k v = mv 83 p s (sww H y (put m 91 k v)) := by rw [mput2 (by decide) (by decide) (by decide) (by decide) (by decide), swput (by decide) (by decide) (by decide) (by decide)]
theorem m93_98 : put (mv 93 p s (sww H y m)) 98 k v = mv 93 p s (sww H y (put m 98 k v)) := by rw [mput2 (by decide) (by decide) (by decide) (by decide) (by decide), swput (by decide) (by decide) (by decide) (by decide)]
theorem m93_99 : put (mv 93 p s (sww H y m)) 99 k v = mv 93 p s (sww H y (put m 99 k v)) := by rw [mput2 (by decide) (by decide) (by decide) (by decide) (by decide), swput (by decide) (by decide) (by decide) (by decide)]
theorem m93_100 : put (mv 93 p s (sww H y m)) 100 k v = mv 93 p s (sww H y (put m 100 k v)) := by rw [mput2 (by decide) (by decide) (by decide) (by decide) (by decide), swput (by decide) (by decide) (by decide) (by decide)]
theorem m93_101 : put (mv 93 p s (sww H y m)) 101 k v = mv 93 p s (sww H y (put m 101 k v)) := by rw [mput2 (by decide) (by decide) (by decide) (by decide) (by decide), swput (by decide) (by decide) (by decide) (by decide)]
end MvP
def kpP (cd : Nat) (told first ml mx : Int) (m : Mem) : Mem := if m 68 4 < 0 ∨ 40 ≤ m 68 4 then m else put (put (put (put m (cd + 5) (m 68 4).toNat told) (cd + 6) (m 68 4).toNat (w32 (ml + 2))) (cd + 7) (m 68 4).toNat (w32 (w32 (w32 (w32 (ml + 2) - told) + mx) + 3))) (cd + 8) (m 68 4).toNat first
theorem C_96 {L : Nat} {xs : Nat → Int32} {F d cd : Nat} {m : Mem} {p H told first : Int} {s : xSt} {y : yS} (hc : cd = 83 ∨ cd = 93) (h2 : m 68 2 = (cd : Int)) : Cx F (d + 1) 96 [68, told, first] (Hp L xs (mv cd p s (sww H y m))) = some ([], Hp L xs (mv cd p s (sww H y (kpP cd told first y.2.2.2.2 s.2.2.1 m)))) := by
  unfold kpP
  by_cases h0 : m 68 4 < 0
  · rw [if_pos (Or.inl h0)]
    simp (disch := first | omega | assumption) only [c_96, tr_96, ev_0, ev_1, ev_16, ev_17, ev_18, ev_2, ev_3, ev_4, ev_5, ev_6, ev_7, ev_8, ev_9, ev_20, ev_21, ev_22, ev_23, ev_24, ev_25, ev_27, ev_28, ev_30, ev_31, ev_32, ev_33, ev_34, ev_35, ev_36, ev_37, ev_38, ev_39, ev_40, ev_41, ev_42, ev_43, ev_45, ev_46, ev_47, ev_48, ev_49, ev_50, ev_51, ev_52, ev_54, ev_55, ev_57, ev_58, ev_59, k2_0, k2_1, k2_2, k3a, k3b, k4, o1_s, xbin_0, xbin_1, xbin_2, xbin_3, xbin_4, xbin_5, xbin_6, xbin_7, xbin_8, xbin_9, xbin_11, xbin_12, xun_0, xun_1, xun_2, xun_3, xun_4, xun_5, k6a, k8, k8b, k9, k20, k20b_0, k20b_1, k20b_2, k20b_3, k20b_4, k20b_5, k21_0, k21_1, k21_2, k21_3, k21_4, k21_5, k23, k24, k25, k27, k28, k40, nz_1, nz_2, nz_3, k31_0, k31_1, k31_2, k31_3, k32u, k33, k34, k35, k35b, k36, k37, k38, k47, k49, k49b_0, k49b_1, k49b_2, k49b_3, k50_0, k50_s, k51_0, k51_s, k55, k58, k58b, rk_0, rk_1, rk_2, rk_9, rk_3, rk_4, rk_5, sw_n, sw_c, xtb_n, xtb_c, lset_0, lset_2, lset_1, lkm_0, lkm_2, lkm_9, lkm_1, lkm_n, if_some1, c_10, c_01, c_x0, c_1x, c_n0, c_nn, List.getElem?_cons_zero, List.getElem?_cons_succ, List.set_cons_zero, List.set_cons_succ, List.length_cons, List.length_nil, Int.reduceToNat, Nat.reduceDiv, Nat.reduceMod, Nat.reduceSub, Nat.reduceAdd, Nat.reduceMul, Nat.reduceLT, Nat.reduceLeDiff, Nat.reduceEqDiff, Int.reduceMod, Int.reduceSub, Int.reduceNeg, Int.reduceAdd, Int.reduceMul, Int.reduceLT, Int.reduceLE, Int.reduceEq, put_ss, if_true, if_false, ite_true, ite_false, reduceIte, eq_self, and_true, true_and, and_false, false_and, or_true, true_or, or_false, false_or, not_true_eq_false, not_false_eq_true, k5_68_4, k34_68_4, k54_68_4, k54b_68_4_0, mv_4, sw_4, h0]
  · by_cases h1 : 40 ≤ m 68 4
    · rw [if_pos (Or.inr h1)]
      simp (disch := first | omega | assumption) only [c_96, tr_96, ev_0, ev_1, ev_16, ev_17, ev_18, ev_2, ev_3, ev_4, ev_5, ev_6, ev_7, ev_8, ev_9, ev_20, ev_21, ev_22, ev_23, ev_24, ev_25, ev_27, ev_28, ev_30, ev_31, ev_32, ev_33, ev_34, ev_35, ev_36, ev_37, ev_38, ev_39, ev_40, ev_41, ev_42, ev_43, ev_45, ev_46, ev_47, ev_48, ev_49, ev_50, ev_51, ev_52, ev_54, ev_55, ev_57, ev_58, ev_59, k2_0, k2_1, k2_2, k3a, k3b, k4, o1_s, xbin_0, xbin_1, xbin_2, xbin_3, xbin_4, xbin_5, xbin_6, xbin_7, xbin_8, xbin_9, xbin_11, xbin_12, xun_0, xun_1, xun_2, xun_3, xun_4, xun_5, k6a, k8, k8b, k9, k20, k20b_0, k20b_1, k20b_2, k20b_3, k20b_4, k20b_5, k21_0, k21_1, k21_2, k21_3, k21_4, k21_5, k23, k24, k25, k27, k28, k40, nz_1, nz_2, nz_3, k31_0, k31_1, k31_2, k31_3, k32u, k33, k34, k35, k35b, k36, k37, k38, k47, k49, k49b_0, k49b_1, k49b_2, k49b_3, k50_0, k50_s, k51_0, k51_s, k55, k58, k58b, rk_0, rk_1, rk_2, rk_9, rk_3, rk_4, rk_5, sw_n, sw_c, xtb_n, xtb_c, lset_0, lset_2, lset_1, lkm_0, lkm_2, lkm_9, lkm_1, lkm_n, if_some1, c_10, c_01, c_x0, c_1x, c_n0, c_nn, List.getElem?_cons_zero, List.getElem?_cons_succ, List.set_cons_zero, List.set_cons_succ, List.length_cons, List.length_nil, Int.reduceToNat, Nat.reduceDiv, Nat.reduceMod, Nat.reduceSub, Nat.reduceAdd, Nat.reduceMul, Nat.reduceLT, Nat.reduceLeDiff, Nat.reduceEqDiff, Int.reduceMod, Int.reduceSub, Int.reduceNeg, Int.reduceAdd, Int.reduceMul, Int.reduceLT, Int.reduceLE, Int.reduceEq, put_ss, if_true, if_false, ite_true, ite_false, reduceIte, eq_self, and_true, true_and, and_false, false_and, or_true, true_or, or_false, false_or, not_true_eq_false, not_false_eq_true, k5_68_4, k34_68_4, k54_68_4, k54b_68_4_0, mv_4, sw_4, h0, h1]
    · rw [if_neg (by omega)]
      rcases hc with hc' | hc' <;> subst hc'
      · have h2' : m 68 2 = 83 := h2
        simp (disch := first | omega | assumption) only [c_96, tr_96, ev_0, ev_1, ev_16, ev_17, ev_18, ev_2, ev_3, ev_4, ev_5, ev_6, ev_7, ev_8, ev_9, ev_20, ev_21, ev_22, ev_23, ev_24, ev_25, ev_27, ev_28, ev_30, ev_31, ev_32, ev_33, ev_34, ev_35, ev_36, ev_37, ev_38, ev_39, ev_40, ev_41, ev_42, ev_43, ev_45, ev_46, ev_47, ev_48, ev_49, ev_50, ev_51, ev_52, ev_54, ev_55, ev_57, ev_58, ev_59, k2_0, k2_1, k2_2, k3a, k3b, k4, o1_s, xbin_0, xbin_1, xbin_2, xbin_3, xbin_4, xbin_5, xbin_6, xbin_7, xbin_8, xbin_9, xbin_11, xbin_12, xun_0, xun_1, xun_2, xun_3, xun_4, xun_5, k6a, k8, k8b, k9, k20, k20b_0, k20b_1, k20b_2, k20b_3, k20b_4, k20b_5, k21_0, k21_1, k21_2, k21_3, k21_4, k21_5, k23, k24, k25, k27, k28, k40, nz_1, nz_2, nz_3, k31_0, k31_1, k31_2, k31_3, k32u, k33, k34, k35, k35b, k36, k37, k38, k47, k49, k49b_0, k49b_1, k49b_2, k49b_3, k50_0, k50_s, k51_0, k51_s, k55, k58, k58b, rk_0, rk_1, rk_2, rk_9, rk_3, rk_4, rk_5, sw_n, sw_c, xtb_n, xtb_c, lset_0, lset_2, lset_1, lkm_0, lkm_2, lkm_9, lkm_1, lkm_n, if_some1, c_10, c_01, c_x0, c_1x, c_n0, c_nn, List.getElem?_cons_zero, List.getElem?_cons_succ, List.set_cons_zero, List.set_cons_succ, List.length_cons, List.length_nil, Int.reduceToNat, Nat.reduceDiv, Nat.reduceMod, Nat.reduceSub, Nat.reduceAdd, Nat.reduceMul, Nat.reduceLT, Nat.reduceLeDiff, Nat.reduceEqDiff, Int.reduceMod, Int.reduceSub, Int.reduceNeg, Int.reduceAdd, Int.reduceMul, Int.reduceLT, Int.reduceLE, Int.reduceEq, put_ss, if_true, if_false, ite_true, ite_false, reduceIte, eq_self, and_true, true_and, and_false, false_and, or_true, true_or, or_false, false_or, not_true_eq_false, not_false_eq_true, k5_68_4, k34_68_4, k54_68_4, k54b_68_4_0, k5_68_2, k34_68_2, k5_68_8, k34_68_8, k5_68_10, k34_68_10, k5_83_6, k6_88, k35_88, n_88, k5_83_7, k6_89, k35_89, n_89, k5_83_8, k6_90, k35_90, n_90, k5_83_9, k6_91, k35_91, n_91, mv_4, sw_4, h0, h1, mv_2, sw_2, h2', mv_8, sw_8, mv_x, put_ss, m83_88, m83_89, m83_90, m83_91]
      · have h2' : m 68 2 = 93 := h2
        simp (disch := first | omega | assumption) only [c_96, tr_96, ev_0, ev_1, ev_16, ev_17, ev_18, ev_2, ev_3, ev_4, ev_5, ev_6, ev_7, ev_8, ev_9, ev_20, ev_21, ev_22, ev_23, ev_24, ev_25, ev_27, ev_28, ev_30, ev_31, ev_32, ev_33, ev_34, ev_35, ev_36, ev_37, ev_38, ev_39, ev_40, ev_41, ev_42, ev_43, ev_45, ev_46, ev_47, ev_48, ev_49, ev_50, ev_51, ev_52, ev_54, ev_55, ev_57, ev_58, ev_59, k2_0, k2_1, k2_2, k3a, k3b, k4, o1_s, xbin_0, xbin_1, xbin_2, xbin_3, xbin_4, xbin_5, xbin_6, xbin_7, xbin_8, xbin_9, xbin_11, xbin_12, xun_0, xun_1, xun_2, xun_3, xun_4, xun_5, k6a, k8, k8b, k9, k20, k20b_0, k20b_1, k20b_2, k20b_3, k20b_4, k20b_5, k21_0, k21_1, k21_2, k21_3, k21_4, k21_5, k23, k24, k25, k27, k28, k40, nz_1, nz_2, nz_3, k31_0, k31_1, k31_2, k31_3, k32u, k33, k34, k35, k35b, k36, k37, k38, k47, k49, k49b_0, k49b_1, k49b_2, k49b_3, k50_0, k50_s, k51_0, k51_s, k55, k58, k58b, rk_0, rk_1, rk_2, rk_9, rk_3, rk_4, rk_5, sw_n, sw_c, xtb_n, xtb_c, lset_0, lset_2, lset_1, lkm_0, lkm_2, lkm_9, lkm_1, lkm_n, if_some1, c_10, c_01, c_x0, c_1x, c_n0, c_nn, List.getElem?_cons_zero, List.getElem?_cons_succ, List.set_cons_zero, List.set_cons_succ, List.length_cons, List.length_nil, Int.reduceToNat, Nat.reduceDiv, Nat.reduceMod, Nat.reduceSub, Nat.reduceAdd, Nat.reduceMul, Nat.reduceLT, Nat.reduceLeDiff, Nat.reduceEqDiff, Int.reduceMod, Int.reduceSub, Int.reduceNeg, Int.reduceAdd, Int.reduceMul, Int.reduceLT, Int.reduceLE, Int.reduceEq, put_ss, if_true, if_false, ite_true, ite_false, reduceIte, eq_self, and_true, true_and, and_false, false_and, or_true, true_or, or_false, false_or, not_true_eq_false, not_false_eq_true, k5_68_4, k34_68_4, k54_68_4, k54b_68_4_0, k5_68_2, k34_68_2, k5_68_8, k34_68_8, k5_68_10, k34_68_10, k5_93_6, k6_98, k35_98, n_98, k5_93_7, k6_99, k35_99, n_99, k5_93_8, k6_100, k35_100, n_100, k5_93_9, k6_101, k35_101, n_101, mv_4, sw_4, h0, h1, mv_2, sw_2, h2', mv_8, sw_8, mv_x, put_ss, m93_98, m93_99, m93_100, m93_101]
/-- a proc: its orders, what its locals leave, its handler, what is kept of it -/
def frt : xT → Int
  | .tag _ (.nest i _) => i
  | _ => 0
def p1 (m : Mem) (i : Int) (pa : xT) (s : xSt) (y : yS) : zS := if i = 0 then ((s.1, 0, 0, s.2.2.2.1, s.2.2.2.2), (y.1, 0, y.2.2.1, y.2.2.2.1, 0)) else prF m pa ((s.1, 0, 0, s.2.2.2.1, s.2.2.2.2), (y.1, 0, y.2.2.1, y.2.2.2.1, 0))
def p2 (m : Mem) (i2 : Int) (ra : xT) (s : xSt) : xSt := if i2 = 0 then s else rsF m (frt ra) ra 0 s
def p5 (m : Mem) (bk : xT) (s : xSt) (y : yS) : zS := stS m bk (nln y) 0 0 (em 0 (m 68 4) (-1) s, nlb y)
def p6 (m : Mem) (H : Int) (c : zS) : zS := (em 26 (m 68 4) (-1) (em 22 (m 68 4) (-1) (em 1 0 (-1) c.1)), slb H ((em 22 (m 68 4) (-1) (em 1 0 (-1) c.1)).1.length : Int) c.2)
def p7 (m : Mem) (y : yS) : yS := fgN m y.2.1.toNat y
def p8 (cd : Nat) (told first ml mx : Int) (m : Mem) : Mem := put (kpP cd told first ml mx (if 16 < w32 (ml - told) then put m 68 15 1 else m)) 68 4 (w32 (m 68 4 + 1))
def xPr (cd : Nat) (m : Mem) : xT → xSt → yS → xSt × yS × Int × Mem
  | .tag _ (.nest i (.append pa (.tag _ (.nest i2 (.append ra bk))))) => fun s y => ((p6 m (nln (p1 m i pa s y).2) (p5 m bk (p2 m i2 ra (p1 m i pa s y).1) (p1 m i pa s y).2)).1, p7 m (p6 m (nln (p1 m i pa s y).2) (p5 m bk (p2 m i2 ra (p1 m i pa s y).1) (p1 m i pa s y).2)).2, nln (p1 m i pa s y).2, p8 cd (p1 m i pa s y).2.2.1 (s.1.length : Int) (p7 m (p6 m (nln (p1 m i pa s y).2) (p5 m bk (p2 m i2 ra (p1 m i pa s y).1) (p1 m i pa s y).2)).2).2.2.2.2 (p6 m (nln (p1 m i pa s y).2) (p5 m bk (p2 m i2 ra (p1 m i pa s y).1) (p1 m i pa s y).2)).1.2.2.1 m)
  | _ => fun s y => (s, y, 0, m)
theorem kp4 {cd : Nat} (hc : cd = 83 ∨ cd = 93) {told first ml mx : Int} {m : Mem} : kpP cd told first ml mx m 68 4 = m 68 4 := by
  unfold kpP
  rcases hc with hc' | hc' <;> subst hc' <;> split <;> rfl
theorem lg_4 {c : Prop} [Decidable c] {m : Mem} : (if c then put m 68 15 1 else m) 68 4 = m 68 4 := by split <;> rfl
theorem lg_2 {c : Prop} [Decidable c] {m : Mem} : (if c then put m 68 15 1 else m) 68 2 = m 68 2 := by split <;> rfl
theorem mv_2c {cd : Nat} {p H : Int} {s : xSt} {y : yS} {m : Mem} {c : Int} (h2 : m 68 2 = c) : mv cd p s (sww H y m) 68 2 = c := h2

