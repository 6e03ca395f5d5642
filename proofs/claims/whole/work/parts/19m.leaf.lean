/-! THE MODEL'S SECOND WALK: factors that are leaves -/
section Lea
variable {F L d : Nat} {m : Mem} {xs : Nat → Int32} {p dep c : Int} {a b : xT}
theorem E_11 (U : WU m) (hb : m 158 15 = 0) (hp : 0 ≤ p ∧ p < 3001) (hT : TR 3 (m 161 p.toNat) (m 163 p.toNat)) : Cx F (d + 4) 239 [158] (Hp L xs (rv p dep m)) = some ([], Hp L xs (rv (p + 1) dep (eM (nd 11 p a b) m))) := by
  have i_p := fun D s h => N_209 (F := F) (L := L) (xs := xs) (d := D) (dep := dep) (a1 := s) hb hp hT h
  have k2 : m 161 p.toNat = 2 ∧ 0 ≤ m 163 p.toNat ∧ m 163 p.toNat ≤ 32767 := by
    unfold TR at hT
    omega
  obtain ⟨k2, k3, k5⟩ := k2
  have e1 : eM (nd 11 p a b) m = emG m 1 (m 163 p.toNat) (-1) 1 false := rfl
  have e2 : emG m 1 (m 163 p.toNat) (-1) 1 false 158 15 = 0 := by
    have : emG m 1 (m 163 p.toNat) (-1) 1 false = emF m 1 (m 163 p.toNat) (-1) 1 false := if_pos hb
    rw [this, emF_y 15 (by decide) (by decide) (by decide)]
    exact hb
  have c1 := fun D => R_246_1 (F := F) (L := L) (xs := xs) (d := D) (p := p) (dep := dep) (a := m 163 p.toNat) (l := -1) U
  have c2 := fun D => N_212 (F := F) (L := L) (xs := xs) (d := D) (m := emG m 1 (m 163 p.toNat) (-1) 1 false) (p := p) (dep := dep) e2 hp
  rw [e1]
  have i1 := i_p (d + 2) 45 (by decide)
  rw [if_neg (by decide)] at i1
  simp (disch := first | omega | assumption) only [c_239, tr_239, ev_0, ev_1, ev_16, ev_17, ev_18, ev_2, ev_3, ev_4, ev_5, ev_6, ev_7, ev_8, ev_9, ev_20, ev_21, ev_22, ev_23, ev_24, ev_25, ev_27, ev_28, ev_30, ev_31, ev_32, ev_33, ev_34, ev_35, ev_36, ev_37, ev_38, ev_39, ev_40, ev_41, ev_42, ev_43, ev_45, ev_46, ev_47, ev_48, ev_49, ev_50, ev_51, ev_52, ev_54, ev_55, ev_57, ev_58, ev_59, k2_0, k2_1, k2_2, k3a, k3b, k4, o1_s, xbin_0, xbin_1, xbin_2, xbin_3, xbin_4, xbin_5, xbin_6, xbin_7, xbin_8, xbin_9, xbin_11, xbin_12, xun_0, xun_1, xun_2, xun_3, xun_4, xun_5, k6a, k8, k8b, k9, k20, k20b_0, k20b_1, k20b_2, k20b_3, k20b_4, k20b_5, k21_0, k21_1, k21_2, k21_3, k21_4, k21_5, k23, k24, k25, k27, k28, k40, nz_1, nz_2, nz_3, k31_0, k31_1, k31_2, k31_3, k32u, k33, k34, k35, k35b, k36, k37, k38, k47, k49, k49b_0, k49b_1, k49b_2, k49b_3, k50_0, k50_s, k51_0, k51_s, k55, k58, k58b, rk_0, rk_1, rk_2, rk_9, rk_3, rk_4, rk_5, sw_n, sw_c, xtb_n, xtb_c, lset_0, lset_2, lset_1, lkm_0, lkm_2, lkm_9, lkm_1, lkm_n, if_some1, c_10, c_01, c_x0, c_1x, c_n0, c_nn, List.getElem?_cons_zero, List.getElem?_cons_succ, List.set_cons_zero, List.set_cons_succ, List.length_cons, List.length_nil, Int.reduceToNat, Nat.reduceDiv, Nat.reduceMod, Nat.reduceSub, Nat.reduceAdd, Nat.reduceMul, Nat.reduceLT, Nat.reduceLeDiff, Nat.reduceEqDiff, Int.reduceMod, Int.reduceSub, Int.reduceNeg, Int.reduceAdd, Int.reduceMul, Int.reduceLT, Int.reduceLE, Int.reduceEq, put_ss, if_true, if_false, ite_true, ite_false, reduceIte, eq_self, and_true, true_and, and_false, false_and, or_true, true_or, or_false, false_or, not_true_eq_false, not_false_eq_true, k5_158_14, k34_158_14, k34i_158_14, k5_158_15, k34_158_15, k34i_158_15, k5_158_13, k34_158_13, k54_158_13, k54b_158_13_0, k54b_158_13_1, k5_158_48, k34_158_48, k5_158_5, k6_161, k35_161, n_161, k5_158_7, k6_163, k35_163, n_163, k5_158_12, k34_158_12, k54_158_12, k54b_158_12_0, rv_t, rv_x, rv_y, i1, c1, c2, hb, k2, w32_of]
theorem E_12 (U : WU m) (hb : m 158 15 = 0) (hp : 0 ≤ p ∧ p < 3001) (hT : TR 16 (m 161 p.toNat) (m 163 p.toNat)) : Cx F (d + 4) 239 [158] (Hp L xs (rv p dep m)) = some ([], Hp L xs (rv (p + 1) dep (eM (nd 12 c a b) m))) := by
  have i1 := N_209 (F := F) (L := L) (xs := xs) (d := d + 2) (dep := dep) (a1 := 45) hb hp hT (by decide)
  rw [if_neg (by decide)] at i1
  have y1 := N_210 (F := F) (L := L) (xs := xs) (d := d + 2) (dep := dep) (a1 := 12) hb hp hT (by decide)
  rw [if_pos (by decide)] at y1
  have k2 : ¬ m 161 p.toNat = 2 := by
    unfold TR at hT
    omega
  have e1 : eM (nd 12 c a b) m = emG m 19 0 (m 158 48) 1 false := rfl
  have c1 := fun D => R_246_19 (F := F) (L := L) (xs := xs) (d := D) (p := p + 1) (dep := dep) (a := 0) (l := m 158 48) U
  have c2 := fun D => N_212 (F := F) (L := L) (xs := xs) (d := D) (m := m) (p := p) (dep := dep) hb hp
  rw [e1]
  simp (disch := first | omega | assumption) only [c_239, tr_239, ev_0, ev_1, ev_16, ev_17, ev_18, ev_2, ev_3, ev_4, ev_5, ev_6, ev_7, ev_8, ev_9, ev_20, ev_21, ev_22, ev_23, ev_24, ev_25, ev_27, ev_28, ev_30, ev_31, ev_32, ev_33, ev_34, ev_35, ev_36, ev_37, ev_38, ev_39, ev_40, ev_41, ev_42, ev_43, ev_45, ev_46, ev_47, ev_48, ev_49, ev_50, ev_51, ev_52, ev_54, ev_55, ev_57, ev_58, ev_59, k2_0, k2_1, k2_2, k3a, k3b, k4, o1_s, xbin_0, xbin_1, xbin_2, xbin_3, xbin_4, xbin_5, xbin_6, xbin_7, xbin_8, xbin_9, xbin_11, xbin_12, xun_0, xun_1, xun_2, xun_3, xun_4, xun_5, k6a, k8, k8b, k9, k20, k20b_0, k20b_1, k20b_2, k20b_3, k20b_4, k20b_5, k21_0, k21_1, k21_2, k21_3, k21_4, k21_5, k23, k24, k25, k27, k28, k40, nz_1, nz_2, nz_3, k31_0, k31_1, k31_2, k31_3, k32u, k33, k34, k35, k35b, k36, k37, k38, k47, k49, k49b_0, k49b_1, k49b_2, k49b_3, k50_0, k50_s, k51_0, k51_s, k55, k58, k58b, rk_0, rk_1, rk_2, rk_9, rk_3, rk_4, rk_5, sw_n, sw_c, xtb_n, xtb_c, lset_0, lset_2, lset_1, lkm_0, lkm_2, lkm_9, lkm_1, lkm_n, if_some1, c_10, c_01, c_x0, c_1x, c_n0, c_nn, List.getElem?_cons_zero, List.getElem?_cons_succ, List.set_cons_zero, List.set_cons_succ, List.length_cons, List.length_nil, Int.reduceToNat, Nat.reduceDiv, Nat.reduceMod, Nat.reduceSub, Nat.reduceAdd, Nat.reduceMul, Nat.reduceLT, Nat.reduceLeDiff, Nat.reduceEqDiff, Int.reduceMod, Int.reduceSub, Int.reduceNeg, Int.reduceAdd, Int.reduceMul, Int.reduceLT, Int.reduceLE, Int.reduceEq, put_ss, if_true, if_false, ite_true, ite_false, reduceIte, eq_self, and_true, true_and, and_false, false_and, or_true, true_or, or_false, false_or, not_true_eq_false, not_false_eq_true, k5_158_14, k34_158_14, k34i_158_14, k5_158_15, k34_158_15, k34i_158_15, k5_158_13, k34_158_13, k54_158_13, k54b_158_13_0, k54b_158_13_1, k5_158_48, k34_158_48, k5_158_5, k6_161, k35_161, n_161, k5_158_7, k6_163, k35_163, n_163, k5_158_12, k34_158_12, k54_158_12, k54b_158_12_0, rv_t, rv_x, rv_y, i1, y1, c1, c2, hb, k2, w32_of]
theorem E_13 (hF : 100000 ≤ F) (U : WU m) (hb : m 158 15 = 0) (hp : 0 ≤ p ∧ p < 3000) (hT : TR 2 (m 161 p.toNat) (m 163 p.toNat)) (hT2 : TR c (m 161 (p + 1).toNat) (m 163 (p + 1).toNat)) (hc1 : c ≠ 91) (hc2 : c ≠ 40) (hX : isK m (vlT m p) 1 → 0 ≤ inX m (vlT m p) ∧ inX m (vlT m p) ≤ 3000) : Cx F (d + 4) 239 [158] (Hp L xs (rv p dep m)) = some ([], Hp L xs (rv (p + 1) dep (eM (nd 13 p a b) m))) := by
  have hp' : 0 ≤ p ∧ p < 3001 := ⟨hp.1, by omega⟩
  have hp2 : 0 ≤ p + 1 ∧ p + 1 < 3001 := ⟨by omega, by omega⟩
  have i1 := N_209 (F := F) (L := L) (xs := xs) (d := d + 2) (dep := dep) (a1 := 45) hb hp' hT (by decide)
  rw [if_neg (by decide)] at i1
  have i2 := N_209 (F := F) (L := L) (xs := xs) (d := d + 2) (dep := dep) (a1 := 40) hb hp' hT (by decide)
  rw [if_neg (by decide)] at i2
  have y1 := N_210 (F := F) (L := L) (xs := xs) (d := d + 2) (dep := dep) (a1 := 12) hb hp' hT (by decide)
  rw [if_neg (by decide)] at y1
  have w1 := N_211 (F := F) (L := L) (xs := xs) (d := d + 2) (dep := dep) hb hp' hT
  rw [if_pos rfl] at w1
  have n1 := N_215 (F := F) (L := L) (xs := xs) (d := d) (dep := dep) hb hp' hT rfl
  have s91 : sgn 91 = 91 := by decide
  have s40 : sgn 40 = 40 := by decide
  have i3 := N_209 (F := F) (L := L) (xs := xs) (d := d + 2) (dep := dep) (a1 := 91) hb hp2 hT2 (by decide)
  rw [s91, if_neg hc1] at i3
  have i4 := N_209 (F := F) (L := L) (xs := xs) (d := d + 2) (dep := dep) (a1 := 40) hb hp2 hT2 (by decide)
  rw [s40, if_neg hc2] at i4
  have k2 : ¬ m 161 p.toNat = 2 := by
    unfold TR at hT
    omega
  have c1 := R_242 (F := F) (L := L) (xs := xs) (d := d + 1) (p := p + 1) (dep := dep) (a := p) hF U hp.1 hp'.2 hX
  have f1 := Fm_plM (n := p) U.2.2.2.2.2.1
  have U1 : WU (plM m p) := by
    obtain ⟨u1, u2, u3, u4, u5, u6, u7, u8⟩ := U
    have g17 := f1.2.1 17 (by decide) (by decide) (by decide) (by decide) (by decide) (by decide) (by decide)
    have g30 := f1.2.1 30 (by decide) (by decide) (by decide) (by decide) (by decide) (by decide) (by decide)
    have g14 := f1.2.1 14 (by decide) (by decide) (by decide) (by decide) (by decide) (by decide) (by decide)
    have g41 := f1.2.2.1
    have g41b := f1.2.2.2.1
    exact ⟨by omega, by omega, by omega, by omega, by omega, f1.2.2.2.2, by omega, by omega⟩
  have e1 : eM (nd 13 p a b) m = emG (plM m p) (if 1000 ≤ plV m p then 4 else 2) (plV m p % 1000) (-1) 1 false := rfl
  rw [e1]
  have hv : 0 ≤ plV m p := by
    unfold plV
    split
    · split
      · assumption
      · split
        · have := hX (by assumption)
          omega
        · omega
    · omega
  have em : (plV m p).tmod 1000 = plV m p % 1000 := Int.tmod_eq_emod_of_nonneg hv
  by_cases hq : 1000 ≤ plV m p
  · rw [if_pos hq]
    have c3 := fun D => R_246_4 (F := F) (L := L) (xs := xs) (d := D) (p := p + 1) (dep := dep) (a := plV m p % 1000) (l := -1) U1
    simp (disch := first | omega | assumption) only [c_239, tr_239, ev_0, ev_1, ev_16, ev_17, ev_18, ev_2, ev_3, ev_4, ev_5, ev_6, ev_7, ev_8, ev_9, ev_20, ev_21, ev_22, ev_23, ev_24, ev_25, ev_27, ev_28, ev_30, ev_31, ev_32, ev_33, ev_34, ev_35, ev_36, ev_37, ev_38, ev_39, ev_40, ev_41, ev_42, ev_43, ev_45, ev_46, ev_47, ev_48, ev_49, ev_50, ev_51, ev_52, ev_54, ev_55, ev_57, ev_58, ev_59, k2_0, k2_1, k2_2, k3a, k3b, k4, o1_s, xbin_0, xbin_1, xbin_2, xbin_3, xbin_4, xbin_5, xbin_6, xbin_7, xbin_8, xbin_9, xbin_11, xbin_12, xun_0, xun_1, xun_2, xun_3, xun_4, xun_5, k6a, k8, k8b, k9, k20, k20b_0, k20b_1, k20b_2, k20b_3, k20b_4, k20b_5, k21_0, k21_1, k21_2, k21_3, k21_4, k21_5, k23, k24, k25, k27, k28, k40, nz_1, nz_2, nz_3, k31_0, k31_1, k31_2, k31_3, k32u, k33, k34, k35, k35b, k36, k37, k38, k47, k49, k49b_0, k49b_1, k49b_2, k49b_3, k50_0, k50_s, k51_0, k51_s, k55, k58, k58b, rk_0, rk_1, rk_2, rk_9, rk_3, rk_4, rk_5, sw_n, sw_c, xtb_n, xtb_c, lset_0, lset_2, lset_1, lkm_0, lkm_2, lkm_9, lkm_1, lkm_n, if_some1, c_10, c_01, c_x0, c_1x, c_n0, c_nn, List.getElem?_cons_zero, List.getElem?_cons_succ, List.set_cons_zero, List.set_cons_succ, List.length_cons, List.length_nil, Int.reduceToNat, Nat.reduceDiv, Nat.reduceMod, Nat.reduceSub, Nat.reduceAdd, Nat.reduceMul, Nat.reduceLT, Nat.reduceLeDiff, Nat.reduceEqDiff, Int.reduceMod, Int.reduceSub, Int.reduceNeg, Int.reduceAdd, Int.reduceMul, Int.reduceLT, Int.reduceLE, Int.reduceEq, put_ss, if_true, if_false, ite_true, ite_false, reduceIte, eq_self, and_true, true_and, and_false, false_and, or_true, true_or, or_false, false_or, not_true_eq_false, not_false_eq_true, k5_158_14, k34_158_14, k34i_158_14, k5_158_15, k34_158_15, k34i_158_15, k5_158_13, k34_158_13, k54_158_13, k54b_158_13_0, k54b_158_13_1, k5_158_48, k34_158_48, k5_158_5, k6_161, k35_161, n_161, k5_158_7, k6_163, k35_163, n_163, k5_158_12, k34_158_12, k54_158_12, k54b_158_12_0, rv_t, rv_x, rv_y, i1, i2, i3, i4, y1, w1, n1, c1, c3, em, hb, k2, hq, w32_of]
  · rw [if_neg hq]
    have c3 := fun D => R_246_2 (F := F) (L := L) (xs := xs) (d := D) (p := p + 1) (dep := dep) (a := plV m p % 1000) (l := -1) U1
    simp (disch := first | omega | assumption) only [c_239, tr_239, ev_0, ev_1, ev_16, ev_17, ev_18, ev_2, ev_3, ev_4, ev_5, ev_6, ev_7, ev_8, ev_9, ev_20, ev_21, ev_22, ev_23, ev_24, ev_25, ev_27, ev_28, ev_30, ev_31, ev_32, ev_33, ev_34, ev_35, ev_36, ev_37, ev_38, ev_39, ev_40, ev_41, ev_42, ev_43, ev_45, ev_46, ev_47, ev_48, ev_49, ev_50, ev_51, ev_52, ev_54, ev_55, ev_57, ev_58, ev_59, k2_0, k2_1, k2_2, k3a, k3b, k4, o1_s, xbin_0, xbin_1, xbin_2, xbin_3, xbin_4, xbin_5, xbin_6, xbin_7, xbin_8, xbin_9, xbin_11, xbin_12, xun_0, xun_1, xun_2, xun_3, xun_4, xun_5, k6a, k8, k8b, k9, k20, k20b_0, k20b_1, k20b_2, k20b_3, k20b_4, k20b_5, k21_0, k21_1, k21_2, k21_3, k21_4, k21_5, k23, k24, k25, k27, k28, k40, nz_1, nz_2, nz_3, k31_0, k31_1, k31_2, k31_3, k32u, k33, k34, k35, k35b, k36, k37, k38, k47, k49, k49b_0, k49b_1, k49b_2, k49b_3, k50_0, k50_s, k51_0, k51_s, k55, k58, k58b, rk_0, rk_1, rk_2, rk_9, rk_3, rk_4, rk_5, sw_n, sw_c, xtb_n, xtb_c, lset_0, lset_2, lset_1, lkm_0, lkm_2, lkm_9, lkm_1, lkm_n, if_some1, c_10, c_01, c_x0, c_1x, c_n0, c_nn, List.getElem?_cons_zero, List.getElem?_cons_succ, List.set_cons_zero, List.set_cons_succ, List.length_cons, List.length_nil, Int.reduceToNat, Nat.reduceDiv, Nat.reduceMod, Nat.reduceSub, Nat.reduceAdd, Nat.reduceMul, Nat.reduceLT, Nat.reduceLeDiff, Nat.reduceEqDiff, Int.reduceMod, Int.reduceSub, Int.reduceNeg, Int.reduceAdd, Int.reduceMul, Int.reduceLT, Int.reduceLE, Int.reduceEq, put_ss, if_true, if_false, ite_true, ite_false, reduceIte, eq_self, and_true, true_and, and_false, false_and, or_true, true_or, or_false, false_or, not_true_eq_false, not_false_eq_true, k5_158_14, k34_158_14, k34i_158_14, k5_158_15, k34_158_15, k34i_158_15, k5_158_13, k34_158_13, k54_158_13, k54b_158_13_0, k54b_158_13_1, k5_158_48, k34_158_48, k5_158_5, k6_161, k35_161, n_161, k5_158_7, k6_163, k35_163, n_163, k5_158_12, k34_158_12, k54_158_12, k54b_158_12_0, rv_t, rv_x, rv_y, i1, i2, i3, i4, y1, w1, n1, c1, c3, em, hb, k2, hq, w32_of]
end Lea
