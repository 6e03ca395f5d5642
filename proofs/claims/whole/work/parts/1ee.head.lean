/-! THE CLASS LAYS: its head, its tables -/
section Tab
variable {F L d : Nat} {xs : Nat → Int32} {S S0 : lS} {cd : Nat} {M : Mem} {n : Nat} {Lo : xL} {y : Int} {A g ch : Int} {J W : Nat → Int}
/-- the words of a table, from the k-th of its fours on -/
def tbL (tv : List Int) (k : Nat) : Nat → List Int
  | 0 => []
  | j + 1 => wrd (tv.getD (4 * k) 0) (tv.getD (4 * k + 1) 0) (tv.getD (4 * k + 2) 0) (lw (tv.getD (4 * k) 0) (tv.getD (4 * k + 3) 0)) :: tbL tv (k + 1) j
def okQ (tv : List Int) (k : Nat) : Prop := (0 ≤ tv.getD (4 * k) 0 ∧ tv.getD (4 * k) 0 < 16) ∧ (0 ≤ tv.getD (4 * k + 1) 0 ∧ tv.getD (4 * k + 1) 0 < 8) ∧ (0 ≤ tv.getD (4 * k + 2) 0 ∧ tv.getD (4 * k + 2) 0 < 8) ∧ (tv.getD (4 * k) 0 ≤ 4 → 0 ≤ tv.getD (4 * k + 3) 0 ∧ tv.getD (4 * k + 3) 0 < 8) ∧ (6 ≤ tv.getD (4 * k) 0 → tv.getD (4 * k) 0 ≠ 8 → tv.getD (4 * k) 0 ≠ 9 → tv.getD (4 * k) 0 ≠ 10 → tv.getD (4 * k) 0 ≠ 13 → tv.getD (4 * k + 2) 0 = 0) ∧ (tv.getD (4 * k) 0 = 14 → tv.getD (4 * k + 1) 0 = 0)
def okb (o r a x : Int) : Bool := decide (0 ≤ o ∧ o < 16) && decide (0 ≤ r ∧ r < 8) && decide (0 ≤ a ∧ a < 8) && decide (4 < o ∨ (0 ≤ x ∧ x < 8)) && decide (o < 6 ∨ o = 8 ∨ o = 9 ∨ o = 10 ∨ o = 13 ∨ a = 0) && decide (o ≠ 14 ∨ r = 0)
theorem okQ_b {tv : List Int} {k : Nat} (h : okb (tv.getD (4 * k) 0) (tv.getD (4 * k + 1) 0) (tv.getD (4 * k + 2) 0) (tv.getD (4 * k + 3) 0) = true) : okQ tv k := by
  unfold okb at h
  simp only [Bool.and_eq_true, decide_eq_true_eq] at h
  obtain ⟨⟨⟨⟨⟨h1, h2⟩, h3⟩, h4⟩, h5⟩, h6⟩ := h
  exact ⟨h1, h2, h3, by omega, by omega, by omega⟩
theorem okA_1 : ((List.range 30).all fun k => okb (tv_1.getD (4 * k) 0) (tv_1.getD (4 * k + 1) 0) (tv_1.getD (4 * k + 2) 0) (tv_1.getD (4 * k + 3) 0)) = true := by decide +kernel
theorem okA_2 : ((List.range 44).all fun k => okb (tv_2.getD (4 * k) 0) (tv_2.getD (4 * k + 1) 0) (tv_2.getD (4 * k + 2) 0) (tv_2.getD (4 * k + 3) 0)) = true := by decide +kernel
theorem okQ_1 : ∀ k : Nat, k < 30 → okQ tv_1 k := fun k hk => okQ_b (List.all_eq_true.mp okA_1 k (List.mem_range.mpr hk))
theorem okQ_2 : ∀ k : Nat, k < 44 → okQ tv_2 k := fun k hk => okQ_b (List.all_eq_true.mp okA_2 k (List.mem_range.mpr hk))
theorem L_38 {tv : List Int} {c : Int} {q : Nat} (X : LC cd M) (hq : q ≤ 50) (hok : ∀ k : Nat, k < q → okQ tv k) (hk6 : ∀ (y : Int) (m : Mem) (Lo : xL), 0 ≤ y → y < 4 * q → K6b 0 c (some (0, [y], (Lo, Hp L xs m))) = some (0, [tv.getD y.toNat 0], (Lo, Hp L xs m))) (hn7 : ∀ (m : Mem) (Lo : xL), K7 0 (some (0, [c], (Lo, Hp L xs m))) = some (0, [((4 * q : Nat) : Int)], (Lo, Hp L xs m))) : ∀ (j k : Nat) (S : lS) (n N : Nat), k + j = q → LBd S n → n + j < 4900 → j < N → LF F (d + 1) la_38_0 lb_38_0 lc_38_0 N ([(2, 71), (2, c), (0, ((4 * k : Nat) : Int))], Hp L xs (lyS S cd M)) = some (0, [], ([(2, 71), (2, c), (0, ((4 * q : Nat) : Int))], Hp L xs (lyS (eS (M 71 3) (tbL tv k j) S) cd M))) := by
  intro j
  induction j with
  | zero =>
    intro k S n N h hb hn hN
    obtain ⟨N, rfl⟩ : ∃ n', N = n' + 1 := ⟨N - 1, by omega⟩
    have e : k = q := by omega
    subst e
    have hq' : ¬ ((4 * k : Nat) : Int) + 3 < ((4 * k : Nat) : Int) := by omega
    rw [lf_s]
    simp (disch := omega) only [ea_38_0, eb_38_0, ec_38_0, l1_i, l1_1, l1_0, l2_0, l2_1, l2_2, l2_3, l3_0, w2_0, w2_1, w2_2, w2_3, d1_0, d1_1, d1_2, d1_3, d2_i, d2_1, d2_0, ev_0, ev_1, ev_16, ev_17, ev_18, ev_2, ev_3, ev_4, ev_5, ev_6, ev_7, ev_8, ev_9, ev_20, ev_21, ev_22, ev_23, ev_24, ev_25, ev_27, ev_28, ev_30, ev_31, ev_32, ev_33, ev_34, ev_35, ev_36, ev_37, ev_38, ev_39, ev_40, ev_41, ev_42, ev_43, ev_45, ev_46, ev_47, ev_48, ev_49, ev_50, ev_51, ev_52, ev_54, ev_55, ev_57, ev_58, ev_59, k2_0, k2_1, k2_2, k3a, k3b, k4, o1_s, xbin_0, xbin_1, xbin_2, xbin_3, xbin_4, xbin_5, xbin_6, xbin_7, xbin_8, xbin_9, xbin_11, xbin_12, xun_0, xun_1, xun_2, xun_3, xun_4, xun_5, k6a, k8, k8b, k9, k20, k20b_0, k20b_1, k20b_2, k20b_3, k20b_4, k20b_5, k21_0, k21_1, k21_2, k21_3, k21_4, k21_5, k23, k24, k25, k27, k28, k40, nz_1, nz_2, nz_3, k31_0, k31_1, k31_2, k31_3, k32u, k33, k34, k35, k35b, k36, k37, k38, k47, k49, k49b_0, k49b_1, k49b_2, k49b_3, k50_0, k50_s, k51_0, k51_s, k55, k58, k58b, rk_0, rk_1, rk_2, rk_9, rk_3, rk_4, rk_5, sw_n, sw_c, xtb_n, xtb_c, lset_0, lset_2, lset_1, lkm_0, lkm_2, lkm_9, lkm_1, lkm_n, if_some1, c_10, c_01, c_x0, c_1x, c_n0, c_nn, List.getElem?_cons_zero, List.getElem?_cons_succ, List.set_cons_zero, List.set_cons_succ, List.length_cons, List.length_nil, Int.reduceToNat, Nat.reduceDiv, Nat.reduceMod, Nat.reduceSub, Nat.reduceAdd, Nat.reduceMul, Nat.reduceLT, Nat.reduceLeDiff, Nat.reduceEqDiff, Int.reduceMod, Int.reduceSub, Int.reduceNeg, Int.reduceAdd, Int.reduceMul, Int.reduceLT, Int.reduceLE, Int.reduceEq, put_ss, if_true, if_false, ite_true, ite_false, reduceIte, eq_self, and_true, true_and, and_false, false_and, or_true, true_or, or_false, false_or, not_true_eq_false, not_false_eq_true, hn7, w32_of, hq']
    rw [show tbL tv k 0 = [] from rfl, eS_0]
  | succ j ih =>
    intro k S n N h hb hn hN
    obtain ⟨N, rfl⟩ : ∃ n', N = n' + 1 := ⟨N - 1, by omega⟩
    have hq' : ((4 * k : Nat) : Int) + 3 < ((4 * q : Nat) : Int) := by omega
    obtain ⟨q1, q2, q3, q4, q5, q6⟩ := hok k (by omega)
    have e1 : tbL tv k (j + 1) = [wrd (tv.getD (4 * k) 0) (tv.getD (4 * k + 1) 0) (tv.getD (4 * k + 2) 0) (lw (tv.getD (4 * k) 0) (tv.getD (4 * k + 3) 0))] ++ tbL tv (k + 1) j := rfl
    rw [e1, ← eS_app]
    have t0 : (((4 * k : Nat) : Int)).toNat = 4 * k := by omega
    have t1 : (((4 * k : Nat) : Int) + 1).toNat = 4 * k + 1 := by omega
    have t2 : (((4 * k : Nat) : Int) + 2).toNat = 4 * k + 2 := by omega
    have t3 : (((4 * k : Nat) : Int) + 3).toNat = 4 * k + 3 := by omega
    have p1 := fun D => P_39 (F := F) (L := L) (xs := xs) (d := D) (S := S) X hb (by omega) q1 q2 q3 q4 q5 q6
    have c1 := ih (k + 1) (eS (M 71 3) [wrd (tv.getD (4 * k) 0) (tv.getD (4 * k + 1) 0) (tv.getD (4 * k + 2) 0) (lw (tv.getD (4 * k) 0) (tv.getD (4 * k + 3) 0))] S) (n + 1) N (by omega) (lb_e hb (Nat.le_of_ble_eq_true rfl)) (by omega) (by omega)
    have e4 : ((4 * (k + 1) : Nat) : Int) = ((4 * k : Nat) : Int) + 4 := by omega
    rw [e4] at c1
    rw [lf_s]
    simp (disch := omega) only [ea_38_0, eb_38_0, ec_38_0, l1_i, l1_1, l1_0, l2_0, l2_1, l2_2, l2_3, l3_0, w2_0, w2_1, w2_2, w2_3, d1_0, d1_1, d1_2, d1_3, d2_i, d2_1, d2_0, ev_0, ev_1, ev_16, ev_17, ev_18, ev_2, ev_3, ev_4, ev_5, ev_6, ev_7, ev_8, ev_9, ev_20, ev_21, ev_22, ev_23, ev_24, ev_25, ev_27, ev_28, ev_30, ev_31, ev_32, ev_33, ev_34, ev_35, ev_36, ev_37, ev_38, ev_39, ev_40, ev_41, ev_42, ev_43, ev_45, ev_46, ev_47, ev_48, ev_49, ev_50, ev_51, ev_52, ev_54, ev_55, ev_57, ev_58, ev_59, k2_0, k2_1, k2_2, k3a, k3b, k4, o1_s, xbin_0, xbin_1, xbin_2, xbin_3, xbin_4, xbin_5, xbin_6, xbin_7, xbin_8, xbin_9, xbin_11, xbin_12, xun_0, xun_1, xun_2, xun_3, xun_4, xun_5, k6a, k8, k8b, k9, k20, k20b_0, k20b_1, k20b_2, k20b_3, k20b_4, k20b_5, k21_0, k21_1, k21_2, k21_3, k21_4, k21_5, k23, k24, k25, k27, k28, k40, nz_1, nz_2, nz_3, k31_0, k31_1, k31_2, k31_3, k32u, k33, k34, k35, k35b, k36, k37, k38, k47, k49, k49b_0, k49b_1, k49b_2, k49b_3, k50_0, k50_s, k51_0, k51_s, k55, k58, k58b, rk_0, rk_1, rk_2, rk_9, rk_3, rk_4, rk_5, sw_n, sw_c, xtb_n, xtb_c, lset_0, lset_2, lset_1, lkm_0, lkm_2, lkm_9, lkm_1, lkm_n, if_some1, c_10, c_01, c_x0, c_1x, c_n0, c_nn, List.getElem?_cons_zero, List.getElem?_cons_succ, List.set_cons_zero, List.set_cons_succ, List.length_cons, List.length_nil, Int.reduceToNat, Nat.reduceDiv, Nat.reduceMod, Nat.reduceSub, Nat.reduceAdd, Nat.reduceMul, Nat.reduceLT, Nat.reduceLeDiff, Nat.reduceEqDiff, Int.reduceMod, Int.reduceSub, Int.reduceNeg, Int.reduceAdd, Int.reduceMul, Int.reduceLT, Int.reduceLE, Int.reduceEq, put_ss, if_true, if_false, ite_true, ite_false, reduceIte, eq_self, and_true, true_and, and_false, false_and, or_true, true_or, or_false, false_or, not_true_eq_false, not_false_eq_true, hn7, hk6, t0, t1, t2, t3, w32_of, hq', p1, c1]
theorem C_38_1 (X : LC cd M) (hF : 100000 ≤ F) (hb : LBd S n) (hn : n < 4000) : Cx F (d + 2) 38 [71, 1] (Hp L xs (lyS S cd M)) = some ([], Hp L xs (lyS (eS (M 71 3) (tbL tv_1 0 30) S) cd M)) := by
  have c1 := L_38 (F := F) (L := L) (xs := xs) (d := d) (cd := cd) (M := M) (tv := tv_1) (c := 1) (q := 30) X (by decide) okQ_1 (fun y m Lo h0 h1 => k6_1 h0 h1) (fun m Lo => n_1) 30 0 S n F (by omega) hb (by omega) (by omega)
  have c2 : LF F (d + 1) la_38_0 lb_38_0 lc_38_0 F ([(2, 71), (2, 1), (0, 0)], Hp L xs (lyS S cd M)) = some (0, [], ([(2, 71), (2, 1), (0, 120)], Hp L xs (lyS (eS (M 71 3) (tbL tv_1 0 30) S) cd M))) := c1
  simp (disch := omega) only [c_38, tx_38, ev_0, ev_1, ev_16, ev_17, ev_18, ev_2, ev_3, ev_4, ev_5, ev_6, ev_7, ev_8, ev_9, ev_20, ev_21, ev_22, ev_23, ev_24, ev_25, ev_27, ev_28, ev_30, ev_31, ev_32, ev_33, ev_34, ev_35, ev_36, ev_37, ev_38, ev_39, ev_40, ev_41, ev_42, ev_43, ev_45, ev_46, ev_47, ev_48, ev_49, ev_50, ev_51, ev_52, ev_54, ev_55, ev_57, ev_58, ev_59, k2_0, k2_1, k2_2, k3a, k3b, k4, o1_s, xbin_0, xbin_1, xbin_2, xbin_3, xbin_4, xbin_5, xbin_6, xbin_7, xbin_8, xbin_9, xbin_11, xbin_12, xun_0, xun_1, xun_2, xun_3, xun_4, xun_5, k6a, k8, k8b, k9, k20, k20b_0, k20b_1, k20b_2, k20b_3, k20b_4, k20b_5, k21_0, k21_1, k21_2, k21_3, k21_4, k21_5, k23, k24, k25, k27, k28, k40, nz_1, nz_2, nz_3, k31_0, k31_1, k31_2, k31_3, k32u, k33, k34, k35, k35b, k36, k37, k38, k47, k49, k49b_0, k49b_1, k49b_2, k49b_3, k50_0, k50_s, k51_0, k51_s, k55, k58, k58b, rk_0, rk_1, rk_2, rk_9, rk_3, rk_4, rk_5, sw_n, sw_c, xtb_n, xtb_c, lset_0, lset_2, lset_1, lkm_0, lkm_2, lkm_9, lkm_1, lkm_n, if_some1, c_10, c_01, c_x0, c_1x, c_n0, c_nn, List.getElem?_cons_zero, List.getElem?_cons_succ, List.set_cons_zero, List.set_cons_succ, List.length_cons, List.length_nil, Int.reduceToNat, Nat.reduceDiv, Nat.reduceMod, Nat.reduceSub, Nat.reduceAdd, Nat.reduceMul, Nat.reduceLT, Nat.reduceLeDiff, Nat.reduceEqDiff, Int.reduceMod, Int.reduceSub, Int.reduceNeg, Int.reduceAdd, Int.reduceMul, Int.reduceLT, Int.reduceLE, Int.reduceEq, put_ss, if_true, if_false, ite_true, ite_false, reduceIte, eq_self, and_true, true_and, and_false, false_and, or_true, true_or, or_false, false_or, not_true_eq_false, not_false_eq_true, c2]
theorem C_38_2 (X : LC cd M) (hF : 100000 ≤ F) (hb : LBd S n) (hn : n < 4000) : Cx F (d + 2) 38 [71, 2] (Hp L xs (lyS S cd M)) = some ([], Hp L xs (lyS (eS (M 71 3) (tbL tv_2 0 44) S) cd M)) := by
  have c1 := L_38 (F := F) (L := L) (xs := xs) (d := d) (cd := cd) (M := M) (tv := tv_2) (c := 2) (q := 44) X (by decide) okQ_2 (fun y m Lo h0 h1 => k6_2 h0 h1) (fun m Lo => n_2) 44 0 S n F (by omega) hb (by omega) (by omega)
  have c2 : LF F (d + 1) la_38_0 lb_38_0 lc_38_0 F ([(2, 71), (2, 2), (0, 0)], Hp L xs (lyS S cd M)) = some (0, [], ([(2, 71), (2, 2), (0, 176)], Hp L xs (lyS (eS (M 71 3) (tbL tv_2 0 44) S) cd M))) := c1
  simp (disch := omega) only [c_38, tx_38, ev_0, ev_1, ev_16, ev_17, ev_18, ev_2, ev_3, ev_4, ev_5, ev_6, ev_7, ev_8, ev_9, ev_20, ev_21, ev_22, ev_23, ev_24, ev_25, ev_27, ev_28, ev_30, ev_31, ev_32, ev_33, ev_34, ev_35, ev_36, ev_37, ev_38, ev_39, ev_40, ev_41, ev_42, ev_43, ev_45, ev_46, ev_47, ev_48, ev_49, ev_50, ev_51, ev_52, ev_54, ev_55, ev_57, ev_58, ev_59, k2_0, k2_1, k2_2, k3a, k3b, k4, o1_s, xbin_0, xbin_1, xbin_2, xbin_3, xbin_4, xbin_5, xbin_6, xbin_7, xbin_8, xbin_9, xbin_11, xbin_12, xun_0, xun_1, xun_2, xun_3, xun_4, xun_5, k6a, k8, k8b, k9, k20, k20b_0, k20b_1, k20b_2, k20b_3, k20b_4, k20b_5, k21_0, k21_1, k21_2, k21_3, k21_4, k21_5, k23, k24, k25, k27, k28, k40, nz_1, nz_2, nz_3, k31_0, k31_1, k31_2, k31_3, k32u, k33, k34, k35, k35b, k36, k37, k38, k47, k49, k49b_0, k49b_1, k49b_2, k49b_3, k50_0, k50_s, k51_0, k51_s, k55, k58, k58b, rk_0, rk_1, rk_2, rk_9, rk_3, rk_4, rk_5, sw_n, sw_c, xtb_n, xtb_c, lset_0, lset_2, lset_1, lkm_0, lkm_2, lkm_9, lkm_1, lkm_n, if_some1, c_10, c_01, c_x0, c_1x, c_n0, c_nn, List.getElem?_cons_zero, List.getElem?_cons_succ, List.set_cons_zero, List.set_cons_succ, List.length_cons, List.length_nil, Int.reduceToNat, Nat.reduceDiv, Nat.reduceMod, Nat.reduceSub, Nat.reduceAdd, Nat.reduceMul, Nat.reduceLT, Nat.reduceLeDiff, Nat.reduceEqDiff, Int.reduceMod, Int.reduceSub, Int.reduceNeg, Int.reduceAdd, Int.reduceMul, Int.reduceLT, Int.reduceLE, Int.reduceEq, put_ss, if_true, if_false, ite_true, ite_false, reduceIte, eq_self, and_true, true_and, and_false, false_and, or_true, true_or, or_false, false_or, not_true_eq_false, not_false_eq_true, c2]
def o_H (m : Mem) (cd : Nat) (mn : Int) (S : lS) : lS := (eS (m 71 3) [wrd 15 0 0 (lw 15 0)] (eS (m 71 3) (cLib (PLc m cd (ENc m cd mn))) (eS (m 71 3) [wrd 10 6 7 (lw 10 0)] (eS (m 71 3) (cPl 7 (m cd 12 + m 57 8)) (eS (m 71 3) [wrd 6 4 0 (lw 6 0)] S)))))
/-- main is among the class's names -/
theorem D_156 {mn : Int} (hc : cd = 83 ∨ cd = 93) (hF : 100000 ≤ F) (h0 : 0 ≤ M 57 4) (h4 : M 57 4 < 1510) (h7 : M 57 7 ≤ 300) (hf : fst1 (M 58) 660205 0 (M 57 4).toNat ≠ -1) (hmn : mnC M = mn) : Cx F (d + 7) 156 [57] (Hp L xs (ly A g ch J W cd M)) = some ([mn], Hp L xs (ly A g ch J W cd M)) := by
  have e57 : ∀ k, ly A g ch J W cd M 57 k = M 57 k := fun k => ly_o (by decide) (by decide) (by omega)
  have e58 : ∀ k, ly A g ch J W cd M 58 k = M 58 k := fun k => ly_o (by decide) (by decide) (by omega)
  have e59 : ∀ k, ly A g ch J W cd M 59 k = M 59 k := fun k => ly_o (by decide) (by decide) (by omega)
  have e60 : ∀ k, ly A g ch J W cd M 60 k = M 60 k := fun k => ly_o (by decide) (by decide) (by omega)
  have e64 : ∀ k, ly A g ch J W cd M 64 k = M 64 k := fun k => ly_o (by decide) (by decide) (by omega)
  have f58 : ly A g ch J W cd M 58 = M 58 := funext e58
  have c1 := C_156 (F := F) (L := L) (xs := xs) (d := d) (M := ly A g ch J W cd M) hF (by rw [e57]; exact h0) (by rw [e57]; exact h4) (by rw [e57]; exact h7)
  have hi : idM (ly A g ch J W cd M) 660205 = ly A g ch J W cd M := by
    unfold idM
    rw [f58, e57, if_neg hf]
  have hi2 : idM M 660205 = M := by
    unfold idM
    rw [if_neg hf]
  have hv : idv (ly A g ch J W cd M) 660205 = idv M 660205 := by
    unfold idv
    rw [f58, e57]
  have em : mnC (ly A g ch J W cd M) = mn := by
    rw [← hmn]
    unfold mnC
    rw [hi, hi2, hv]
    unfold kI nmI prm
    simp only [e57, e59, e60, e64]
  rw [em, hi] at c1
  exact c1
theorem C_37 {mn : Int} (X : LX cd M) (hF : 100000 ≤ F) (hb : LBd S0 n) (hn : n < 4000) (h0n : 0 ≤ M 57 4) (h4 : M 57 4 < 1510) (h7 : M 57 7 ≤ 300) (hf : fst1 (M 58) 660205 0 (M 57 4).toNat ≠ -1) (hmn : mnC M = mn) (h8 : 0 ≤ M 57 8 ∧ M 57 8 ≤ 1000000) : Cx F (d + 10) 37 [71] (Hp L xs (lyS S0 cd M)) = some ([], Hp L xs (lyS (o_H M cd mn S0) cd M)) := by
  have hc := X.1.1
  have h1 : M 71 1 = (cd : Int) := X.1.2.1
  have hr12 := X.2.2.2.2.1
  have hrP := X.2.2.2.1 (ENc M cd mn)
  have h0 : LBd S0 n := hb
  have c1 := fun D => P_39 (F := F) (L := L) (xs := xs) (d := D) (S := S0) (o := 6) (r := 4) (a := 0) (x := 0) X.1 (h0) (by omega) (by omega) (by omega) (by omega) (by omega) (fun _ _ _ _ _ => rfl) (by omega)
  have c2 := fun D => C_40 (F := F) (L := L) (xs := xs) (d := D) (S := (eS (M 71 3) [wrd 6 4 0 (lw 6 0)] S0)) (r := 7) (v := M cd 12 + M 57 8) X.1 (lb_e (wr := M 71 3) (ws := [wrd 6 4 0 (lw 6 0)]) (h0) (Nat.le_of_ble_eq_true rfl)) (by omega) (by omega) (by omega)
  have c3 := fun D => P_39 (F := F) (L := L) (xs := xs) (d := D) (S := (eS (M 71 3) (cPl 7 (M cd 12 + M 57 8)) (eS (M 71 3) [wrd 6 4 0 (lw 6 0)] S0))) (o := 10) (r := 6) (a := 7) (x := 0) X.1 (lb_e (wr := M 71 3) (ws := (cPl 7 (M cd 12 + M 57 8))) (lb_e (wr := M 71 3) (ws := [wrd 6 4 0 (lw 6 0)]) (h0) (Nat.le_of_ble_eq_true rfl)) (Nat.le_of_ble_eq_true rfl)) (by omega) (by omega) (by omega) (by omega) (by omega) (by omega) (by omega)
  have c4 := fun D => C_44 (F := F) (L := L) (xs := xs) (d := D) (S := (eS (M 71 3) [wrd 10 6 7 (lw 10 0)] (eS (M 71 3) (cPl 7 (M cd 12 + M 57 8)) (eS (M 71 3) [wrd 6 4 0 (lw 6 0)] S0)))) (v := PLc M cd (ENc M cd mn)) X.1 (lb_e (wr := M 71 3) (ws := [wrd 10 6 7 (lw 10 0)]) (lb_e (wr := M 71 3) (ws := (cPl 7 (M cd 12 + M 57 8))) (lb_e (wr := M 71 3) (ws := [wrd 6 4 0 (lw 6 0)]) (h0) (Nat.le_of_ble_eq_true rfl)) (Nat.le_of_ble_eq_true rfl)) (Nat.le_of_ble_eq_true rfl)) (by omega) (by omega)
  have c5 := fun D => P_39 (F := F) (L := L) (xs := xs) (d := D) (S := (eS (M 71 3) (cLib (PLc M cd (ENc M cd mn))) (eS (M 71 3) [wrd 10 6 7 (lw 10 0)] (eS (M 71 3) (cPl 7 (M cd 12 + M 57 8)) (eS (M 71 3) [wrd 6 4 0 (lw 6 0)] S0))))) (o := 15) (r := 0) (a := 0) (x := 0) X.1 (lb_e (wr := M 71 3) (ws := (cLib (PLc M cd (ENc M cd mn)))) (lb_e (wr := M 71 3) (ws := [wrd 10 6 7 (lw 10 0)]) (lb_e (wr := M 71 3) (ws := (cPl 7 (M cd 12 + M 57 8))) (lb_e (wr := M 71 3) (ws := [wrd 6 4 0 (lw 6 0)]) (h0) (Nat.le_of_ble_eq_true rfl)) (Nat.le_of_ble_eq_true rfl)) (Nat.le_of_ble_eq_true rfl)) (Nat.le_of_ble_eq_true rfl)) (by omega) (by omega) (by omega) (by omega) (by omega) (fun _ _ _ _ _ => rfl) (by omega)
  unfold o_H
  simp (disch := first | omega | assumption) only [c_37, tr_37, ev_0, ev_1, ev_16, ev_17, ev_18, ev_2, ev_3, ev_4, ev_5, ev_6, ev_7, ev_8, ev_9, ev_20, ev_21, ev_22, ev_23, ev_24, ev_25, ev_27, ev_28, ev_30, ev_31, ev_32, ev_33, ev_34, ev_35, ev_36, ev_37, ev_38, ev_39, ev_40, ev_41, ev_42, ev_43, ev_45, ev_46, ev_47, ev_48, ev_49, ev_50, ev_51, ev_52, ev_54, ev_55, ev_57, ev_58, ev_59, k2_0, k2_1, k2_2, k3a, k3b, k4, o1_s, xbin_0, xbin_1, xbin_2, xbin_3, xbin_4, xbin_5, xbin_6, xbin_7, xbin_8, xbin_9, xbin_11, xbin_12, xun_0, xun_1, xun_2, xun_3, xun_4, xun_5, k6a, k8, k8b, k9, k20, k20b_0, k20b_1, k20b_2, k20b_3, k20b_4, k20b_5, k21_0, k21_1, k21_2, k21_3, k21_4, k21_5, k23, k24, k25, k27, k28, k40, nz_1, nz_2, nz_3, k31_0, k31_1, k31_2, k31_3, k32u, k33, k34, k35, k35b, k36, k37, k38, k47, k49, k49b_0, k49b_1, k49b_2, k49b_3, k50_0, k50_s, k51_0, k51_s, k55, k58, k58b, rk_0, rk_1, rk_2, rk_9, rk_3, rk_4, rk_5, sw_n, sw_c, xtb_n, xtb_c, lset_0, lset_2, lset_1, lkm_0, lkm_2, lkm_9, lkm_1, lkm_n, if_some1, c_10, c_01, c_x0, c_1x, c_n0, c_nn, List.getElem?_cons_zero, List.getElem?_cons_succ, List.set_cons_zero, List.set_cons_succ, List.length_cons, List.length_nil, Int.reduceToNat, Nat.reduceDiv, Nat.reduceMod, Nat.reduceSub, Nat.reduceAdd, Nat.reduceMul, Nat.reduceLT, Nat.reduceLeDiff, Nat.reduceEqDiff, Int.reduceMod, Int.reduceSub, Int.reduceNeg, Int.reduceAdd, Int.reduceMul, Int.reduceLT, Int.reduceLE, Int.reduceEq, put_ss, if_true, if_false, ite_true, ite_false, reduceIte, eq_self, and_true, true_and, and_false, false_and, or_true, true_or, or_false, false_or, not_true_eq_false, not_false_eq_true, k5_71_1, k34_71_1, k5_71_5, k34_71_5, k5_71_7, k34_71_7, k54_71_7, k54b_71_7_0, k5_71_0, k5_71_6, k34_71_6, k5_57_8, k34_57_8, k54_57_8, k54b_57_8_0, kc_12, ly_1, ly_o, h1, D_11 X, D_12 X, D_156 (F := F) (L := L) (xs := xs) hc hF h0n h4 h7 hf hmn, w32_of, c1, c2, c3, c4, c5]
end Tab
