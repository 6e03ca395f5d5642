/-! Layer.lay, WHOLE -/
section Fil
variable {F L d : Nat} {xs : Nat → Int32} {m : Mem}
def zv (J : Nat → Int) (m : Mem) : Mem := fun a k => if a = 72 then J k else m a k
theorem zv_p {J : Nat → Int} {k : Nat} {v : Int} : put (zv J m) 72 k v = zv (vput J k v) m := by
  funext a q
  rw [put_ss]
  unfold zv vput
  by_cases h : a = 72
  · rw [if_pos h, if_pos h, if_pos h]
  · rw [if_neg h, if_neg h, if_neg h]
theorem zv_id : zv (m 72) m = m := by
  funext a k
  unfold zv
  by_cases h : a = 72
  · rw [if_pos h, h]
  · rw [if_neg h]
theorem fz_s {E : Nat → Int} {k : Nat} : vput (fz E k) k 0 = fz E (k + 1) := by
  funext q
  unfold vput fz
  by_cases h : q = k
  · subst h
    rw [if_pos rfl, if_pos (by omega)]
  · rw [if_neg h]
    by_cases h2 : q < k
    · rw [if_pos h2, if_pos (by omega)]
    · rw [if_neg h2, if_neg (by omega)]
theorem L_350_72 {E : Nat → Int} : ∀ (j k N : Nat), k + j = 3000 → j < N → LF F (d + 3) la_350_0 lb_350_0 lc_350_0 N ([(2, 72), (0, 0), (0, (k : Int)), (0, 3000)], Hp L xs (zv (fz E k) m)) = some (0, [], ([(2, 72), (0, 0), (0, 3000), (0, 3000)], Hp L xs (zv (fz E 3000) m))) := by
  intro j
  induction j with
  | zero =>
    intro k N h hN
    obtain ⟨N, rfl⟩ : ∃ n', N = n' + 1 := ⟨N - 1, by omega⟩
    have e : k = 3000 := by omega
    subst e
    have ec : ((3000 : Nat) : Int) = 3000 := rfl
    rw [ec, lf_s]
    simp (disch := omega) only [ea_350_0, eb_350_0, ec_350_0, l1_i, l1_1, l1_0, l2_0, l2_1, l2_2, l2_3, l3_0, w2_0, w2_1, w2_2, w2_3, d1_0, d1_1, d1_2, d1_3, d2_i, d2_1, d2_0, ev_0, ev_1, ev_16, ev_17, ev_18, ev_2, ev_3, ev_4, ev_5, ev_6, ev_7, ev_8, ev_9, ev_20, ev_21, ev_22, ev_23, ev_24, ev_25, ev_27, ev_28, ev_30, ev_31, ev_32, ev_33, ev_34, ev_35, ev_36, ev_37, ev_38, ev_39, ev_40, ev_41, ev_42, ev_43, ev_45, ev_46, ev_47, ev_48, ev_49, ev_50, ev_51, ev_52, ev_54, ev_55, ev_57, ev_58, ev_59, k2_0, k2_1, k2_2, k3a, k3b, k4, o1_s, xbin_0, xbin_1, xbin_2, xbin_3, xbin_4, xbin_5, xbin_6, xbin_7, xbin_8, xbin_9, xbin_11, xbin_12, xun_0, xun_1, xun_2, xun_3, xun_4, xun_5, k6a, k8, k8b, k9, k20, k20b_0, k20b_1, k20b_2, k20b_3, k20b_4, k20b_5, k21_0, k21_1, k21_2, k21_3, k21_4, k21_5, k23, k24, k25, k27, k28, k40, nz_1, nz_2, nz_3, k31_0, k31_1, k31_2, k31_3, k32u, k33, k34, k35, k35b, k36, k37, k38, k47, k49, k49b_0, k49b_1, k49b_2, k49b_3, k50_0, k50_s, k51_0, k51_s, k55, k58, k58b, rk_0, rk_1, rk_2, rk_9, rk_3, rk_4, rk_5, sw_n, sw_c, xtb_n, xtb_c, lset_0, lset_2, lset_1, lkm_0, lkm_2, lkm_9, lkm_1, lkm_n, if_some1, c_10, c_01, c_x0, c_1x, c_n0, c_nn, List.getElem?_cons_zero, List.getElem?_cons_succ, List.set_cons_zero, List.set_cons_succ, List.length_cons, List.length_nil, Int.reduceToNat, Nat.reduceDiv, Nat.reduceMod, Nat.reduceSub, Nat.reduceAdd, Nat.reduceMul, Nat.reduceLT, Nat.reduceLeDiff, Nat.reduceEqDiff, Int.reduceMod, Int.reduceSub, Int.reduceNeg, Int.reduceAdd, Int.reduceMul, Int.reduceLT, Int.reduceLE, Int.reduceEq, put_ss, if_true, if_false, ite_true, ite_false, reduceIte, eq_self, and_true, true_and, and_false, false_and, or_true, true_or, or_false, false_or, not_true_eq_false, not_false_eq_true, k5_71_8, k6_72, k35_72, k55_72, k55c_72, n_72, Int.lt_irrefl]
    try rfl
  | succ j ih =>
    intro k N h hN
    obtain ⟨N, rfl⟩ : ∃ n', N = n' + 1 := ⟨N - 1, by omega⟩
    have c1 := ih (k + 1) N (by omega) (by omega)
    have hlt : (k : Int) < 3000 := by omega
    have k0 : (k : Int).toNat = k := Int.toNat_natCast k
    have e1 : put (zv (fz E k) m) 72 k 0 = zv (fz E (k + 1)) m := by rw [zv_p, fz_s]
    have ecast : ((k + 1 : Nat) : Int) = (k : Int) + 1 := by omega
    rw [ecast] at c1
    rw [lf_s]
    simp (disch := omega) only [ea_350_0, eb_350_0, ec_350_0, l1_i, l1_1, l1_0, l2_0, l2_1, l2_2, l2_3, l3_0, w2_0, w2_1, w2_2, w2_3, d1_0, d1_1, d1_2, d1_3, d2_i, d2_1, d2_0, ev_0, ev_1, ev_16, ev_17, ev_18, ev_2, ev_3, ev_4, ev_5, ev_6, ev_7, ev_8, ev_9, ev_20, ev_21, ev_22, ev_23, ev_24, ev_25, ev_27, ev_28, ev_30, ev_31, ev_32, ev_33, ev_34, ev_35, ev_36, ev_37, ev_38, ev_39, ev_40, ev_41, ev_42, ev_43, ev_45, ev_46, ev_47, ev_48, ev_49, ev_50, ev_51, ev_52, ev_54, ev_55, ev_57, ev_58, ev_59, k2_0, k2_1, k2_2, k3a, k3b, k4, o1_s, xbin_0, xbin_1, xbin_2, xbin_3, xbin_4, xbin_5, xbin_6, xbin_7, xbin_8, xbin_9, xbin_11, xbin_12, xun_0, xun_1, xun_2, xun_3, xun_4, xun_5, k6a, k8, k8b, k9, k20, k20b_0, k20b_1, k20b_2, k20b_3, k20b_4, k20b_5, k21_0, k21_1, k21_2, k21_3, k21_4, k21_5, k23, k24, k25, k27, k28, k40, nz_1, nz_2, nz_3, k31_0, k31_1, k31_2, k31_3, k32u, k33, k34, k35, k35b, k36, k37, k38, k47, k49, k49b_0, k49b_1, k49b_2, k49b_3, k50_0, k50_s, k51_0, k51_s, k55, k58, k58b, rk_0, rk_1, rk_2, rk_9, rk_3, rk_4, rk_5, sw_n, sw_c, xtb_n, xtb_c, lset_0, lset_2, lset_1, lkm_0, lkm_2, lkm_9, lkm_1, lkm_n, if_some1, c_10, c_01, c_x0, c_1x, c_n0, c_nn, List.getElem?_cons_zero, List.getElem?_cons_succ, List.set_cons_zero, List.set_cons_succ, List.length_cons, List.length_nil, Int.reduceToNat, Nat.reduceDiv, Nat.reduceMod, Nat.reduceSub, Nat.reduceAdd, Nat.reduceMul, Nat.reduceLT, Nat.reduceLeDiff, Nat.reduceEqDiff, Int.reduceMod, Int.reduceSub, Int.reduceNeg, Int.reduceAdd, Int.reduceMul, Int.reduceLT, Int.reduceLE, Int.reduceEq, put_ss, if_true, if_false, ite_true, ite_false, reduceIte, eq_self, and_true, true_and, and_false, false_and, or_true, true_or, or_false, false_or, not_true_eq_false, not_false_eq_true, k5_71_8, k6_72, k35_72, k55_72, k55c_72, n_72, hlt, k0, w32_of, e1, c1]
    try rfl
theorem C_350 (hF : 100000 ≤ F) : Cx F (d + 6) 350 [72, 0] (Hp L xs m) = some ([], Hp L xs (zv (fz (m 72) 3000) m)) := by
  have l0 := fun D => L_350_72 (F := F) (L := L) (xs := xs) (d := D) (m := m) (E := m 72) 3000 0 F (by omega) (by omega)
  have ez : ((0 : Nat) : Int) = 0 := rfl
  rw [fz_0, zv_id, ez] at l0
  simp (disch := omega) only [c_350, tx_350, ev_0, ev_1, ev_16, ev_17, ev_18, ev_2, ev_3, ev_4, ev_5, ev_6, ev_7, ev_8, ev_9, ev_20, ev_21, ev_22, ev_23, ev_24, ev_25, ev_27, ev_28, ev_30, ev_31, ev_32, ev_33, ev_34, ev_35, ev_36, ev_37, ev_38, ev_39, ev_40, ev_41, ev_42, ev_43, ev_45, ev_46, ev_47, ev_48, ev_49, ev_50, ev_51, ev_52, ev_54, ev_55, ev_57, ev_58, ev_59, k2_0, k2_1, k2_2, k3a, k3b, k4, o1_s, xbin_0, xbin_1, xbin_2, xbin_3, xbin_4, xbin_5, xbin_6, xbin_7, xbin_8, xbin_9, xbin_11, xbin_12, xun_0, xun_1, xun_2, xun_3, xun_4, xun_5, k6a, k8, k8b, k9, k20, k20b_0, k20b_1, k20b_2, k20b_3, k20b_4, k20b_5, k21_0, k21_1, k21_2, k21_3, k21_4, k21_5, k23, k24, k25, k27, k28, k40, nz_1, nz_2, nz_3, k31_0, k31_1, k31_2, k31_3, k32u, k33, k34, k35, k35b, k36, k37, k38, k47, k49, k49b_0, k49b_1, k49b_2, k49b_3, k50_0, k50_s, k51_0, k51_s, k55, k58, k58b, rk_0, rk_1, rk_2, rk_9, rk_3, rk_4, rk_5, sw_n, sw_c, xtb_n, xtb_c, lset_0, lset_2, lset_1, lkm_0, lkm_2, lkm_9, lkm_1, lkm_n, if_some1, c_10, c_01, c_x0, c_1x, c_n0, c_nn, List.getElem?_cons_zero, List.getElem?_cons_succ, List.set_cons_zero, List.set_cons_succ, List.length_cons, List.length_nil, Int.reduceToNat, Nat.reduceDiv, Nat.reduceMod, Nat.reduceSub, Nat.reduceAdd, Nat.reduceMul, Nat.reduceLT, Nat.reduceLeDiff, Nat.reduceEqDiff, Int.reduceMod, Int.reduceSub, Int.reduceNeg, Int.reduceAdd, Int.reduceMul, Int.reduceLT, Int.reduceLE, Int.reduceEq, put_ss, if_true, if_false, ite_true, ite_false, reduceIte, eq_self, and_true, true_and, and_false, false_and, or_true, true_or, or_false, false_or, not_true_eq_false, not_false_eq_true, l1_i, l1_1, l1_0, l2_0, l2_1, l2_2, l2_3, l3_0, w2_0, w2_1, w2_2, w2_3, d1_0, d1_1, d1_2, d1_3, d2_i, d2_1, d2_0, k5_71_8, k6_72, k35_72, k55_72, k55c_72, n_72, l0]
  try rfl
end Fil
section Cly
variable {F L d : Nat} {xs : Nat → Int32} {cd : Nat} {m M : Mem} {n : Nat} {mn e : Int}
theorem qv_id (hc : cd = 83 ∨ cd = 93) : qv cd (m (cd + 4)) (m 71 5) (m 71 6) m = m := by
  funext a k
  unfold qv
  by_cases h : a = 71
  · subst h
    rw [if_pos rfl]
    by_cases h2 : k = 5
    · rw [if_pos h2, h2]
    · rw [if_neg h2]
      by_cases h3 : k = 6
      · rw [if_pos h3, h3]
      · rw [if_neg h3]
  · rw [if_neg h]
    by_cases h2 : a = cd + 4
    · rw [if_pos h2, h2]
    · rw [if_neg h2]
theorem uv_id : uv cd (m 71 3) (m cd 12) m = m := by
  funext a k
  unfold uv
  by_cases h : a = 71
  · subst h
    rw [if_pos rfl]
    by_cases h2 : k = 3
    · rw [if_pos h2, h2]
    · rw [if_neg h2]
  · rw [if_neg h]
    by_cases h2 : a = cd
    · subst h2
      rw [if_pos rfl]
      by_cases h2 : k = 12
      · rw [if_pos h2, h2]
      · rw [if_neg h2]
    · rw [if_neg h2]
theorem ly_z (hc : cd = 83 ∨ cd = 93) {J : Nat → Int} : zv J m = lyS (m 71 2, m 71 7, m 71 4, J, m (cd + 9)) cd m := by
  funext a k
  show zv J m a k = ly (m 71 2) (m 71 7) (m 71 4) J (m (cd + 9)) cd m a k
  unfold zv ly
  by_cases h : a = 71
  · subst h
    rw [if_neg (by decide), if_pos rfl]
    by_cases h2 : k = 2
    · rw [if_pos h2, h2]
    · rw [if_neg h2]
      by_cases h3 : k = 4
      · rw [if_pos h3, h3]
      · rw [if_neg h3]
        by_cases h4 : k = 7
        · rw [if_pos h4, h4]
        · rw [if_neg h4]
  · rw [if_neg h]
    by_cases h2 : a = 72
    · rw [if_pos h2, if_pos h2]
    · rw [if_neg h2, if_neg h2]
      by_cases h3 : a = cd + 9
      · rw [if_pos h3, h3]
      · rw [if_neg h3]
theorem JE_z {X : Nat → Int} (hn : n ≤ 3000) {i : Nat} (hi : i < n) : JE M (fz X 36000) i = 0 := by
  have z := gsm_b (M := M) i
  have e1 : fz X 36000 (gsm M i) = 0 := by
    unfold fz
    rw [if_pos (by omega)]
  have e2 : fz X 36000 (gsm M i + 1) = 0 := by
    unfold fz
    rw [if_pos (by omega)]
  unfold JE
  rw [e1, e2, if_neg (fun w => absurd w.2 (by decide)), if_neg (fun w => absurd w.2 (by decide))]
  rfl
/-- what of the class's own cells must be bounded before it lays -/
def LyB (m : Mem) (cd : Nat) : Prop := (∀ k, 0 ≤ m 72 k ∧ m 72 k < 4) ∧ (∀ k : Nat, 0 ≤ m (cd + 4) k ∧ m (cd + 4) k ≤ 1000000) ∧ (0 ≤ m 71 5 ∧ m 71 5 < 3000) ∧ (-1000000 ≤ m 71 6 ∧ m 71 6 ≤ 1000000) ∧ (m 71 3 = 0 ∨ m 71 3 = 1) ∧ (0 ≤ m cd 12 ∧ m cd 12 ≤ 1000000)
theorem C_36 {X : Nat → Int} (hF : 100000 ≤ F) (K : CLM (put m 71 1 (cd : Int)) cd M n mn e) (hB : LyB m cd) (hX : b01 X) : ∃ (S2 : lS) (Q2 : Nat → Int) (i6 p7 w4 sz2 : Int), TB2 S2 Q2 i6 p7 w4 sz2 ∧ Cx F (d + 16) 36 [71, (cd : Int)] (Hp L xs m) = some ([if 82 + ((mlI (fv (itr M e n 6001 (fz X 36000)) M) 0 n).length : Int) + m 57 8 ≤ 6000 then 1 else 0], Hp L xs (lyS S2 cd (qv cd Q2 i6 p7 (uv cd w4 sz2 (put m 71 1 (cd : Int)))))) ∧ (82 + ((mlI (fv (itr M e n 6001 (fz X 36000)) M) 0 n).length : Int) + m 57 8 ≤ 6000 → sz2 = 82 + ((mlI (fv (itr M e n 6001 (fz X 36000)) M) 0 n).length : Int) ∧ (∀ q, q < n → Q2 q = 82 + ((mlI (fv (itr M e n 6001 (fz X 36000)) M) 0 q).length : Int)) ∧ WdOk (Pw (uv cd 1 sz2 (put m 71 1 (cd : Int))) cd Q2) (Nw (uv cd 1 sz2 (put m 71 1 (cd : Int))) cd Q2) S2.2.2.2.2 (itA M (itr M e n 6001 (fz X 36000)) e n) 0) := by
  have hc : cd = 83 ∨ cd = 93 := (K.1.1 0 0 (Or.inl rfl) (Int.le_refl 0) (by decide)).1
  obtain ⟨hO, hn, hn3, h0, hX4, hBd, hL⟩ := K.2.1
  have gb := gsm_b (M := M) n
  have zb := zc_b (E := fz X 36000) (gsm M n)
  have hE1 : b01 (fz X 36000) := fun q => by
    unfold fz
    split
    · exact Or.inl rfl
    · exact hX q
  obtain ⟨b1, b2, b3, b4, b5, b6⟩ := hB
  have e4 : put m 71 1 (cd : Int) (cd + 4) = m (cd + 4) := by rcases hc with rfl | rfl <;> rfl
  have e9 : put m 71 1 (cd : Int) (cd + 9) = m (cd + 9) := by rcases hc with rfl | rfl <;> rfl
  have e12 : put m 71 1 (cd : Int) cd 12 = m cd 12 := by rcases hc with rfl | rfl <;> rfl
  have hst : zv (fz (put m 71 1 (cd : Int) 72) 3000) (put m 71 1 (cd : Int)) = lyS (m 71 2, m 71 7, m 71 4, fz (m 72) 3000, m (cd + 9)) cd (qv cd (m (cd + 4)) (m 71 5) (m 71 6) (uv cd (m 71 3) (m cd 12) (put m 71 1 (cd : Int)))) := by
    have u : uv cd (m 71 3) (m cd 12) (put m 71 1 (cd : Int)) = put m 71 1 (cd : Int) := by
      have z := uv_id (m := put m 71 1 (cd : Int)) (cd := cd)
      rw [e12] at z
      exact z
    have v : qv cd (m (cd + 4)) (m 71 5) (m 71 6) (put m 71 1 (cd : Int)) = put m 71 1 (cd : Int) := by
      have z := qv_id (m := put m 71 1 (cd : Int)) hc
      rw [e4] at z
      exact z
    rw [u, v, ly_z hc, e9]
    rfl
  obtain ⟨S2, Q2, i6, p7, w4, sz2, Lo, t1, t2, t3⟩ := L_36_0 (F := F) (L := L) (d := d + 2) (xs := xs) hF K 6000 (fz X 36000) (m 71 2, m 71 7, m 71 4, fz (m 72) 3000, m (cd + 9)) (m (cd + 4)) (m 71 5) (m 71 6) (m 71 3) (m cd 12) 0 (9, 0) F (by omega) hE1 ⟨fun i => by
    show 0 ≤ fz (m 72) 3000 i ∧ fz (m 72) 3000 i < 4
    unfold fz
    split
    · omega
    · exact b1 i, b2, b3, b4, b5, b6⟩ (fun i hi => by
    rw [JE_z hn3.2 hi]
    show fz (m 72) 3000 i = 0
    unfold fz
    rw [if_pos (by omega)]) (by omega) (by omega) (by omega)
  have g8 : put m 71 1 (cd : Int) 57 8 = m 57 8 := rfl
  rw [g8] at t2 t3
  refine ⟨S2, Q2, i6, p7, w4, sz2, t1, ?_, t3⟩
  have c1 := fun D => C_350 (F := F) (L := L) (xs := xs) (d := D) (m := put m 71 1 (cd : Int)) hF
  rw [hst] at c1
  simp (disch := omega) only [c_36, tx_36, ev_0, ev_1, ev_16, ev_17, ev_18, ev_2, ev_3, ev_4, ev_5, ev_6, ev_7, ev_8, ev_9, ev_20, ev_21, ev_22, ev_23, ev_24, ev_25, ev_27, ev_28, ev_30, ev_31, ev_32, ev_33, ev_34, ev_35, ev_36, ev_37, ev_38, ev_39, ev_40, ev_41, ev_42, ev_43, ev_45, ev_46, ev_47, ev_48, ev_49, ev_50, ev_51, ev_52, ev_54, ev_55, ev_57, ev_58, ev_59, k2_0, k2_1, k2_2, k3a, k3b, k4, o1_s, xbin_0, xbin_1, xbin_2, xbin_3, xbin_4, xbin_5, xbin_6, xbin_7, xbin_8, xbin_9, xbin_11, xbin_12, xun_0, xun_1, xun_2, xun_3, xun_4, xun_5, k6a, k8, k8b, k9, k20, k20b_0, k20b_1, k20b_2, k20b_3, k20b_4, k20b_5, k21_0, k21_1, k21_2, k21_3, k21_4, k21_5, k23, k24, k25, k27, k28, k40, nz_1, nz_2, nz_3, k31_0, k31_1, k31_2, k31_3, k32u, k33, k34, k35, k35b, k36, k37, k38, k47, k49, k49b_0, k49b_1, k49b_2, k49b_3, k50_0, k50_s, k51_0, k51_s, k55, k58, k58b, rk_0, rk_1, rk_2, rk_9, rk_3, rk_4, rk_5, sw_n, sw_c, xtb_n, xtb_c, lset_0, lset_2, lset_1, lkm_0, lkm_2, lkm_9, lkm_1, lkm_n, if_some1, c_10, c_01, c_x0, c_1x, c_n0, c_nn, List.getElem?_cons_zero, List.getElem?_cons_succ, List.set_cons_zero, List.set_cons_succ, List.length_cons, List.length_nil, Int.reduceToNat, Nat.reduceDiv, Nat.reduceMod, Nat.reduceSub, Nat.reduceAdd, Nat.reduceMul, Nat.reduceLT, Nat.reduceLeDiff, Nat.reduceEqDiff, Int.reduceMod, Int.reduceSub, Int.reduceNeg, Int.reduceAdd, Int.reduceMul, Int.reduceLT, Int.reduceLE, Int.reduceEq, put_ss, if_true, if_false, ite_true, ite_false, reduceIte, eq_self, and_true, true_and, and_false, false_and, or_true, true_or, or_false, false_or, not_true_eq_false, not_false_eq_true, l1_i, l1_1, l1_0, l2_0, l2_1, l2_2, l2_3, l3_0, w2_0, w2_1, w2_2, w2_3, d1_0, d1_1, d1_2, d1_3, d2_i, d2_1, d2_0, k5_71_8, k6_72, k35_72, k55_72, k55c_72, n_72, k5_71_1, k34_71_1, c1, t2]
  try rfl
end Cly
