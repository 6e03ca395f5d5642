/-! THE MODEL LAYS: proc's begin and end, its tables, its head -/
section MOrd2
variable {F L d : Nat} {xs : Nat → Int32} {T : mSt} {m M : Mem} {i x l r v main : Int} {n : Nat}
def mo_0 (m : Mem) (x : Int) (T : mSt) : mSt := (tE [wrd 10 7 7 (lw 10 (szM m x.toNat - m 170 x.toNat))] (tE [wrd 10 6 7 (lw 10 (-m 170 x.toNat))] (tE [wrd 9 6 7 (lw 9 1)] (tE [wrd 9 5 7 (lw 9 0)] (tE [wrd 15 0 0 (lw 15 0)] (tE [wrd 6 4 0 (lw 6 (-1))] (tE [wrd 11 2 0 (lw 11 2)] (tE [wrd 4 2 3 (lw 4 7)] (tE (cCo 3 (8192 - wtM m x.toNat)) T)))))))))
theorem N_o0 (hM : put M 158 85 x = m) (hB : TBd T n) (hn : n < 500) (hi : 0 ≤ i ∧ i < 12000) (hop : M 177 i.toNat = 0) (hx : M 178 i.toNat = x) (hx0 : 0 ≤ x ∧ x < 1600) (hwt : -1000000 ≤ wtM m x.toNat ∧ wtM m x.toNat ≤ 1000000) (hsz : -1000000 ≤ szM m x.toNat ∧ szM m x.toNat ≤ 1000000) (hpr : -1000000 ≤ m 170 x.toNat ∧ m 170 x.toNat ≤ 1000000) : Cx F (d + 14) 281 [158, i] (Hp L xs (my T M)) = some ([], Hp L xs (my (mo_0 m x T) m)) := by
  have my_o' : ∀ a k, (a = 168 ∨ a = 170 ∨ a = 177 ∨ a = 178 ∨ a = 179 ∨ a = 182 ∨ a = 173 ∨ a = 174 ∨ a = 175) → ∀ (T : mSt) (m : Mem), my T m a k = m a k := fun a k ha T m => my_o (by omega) (by omega) (by omega) (by omega) (by omega) (by omega)
  have e177 := fun k T m => my_o' 177 k (by omega) T m
  have e178 := fun k T m => my_o' 178 k (by omega) T m
  have e179 := fun k T m => my_o' 179 k (by omega) T m
  have e168 := fun k T m => my_o' 168 k (by omega) T m
  have e170 := fun k T m => my_o' 170 k (by omega) T m
  have e182 := fun k T m => my_o' 182 k (by omega) T m
  have e173 := fun k T m => my_o' 173 k (by omega) T m
  have e174 := fun k T m => my_o' 174 k (by omega) T m
  have e175 := fun k T m => my_o' 175 k (by omega) T m
  have c1 := fun D => M_267 (F := F) (L := L) (xs := xs) (d := D) (m := m) (T := T) (r := 3) (v := 8192 - wtM m x.toNat) (hB) (by omega) (by omega) (by omega)
  have c2 := fun D => P_257 (F := F) (L := L) (xs := xs) (d := D) (m := m) (T := (tE (cCo 3 (8192 - wtM m x.toNat)) T)) (o := 4) (r := 2) (a := 3) (b := 7) (x := 0) (y := lw 4 7) (by first | rfl | exact Int.zero_add _) (tb_e (ws := (cCo 3 (8192 - wtM m x.toNat))) (hB) (cCo_l)) (by omega) (by omega) (by omega) (by omega) (by omega) (by omega) (by omega)
  have c3 := fun D => P_257 (F := F) (L := L) (xs := xs) (d := D) (m := m) (T := (tE [wrd 4 2 3 (lw 4 7)] (tE (cCo 3 (8192 - wtM m x.toNat)) T))) (o := 11) (r := 2) (a := 0) (b := 0) (x := 2) (y := lw 11 2) (by first | rfl | exact Int.zero_add _) (tb_e (ws := [wrd 4 2 3 (lw 4 7)]) (tb_e (ws := (cCo 3 (8192 - wtM m x.toNat))) (hB) (cCo_l)) (Nat.le_of_ble_eq_true rfl)) (by omega) (by omega) (by omega) (by omega) (by omega) (by omega) (by omega)
  have c4 := fun D => P_257 (F := F) (L := L) (xs := xs) (d := D) (m := m) (T := (tE [wrd 11 2 0 (lw 11 2)] (tE [wrd 4 2 3 (lw 4 7)] (tE (cCo 3 (8192 - wtM m x.toNat)) T)))) (o := 6) (r := 4) (a := 0) (b := 0) (x := 511) (y := lw 6 (-1)) (by first | rfl | exact Int.zero_add _) (tb_e (ws := [wrd 11 2 0 (lw 11 2)]) (tb_e (ws := [wrd 4 2 3 (lw 4 7)]) (tb_e (ws := (cCo 3 (8192 - wtM m x.toNat))) (hB) (cCo_l)) (Nat.le_of_ble_eq_true rfl)) (Nat.le_of_ble_eq_true rfl)) (by omega) (by omega) (by omega) (by omega) (by omega) (by omega) (by omega)
  have c5 := fun D => P_257 (F := F) (L := L) (xs := xs) (d := D) (m := m) (T := (tE [wrd 6 4 0 (lw 6 (-1))] (tE [wrd 11 2 0 (lw 11 2)] (tE [wrd 4 2 3 (lw 4 7)] (tE (cCo 3 (8192 - wtM m x.toNat)) T))))) (o := 15) (r := 0) (a := 0) (b := 0) (x := 0) (y := lw 15 0) (by first | rfl | exact Int.zero_add _) (tb_e (ws := [wrd 6 4 0 (lw 6 (-1))]) (tb_e (ws := [wrd 11 2 0 (lw 11 2)]) (tb_e (ws := [wrd 4 2 3 (lw 4 7)]) (tb_e (ws := (cCo 3 (8192 - wtM m x.toNat))) (hB) (cCo_l)) (Nat.le_of_ble_eq_true rfl)) (Nat.le_of_ble_eq_true rfl)) (Nat.le_of_ble_eq_true rfl)) (by omega) (by omega) (by omega) (by omega) (by omega) (by omega) (by omega)
  have c6 := fun D => P_257 (F := F) (L := L) (xs := xs) (d := D) (m := m) (T := (tE [wrd 15 0 0 (lw 15 0)] (tE [wrd 6 4 0 (lw 6 (-1))] (tE [wrd 11 2 0 (lw 11 2)] (tE [wrd 4 2 3 (lw 4 7)] (tE (cCo 3 (8192 - wtM m x.toNat)) T)))))) (o := 9) (r := 5) (a := 7) (b := 0) (x := 0) (y := lw 9 0) (by first | rfl | exact Int.zero_add _) (tb_e (ws := [wrd 15 0 0 (lw 15 0)]) (tb_e (ws := [wrd 6 4 0 (lw 6 (-1))]) (tb_e (ws := [wrd 11 2 0 (lw 11 2)]) (tb_e (ws := [wrd 4 2 3 (lw 4 7)]) (tb_e (ws := (cCo 3 (8192 - wtM m x.toNat))) (hB) (cCo_l)) (Nat.le_of_ble_eq_true rfl)) (Nat.le_of_ble_eq_true rfl)) (Nat.le_of_ble_eq_true rfl)) (Nat.le_of_ble_eq_true rfl)) (by omega) (by omega) (by omega) (by omega) (by omega) (by omega) (by omega)
  have c7 := fun D => P_257 (F := F) (L := L) (xs := xs) (d := D) (m := m) (T := (tE [wrd 9 5 7 (lw 9 0)] (tE [wrd 15 0 0 (lw 15 0)] (tE [wrd 6 4 0 (lw 6 (-1))] (tE [wrd 11 2 0 (lw 11 2)] (tE [wrd 4 2 3 (lw 4 7)] (tE (cCo 3 (8192 - wtM m x.toNat)) T))))))) (o := 9) (r := 6) (a := 7) (b := 0) (x := 1) (y := lw 9 1) (by first | rfl | exact Int.zero_add _) (tb_e (ws := [wrd 9 5 7 (lw 9 0)]) (tb_e (ws := [wrd 15 0 0 (lw 15 0)]) (tb_e (ws := [wrd 6 4 0 (lw 6 (-1))]) (tb_e (ws := [wrd 11 2 0 (lw 11 2)]) (tb_e (ws := [wrd 4 2 3 (lw 4 7)]) (tb_e (ws := (cCo 3 (8192 - wtM m x.toNat))) (hB) (cCo_l)) (Nat.le_of_ble_eq_true rfl)) (Nat.le_of_ble_eq_true rfl)) (Nat.le_of_ble_eq_true rfl)) (Nat.le_of_ble_eq_true rfl)) (Nat.le_of_ble_eq_true rfl)) (by omega) (by omega) (by omega) (by omega) (by omega) (by omega) (by omega)
  have c8 := fun D => P_257 (F := F) (L := L) (xs := xs) (d := D) (m := m) (T := (tE [wrd 9 6 7 (lw 9 1)] (tE [wrd 9 5 7 (lw 9 0)] (tE [wrd 15 0 0 (lw 15 0)] (tE [wrd 6 4 0 (lw 6 (-1))] (tE [wrd 11 2 0 (lw 11 2)] (tE [wrd 4 2 3 (lw 4 7)] (tE (cCo 3 (8192 - wtM m x.toNat)) T)))))))) (o := 10) (r := 6) (a := 7) (b := 0) (x := (-m 170 x.toNat) % 64) (y := lw 10 (-m 170 x.toNat)) (by first | rfl | exact Int.zero_add _) (tb_e (ws := [wrd 9 6 7 (lw 9 1)]) (tb_e (ws := [wrd 9 5 7 (lw 9 0)]) (tb_e (ws := [wrd 15 0 0 (lw 15 0)]) (tb_e (ws := [wrd 6 4 0 (lw 6 (-1))]) (tb_e (ws := [wrd 11 2 0 (lw 11 2)]) (tb_e (ws := [wrd 4 2 3 (lw 4 7)]) (tb_e (ws := (cCo 3 (8192 - wtM m x.toNat))) (hB) (cCo_l)) (Nat.le_of_ble_eq_true rfl)) (Nat.le_of_ble_eq_true rfl)) (Nat.le_of_ble_eq_true rfl)) (Nat.le_of_ble_eq_true rfl)) (Nat.le_of_ble_eq_true rfl)) (Nat.le_of_ble_eq_true rfl)) (by omega) (by omega) (by omega) (by omega) (by omega) (by omega) (by omega)
  have c9 := fun D => P_257 (F := F) (L := L) (xs := xs) (d := D) (m := m) (T := (tE [wrd 10 6 7 (lw 10 (-m 170 x.toNat))] (tE [wrd 9 6 7 (lw 9 1)] (tE [wrd 9 5 7 (lw 9 0)] (tE [wrd 15 0 0 (lw 15 0)] (tE [wrd 6 4 0 (lw 6 (-1))] (tE [wrd 11 2 0 (lw 11 2)] (tE [wrd 4 2 3 (lw 4 7)] (tE (cCo 3 (8192 - wtM m x.toNat)) T))))))))) (o := 10) (r := 7) (a := 7) (b := 0) (x := (szM m x.toNat - m 170 x.toNat) % 64) (y := lw 10 (szM m x.toNat - m 170 x.toNat)) (by first | rfl | exact Int.zero_add _) (tb_e (ws := [wrd 10 6 7 (lw 10 (-m 170 x.toNat))]) (tb_e (ws := [wrd 9 6 7 (lw 9 1)]) (tb_e (ws := [wrd 9 5 7 (lw 9 0)]) (tb_e (ws := [wrd 15 0 0 (lw 15 0)]) (tb_e (ws := [wrd 6 4 0 (lw 6 (-1))]) (tb_e (ws := [wrd 11 2 0 (lw 11 2)]) (tb_e (ws := [wrd 4 2 3 (lw 4 7)]) (tb_e (ws := (cCo 3 (8192 - wtM m x.toNat))) (hB) (cCo_l)) (Nat.le_of_ble_eq_true rfl)) (Nat.le_of_ble_eq_true rfl)) (Nat.le_of_ble_eq_true rfl)) (Nat.le_of_ble_eq_true rfl)) (Nat.le_of_ble_eq_true rfl)) (Nat.le_of_ble_eq_true rfl)) (Nat.le_of_ble_eq_true rfl)) (by omega) (by omega) (by omega) (by omega) (by omega) (by omega) (by omega)
  have ent : put (my T M) 158 85 x = my T m := by rw [← hM]; exact np_85
  unfold mo_0
  simp (disch := omega) only [c_281, tr_281, c_282, tr_282, c_283, tr_283, c_274, tr_274, c_275, tr_275, c_276, tr_276, c_277, tr_277, c_278, tr_278, c_279, tr_279, c_273, tr_273, c_261, tr_261, c_262, tr_262, c_263, tr_263, c_258, tr_258, c_259, tr_259, c_260, tr_260, c_264, tr_264, c_270, tr_270, ev_0, ev_1, ev_16, ev_17, ev_18, ev_2, ev_3, ev_4, ev_5, ev_6, ev_7, ev_8, ev_9, ev_20, ev_21, ev_22, ev_23, ev_24, ev_25, ev_27, ev_28, ev_30, ev_31, ev_32, ev_33, ev_34, ev_35, ev_36, ev_37, ev_38, ev_39, ev_40, ev_41, ev_42, ev_43, ev_45, ev_46, ev_47, ev_48, ev_49, ev_50, ev_51, ev_52, ev_54, ev_55, ev_57, ev_58, ev_59, k2_0, k2_1, k2_2, k3a, k3b, k4, o1_s, xbin_0, xbin_1, xbin_2, xbin_3, xbin_4, xbin_5, xbin_6, xbin_7, xbin_8, xbin_9, xbin_11, xbin_12, xun_0, xun_1, xun_2, xun_3, xun_4, xun_5, k6a, k8, k8b, k9, k20, k20b_0, k20b_1, k20b_2, k20b_3, k20b_4, k20b_5, k21_0, k21_1, k21_2, k21_3, k21_4, k21_5, k23, k24, k25, k27, k28, k40, nz_1, nz_2, nz_3, k31_0, k31_1, k31_2, k31_3, k32u, k33, k34, k35, k35b, k36, k37, k38, k47, k49, k49b_0, k49b_1, k49b_2, k49b_3, k50_0, k50_s, k51_0, k51_s, k55, k58, k58b, rk_0, rk_1, rk_2, rk_9, rk_3, rk_4, rk_5, sw_n, sw_c, xtb_n, xtb_c, lset_0, lset_2, lset_1, lkm_0, lkm_2, lkm_9, lkm_1, lkm_n, if_some1, c_10, c_01, c_x0, c_1x, c_n0, c_nn, List.getElem?_cons_zero, List.getElem?_cons_succ, List.set_cons_zero, List.set_cons_succ, List.length_cons, List.length_nil, Int.reduceToNat, Nat.reduceDiv, Nat.reduceMod, Nat.reduceSub, Nat.reduceAdd, Nat.reduceMul, Nat.reduceLT, Nat.reduceLeDiff, Nat.reduceEqDiff, Int.reduceMod, Int.reduceSub, Int.reduceNeg, Int.reduceAdd, Int.reduceMul, Int.reduceLT, Int.reduceLE, Int.reduceEq, put_ss, if_true, if_false, ite_true, ite_false, reduceIte, eq_self, and_true, true_and, and_false, false_and, or_true, true_or, or_false, false_or, not_true_eq_false, not_false_eq_true, k5_158_42, k6_177, k35_177, n_177, k5_158_43, k6_178, k35_178, n_178, k5_158_44, k6_179, k35_179, n_179, k5_158_26, k6_170, k35_170, n_170, k5_158_22, k6_168, k35_168, n_168, k5_158_50, k6_182, k35_182, n_182, k5_158_83, k34_158_83, k5_158_84, k34_158_84, k5_158_85, k34_158_85, k5_158_34, k6_173, k35_173, n_173, k5_158_35, k6_174, k35_174, n_174, k5_158_37, k6_175, k35_175, n_175, my_83, my_84, e177, e178, e179, e168, e170, e182, iand_63, iand_511, iand_4095, hop, hx, ent, D_254, D_255, w32_of, c1, c2, c3, c4, c5, c6, c7, c8, c9]
def mtM (c k : Int) (T : mSt) : mSt := tE [wrd 11 0 0 (lw 11 (3 * k - 2))] (tE [wrd 3 0 0 (lw 3 4)] (tE [wrd 6 0 0 (lw 6 c)] T))
def lvM : List Int → mSt → mSt
  | [], T => T
  | c :: cs, T => lvM cs (mtM c ((c :: cs).length : Int) T)
theorem tb_m {c k : Int} (h : TBd T n) : TBd (mtM c k T) (n + 3) := tb_e (tb_e (tb_e h (Nat.le_of_ble_eq_true rfl)) (Nat.le_of_ble_eq_true rfl)) (Nat.le_of_ble_eq_true rfl)
theorem tb_v : ∀ (cs : List Int) (T : mSt) (n : Nat), TBd T n → TBd (lvM cs T) (n + 3 * cs.length)
  | [], T, n, h => h
  | c :: cs, T, n, h => by
    have := tb_v cs (mtM c ((c :: cs).length : Int) T) (n + 3) (tb_m h)
    rw [show n + 3 + 3 * cs.length = n + 3 * (c :: cs).length from by rw [List.length_cons]; omega] at this
    exact this
def rcM (m : Mem) (f : Int) : Nat → List Int
  | 0 => []
  | j + 1 => m 175 f.toNat :: rcM m (f + 1) j
theorem rcM_l (m : Mem) : ∀ (j : Nat) (f : Int), (rcM m f j).length = j
  | 0, f => rfl
  | j + 1, f => congrArg (· + 1) (rcM_l m j (f + 1))
def mo_L (m : Mem) (x : Int) (cs : List Int) (T : mSt) : mSt := (fun T => (tE [wrd 13 5 5 (lw 13 0)] (tE [wrd 10 6 3 (lw 10 0)] (tE [wrd 10 7 6 (lw 10 0)] (tE [wrd 8 3 6 (lw 8 (m 170 x.toNat + 1))] (tE [wrd 8 5 6 (lw 8 (m 170 x.toNat))] (tE [wrd 6 4 0 (lw 6 5)] T))))))) (lvM cs T)
theorem L_284 (h0 : 0 ≤ m 173 x.toNat) (h1 : m 173 x.toNat + m 174 x.toNat ≤ 1600) (hm0 : 0 ≤ m 174 x.toNat) (hx0 : 0 ≤ x ∧ x < 1600) (hc : ∀ k : Nat, (k : Int) < m 173 x.toNat + m 174 x.toNat → -1000000 ≤ m 175 k ∧ m 175 k ≤ 1000000) : ∀ (j : Nat) (k : Int) (T : mSt) (n N : Nat), 0 ≤ k → k + j = m 174 x.toNat → TBd T n → n + 3 * j < 890 → j < N → LF F (d + 3) la_284_0 lb_284_0 lc_284_0 N ([(2, 158), (0, x), (0, m 174 x.toNat), (0, k)], Hp L xs (my T m)) = some (0, [], ([(2, 158), (0, x), (0, m 174 x.toNat), (0, m 174 x.toNat)], Hp L xs (my (lvM (rcM m (m 173 x.toNat + k) j) T) m))) := by
  intro j
  induction j with
  | zero =>
    intro k T n N hk h hB hn hN
    obtain ⟨N, rfl⟩ : ∃ n', N = n' + 1 := ⟨N - 1, by omega⟩
    have e : k = m 174 x.toNat := by omega
    rw [← e, lf_s]
    simp (disch := omega) only [ea_284_0, eb_284_0, ec_284_0, l1_i, l1_1, l1_0, l2_0, l2_1, l2_2, l2_3, l3_0, w2_0, w2_1, w2_2, w2_3, d1_0, d1_1, d1_2, d1_3, d2_i, d2_1, d2_0, ev_0, ev_1, ev_16, ev_17, ev_18, ev_2, ev_3, ev_4, ev_5, ev_6, ev_7, ev_8, ev_9, ev_20, ev_21, ev_22, ev_23, ev_24, ev_25, ev_27, ev_28, ev_30, ev_31, ev_32, ev_33, ev_34, ev_35, ev_36, ev_37, ev_38, ev_39, ev_40, ev_41, ev_42, ev_43, ev_45, ev_46, ev_47, ev_48, ev_49, ev_50, ev_51, ev_52, ev_54, ev_55, ev_57, ev_58, ev_59, k2_0, k2_1, k2_2, k3a, k3b, k4, o1_s, xbin_0, xbin_1, xbin_2, xbin_3, xbin_4, xbin_5, xbin_6, xbin_7, xbin_8, xbin_9, xbin_11, xbin_12, xun_0, xun_1, xun_2, xun_3, xun_4, xun_5, k6a, k8, k8b, k9, k20, k20b_0, k20b_1, k20b_2, k20b_3, k20b_4, k20b_5, k21_0, k21_1, k21_2, k21_3, k21_4, k21_5, k23, k24, k25, k27, k28, k40, nz_1, nz_2, nz_3, k31_0, k31_1, k31_2, k31_3, k32u, k33, k34, k35, k35b, k36, k37, k38, k47, k49, k49b_0, k49b_1, k49b_2, k49b_3, k50_0, k50_s, k51_0, k51_s, k55, k58, k58b, rk_0, rk_1, rk_2, rk_9, rk_3, rk_4, rk_5, sw_n, sw_c, xtb_n, xtb_c, lset_0, lset_2, lset_1, lkm_0, lkm_2, lkm_9, lkm_1, lkm_n, if_some1, c_10, c_01, c_x0, c_1x, c_n0, c_nn, List.getElem?_cons_zero, List.getElem?_cons_succ, List.set_cons_zero, List.set_cons_succ, List.length_cons, List.length_nil, Int.reduceToNat, Nat.reduceDiv, Nat.reduceMod, Nat.reduceSub, Nat.reduceAdd, Nat.reduceMul, Nat.reduceLT, Nat.reduceLeDiff, Nat.reduceEqDiff, Int.reduceMod, Int.reduceSub, Int.reduceNeg, Int.reduceAdd, Int.reduceMul, Int.reduceLT, Int.reduceLE, Int.reduceEq, put_ss, if_true, if_false, ite_true, ite_false, reduceIte, eq_self, and_true, true_and, and_false, false_and, or_true, true_or, or_false, false_or, not_true_eq_false, not_false_eq_true, Int.lt_irrefl]
    rfl
  | succ j ih =>
    intro k T n N hk h hB hn hN
    obtain ⟨N, rfl⟩ : ∃ n', N = n' + 1 := ⟨N - 1, by omega⟩
    have hlt : k < m 174 x.toNat := by omega
    have c1 := ih (k + 1) (mtM (m 175 (m 173 x.toNat + k).toNat) ((rcM m (m 173 x.toNat + k) (j + 1)).length : Int) T) (n + 3) N (by omega) (by omega) (tb_m hB) (by omega) (by omega)
    have ek : m 173 x.toNat + (k + 1) = m 173 x.toNat + k + 1 := by omega
    rw [ek] at c1
    have e1 : lvM (rcM m (m 173 x.toNat + k) (j + 1)) T = lvM (rcM m (m 173 x.toNat + k + 1) j) (mtM (m 175 (m 173 x.toNat + k).toNat) ((rcM m (m 173 x.toNat + k) (j + 1)).length : Int) T) := rfl
    rw [e1]
    have el : ((rcM m (m 173 x.toNat + k) (j + 1)).length : Int) = m 174 x.toNat - k := by rw [rcM_l]; omega
    rw [el] at c1 ⊢
    have my_o' : ∀ a k, (a = 168 ∨ a = 170 ∨ a = 177 ∨ a = 178 ∨ a = 179 ∨ a = 182 ∨ a = 173 ∨ a = 174 ∨ a = 175) → ∀ (T : mSt) (m : Mem), my T m a k = m a k := fun a k ha T m => my_o (by omega) (by omega) (by omega) (by omega) (by omega) (by omega)
    have e177 := fun k T m => my_o' 177 k (by omega) T m
    have e178 := fun k T m => my_o' 178 k (by omega) T m
    have e179 := fun k T m => my_o' 179 k (by omega) T m
    have e168 := fun k T m => my_o' 168 k (by omega) T m
    have e170 := fun k T m => my_o' 170 k (by omega) T m
    have e182 := fun k T m => my_o' 182 k (by omega) T m
    have e173 := fun k T m => my_o' 173 k (by omega) T m
    have e174 := fun k T m => my_o' 174 k (by omega) T m
    have e175 := fun k T m => my_o' 175 k (by omega) T m
    obtain ⟨x1, x2⟩ := hc (m 173 x.toNat + k).toNat (by omega)
    generalize hcc : m 175 (m 173 x.toNat + k).toNat = c at *
    have p1 := fun D => P_257 (F := F) (L := L) (xs := xs) (d := D) (m := m) (T := T) (o := 6) (r := 0) (a := 0) (b := 0) (x := c % 512) (y := lw 6 c) (by first | rfl | exact Int.zero_add _) hB (by omega) (by omega) (by omega) (by omega) (by omega) (by omega) (by omega)
    have hB1 := tb_e (ws := [wrd 6 0 0 (lw 6 c)]) hB (Nat.le_of_ble_eq_true rfl)
    have p2 := fun D => P_257 (F := F) (L := L) (xs := xs) (d := D) (m := m) (T := tE [wrd 6 0 0 (lw 6 c)] T) (o := 3) (r := 0) (a := 0) (b := 4) (x := 0) (y := lw 3 4) rfl hB1 (by omega) (by omega) (by omega) (by omega) (by omega) (by omega) (by omega)
    have hB2 := tb_e (ws := [wrd 3 0 0 (lw 3 4)]) hB1 (Nat.le_of_ble_eq_true rfl)
    have e3 : 3 * (m 174 x.toNat - 1 - k) + 1 = 3 * (m 174 x.toNat - k) - 2 := by omega
    have p3 := fun D => P_257 (F := F) (L := L) (xs := xs) (d := D) (m := m) (T := tE [wrd 3 0 0 (lw 3 4)] (tE [wrd 6 0 0 (lw 6 c)] T)) (o := 11) (r := 0) (a := 0) (b := 0) (x := (3 * (m 174 x.toNat - k) - 2) % 512) (y := lw 11 (3 * (m 174 x.toNat - k) - 2)) (by first | rfl | exact Int.zero_add _) hB2 (by omega) (by omega) (by omega) (by omega) (by omega) (by omega) (by omega)
    unfold mtM at c1
    rw [lf_s]
    simp (disch := omega) only [ea_284_0, eb_284_0, ec_284_0, c_261, tr_261, c_262, tr_262, c_258, tr_258, c_260, tr_260, l1_i, l1_1, l1_0, l2_0, l2_1, l2_2, l2_3, l3_0, w2_0, w2_1, w2_2, w2_3, d1_0, d1_1, d1_2, d1_3, d2_i, d2_1, d2_0, ev_0, ev_1, ev_16, ev_17, ev_18, ev_2, ev_3, ev_4, ev_5, ev_6, ev_7, ev_8, ev_9, ev_20, ev_21, ev_22, ev_23, ev_24, ev_25, ev_27, ev_28, ev_30, ev_31, ev_32, ev_33, ev_34, ev_35, ev_36, ev_37, ev_38, ev_39, ev_40, ev_41, ev_42, ev_43, ev_45, ev_46, ev_47, ev_48, ev_49, ev_50, ev_51, ev_52, ev_54, ev_55, ev_57, ev_58, ev_59, k2_0, k2_1, k2_2, k3a, k3b, k4, o1_s, xbin_0, xbin_1, xbin_2, xbin_3, xbin_4, xbin_5, xbin_6, xbin_7, xbin_8, xbin_9, xbin_11, xbin_12, xun_0, xun_1, xun_2, xun_3, xun_4, xun_5, k6a, k8, k8b, k9, k20, k20b_0, k20b_1, k20b_2, k20b_3, k20b_4, k20b_5, k21_0, k21_1, k21_2, k21_3, k21_4, k21_5, k23, k24, k25, k27, k28, k40, nz_1, nz_2, nz_3, k31_0, k31_1, k31_2, k31_3, k32u, k33, k34, k35, k35b, k36, k37, k38, k47, k49, k49b_0, k49b_1, k49b_2, k49b_3, k50_0, k50_s, k51_0, k51_s, k55, k58, k58b, rk_0, rk_1, rk_2, rk_9, rk_3, rk_4, rk_5, sw_n, sw_c, xtb_n, xtb_c, lset_0, lset_2, lset_1, lkm_0, lkm_2, lkm_9, lkm_1, lkm_n, if_some1, c_10, c_01, c_x0, c_1x, c_n0, c_nn, List.getElem?_cons_zero, List.getElem?_cons_succ, List.set_cons_zero, List.set_cons_succ, List.length_cons, List.length_nil, Int.reduceToNat, Nat.reduceDiv, Nat.reduceMod, Nat.reduceSub, Nat.reduceAdd, Nat.reduceMul, Nat.reduceLT, Nat.reduceLeDiff, Nat.reduceEqDiff, Int.reduceMod, Int.reduceSub, Int.reduceNeg, Int.reduceAdd, Int.reduceMul, Int.reduceLT, Int.reduceLE, Int.reduceEq, put_ss, if_true, if_false, ite_true, ite_false, reduceIte, eq_self, and_true, true_and, and_false, false_and, or_true, true_or, or_false, false_or, not_true_eq_false, not_false_eq_true, k5_158_37, k6_175, k35_175, n_175, k5_158_34, k6_173, k35_173, n_173, e173, e175, hlt, iand_511, hcc, e3, w32_of, p1, p2, p3, c1]
    rfl
theorem N_o26 (hF : 100000 ≤ F) (hB : TBd T n) (hn : n < 500) (hi : 0 ≤ i ∧ i < 12000) (hop : m 177 i.toNat = 26) (hx : m 178 i.toNat = x) (h0 : 0 ≤ m 173 x.toNat) (h1 : m 173 x.toNat + m 174 x.toNat ≤ 1600) (hm0 : 0 ≤ m 174 x.toNat ∧ m 174 x.toNat ≤ 100) (hx0 : 0 ≤ x ∧ x < 1600) (hc : ∀ k : Nat, (k : Int) < m 173 x.toNat + m 174 x.toNat → -1000000 ≤ m 175 k ∧ m 175 k ≤ 1000000) (hpr : -1000000 ≤ m 170 x.toNat ∧ m 170 x.toNat ≤ 1000000) : Cx F (d + 14) 281 [158, i] (Hp L xs (my T m)) = some ([], Hp L xs (my (mo_L m x (rcM m (m 173 x.toNat) (m 174 x.toNat).toNat) T) m)) := by
  have my_o' : ∀ a k, (a = 168 ∨ a = 170 ∨ a = 177 ∨ a = 178 ∨ a = 179 ∨ a = 182 ∨ a = 173 ∨ a = 174 ∨ a = 175) → ∀ (T : mSt) (m : Mem), my T m a k = m a k := fun a k ha T m => my_o (by omega) (by omega) (by omega) (by omega) (by omega) (by omega)
  have e177 := fun k T m => my_o' 177 k (by omega) T m
  have e178 := fun k T m => my_o' 178 k (by omega) T m
  have e179 := fun k T m => my_o' 179 k (by omega) T m
  have e168 := fun k T m => my_o' 168 k (by omega) T m
  have e170 := fun k T m => my_o' 170 k (by omega) T m
  have e182 := fun k T m => my_o' 182 k (by omega) T m
  have e173 := fun k T m => my_o' 173 k (by omega) T m
  have e174 := fun k T m => my_o' 174 k (by omega) T m
  have e175 := fun k T m => my_o' 175 k (by omega) T m
  have y1 := fun D => L_284 (F := F) (L := L) (xs := xs) (d := D) (x := x) h0 h1 hm0.1 hx0 hc (m 174 x.toNat).toNat 0 T n F (by omega) (by omega) hB (by omega) (by omega)
  have hB0 := tb_v (rcM m (m 173 x.toNat) (m 174 x.toNat).toNat) T n hB
  rw [rcM_l] at hB0
  have e0 : m 173 x.toNat + 0 = m 173 x.toNat := by omega
  rw [e0] at y1
  unfold mo_L
  generalize lvM (rcM m (m 173 x.toNat) (m 174 x.toNat).toNat) T = T2 at *
  have c1 := fun D => P_257 (F := F) (L := L) (xs := xs) (d := D) (m := m) (T := T2) (o := 6) (r := 4) (a := 0) (b := 0) (x := 5) (y := lw 6 5) (by first | rfl | exact Int.zero_add _) (hB0) (by omega) (by omega) (by omega) (by omega) (by omega) (by omega) (by omega)
  have c2 := fun D => P_257 (F := F) (L := L) (xs := xs) (d := D) (m := m) (T := (tE [wrd 6 4 0 (lw 6 5)] T2)) (o := 8) (r := 5) (a := 6) (b := 0) (x := (m 170 x.toNat) % 64) (y := lw 8 (m 170 x.toNat)) (by first | rfl | exact Int.zero_add _) (tb_e (ws := [wrd 6 4 0 (lw 6 5)]) (hB0) (Nat.le_of_ble_eq_true rfl)) (by omega) (by omega) (by omega) (by omega) (by omega) (by omega) (by omega)
  have c3 := fun D => P_257 (F := F) (L := L) (xs := xs) (d := D) (m := m) (T := (tE [wrd 8 5 6 (lw 8 (m 170 x.toNat))] (tE [wrd 6 4 0 (lw 6 5)] T2))) (o := 8) (r := 3) (a := 6) (b := 0) (x := (m 170 x.toNat + 1) % 64) (y := lw 8 (m 170 x.toNat + 1)) (by first | rfl | exact Int.zero_add _) (tb_e (ws := [wrd 8 5 6 (lw 8 (m 170 x.toNat))]) (tb_e (ws := [wrd 6 4 0 (lw 6 5)]) (hB0) (Nat.le_of_ble_eq_true rfl)) (Nat.le_of_ble_eq_true rfl)) (by omega) (by omega) (by omega) (by omega) (by omega) (by omega) (by omega)
  have c4 := fun D => P_257 (F := F) (L := L) (xs := xs) (d := D) (m := m) (T := (tE [wrd 8 3 6 (lw 8 (m 170 x.toNat + 1))] (tE [wrd 8 5 6 (lw 8 (m 170 x.toNat))] (tE [wrd 6 4 0 (lw 6 5)] T2)))) (o := 10) (r := 7) (a := 6) (b := 0) (x := 0) (y := lw 10 0) (by first | rfl | exact Int.zero_add _) (tb_e (ws := [wrd 8 3 6 (lw 8 (m 170 x.toNat + 1))]) (tb_e (ws := [wrd 8 5 6 (lw 8 (m 170 x.toNat))]) (tb_e (ws := [wrd 6 4 0 (lw 6 5)]) (hB0) (Nat.le_of_ble_eq_true rfl)) (Nat.le_of_ble_eq_true rfl)) (Nat.le_of_ble_eq_true rfl)) (by omega) (by omega) (by omega) (by omega) (by omega) (by omega) (by omega)
  have c5 := fun D => P_257 (F := F) (L := L) (xs := xs) (d := D) (m := m) (T := (tE [wrd 10 7 6 (lw 10 0)] (tE [wrd 8 3 6 (lw 8 (m 170 x.toNat + 1))] (tE [wrd 8 5 6 (lw 8 (m 170 x.toNat))] (tE [wrd 6 4 0 (lw 6 5)] T2))))) (o := 10) (r := 6) (a := 3) (b := 0) (x := 0) (y := lw 10 0) (by first | rfl | exact Int.zero_add _) (tb_e (ws := [wrd 10 7 6 (lw 10 0)]) (tb_e (ws := [wrd 8 3 6 (lw 8 (m 170 x.toNat + 1))]) (tb_e (ws := [wrd 8 5 6 (lw 8 (m 170 x.toNat))]) (tb_e (ws := [wrd 6 4 0 (lw 6 5)]) (hB0) (Nat.le_of_ble_eq_true rfl)) (Nat.le_of_ble_eq_true rfl)) (Nat.le_of_ble_eq_true rfl)) (Nat.le_of_ble_eq_true rfl)) (by omega) (by omega) (by omega) (by omega) (by omega) (by omega) (by omega)
  have c6 := fun D => P_257 (F := F) (L := L) (xs := xs) (d := D) (m := m) (T := (tE [wrd 10 6 3 (lw 10 0)] (tE [wrd 10 7 6 (lw 10 0)] (tE [wrd 8 3 6 (lw 8 (m 170 x.toNat + 1))] (tE [wrd 8 5 6 (lw 8 (m 170 x.toNat))] (tE [wrd 6 4 0 (lw 6 5)] T2)))))) (o := 13) (r := 5) (a := 5) (b := 0) (x := 0) (y := lw 13 0) (by first | rfl | exact Int.zero_add _) (tb_e (ws := [wrd 10 6 3 (lw 10 0)]) (tb_e (ws := [wrd 10 7 6 (lw 10 0)]) (tb_e (ws := [wrd 8 3 6 (lw 8 (m 170 x.toNat + 1))]) (tb_e (ws := [wrd 8 5 6 (lw 8 (m 170 x.toNat))]) (tb_e (ws := [wrd 6 4 0 (lw 6 5)]) (hB0) (Nat.le_of_ble_eq_true rfl)) (Nat.le_of_ble_eq_true rfl)) (Nat.le_of_ble_eq_true rfl)) (Nat.le_of_ble_eq_true rfl)) (Nat.le_of_ble_eq_true rfl)) (by omega) (by omega) (by omega) (by omega) (by omega) (by omega) (by omega)
  simp (disch := omega) only [c_281, tr_281, c_282, tr_282, c_283, tr_283, c_274, tr_274, c_275, tr_275, c_276, tr_276, c_277, tr_277, c_278, tr_278, c_279, tr_279, c_273, tr_273, c_261, tr_261, c_262, tr_262, c_263, tr_263, c_258, tr_258, c_259, tr_259, c_260, tr_260, c_264, tr_264, c_270, tr_270, c_284, tx_284, ev_0, ev_1, ev_16, ev_17, ev_18, ev_2, ev_3, ev_4, ev_5, ev_6, ev_7, ev_8, ev_9, ev_20, ev_21, ev_22, ev_23, ev_24, ev_25, ev_27, ev_28, ev_30, ev_31, ev_32, ev_33, ev_34, ev_35, ev_36, ev_37, ev_38, ev_39, ev_40, ev_41, ev_42, ev_43, ev_45, ev_46, ev_47, ev_48, ev_49, ev_50, ev_51, ev_52, ev_54, ev_55, ev_57, ev_58, ev_59, k2_0, k2_1, k2_2, k3a, k3b, k4, o1_s, xbin_0, xbin_1, xbin_2, xbin_3, xbin_4, xbin_5, xbin_6, xbin_7, xbin_8, xbin_9, xbin_11, xbin_12, xun_0, xun_1, xun_2, xun_3, xun_4, xun_5, k6a, k8, k8b, k9, k20, k20b_0, k20b_1, k20b_2, k20b_3, k20b_4, k20b_5, k21_0, k21_1, k21_2, k21_3, k21_4, k21_5, k23, k24, k25, k27, k28, k40, nz_1, nz_2, nz_3, k31_0, k31_1, k31_2, k31_3, k32u, k33, k34, k35, k35b, k36, k37, k38, k47, k49, k49b_0, k49b_1, k49b_2, k49b_3, k50_0, k50_s, k51_0, k51_s, k55, k58, k58b, rk_0, rk_1, rk_2, rk_9, rk_3, rk_4, rk_5, sw_n, sw_c, xtb_n, xtb_c, lset_0, lset_2, lset_1, lkm_0, lkm_2, lkm_9, lkm_1, lkm_n, if_some1, c_10, c_01, c_x0, c_1x, c_n0, c_nn, List.getElem?_cons_zero, List.getElem?_cons_succ, List.set_cons_zero, List.set_cons_succ, List.length_cons, List.length_nil, Int.reduceToNat, Nat.reduceDiv, Nat.reduceMod, Nat.reduceSub, Nat.reduceAdd, Nat.reduceMul, Nat.reduceLT, Nat.reduceLeDiff, Nat.reduceEqDiff, Int.reduceMod, Int.reduceSub, Int.reduceNeg, Int.reduceAdd, Int.reduceMul, Int.reduceLT, Int.reduceLE, Int.reduceEq, put_ss, if_true, if_false, ite_true, ite_false, reduceIte, eq_self, and_true, true_and, and_false, false_and, or_true, true_or, or_false, false_or, not_true_eq_false, not_false_eq_true, k5_158_42, k6_177, k35_177, n_177, k5_158_43, k6_178, k35_178, n_178, k5_158_44, k6_179, k35_179, n_179, k5_158_26, k6_170, k35_170, n_170, k5_158_22, k6_168, k35_168, n_168, k5_158_50, k6_182, k35_182, n_182, k5_158_83, k34_158_83, k5_158_84, k34_158_84, k5_158_85, k34_158_85, k5_158_34, k6_173, k35_173, n_173, k5_158_35, k6_174, k35_174, n_174, k5_158_37, k6_175, k35_175, n_175, e177, e178, e170, e174, iand_63, iand_511, hop, hx, y1, w32_of, c1, c2, c3, c4, c5, c6]
theorem M_285 (hB : TBd T n) (hn : n < 500) : Cx F (d + 4) 285 [158] (Hp L xs (my T m)) = some ([], Hp L xs (my (tE (tbL tv_1 0 30) T) m)) := by
  have c0 := fun D => P_257 (F := F) (L := L) (xs := xs) (d := D) (m := m) (T := T) (o := 3) (r := 3) (a := 0) (b := 1) (x := 0) (y := lw 3 1) rfl hB (by omega) (by omega) (by omega) (by omega) (by omega) (by omega) (by omega)
  have b0 := tb_e (ws := [wrd 3 3 0 (lw 3 1)]) hB (Nat.le_of_ble_eq_true rfl)
  generalize hT0 : tE [wrd 3 3 0 (lw 3 1)] T = T0 at *
  have c1 := fun D => P_257 (F := F) (L := L) (xs := xs) (d := D) (m := m) (T := T0) (o := 9) (r := 5) (a := 7) (b := 0) (x := 0) (y := lw 9 0) rfl b0 (by omega) (by omega) (by omega) (by omega) (by omega) (by omega) (by omega)
  have b1 := tb_e (ws := [wrd 9 5 7 (lw 9 0)]) b0 (Nat.le_of_ble_eq_true rfl)
  generalize hT1 : tE [wrd 9 5 7 (lw 9 0)] T0 = T1 at *
  have c2 := fun D => P_257 (F := F) (L := L) (xs := xs) (d := D) (m := m) (T := T1) (o := 6) (r := 2) (a := 0) (b := 0) (x := 0) (y := lw 6 0) rfl b1 (by omega) (by omega) (by omega) (by omega) (by omega) (by omega) (by omega)
  have b2 := tb_e (ws := [wrd 6 2 0 (lw 6 0)]) b1 (Nat.le_of_ble_eq_true rfl)
  generalize hT2 : tE [wrd 6 2 0 (lw 6 0)] T1 = T2 at *
  have c3 := fun D => P_257 (F := F) (L := L) (xs := xs) (d := D) (m := m) (T := T2) (o := 11) (r := 0) (a := 0) (b := 0) (x := 24) (y := lw 11 24) rfl b2 (by omega) (by omega) (by omega) (by omega) (by omega) (by omega) (by omega)
  have b3 := tb_e (ws := [wrd 11 0 0 (lw 11 24)]) b2 (Nat.le_of_ble_eq_true rfl)
  generalize hT3 : tE [wrd 11 0 0 (lw 11 24)] T2 = T3 at *
  have c4 := fun D => P_257 (F := F) (L := L) (xs := xs) (d := D) (m := m) (T := T3) (o := 12) (r := 0) (a := 0) (b := 0) (x := 2) (y := lw 12 2) rfl b3 (by omega) (by omega) (by omega) (by omega) (by omega) (by omega) (by omega)
  have b4 := tb_e (ws := [wrd 12 0 0 (lw 12 2)]) b3 (Nat.le_of_ble_eq_true rfl)
  generalize hT4 : tE [wrd 12 0 0 (lw 12 2)] T3 = T4 at *
  have c5 := fun D => P_257 (F := F) (L := L) (xs := xs) (d := D) (m := m) (T := T4) (o := 6) (r := 5) (a := 0) (b := 0) (x := 0) (y := lw 6 0) rfl b4 (by omega) (by omega) (by omega) (by omega) (by omega) (by omega) (by omega)
  have b5 := tb_e (ws := [wrd 6 5 0 (lw 6 0)]) b4 (Nat.le_of_ble_eq_true rfl)
  generalize hT5 : tE [wrd 6 5 0 (lw 6 0)] T4 = T5 at *
  have c6 := fun D => P_257 (F := F) (L := L) (xs := xs) (d := D) (m := m) (T := T5) (o := 1) (r := 0) (a := 5) (b := 0) (x := 0) (y := lw 1 0) rfl b5 (by omega) (by omega) (by omega) (by omega) (by omega) (by omega) (by omega)
  have b6 := tb_e (ws := [wrd 1 0 5 (lw 1 0)]) b5 (Nat.le_of_ble_eq_true rfl)
  generalize hT6 : tE [wrd 1 0 5 (lw 1 0)] T5 = T6 at *
  have c7 := fun D => P_257 (F := F) (L := L) (xs := xs) (d := D) (m := m) (T := T6) (o := 12) (r := 1) (a := 0) (b := 0) (x := 1) (y := lw 12 1) rfl b6 (by omega) (by omega) (by omega) (by omega) (by omega) (by omega) (by omega)
  have b7 := tb_e (ws := [wrd 12 1 0 (lw 12 1)]) b6 (Nat.le_of_ble_eq_true rfl)
  generalize hT7 : tE [wrd 12 1 0 (lw 12 1)] T6 = T7 at *
  have c8 := fun D => P_257 (F := F) (L := L) (xs := xs) (d := D) (m := m) (T := T7) (o := 14) (r := 0) (a := 0) (b := 0) (x := 2) (y := lw 14 2) rfl b7 (by omega) (by omega) (by omega) (by omega) (by omega) (by omega) (by omega)
  have b8 := tb_e (ws := [wrd 14 0 0 (lw 14 2)]) b7 (Nat.le_of_ble_eq_true rfl)
  generalize hT8 : tE [wrd 14 0 0 (lw 14 2)] T7 = T8 at *
  have c9 := fun D => P_257 (F := F) (L := L) (xs := xs) (d := D) (m := m) (T := T8) (o := 6) (r := 5) (a := 0) (b := 0) (x := 0) (y := lw 6 0) rfl b8 (by omega) (by omega) (by omega) (by omega) (by omega) (by omega) (by omega)
  have b9 := tb_e (ws := [wrd 6 5 0 (lw 6 0)]) b8 (Nat.le_of_ble_eq_true rfl)
  generalize hT9 : tE [wrd 6 5 0 (lw 6 0)] T8 = T9 at *
  have c10 := fun D => P_257 (F := F) (L := L) (xs := xs) (d := D) (m := m) (T := T9) (o := 1) (r := 1) (a := 5) (b := 1) (x := 0) (y := lw 1 1) rfl b9 (by omega) (by omega) (by omega) (by omega) (by omega) (by omega) (by omega)
  have b10 := tb_e (ws := [wrd 1 1 5 (lw 1 1)]) b9 (Nat.le_of_ble_eq_true rfl)
  generalize hT10 : tE [wrd 1 1 5 (lw 1 1)] T9 = T10 at *
  have c11 := fun D => P_257 (F := F) (L := L) (xs := xs) (d := D) (m := m) (T := T10) (o := 11) (r := 1) (a := 0) (b := 0) (x := 12) (y := lw 11 12) rfl b10 (by omega) (by omega) (by omega) (by omega) (by omega) (by omega) (by omega)
  have b11 := tb_e (ws := [wrd 11 1 0 (lw 11 12)]) b10 (Nat.le_of_ble_eq_true rfl)
  generalize hT11 : tE [wrd 11 1 0 (lw 11 12)] T10 = T11 at *
  have c12 := fun D => P_257 (F := F) (L := L) (xs := xs) (d := D) (m := m) (T := T11) (o := 6) (r := 5) (a := 0) (b := 0) (x := 1) (y := lw 6 1) rfl b11 (by omega) (by omega) (by omega) (by omega) (by omega) (by omega) (by omega)
  have b12 := tb_e (ws := [wrd 6 5 0 (lw 6 1)]) b11 (Nat.le_of_ble_eq_true rfl)
  generalize hT12 : tE [wrd 6 5 0 (lw 6 1)] T11 = T12 at *
  have c13 := fun D => P_257 (F := F) (L := L) (xs := xs) (d := D) (m := m) (T := T12) (o := 2) (r := 5) (a := 5) (b := 1) (x := 0) (y := lw 2 1) rfl b12 (by omega) (by omega) (by omega) (by omega) (by omega) (by omega) (by omega)
  have b13 := tb_e (ws := [wrd 2 5 5 (lw 2 1)]) b12 (Nat.le_of_ble_eq_true rfl)
  generalize hT13 : tE [wrd 2 5 5 (lw 2 1)] T12 = T13 at *
  have c14 := fun D => P_257 (F := F) (L := L) (xs := xs) (d := D) (m := m) (T := T13) (o := 11) (r := 5) (a := 0) (b := 0) (x := 3) (y := lw 11 3) rfl b13 (by omega) (by omega) (by omega) (by omega) (by omega) (by omega) (by omega)
  have b14 := tb_e (ws := [wrd 11 5 0 (lw 11 3)]) b13 (Nat.le_of_ble_eq_true rfl)
  generalize hT14 : tE [wrd 11 5 0 (lw 11 3)] T13 = T14 at *
  have c15 := fun D => P_257 (F := F) (L := L) (xs := xs) (d := D) (m := m) (T := T14) (o := 0) (r := 2) (a := 2) (b := 0) (x := 0) (y := lw 0 0) rfl b14 (by omega) (by omega) (by omega) (by omega) (by omega) (by omega) (by omega)
  have b15 := tb_e (ws := [wrd 0 2 2 (lw 0 0)]) b14 (Nat.le_of_ble_eq_true rfl)
  generalize hT15 : tE [wrd 0 2 2 (lw 0 0)] T14 = T15 at *
  have c16 := fun D => P_257 (F := F) (L := L) (xs := xs) (d := D) (m := m) (T := T15) (o := 12) (r := 2) (a := 0) (b := 0) (x := 1) (y := lw 12 1) rfl b15 (by omega) (by omega) (by omega) (by omega) (by omega) (by omega) (by omega)
  have b16 := tb_e (ws := [wrd 12 2 0 (lw 12 1)]) b15 (Nat.le_of_ble_eq_true rfl)
  generalize hT16 : tE [wrd 12 2 0 (lw 12 1)] T15 = T16 at *
  have c17 := fun D => P_257 (F := F) (L := L) (xs := xs) (d := D) (m := m) (T := T16) (o := 14) (r := 0) (a := 0) (b := 0) (x := 4) (y := lw 14 4) rfl b16 (by omega) (by omega) (by omega) (by omega) (by omega) (by omega) (by omega)
  have b17 := tb_e (ws := [wrd 14 0 0 (lw 14 4)]) b16 (Nat.le_of_ble_eq_true rfl)
  generalize hT17 : tE [wrd 14 0 0 (lw 14 4)] T16 = T17 at *
  have c18 := fun D => P_257 (F := F) (L := L) (xs := xs) (d := D) (m := m) (T := T17) (o := 5) (r := 1) (a := 1) (b := 0) (x := 0) (y := lw 5 0) rfl b17 (by omega) (by omega) (by omega) (by omega) (by omega) (by omega) (by omega)
  have b18 := tb_e (ws := [wrd 5 1 1 (lw 5 0)]) b17 (Nat.le_of_ble_eq_true rfl)
  generalize hT18 : tE [wrd 5 1 1 (lw 5 0)] T17 = T18 at *
  have c19 := fun D => P_257 (F := F) (L := L) (xs := xs) (d := D) (m := m) (T := T18) (o := 11) (r := 1) (a := 0) (b := 0) (x := 4) (y := lw 11 4) rfl b18 (by omega) (by omega) (by omega) (by omega) (by omega) (by omega) (by omega)
  have b19 := tb_e (ws := [wrd 11 1 0 (lw 11 4)]) b18 (Nat.le_of_ble_eq_true rfl)
  generalize hT19 : tE [wrd 11 1 0 (lw 11 4)] T18 = T19 at *
  have c20 := fun D => P_257 (F := F) (L := L) (xs := xs) (d := D) (m := m) (T := T19) (o := 0) (r := 0) (a := 0) (b := 0) (x := 0) (y := lw 0 0) rfl b19 (by omega) (by omega) (by omega) (by omega) (by omega) (by omega) (by omega)
  have b20 := tb_e (ws := [wrd 0 0 0 (lw 0 0)]) b19 (Nat.le_of_ble_eq_true rfl)
  generalize hT20 : tE [wrd 0 0 0 (lw 0 0)] T19 = T20 at *
  have c21 := fun D => P_257 (F := F) (L := L) (xs := xs) (d := D) (m := m) (T := T20) (o := 12) (r := 0) (a := 0) (b := 0) (x := 501) (y := lw 12 (-11)) rfl b20 (by omega) (by omega) (by omega) (by omega) (by omega) (by omega) (by omega)
  have b21 := tb_e (ws := [wrd 12 0 0 (lw 12 (-11))]) b20 (Nat.le_of_ble_eq_true rfl)
  generalize hT21 : tE [wrd 12 0 0 (lw 12 (-11))] T20 = T21 at *
  have c22 := fun D => P_257 (F := F) (L := L) (xs := xs) (d := D) (m := m) (T := T21) (o := 6) (r := 4) (a := 0) (b := 0) (x := 1) (y := lw 6 1) rfl b21 (by omega) (by omega) (by omega) (by omega) (by omega) (by omega) (by omega)
  have b22 := tb_e (ws := [wrd 6 4 0 (lw 6 1)]) b21 (Nat.le_of_ble_eq_true rfl)
  generalize hT22 : tE [wrd 6 4 0 (lw 6 1)] T21 = T22 at *
  have c23 := fun D => P_257 (F := F) (L := L) (xs := xs) (d := D) (m := m) (T := T22) (o := 14) (r := 0) (a := 0) (b := 0) (x := 4) (y := lw 14 4) rfl b22 (by omega) (by omega) (by omega) (by omega) (by omega) (by omega) (by omega)
  have b23 := tb_e (ws := [wrd 14 0 0 (lw 14 4)]) b22 (Nat.le_of_ble_eq_true rfl)
  generalize hT23 : tE [wrd 14 0 0 (lw 14 4)] T22 = T23 at *
  have c24 := fun D => P_257 (F := F) (L := L) (xs := xs) (d := D) (m := m) (T := T23) (o := 12) (r := 3) (a := 0) (b := 0) (x := 3) (y := lw 12 3) rfl b23 (by omega) (by omega) (by omega) (by omega) (by omega) (by omega) (by omega)
  have b24 := tb_e (ws := [wrd 12 3 0 (lw 12 3)]) b23 (Nat.le_of_ble_eq_true rfl)
  generalize hT24 : tE [wrd 12 3 0 (lw 12 3)] T23 = T24 at *
  have c25 := fun D => P_257 (F := F) (L := L) (xs := xs) (d := D) (m := m) (T := T24) (o := 6) (r := 5) (a := 0) (b := 0) (x := 0) (y := lw 6 0) rfl b24 (by omega) (by omega) (by omega) (by omega) (by omega) (by omega) (by omega)
  have b25 := tb_e (ws := [wrd 6 5 0 (lw 6 0)]) b24 (Nat.le_of_ble_eq_true rfl)
  generalize hT25 : tE [wrd 6 5 0 (lw 6 0)] T24 = T25 at *
  have c26 := fun D => P_257 (F := F) (L := L) (xs := xs) (d := D) (m := m) (T := T25) (o := 1) (r := 2) (a := 5) (b := 2) (x := 0) (y := lw 1 2) rfl b25 (by omega) (by omega) (by omega) (by omega) (by omega) (by omega) (by omega)
  have b26 := tb_e (ws := [wrd 1 2 5 (lw 1 2)]) b25 (Nat.le_of_ble_eq_true rfl)
  generalize hT26 : tE [wrd 1 2 5 (lw 1 2)] T25 = T26 at *
  have c27 := fun D => P_257 (F := F) (L := L) (xs := xs) (d := D) (m := m) (T := T26) (o := 12) (r := 2) (a := 0) (b := 0) (x := 506) (y := lw 12 (-6)) rfl b26 (by omega) (by omega) (by omega) (by omega) (by omega) (by omega) (by omega)
  have b27 := tb_e (ws := [wrd 12 2 0 (lw 12 (-6))]) b26 (Nat.le_of_ble_eq_true rfl)
  generalize hT27 : tE [wrd 12 2 0 (lw 12 (-6))] T26 = T27 at *
  have c28 := fun D => P_257 (F := F) (L := L) (xs := xs) (d := D) (m := m) (T := T27) (o := 8) (r := 5) (a := 7) (b := 0) (x := 0) (y := lw 8 0) rfl b27 (by omega) (by omega) (by omega) (by omega) (by omega) (by omega) (by omega)
  have b28 := tb_e (ws := [wrd 8 5 7 (lw 8 0)]) b27 (Nat.le_of_ble_eq_true rfl)
  generalize hT28 : tE [wrd 8 5 7 (lw 8 0)] T27 = T28 at *
  have c29 := fun D => P_257 (F := F) (L := L) (xs := xs) (d := D) (m := m) (T := T28) (o := 13) (r := 5) (a := 5) (b := 0) (x := 0) (y := lw 13 0) rfl b28 (by omega) (by omega) (by omega) (by omega) (by omega) (by omega) (by omega)
  have b29 := tb_e (ws := [wrd 13 5 5 (lw 13 0)]) b28 (Nat.le_of_ble_eq_true rfl)
  generalize hT29 : tE [wrd 13 5 5 (lw 13 0)] T28 = T29 at *
  have fin : T29 = tE (tbL tv_1 0 30) T := by
    rw [← hT29, ← hT28, ← hT27, ← hT26, ← hT25, ← hT24, ← hT23, ← hT22, ← hT21, ← hT20, ← hT19, ← hT18, ← hT17, ← hT16, ← hT15, ← hT14, ← hT13, ← hT12, ← hT11, ← hT10, ← hT9, ← hT8, ← hT7, ← hT6, ← hT5, ← hT4, ← hT3, ← hT2, ← hT1, ← hT0]
    simp only [tE_app]
    rfl
  rw [← fin]
  simp (disch := omega) only [c_285, tr_285, c_258, tr_258, c_259, tr_259, c_260, tr_260, c_261, tr_261, c_262, tr_262, c_263, tr_263, c_264, tr_264, c_270, tr_270, ev_0, ev_1, ev_16, ev_17, ev_18, ev_2, ev_3, ev_4, ev_5, ev_6, ev_7, ev_8, ev_9, ev_20, ev_21, ev_22, ev_23, ev_24, ev_25, ev_27, ev_28, ev_30, ev_31, ev_32, ev_33, ev_34, ev_35, ev_36, ev_37, ev_38, ev_39, ev_40, ev_41, ev_42, ev_43, ev_45, ev_46, ev_47, ev_48, ev_49, ev_50, ev_51, ev_52, ev_54, ev_55, ev_57, ev_58, ev_59, k2_0, k2_1, k2_2, k3a, k3b, k4, o1_s, xbin_0, xbin_1, xbin_2, xbin_3, xbin_4, xbin_5, xbin_6, xbin_7, xbin_8, xbin_9, xbin_11, xbin_12, xun_0, xun_1, xun_2, xun_3, xun_4, xun_5, k6a, k8, k8b, k9, k20, k20b_0, k20b_1, k20b_2, k20b_3, k20b_4, k20b_5, k21_0, k21_1, k21_2, k21_3, k21_4, k21_5, k23, k24, k25, k27, k28, k40, nz_1, nz_2, nz_3, k31_0, k31_1, k31_2, k31_3, k32u, k33, k34, k35, k35b, k36, k37, k38, k47, k49, k49b_0, k49b_1, k49b_2, k49b_3, k50_0, k50_s, k51_0, k51_s, k55, k58, k58b, rk_0, rk_1, rk_2, rk_9, rk_3, rk_4, rk_5, sw_n, sw_c, xtb_n, xtb_c, lset_0, lset_2, lset_1, lkm_0, lkm_2, lkm_9, lkm_1, lkm_n, if_some1, c_10, c_01, c_x0, c_1x, c_n0, c_nn, List.getElem?_cons_zero, List.getElem?_cons_succ, List.set_cons_zero, List.set_cons_succ, List.length_cons, List.length_nil, Int.reduceToNat, Nat.reduceDiv, Nat.reduceMod, Nat.reduceSub, Nat.reduceAdd, Nat.reduceMul, Nat.reduceLT, Nat.reduceLeDiff, Nat.reduceEqDiff, Int.reduceMod, Int.reduceSub, Int.reduceNeg, Int.reduceAdd, Int.reduceMul, Int.reduceLT, Int.reduceLE, Int.reduceEq, put_ss, if_true, if_false, ite_true, ite_false, reduceIte, eq_self, and_true, true_and, and_false, false_and, or_true, true_or, or_false, false_or, not_true_eq_false, not_false_eq_true, iand_63, iand_511, iand_4095, c0, c1, c2, c3, c4, c5, c6, c7, c8, c9, c10, c11, c12, c13, c14, c15, c16, c17, c18, c19, c20, c21, c22, c23, c24, c25, c26, c27, c28, c29]
theorem M_286 (hB : TBd T n) (hn : n < 500) : Cx F (d + 4) 286 [158] (Hp L xs (my T m)) = some ([], Hp L xs (my (tE (tbL tv_2 0 44) T) m)) := by
  have c0 := fun D => P_257 (F := F) (L := L) (xs := xs) (d := D) (m := m) (T := T) (o := 11) (r := 1) (a := 0) (b := 0) (x := 41) (y := lw 11 41) rfl hB (by omega) (by omega) (by omega) (by omega) (by omega) (by omega) (by omega)
  have b0 := tb_e (ws := [wrd 11 1 0 (lw 11 41)]) hB (Nat.le_of_ble_eq_true rfl)
  generalize hT0 : tE [wrd 11 1 0 (lw 11 41)] T = T0 at *
  have c1 := fun D => P_257 (F := F) (L := L) (xs := xs) (d := D) (m := m) (T := T0) (o := 9) (r := 5) (a := 7) (b := 0) (x := 0) (y := lw 9 0) rfl b0 (by omega) (by omega) (by omega) (by omega) (by omega) (by omega) (by omega)
  have b1 := tb_e (ws := [wrd 9 5 7 (lw 9 0)]) b0 (Nat.le_of_ble_eq_true rfl)
  generalize hT1 : tE [wrd 9 5 7 (lw 9 0)] T0 = T1 at *
  have c2 := fun D => P_257 (F := F) (L := L) (xs := xs) (d := D) (m := m) (T := T1) (o := 9) (r := 0) (a := 7) (b := 0) (x := 1) (y := lw 9 1) rfl b1 (by omega) (by omega) (by omega) (by omega) (by omega) (by omega) (by omega)
  have b2 := tb_e (ws := [wrd 9 0 7 (lw 9 1)]) b1 (Nat.le_of_ble_eq_true rfl)
  generalize hT2 : tE [wrd 9 0 7 (lw 9 1)] T1 = T2 at *
  have c3 := fun D => P_257 (F := F) (L := L) (xs := xs) (d := D) (m := m) (T := T2) (o := 3) (r := 2) (a := 0) (b := 1) (x := 0) (y := lw 3 1) rfl b2 (by omega) (by omega) (by omega) (by omega) (by omega) (by omega) (by omega)
  have b3 := tb_e (ws := [wrd 3 2 0 (lw 3 1)]) b2 (Nat.le_of_ble_eq_true rfl)
  generalize hT3 : tE [wrd 3 2 0 (lw 3 1)] T2 = T3 at *
  have c4 := fun D => P_257 (F := F) (L := L) (xs := xs) (d := D) (m := m) (T := T3) (o := 9) (r := 2) (a := 7) (b := 0) (x := 2) (y := lw 9 2) rfl b3 (by omega) (by omega) (by omega) (by omega) (by omega) (by omega) (by omega)
  have b4 := tb_e (ws := [wrd 9 2 7 (lw 9 2)]) b3 (Nat.le_of_ble_eq_true rfl)
  generalize hT4 : tE [wrd 9 2 7 (lw 9 2)] T3 = T4 at *
  have c5 := fun D => P_257 (F := F) (L := L) (xs := xs) (d := D) (m := m) (T := T4) (o := 6) (r := 5) (a := 0) (b := 0) (x := 0) (y := lw 6 0) rfl b4 (by omega) (by omega) (by omega) (by omega) (by omega) (by omega) (by omega)
  have b5 := tb_e (ws := [wrd 6 5 0 (lw 6 0)]) b4 (Nat.le_of_ble_eq_true rfl)
  generalize hT5 : tE [wrd 6 5 0 (lw 6 0)] T4 = T5 at *
  have c6 := fun D => P_257 (F := F) (L := L) (xs := xs) (d := D) (m := m) (T := T5) (o := 12) (r := 0) (a := 0) (b := 0) (x := 1) (y := lw 12 1) rfl b5 (by omega) (by omega) (by omega) (by omega) (by omega) (by omega) (by omega)
  have b6 := tb_e (ws := [wrd 12 0 0 (lw 12 1)]) b5 (Nat.le_of_ble_eq_true rfl)
  generalize hT6 : tE [wrd 12 0 0 (lw 12 1)] T5 = T6 at *
  have c7 := fun D => P_257 (F := F) (L := L) (xs := xs) (d := D) (m := m) (T := T6) (o := 14) (r := 0) (a := 0) (b := 0) (x := 1) (y := lw 14 1) rfl b6 (by omega) (by omega) (by omega) (by omega) (by omega) (by omega) (by omega)
  have b7 := tb_e (ws := [wrd 14 0 0 (lw 14 1)]) b6 (Nat.le_of_ble_eq_true rfl)
  generalize hT7 : tE [wrd 14 0 0 (lw 14 1)] T6 = T7 at *
  have c8 := fun D => P_257 (F := F) (L := L) (xs := xs) (d := D) (m := m) (T := T7) (o := 1) (r := 0) (a := 5) (b := 0) (x := 0) (y := lw 1 0) rfl b7 (by omega) (by omega) (by omega) (by omega) (by omega) (by omega) (by omega)
  have b8 := tb_e (ws := [wrd 1 0 5 (lw 1 0)]) b7 (Nat.le_of_ble_eq_true rfl)
  generalize hT8 : tE [wrd 1 0 5 (lw 1 0)] T7 = T8 at *
  have c9 := fun D => P_257 (F := F) (L := L) (xs := xs) (d := D) (m := m) (T := T8) (o := 12) (r := 1) (a := 0) (b := 0) (x := 1) (y := lw 12 1) rfl b8 (by omega) (by omega) (by omega) (by omega) (by omega) (by omega) (by omega)
  have b9 := tb_e (ws := [wrd 12 1 0 (lw 12 1)]) b8 (Nat.le_of_ble_eq_true rfl)
  generalize hT9 : tE [wrd 12 1 0 (lw 12 1)] T8 = T9 at *
  have c10 := fun D => P_257 (F := F) (L := L) (xs := xs) (d := D) (m := m) (T := T9) (o := 14) (r := 0) (a := 0) (b := 0) (x := 1) (y := lw 14 1) rfl b9 (by omega) (by omega) (by omega) (by omega) (by omega) (by omega) (by omega)
  have b10 := tb_e (ws := [wrd 14 0 0 (lw 14 1)]) b9 (Nat.le_of_ble_eq_true rfl)
  generalize hT10 : tE [wrd 14 0 0 (lw 14 1)] T9 = T10 at *
  have c11 := fun D => P_257 (F := F) (L := L) (xs := xs) (d := D) (m := m) (T := T10) (o := 1) (r := 1) (a := 5) (b := 1) (x := 0) (y := lw 1 1) rfl b10 (by omega) (by omega) (by omega) (by omega) (by omega) (by omega) (by omega)
  have b11 := tb_e (ws := [wrd 1 1 5 (lw 1 1)]) b10 (Nat.le_of_ble_eq_true rfl)
  generalize hT11 : tE [wrd 1 1 5 (lw 1 1)] T10 = T11 at *
  have c12 := fun D => P_257 (F := F) (L := L) (xs := xs) (d := D) (m := m) (T := T11) (o := 6) (r := 2) (a := 0) (b := 0) (x := 0) (y := lw 6 0) rfl b11 (by omega) (by omega) (by omega) (by omega) (by omega) (by omega) (by omega)
  have b12 := tb_e (ws := [wrd 6 2 0 (lw 6 0)]) b11 (Nat.le_of_ble_eq_true rfl)
  generalize hT12 : tE [wrd 6 2 0 (lw 6 0)] T11 = T12 at *
  have c13 := fun D => P_257 (F := F) (L := L) (xs := xs) (d := D) (m := m) (T := T12) (o := 6) (r := 3) (a := 0) (b := 0) (x := 0) (y := lw 6 0) rfl b12 (by omega) (by omega) (by omega) (by omega) (by omega) (by omega) (by omega)
  have b13 := tb_e (ws := [wrd 6 3 0 (lw 6 0)]) b12 (Nat.le_of_ble_eq_true rfl)
  generalize hT13 : tE [wrd 6 3 0 (lw 6 0)] T12 = T13 at *
  have c14 := fun D => P_257 (F := F) (L := L) (xs := xs) (d := D) (m := m) (T := T13) (o := 6) (r := 4) (a := 0) (b := 0) (x := 16) (y := lw 6 16) rfl b13 (by omega) (by omega) (by omega) (by omega) (by omega) (by omega) (by omega)
  have b14 := tb_e (ws := [wrd 6 4 0 (lw 6 16)]) b13 (Nat.le_of_ble_eq_true rfl)
  generalize hT14 : tE [wrd 6 4 0 (lw 6 16)] T13 = T14 at *
  have c15 := fun D => P_257 (F := F) (L := L) (xs := xs) (d := D) (m := m) (T := T14) (o := 0) (r := 3) (a := 3) (b := 3) (x := 0) (y := lw 0 3) rfl b14 (by omega) (by omega) (by omega) (by omega) (by omega) (by omega) (by omega)
  have b15 := tb_e (ws := [wrd 0 3 3 (lw 0 3)]) b14 (Nat.le_of_ble_eq_true rfl)
  generalize hT15 : tE [wrd 0 3 3 (lw 0 3)] T14 = T15 at *
  have c16 := fun D => P_257 (F := F) (L := L) (xs := xs) (d := D) (m := m) (T := T15) (o := 0) (r := 2) (a := 2) (b := 2) (x := 0) (y := lw 0 2) rfl b15 (by omega) (by omega) (by omega) (by omega) (by omega) (by omega) (by omega)
  have b16 := tb_e (ws := [wrd 0 2 2 (lw 0 2)]) b15 (Nat.le_of_ble_eq_true rfl)
  generalize hT16 : tE [wrd 0 2 2 (lw 0 2)] T15 = T16 at *
  have c17 := fun D => P_257 (F := F) (L := L) (xs := xs) (d := D) (m := m) (T := T16) (o := 12) (r := 0) (a := 0) (b := 0) (x := 1) (y := lw 12 1) rfl b16 (by omega) (by omega) (by omega) (by omega) (by omega) (by omega) (by omega)
  have b17 := tb_e (ws := [wrd 12 0 0 (lw 12 1)]) b16 (Nat.le_of_ble_eq_true rfl)
  generalize hT17 : tE [wrd 12 0 0 (lw 12 1)] T16 = T17 at *
  have c18 := fun D => P_257 (F := F) (L := L) (xs := xs) (d := D) (m := m) (T := T17) (o := 14) (r := 0) (a := 0) (b := 0) (x := 1) (y := lw 14 1) rfl b17 (by omega) (by omega) (by omega) (by omega) (by omega) (by omega) (by omega)
  have b18 := tb_e (ws := [wrd 14 0 0 (lw 14 1)]) b17 (Nat.le_of_ble_eq_true rfl)
  generalize hT18 : tE [wrd 14 0 0 (lw 14 1)] T17 = T18 at *
  have c19 := fun D => P_257 (F := F) (L := L) (xs := xs) (d := D) (m := m) (T := T18) (o := 10) (r := 3) (a := 3) (b := 0) (x := 1) (y := lw 10 1) rfl b18 (by omega) (by omega) (by omega) (by omega) (by omega) (by omega) (by omega)
  have b19 := tb_e (ws := [wrd 10 3 3 (lw 10 1)]) b18 (Nat.le_of_ble_eq_true rfl)
  generalize hT19 : tE [wrd 10 3 3 (lw 10 1)] T18 = T19 at *
  have c20 := fun D => P_257 (F := F) (L := L) (xs := xs) (d := D) (m := m) (T := T19) (o := 0) (r := 0) (a := 0) (b := 0) (x := 0) (y := lw 0 0) rfl b19 (by omega) (by omega) (by omega) (by omega) (by omega) (by omega) (by omega)
  have b20 := tb_e (ws := [wrd 0 0 0 (lw 0 0)]) b19 (Nat.le_of_ble_eq_true rfl)
  generalize hT20 : tE [wrd 0 0 0 (lw 0 0)] T19 = T20 at *
  have c21 := fun D => P_257 (F := F) (L := L) (xs := xs) (d := D) (m := m) (T := T20) (o := 12) (r := 3) (a := 0) (b := 0) (x := 4) (y := lw 12 4) rfl b20 (by omega) (by omega) (by omega) (by omega) (by omega) (by omega) (by omega)
  have b21 := tb_e (ws := [wrd 12 3 0 (lw 12 4)]) b20 (Nat.le_of_ble_eq_true rfl)
  generalize hT21 : tE [wrd 12 3 0 (lw 12 4)] T20 = T21 at *
  have c22 := fun D => P_257 (F := F) (L := L) (xs := xs) (d := D) (m := m) (T := T21) (o := 12) (r := 1) (a := 0) (b := 0) (x := 5) (y := lw 12 5) rfl b21 (by omega) (by omega) (by omega) (by omega) (by omega) (by omega) (by omega)
  have b22 := tb_e (ws := [wrd 12 1 0 (lw 12 5)]) b21 (Nat.le_of_ble_eq_true rfl)
  generalize hT22 : tE [wrd 12 1 0 (lw 12 5)] T21 = T22 at *
  have c23 := fun D => P_257 (F := F) (L := L) (xs := xs) (d := D) (m := m) (T := T22) (o := 4) (r := 5) (a := 3) (b := 1) (x := 0) (y := lw 4 1) rfl b22 (by omega) (by omega) (by omega) (by omega) (by omega) (by omega) (by omega)
  have b23 := tb_e (ws := [wrd 4 5 3 (lw 4 1)]) b22 (Nat.le_of_ble_eq_true rfl)
  generalize hT23 : tE [wrd 4 5 3 (lw 4 1)] T22 = T23 at *
  have c24 := fun D => P_257 (F := F) (L := L) (xs := xs) (d := D) (m := m) (T := T23) (o := 11) (r := 5) (a := 0) (b := 0) (x := 1) (y := lw 11 1) rfl b23 (by omega) (by omega) (by omega) (by omega) (by omega) (by omega) (by omega)
  have b24 := tb_e (ws := [wrd 11 5 0 (lw 11 1)]) b23 (Nat.le_of_ble_eq_true rfl)
  generalize hT24 : tE [wrd 11 5 0 (lw 11 1)] T23 = T24 at *
  have c25 := fun D => P_257 (F := F) (L := L) (xs := xs) (d := D) (m := m) (T := T24) (o := 14) (r := 0) (a := 0) (b := 0) (x := 2) (y := lw 14 2) rfl b24 (by omega) (by omega) (by omega) (by omega) (by omega) (by omega) (by omega)
  have b25 := tb_e (ws := [wrd 14 0 0 (lw 14 2)]) b24 (Nat.le_of_ble_eq_true rfl)
  generalize hT25 : tE [wrd 14 0 0 (lw 14 2)] T24 = T25 at *
  have c26 := fun D => P_257 (F := F) (L := L) (xs := xs) (d := D) (m := m) (T := T25) (o := 1) (r := 3) (a := 3) (b := 1) (x := 0) (y := lw 1 1) rfl b25 (by omega) (by omega) (by omega) (by omega) (by omega) (by omega) (by omega)
  have b26 := tb_e (ws := [wrd 1 3 3 (lw 1 1)]) b25 (Nat.le_of_ble_eq_true rfl)
  generalize hT26 : tE [wrd 1 3 3 (lw 1 1)] T25 = T26 at *
  have c27 := fun D => P_257 (F := F) (L := L) (xs := xs) (d := D) (m := m) (T := T26) (o := 10) (r := 2) (a := 2) (b := 0) (x := 1) (y := lw 10 1) rfl b26 (by omega) (by omega) (by omega) (by omega) (by omega) (by omega) (by omega)
  have b27 := tb_e (ws := [wrd 10 2 2 (lw 10 1)]) b26 (Nat.le_of_ble_eq_true rfl)
  generalize hT27 : tE [wrd 10 2 2 (lw 10 1)] T26 = T27 at *
  have c28 := fun D => P_257 (F := F) (L := L) (xs := xs) (d := D) (m := m) (T := T27) (o := 10) (r := 4) (a := 4) (b := 0) (x := 63) (y := lw 10 (-1)) rfl b27 (by omega) (by omega) (by omega) (by omega) (by omega) (by omega) (by omega)
  have b28 := tb_e (ws := [wrd 10 4 4 (lw 10 (-1))]) b27 (Nat.le_of_ble_eq_true rfl)
  generalize hT28 : tE [wrd 10 4 4 (lw 10 (-1))] T27 = T28 at *
  have c29 := fun D => P_257 (F := F) (L := L) (xs := xs) (d := D) (m := m) (T := T28) (o := 11) (r := 4) (a := 0) (b := 0) (x := 1) (y := lw 11 1) rfl b28 (by omega) (by omega) (by omega) (by omega) (by omega) (by omega) (by omega)
  have b29 := tb_e (ws := [wrd 11 4 0 (lw 11 1)]) b28 (Nat.le_of_ble_eq_true rfl)
  generalize hT29 : tE [wrd 11 4 0 (lw 11 1)] T28 = T29 at *
  have c30 := fun D => P_257 (F := F) (L := L) (xs := xs) (d := D) (m := m) (T := T29) (o := 14) (r := 0) (a := 0) (b := 0) (x := 4080) (y := lw 14 (-16)) rfl b29 (by omega) (by omega) (by omega) (by omega) (by omega) (by omega) (by omega)
  have b30 := tb_e (ws := [wrd 14 0 0 (lw 14 (-16))]) b29 (Nat.le_of_ble_eq_true rfl)
  generalize hT30 : tE [wrd 14 0 0 (lw 14 (-16))] T29 = T30 at *
  have c31 := fun D => P_257 (F := F) (L := L) (xs := xs) (d := D) (m := m) (T := T30) (o := 6) (r := 5) (a := 0) (b := 0) (x := 0) (y := lw 6 0) rfl b30 (by omega) (by omega) (by omega) (by omega) (by omega) (by omega) (by omega)
  have b31 := tb_e (ws := [wrd 6 5 0 (lw 6 0)]) b30 (Nat.le_of_ble_eq_true rfl)
  generalize hT31 : tE [wrd 6 5 0 (lw 6 0)] T30 = T31 at *
  have c32 := fun D => P_257 (F := F) (L := L) (xs := xs) (d := D) (m := m) (T := T31) (o := 8) (r := 0) (a := 7) (b := 0) (x := 2) (y := lw 8 2) rfl b31 (by omega) (by omega) (by omega) (by omega) (by omega) (by omega) (by omega)
  have b32 := tb_e (ws := [wrd 8 0 7 (lw 8 2)]) b31 (Nat.le_of_ble_eq_true rfl)
  generalize hT32 : tE [wrd 8 0 7 (lw 8 2)] T31 = T32 at *
  have c33 := fun D => P_257 (F := F) (L := L) (xs := xs) (d := D) (m := m) (T := T32) (o := 12) (r := 0) (a := 0) (b := 0) (x := 1) (y := lw 12 1) rfl b32 (by omega) (by omega) (by omega) (by omega) (by omega) (by omega) (by omega)
  have b33 := tb_e (ws := [wrd 12 0 0 (lw 12 1)]) b32 (Nat.le_of_ble_eq_true rfl)
  generalize hT33 : tE [wrd 12 0 0 (lw 12 1)] T32 = T33 at *
  have c34 := fun D => P_257 (F := F) (L := L) (xs := xs) (d := D) (m := m) (T := T33) (o := 14) (r := 0) (a := 0) (b := 0) (x := 1) (y := lw 14 1) rfl b33 (by omega) (by omega) (by omega) (by omega) (by omega) (by omega) (by omega)
  have b34 := tb_e (ws := [wrd 14 0 0 (lw 14 1)]) b33 (Nat.le_of_ble_eq_true rfl)
  generalize hT34 : tE [wrd 14 0 0 (lw 14 1)] T33 = T34 at *
  have c35 := fun D => P_257 (F := F) (L := L) (xs := xs) (d := D) (m := m) (T := T34) (o := 1) (r := 2) (a := 5) (b := 2) (x := 0) (y := lw 1 2) rfl b34 (by omega) (by omega) (by omega) (by omega) (by omega) (by omega) (by omega)
  have b35 := tb_e (ws := [wrd 1 2 5 (lw 1 2)]) b34 (Nat.le_of_ble_eq_true rfl)
  generalize hT35 : tE [wrd 1 2 5 (lw 1 2)] T34 = T35 at *
  have c36 := fun D => P_257 (F := F) (L := L) (xs := xs) (d := D) (m := m) (T := T35) (o := 8) (r := 0) (a := 7) (b := 0) (x := 1) (y := lw 8 1) rfl b35 (by omega) (by omega) (by omega) (by omega) (by omega) (by omega) (by omega)
  have b36 := tb_e (ws := [wrd 8 0 7 (lw 8 1)]) b35 (Nat.le_of_ble_eq_true rfl)
  generalize hT36 : tE [wrd 8 0 7 (lw 8 1)] T35 = T36 at *
  have c37 := fun D => P_257 (F := F) (L := L) (xs := xs) (d := D) (m := m) (T := T36) (o := 12) (r := 0) (a := 0) (b := 0) (x := 1) (y := lw 12 1) rfl b36 (by omega) (by omega) (by omega) (by omega) (by omega) (by omega) (by omega)
  have b37 := tb_e (ws := [wrd 12 0 0 (lw 12 1)]) b36 (Nat.le_of_ble_eq_true rfl)
  generalize hT37 : tE [wrd 12 0 0 (lw 12 1)] T36 = T37 at *
  have c38 := fun D => P_257 (F := F) (L := L) (xs := xs) (d := D) (m := m) (T := T37) (o := 14) (r := 0) (a := 0) (b := 0) (x := 1) (y := lw 14 1) rfl b37 (by omega) (by omega) (by omega) (by omega) (by omega) (by omega) (by omega)
  have b38 := tb_e (ws := [wrd 14 0 0 (lw 14 1)]) b37 (Nat.le_of_ble_eq_true rfl)
  generalize hT38 : tE [wrd 14 0 0 (lw 14 1)] T37 = T38 at *
  have c39 := fun D => P_257 (F := F) (L := L) (xs := xs) (d := D) (m := m) (T := T38) (o := 1) (r := 3) (a := 5) (b := 3) (x := 0) (y := lw 1 3) rfl b38 (by omega) (by omega) (by omega) (by omega) (by omega) (by omega) (by omega)
  have b39 := tb_e (ws := [wrd 1 3 5 (lw 1 3)]) b38 (Nat.le_of_ble_eq_true rfl)
  generalize hT39 : tE [wrd 1 3 5 (lw 1 3)] T38 = T39 at *
  have c40 := fun D => P_257 (F := F) (L := L) (xs := xs) (d := D) (m := m) (T := T39) (o := 8) (r := 5) (a := 7) (b := 0) (x := 0) (y := lw 8 0) rfl b39 (by omega) (by omega) (by omega) (by omega) (by omega) (by omega) (by omega)
  have b40 := tb_e (ws := [wrd 8 5 7 (lw 8 0)]) b39 (Nat.le_of_ble_eq_true rfl)
  generalize hT40 : tE [wrd 8 5 7 (lw 8 0)] T39 = T40 at *
  have c41 := fun D => P_257 (F := F) (L := L) (xs := xs) (d := D) (m := m) (T := T40) (o := 13) (r := 5) (a := 5) (b := 0) (x := 0) (y := lw 13 0) rfl b40 (by omega) (by omega) (by omega) (by omega) (by omega) (by omega) (by omega)
  have b41 := tb_e (ws := [wrd 13 5 5 (lw 13 0)]) b40 (Nat.le_of_ble_eq_true rfl)
  generalize hT41 : tE [wrd 13 5 5 (lw 13 0)] T40 = T41 at *
  have c42 := fun D => P_257 (F := F) (L := L) (xs := xs) (d := D) (m := m) (T := T41) (o := 6) (r := 4) (a := 0) (b := 0) (x := 3) (y := lw 6 3) rfl b41 (by omega) (by omega) (by omega) (by omega) (by omega) (by omega) (by omega)
  have b42 := tb_e (ws := [wrd 6 4 0 (lw 6 3)]) b41 (Nat.le_of_ble_eq_true rfl)
  generalize hT42 : tE [wrd 6 4 0 (lw 6 3)] T41 = T42 at *
  have c43 := fun D => P_257 (F := F) (L := L) (xs := xs) (d := D) (m := m) (T := T42) (o := 13) (r := 5) (a := 5) (b := 0) (x := 0) (y := lw 13 0) rfl b42 (by omega) (by omega) (by omega) (by omega) (by omega) (by omega) (by omega)
  have b43 := tb_e (ws := [wrd 13 5 5 (lw 13 0)]) b42 (Nat.le_of_ble_eq_true rfl)
  generalize hT43 : tE [wrd 13 5 5 (lw 13 0)] T42 = T43 at *
  have fin : T43 = tE (tbL tv_2 0 44) T := by
    rw [← hT43, ← hT42, ← hT41, ← hT40, ← hT39, ← hT38, ← hT37, ← hT36, ← hT35, ← hT34, ← hT33, ← hT32, ← hT31, ← hT30, ← hT29, ← hT28, ← hT27, ← hT26, ← hT25, ← hT24, ← hT23, ← hT22, ← hT21, ← hT20, ← hT19, ← hT18, ← hT17, ← hT16, ← hT15, ← hT14, ← hT13, ← hT12, ← hT11, ← hT10, ← hT9, ← hT8, ← hT7, ← hT6, ← hT5, ← hT4, ← hT3, ← hT2, ← hT1, ← hT0]
    simp only [tE_app]
    rfl
  rw [← fin]
  simp (disch := omega) only [c_286, tr_286, c_258, tr_258, c_259, tr_259, c_260, tr_260, c_261, tr_261, c_262, tr_262, c_263, tr_263, c_264, tr_264, c_270, tr_270, ev_0, ev_1, ev_16, ev_17, ev_18, ev_2, ev_3, ev_4, ev_5, ev_6, ev_7, ev_8, ev_9, ev_20, ev_21, ev_22, ev_23, ev_24, ev_25, ev_27, ev_28, ev_30, ev_31, ev_32, ev_33, ev_34, ev_35, ev_36, ev_37, ev_38, ev_39, ev_40, ev_41, ev_42, ev_43, ev_45, ev_46, ev_47, ev_48, ev_49, ev_50, ev_51, ev_52, ev_54, ev_55, ev_57, ev_58, ev_59, k2_0, k2_1, k2_2, k3a, k3b, k4, o1_s, xbin_0, xbin_1, xbin_2, xbin_3, xbin_4, xbin_5, xbin_6, xbin_7, xbin_8, xbin_9, xbin_11, xbin_12, xun_0, xun_1, xun_2, xun_3, xun_4, xun_5, k6a, k8, k8b, k9, k20, k20b_0, k20b_1, k20b_2, k20b_3, k20b_4, k20b_5, k21_0, k21_1, k21_2, k21_3, k21_4, k21_5, k23, k24, k25, k27, k28, k40, nz_1, nz_2, nz_3, k31_0, k31_1, k31_2, k31_3, k32u, k33, k34, k35, k35b, k36, k37, k38, k47, k49, k49b_0, k49b_1, k49b_2, k49b_3, k50_0, k50_s, k51_0, k51_s, k55, k58, k58b, rk_0, rk_1, rk_2, rk_9, rk_3, rk_4, rk_5, sw_n, sw_c, xtb_n, xtb_c, lset_0, lset_2, lset_1, lkm_0, lkm_2, lkm_9, lkm_1, lkm_n, if_some1, c_10, c_01, c_x0, c_1x, c_n0, c_nn, List.getElem?_cons_zero, List.getElem?_cons_succ, List.set_cons_zero, List.set_cons_succ, List.length_cons, List.length_nil, Int.reduceToNat, Nat.reduceDiv, Nat.reduceMod, Nat.reduceSub, Nat.reduceAdd, Nat.reduceMul, Nat.reduceLT, Nat.reduceLeDiff, Nat.reduceEqDiff, Int.reduceMod, Int.reduceSub, Int.reduceNeg, Int.reduceAdd, Int.reduceMul, Int.reduceLT, Int.reduceLE, Int.reduceEq, put_ss, if_true, if_false, ite_true, ite_false, reduceIte, eq_self, and_true, true_and, and_false, false_and, or_true, true_or, or_false, false_or, not_true_eq_false, not_false_eq_true, iand_63, iand_511, iand_4095, c0, c1, c2, c3, c4, c5, c6, c7, c8, c9, c10, c11, c12, c13, c14, c15, c16, c17, c18, c19, c20, c21, c22, c23, c24, c25, c26, c27, c28, c29, c30, c31, c32, c33, c34, c35, c36, c37, c38, c39, c40, c41, c42, c43]
end MOrd2
