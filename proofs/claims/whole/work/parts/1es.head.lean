/-! THE MODEL'S layOnce, WHOLE; places of vars; flags cleared -/
def hdI (e : Int) : List It := iL 6 4 0 0 ++ (iNt 7 (-1) ++ (iL 10 6 7 0 ++ (iNt 5 e ++ (iL 13 5 5 0 ++ (iL 15 0 0 0 ++ ((tbL tv_1 0 30).map lit ++ (tbL tv_2 0 44).map lit))))))
theorem hdI_l {e : Int} : (hdI e).length = 82 := rfl
theorem hdI_g {e : Int} : ngo (hdI e) = 0 ∧ nno (hdI e) = 2 := ⟨rfl, rfl⟩
def rs (T : mSt) : mSt := (0, T.2.1, 0, T.2.2.2.1, T.2.2.2.2.1, 0, T.2.2.2.2.2.2.1, T.2.2.2.2.2.2.2)
theorem plq_0 {A0 : Int} {m : Mem} {c0 : Int} {Q0 : Nat → Int} : plq A0 m c0 Q0 0 = Q0 := by
  funext q
  unfold plq
  rw [if_neg (by omega)]
theorem pv_id {m : Mem} : pv (m 180) (m 158 85) m = m := by
  funext a k
  unfold pv
  by_cases h : a = 180
  · rw [if_pos h, h]
  · rw [if_neg h]
    by_cases h2 : a = 158
    · rw [if_pos h2]
      by_cases h3 : k = 85
      · rw [if_pos h3, h2, h3]
      · rw [if_neg h3]
    · rw [if_neg h2]
section Hd
variable {F L d : Nat} {xs : Nat → Int32} {m : Mem} {main : Int} {T : mSt}
theorem M_287 {n : Nat} {M : Mem} (hM : put (put m 158 83 8) 158 84 38 = M) (hF : 100000 ≤ F) (hm : 0 ≤ main ∧ main < 1600) (hO : OK0 M n) (hn : M 158 41 = (n : Int)) (hn3 : n ≤ 3000) (hc : 0 ≤ M 158 85 ∧ M 158 85 < 1600) (hX : ∀ Q c, 0 ≤ c → c < 1600 → MX (pv Q c M)) (hB : ∀ i, i ≤ n → 82 + ((mlI M (M 158 85) i).length : Int) ≤ 60000) : Cx F (d + 20) 287 [158, main] (Hp L xs (my T m)) = some ([], Hp L xs (my (mI (mlI M (M 158 85) n) (mI (hdI (m 182 main.toNat)) (rs T))) (pv (plq 82 M (M 158 85) (M 180) n) (cq M (M 158 85) n) M))) := by
  have r1 : put (put (put (my T m) 158 74 0) 158 76 0) 158 80 0 = my (rs T) m := by
    rw [np_74, np_76, np_80]
    rfl
  have b0 : TBd (rs T) 0 := ⟨by show (0 : Int) ≤ 0; omega, by show (0 : Int) ≤ 60000 + 10 * ((0 : Nat) : Int); omega⟩
  have z1 : iand (0 : Int) 511 = 0 := by decide
  have z2 : iand (0 : Int) 63 = 0 := by decide
  have p1 := fun D => P_257 (F := F) (L := L) (xs := xs) (d := D) (m := m) (T := rs T) (o := 6) (r := 4) (a := 0) (b := 0) (x := 0) (y := 0) rfl b0 (by omega) (by omega) (by omega) (by omega) (by omega) (by omega) (by omega)
  have b1 := tb_e (ws := [wrd 6 4 0 0]) b0 (Nat.le_of_ble_eq_true rfl)
  have p2 := fun D => M_266 (F := F) (L := L) (xs := xs) (d := D) (m := m) (r := 7) (t := -1) b1 (by omega) (by omega) ⟨by show (0 : Int) ≤ 0; omega, by show (0 : Int) < 35000; omega⟩
  have b2 := tb_n (r := 7) (t := -1) b1
  have p3 := fun D => P_257 (F := F) (L := L) (xs := xs) (d := D) (m := m) (T := ntM 7 (-1) (tE [wrd 6 4 0 0] (rs T))) (o := 10) (r := 6) (a := 7) (b := 0) (x := 0) (y := 0) rfl b2 (by omega) (by omega) (by omega) (by omega) (by omega) (by omega) (by omega)
  have b3 := tb_e (ws := [wrd 10 6 7 0]) b2 (Nat.le_of_ble_eq_true rfl)
  have p4 := fun D => M_266 (F := F) (L := L) (xs := xs) (d := D) (m := m) (r := 5) (t := m 182 main.toNat) b3 (by omega) (by omega) ⟨by show (0 : Int) ≤ 0 + 1; omega, by show (0 : Int) + 1 < 35000; omega⟩
  have b4 := tb_n (r := 5) (t := m 182 main.toNat) b3
  have p5 := fun D => P_257 (F := F) (L := L) (xs := xs) (d := D) (m := m) (T := ntM 5 (m 182 main.toNat) (tE [wrd 10 6 7 0] (ntM 7 (-1) (tE [wrd 6 4 0 0] (rs T))))) (o := 13) (r := 5) (a := 5) (b := 0) (x := 0) (y := 0) rfl b4 (by omega) (by omega) (by omega) (by omega) (by omega) (by omega) (by omega)
  have b5 := tb_e (ws := [wrd 13 5 5 0]) b4 (Nat.le_of_ble_eq_true rfl)
  have p6 := fun D => P_257 (F := F) (L := L) (xs := xs) (d := D) (m := m) (T := tE [wrd 13 5 5 0] (ntM 5 (m 182 main.toNat) (tE [wrd 10 6 7 0] (ntM 7 (-1) (tE [wrd 6 4 0 0] (rs T)))))) (o := 15) (r := 0) (a := 0) (b := 0) (x := 0) (y := 0) rfl b5 (by omega) (by omega) (by omega) (by omega) (by omega) (by omega) (by omega)
  have b6 := tb_e (ws := [wrd 15 0 0 0]) b5 (Nat.le_of_ble_eq_true rfl)
  have eT : mI (hdI (m 182 main.toNat)) (rs T) = tE (tbL tv_2 0 44) (tE (tbL tv_1 0 30) (tE [wrd 15 0 0 0] (tE [wrd 13 5 5 0] (ntM 5 (m 182 main.toNat) (tE [wrd 10 6 7 0] (ntM 7 (-1) (tE [wrd 6 4 0 0] (rs T)))))))) := by
    unfold hdI
    rw [← mI_app, ← mI_app, ← mI_app, ← mI_app, ← mI_app, ← mI_app, ← mI_app, ← tE_I, ← tE_I, ← ntM_I, ← ntM_I]
    rfl
  generalize hT6 : tE [wrd 15 0 0 0] (tE [wrd 13 5 5 0] (ntM 5 (m 182 main.toNat) (tE [wrd 10 6 7 0] (ntM 7 (-1) (tE [wrd 6 4 0 0] (rs T)))))) = T6 at *
  have s6 : T6.1 = 8 := by rw [← hT6]; rfl
  have c1 := fun D => M_285 (F := F) (L := L) (xs := xs) (d := D) (m := put m 158 83 8) (T := T6) (n := 6) b6 (by omega)
  have s7 : (tE (tbL tv_1 0 30) T6).1 = 38 := by
    show T6.1 + ((30 : Nat) : Int) = 38
    rw [s6]
    rfl
  have c2 := fun D => M_286 (F := F) (L := L) (xs := xs) (d := D) (m := M) (T := tE (tbL tv_1 0 30) T6) (n := 6) ⟨by rw [s7]; omega, by rw [s7]; omega⟩ (by omega)
  have s8 : (tE (tbL tv_2 0 44) (tE (tbL tv_1 0 30) T6)).1 = 82 := by
    show (tE (tbL tv_1 0 30) T6).1 + ((44 : Nat) : Int) = 82
    rw [s7]
    rfl
  have u83 : put (my T6 m) 158 83 8 = my T6 (put m 158 83 8) := np_83
  have u84 : put (my (tE (tbL tv_1 0 30) T6) (put m 158 83 8)) 158 84 38 = my (tE (tbL tv_1 0 30) T6) M := by rw [np_84, hM]
  have v74 : my T6 m 158 74 = 8 := s6
  have w74 : my (tE (tbL tv_1 0 30) T6) (put m 158 83 8) 158 74 = 38 := s7
  have t182 : ∀ T, my T m 182 main.toNat = m 182 main.toNat := fun T => my_o (by decide) (by decide) (by decide) (by decide) (by decide) (by decide)
  rw [eT]
  have hT8n : (tE (tbL tv_2 0 44) (tE (tbL tv_1 0 30) T6)).2.2.1 = 0 ∧ (tE (tbL tv_2 0 44) (tE (tbL tv_1 0 30) T6)).2.2.2.2.2.1 = 2 := by rw [← hT6]; exact ⟨rfl, rfl⟩
  have l0 := fun D => L_287_0 (F := F) (L := L) (xs := xs) (d := D) (m := M) (main := main) (c0 := M 158 85) (T0 := tE (tbL tv_2 0 44) (tE (tbL tv_1 0 30) T6)) (Q0 := M 180) hF hO hn hn3 hc hX (by rw [s8]; omega) hT8n.1 (by rw [hT8n.2]; omega) (by rw [s8]; exact hB) n 0 F (by omega) (by omega)
  have ez : ((0 : Nat) : Int) = 0 := rfl
  have em : mI (mlI M (M 158 85) 0) (tE (tbL tv_2 0 44) (tE (tbL tv_1 0 30) T6)) = tE (tbL tv_2 0 44) (tE (tbL tv_1 0 30) T6) := rfl
  have ec : cq M (M 158 85) 0 = M 158 85 := rfl
  rw [ez, em, ec, plq_0, pv_id, s8] at l0
  simp (disch := omega) only [c_287, tx_287, c_261, tr_261, c_259, tr_259, c_270, tr_270, c_258, tr_258, c_260, tr_260, ev_0, ev_1, ev_16, ev_17, ev_18, ev_2, ev_3, ev_4, ev_5, ev_6, ev_7, ev_8, ev_9, ev_20, ev_21, ev_22, ev_23, ev_24, ev_25, ev_27, ev_28, ev_30, ev_31, ev_32, ev_33, ev_34, ev_35, ev_36, ev_37, ev_38, ev_39, ev_40, ev_41, ev_42, ev_43, ev_45, ev_46, ev_47, ev_48, ev_49, ev_50, ev_51, ev_52, ev_54, ev_55, ev_57, ev_58, ev_59, k2_0, k2_1, k2_2, k3a, k3b, k4, o1_s, xbin_0, xbin_1, xbin_2, xbin_3, xbin_4, xbin_5, xbin_6, xbin_7, xbin_8, xbin_9, xbin_11, xbin_12, xun_0, xun_1, xun_2, xun_3, xun_4, xun_5, k6a, k8, k8b, k9, k20, k20b_0, k20b_1, k20b_2, k20b_3, k20b_4, k20b_5, k21_0, k21_1, k21_2, k21_3, k21_4, k21_5, k23, k24, k25, k27, k28, k40, nz_1, nz_2, nz_3, k31_0, k31_1, k31_2, k31_3, k32u, k33, k34, k35, k35b, k36, k37, k38, k47, k49, k49b_0, k49b_1, k49b_2, k49b_3, k50_0, k50_s, k51_0, k51_s, k55, k58, k58b, rk_0, rk_1, rk_2, rk_9, rk_3, rk_4, rk_5, sw_n, sw_c, xtb_n, xtb_c, lset_0, lset_2, lset_1, lkm_0, lkm_2, lkm_9, lkm_1, lkm_n, if_some1, c_10, c_01, c_x0, c_1x, c_n0, c_nn, List.getElem?_cons_zero, List.getElem?_cons_succ, List.set_cons_zero, List.set_cons_succ, List.length_cons, List.length_nil, Int.reduceToNat, Nat.reduceDiv, Nat.reduceMod, Nat.reduceSub, Nat.reduceAdd, Nat.reduceMul, Nat.reduceLT, Nat.reduceLeDiff, Nat.reduceEqDiff, Int.reduceMod, Int.reduceSub, Int.reduceNeg, Int.reduceAdd, Int.reduceMul, Int.reduceLT, Int.reduceLE, Int.reduceEq, put_ss, if_true, if_false, ite_true, ite_false, reduceIte, eq_self, and_true, true_and, and_false, false_and, or_true, true_or, or_false, false_or, not_true_eq_false, not_false_eq_true, l1_i, l1_1, l1_0, l2_0, l2_1, l2_2, l2_3, l3_0, w2_0, w2_1, w2_2, w2_3, d1_0, d1_1, d1_2, d1_3, d2_i, d2_1, d2_0, k5_158_74, k34_158_74, k54_158_74, k54b_158_74_0, k5_158_76, k34_158_76, k54_158_76, k54b_158_76_0, k5_158_80, k34_158_80, k54_158_80, k54b_158_80_0, k5_158_83, k34_158_83, k5_158_84, k34_158_84, k5_158_50, k6_182, k35_182, n_182, r1, z1, z2, p1, p2, p3, p4, p5, p6, hT6, t182, v74, w74, u83, u84, c1, c2, l0]
end Hd
