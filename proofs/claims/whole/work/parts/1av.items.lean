/-! CLASS AND MODEL, THE SECOND WALK: vars and conditions at the top -/
def ttM (m : Mem) (n : Int) : Mem := if topK m (vlT m n) = m 158 29 then put m 158 29 (m 158 29 + 1) else put (bkF m (plT m n)) 158 29 (m 158 29 + 1)
section Itm
variable {F L d : Nat} {xs : Nat → Int32} {m mc : Mem} {p e dep : Int}
theorem R_219 (hF : 100000 ≤ F) (W : WT m) (h29 : 0 ≤ m 158 29 ∧ m 158 29 ≤ 1600) {n : Int} (h0 : 0 ≤ n) (h1 : n < 3001) {a2 a3 : Int} : Cx F (d + 2) 219 [158, n, a2, a3] (Hp L xs (rv p dep m)) = some ([], Hp L xs (rv p dep (ttM m n))) := by
  unfold ttM
  by_cases hk : topK m (vlT m n) = m 158 29
  · rw [if_pos hk]
    exact M_219y hF W h29 h0 h1 hk
  · rw [if_neg hk]
    exact M_219n hF W h29 h0 h1 hk
theorem V_41 (hF : 100000 ≤ F) (S : SE mc m e) (W : WT m) (h29 : 0 ≤ m 158 29 ∧ m 158 29 ≤ 1600) (h21 : 0 ≤ m 158 21 ∧ m 158 21 < 1600) (hp : 0 ≤ p) (hpe : p + 3 ≤ e) (u0 : kd mc p = 4) (u1 : kd mc (p + 1) = 2) (u2 : kd mc (p + 2) = 59) : Cx F (d + 10) 221 [158] (Hp L xs (rv p dep m)) = some ([], Hp L xs (rv (if topK m (vlT m (p + 1)) = m 158 29 then p + 3 else p + 2) dep (put (ttM (put m 168 (m 158 21).toNat 1) (p + 1)) 158 21 (m 158 21 + 1)))) := by
  have el := S.el
  have hb := W.2.2.2.2.2
  have hT1 := S.tr (p + 1) (by omega) (by omega)
  have hT2 := S.tr (p + 2) (by omega) (by omega)
  rw [u1] at hT1
  rw [u2] at hT2
  have e2 : p + 1 + 1 = p + 2 := by omega
  have e3 : p + 2 + 1 = p + 3 := by omega
  have x1 := fun D => N_212 (F := F) (L := L) (xs := xs) (d := D) (m := m) (p := p) (dep := dep) hb (by omega)
  have x2 := fun D => N_215 (F := F) (L := L) (xs := xs) (d := D) (m := m) (p := p + 1) (dep := dep) hb (by omega) hT1 rfl
  rw [e2] at x2
  have x3 := fun D => N_209n (F := F) (L := L) (xs := xs) (d := D) (m := m) (p := p + 2) (dep := dep) (a1 := 91) hb (by omega) hT2 (by omega) (by decide)
  have x4 := fun D a2 a3 => R_219 (F := F) (L := L) (xs := xs) (d := D) (m := put m 168 (m 158 21).toNat 1) (p := p + 2) (dep := dep) (n := p + 1) (a2 := a2) (a3 := a3) hF W h29 (by omega) (by omega)
  have t21 : ttM (put m 168 (m 158 21).toNat 1) (p + 1) 158 21 = m 158 21 := by unfold ttM; split <;> rfl
  by_cases hk : topK m (vlT m (p + 1)) = m 158 29
  · have hbt : put (ttM (put m 168 (m 158 21).toNat 1) (p + 1)) 158 21 (m 158 21 + 1) 158 15 = 0 := by
      have : ttM (put m 168 (m 158 21).toNat 1) (p + 1) = put (put m 168 (m 158 21).toNat 1) 158 29 (m 158 29 + 1) := if_pos hk
      rw [this]; exact hb
    have hTt : TR 59 (put (ttM (put m 168 (m 158 21).toNat 1) (p + 1)) 158 21 (m 158 21 + 1) 161 (p + 2).toNat) (put (ttM (put m 168 (m 158 21).toNat 1) (p + 1)) 158 21 (m 158 21 + 1) 163 (p + 2).toNat) := by
      have : ttM (put m 168 (m 158 21).toNat 1) (p + 1) = put (put m 168 (m 158 21).toNat 1) 158 29 (m 158 29 + 1) := if_pos hk
      rw [this]; exact hT2
    have x5 := fun D => N_213 (F := F) (L := L) (xs := xs) (d := D) (m := put (ttM (put m 168 (m 158 21).toNat 1) (p + 1)) 158 21 (m 158 21 + 1)) (p := p + 2) (dep := dep) (a1 := 59) hbt (by omega) hTt (by omega) rfl
    rw [e3] at x5
    rw [if_pos hk]
    generalize ttM (put m 168 (m 158 21).toNat 1) (p + 1) = mt at *
    simp (disch := first | omega | assumption) only [c_221, tr_221, ev_0, ev_1, ev_16, ev_17, ev_18, ev_2, ev_3, ev_4, ev_5, ev_6, ev_7, ev_8, ev_9, ev_20, ev_21, ev_22, ev_23, ev_24, ev_25, ev_27, ev_28, ev_30, ev_31, ev_32, ev_33, ev_34, ev_35, ev_36, ev_37, ev_38, ev_39, ev_40, ev_41, ev_42, ev_43, ev_45, ev_46, ev_47, ev_48, ev_49, ev_50, ev_51, ev_52, ev_54, ev_55, ev_57, ev_58, ev_59, k2_0, k2_1, k2_2, k3a, k3b, k4, o1_s, xbin_0, xbin_1, xbin_2, xbin_3, xbin_4, xbin_5, xbin_6, xbin_7, xbin_8, xbin_9, xbin_11, xbin_12, xun_0, xun_1, xun_2, xun_3, xun_4, xun_5, k6a, k8, k8b, k9, k20, k20b_0, k20b_1, k20b_2, k20b_3, k20b_4, k20b_5, k21_0, k21_1, k21_2, k21_3, k21_4, k21_5, k23, k24, k25, k27, k28, k40, nz_1, nz_2, nz_3, k31_0, k31_1, k31_2, k31_3, k32u, k33, k34, k35, k35b, k36, k37, k38, k47, k49, k49b_0, k49b_1, k49b_2, k49b_3, k50_0, k50_s, k51_0, k51_s, k55, k58, k58b, rk_0, rk_1, rk_2, rk_9, rk_3, rk_4, rk_5, sw_n, sw_c, xtb_n, xtb_c, lset_0, lset_2, lset_1, lkm_0, lkm_2, lkm_9, lkm_1, lkm_n, if_some1, c_10, c_01, c_x0, c_1x, c_n0, c_nn, List.getElem?_cons_zero, List.getElem?_cons_succ, List.set_cons_zero, List.set_cons_succ, List.length_cons, List.length_nil, Int.reduceToNat, Nat.reduceDiv, Nat.reduceMod, Nat.reduceSub, Nat.reduceAdd, Nat.reduceMul, Nat.reduceLT, Nat.reduceLeDiff, Nat.reduceEqDiff, Int.reduceMod, Int.reduceSub, Int.reduceNeg, Int.reduceAdd, Int.reduceMul, Int.reduceLT, Int.reduceLE, Int.reduceEq, put_ss, if_true, if_false, ite_true, ite_false, reduceIte, eq_self, and_true, true_and, and_false, false_and, or_true, true_or, or_false, false_or, not_true_eq_false, not_false_eq_true, k5_158_14, k34_158_14, k34i_158_14, k5_158_15, k34_158_15, k34i_158_15, k5_158_13, k34_158_13, k54_158_13, k54b_158_13_0, k54b_158_13_1, k5_158_5, k6_161, k35_161, n_161, k5_158_7, k6_163, k35_163, n_163, k5_158_12, k34_158_12, k54_158_12, k54b_158_12_0, k5_158_6, k6_162, k35_162, n_162, k5_158_21, k34_158_21, k54_158_21, k54b_158_21_0, k5_158_22, k6_168, k35_168, n_168, k5_158_28, k34_158_28, k34i_158_28, k5_158_24, k34_158_24, k54_158_24, k54b_158_24_0, rv_t, rv_d, rv_x, rv_y, rp_t, rp_d, rp_x, rp_y, w32_of, x1, x2, x3, x4, x5, t21, hb]
  · have hbt : put (ttM (put m 168 (m 158 21).toNat 1) (p + 1)) 158 21 (m 158 21 + 1) 158 15 = 1 := by
      have : ttM (put m 168 (m 158 21).toNat 1) (p + 1) = put (bkF (put m 168 (m 158 21).toNat 1) (plT m (p + 1))) 158 29 (m 158 29 + 1) := if_neg hk
      rw [this]; rfl
    have x5 := fun D => B_213 (F := F) (L := L) (xs := xs) (d := D) (m := rv (p + 2) dep (put (ttM (put m 168 (m 158 21).toNat 1) (p + 1)) 158 21 (m 158 21 + 1))) (a1 := 59) hbt ⟨by show 0 ≤ p + 2; omega, by show p + 2 < 3001; omega⟩
    rw [if_neg hk]
    generalize ttM (put m 168 (m 158 21).toNat 1) (p + 1) = mt at *
    simp (disch := first | omega | assumption) only [c_221, tr_221, ev_0, ev_1, ev_16, ev_17, ev_18, ev_2, ev_3, ev_4, ev_5, ev_6, ev_7, ev_8, ev_9, ev_20, ev_21, ev_22, ev_23, ev_24, ev_25, ev_27, ev_28, ev_30, ev_31, ev_32, ev_33, ev_34, ev_35, ev_36, ev_37, ev_38, ev_39, ev_40, ev_41, ev_42, ev_43, ev_45, ev_46, ev_47, ev_48, ev_49, ev_50, ev_51, ev_52, ev_54, ev_55, ev_57, ev_58, ev_59, k2_0, k2_1, k2_2, k3a, k3b, k4, o1_s, xbin_0, xbin_1, xbin_2, xbin_3, xbin_4, xbin_5, xbin_6, xbin_7, xbin_8, xbin_9, xbin_11, xbin_12, xun_0, xun_1, xun_2, xun_3, xun_4, xun_5, k6a, k8, k8b, k9, k20, k20b_0, k20b_1, k20b_2, k20b_3, k20b_4, k20b_5, k21_0, k21_1, k21_2, k21_3, k21_4, k21_5, k23, k24, k25, k27, k28, k40, nz_1, nz_2, nz_3, k31_0, k31_1, k31_2, k31_3, k32u, k33, k34, k35, k35b, k36, k37, k38, k47, k49, k49b_0, k49b_1, k49b_2, k49b_3, k50_0, k50_s, k51_0, k51_s, k55, k58, k58b, rk_0, rk_1, rk_2, rk_9, rk_3, rk_4, rk_5, sw_n, sw_c, xtb_n, xtb_c, lset_0, lset_2, lset_1, lkm_0, lkm_2, lkm_9, lkm_1, lkm_n, if_some1, c_10, c_01, c_x0, c_1x, c_n0, c_nn, List.getElem?_cons_zero, List.getElem?_cons_succ, List.set_cons_zero, List.set_cons_succ, List.length_cons, List.length_nil, Int.reduceToNat, Nat.reduceDiv, Nat.reduceMod, Nat.reduceSub, Nat.reduceAdd, Nat.reduceMul, Nat.reduceLT, Nat.reduceLeDiff, Nat.reduceEqDiff, Int.reduceMod, Int.reduceSub, Int.reduceNeg, Int.reduceAdd, Int.reduceMul, Int.reduceLT, Int.reduceLE, Int.reduceEq, put_ss, if_true, if_false, ite_true, ite_false, reduceIte, eq_self, and_true, true_and, and_false, false_and, or_true, true_or, or_false, false_or, not_true_eq_false, not_false_eq_true, k5_158_14, k34_158_14, k34i_158_14, k5_158_15, k34_158_15, k34i_158_15, k5_158_13, k34_158_13, k54_158_13, k54b_158_13_0, k54b_158_13_1, k5_158_5, k6_161, k35_161, n_161, k5_158_7, k6_163, k35_163, n_163, k5_158_12, k34_158_12, k54_158_12, k54b_158_12_0, k5_158_6, k6_162, k35_162, n_162, k5_158_21, k34_158_21, k54_158_21, k54b_158_21_0, k5_158_22, k6_168, k35_168, n_168, k5_158_28, k34_158_28, k34i_158_28, k5_158_24, k34_158_24, k54_158_24, k54b_158_24_0, rv_t, rv_d, rv_x, rv_y, rp_t, rp_d, rp_x, rp_y, w32_of, x1, x2, x3, x4, x5, t21, hb]
theorem V_42 (hF : 100000 ≤ F) (S : SE mc m e) (W : WT m) (h29 : 0 ≤ m 158 29 ∧ m 158 29 ≤ 1600) (h21 : 0 ≤ m 158 21 ∧ m 158 21 < 1600) (h28 : m 158 28 = 0 ∨ m 158 28 = 1) (hL : vlT m (p + 3) < 1 ∨ 500 < vlT m (p + 3) → m 158 28 = 1) (hp : 0 ≤ p) (hpe : p + 6 ≤ e) (u0 : kd mc p = 4) (u1 : kd mc (p + 1) = 2) (u2 : kd mc (p + 2) = 91) (u3 : kd mc (p + 3) = 3) (u4 : kd mc (p + 4) = 93) (u5 : kd mc (p + 5) = 59) : Cx F (d + 10) 221 [158] (Hp L xs (rv p dep m)) = some ([], Hp L xs (rv (if topK m (vlT m (p + 1)) = m 158 29 then p + 6 else p + 5) dep (put (ttM (put m 168 (m 158 21).toNat (vlT m (p + 3))) (p + 1)) 158 21 (m 158 21 + 1)))) := by
  have el := S.el
  have hb := W.2.2.2.2.2
  have hT1 := S.tr (p + 1) (by omega) (by omega)
  have hT2 := S.tr (p + 2) (by omega) (by omega)
  have hT3 := S.tr (p + 3) (by omega) (by omega)
  have hT4 := S.tr (p + 4) (by omega) (by omega)
  have hT5 := S.tr (p + 5) (by omega) (by omega)
  rw [u1] at hT1
  rw [u2] at hT2
  rw [u3] at hT3
  rw [u4] at hT4
  rw [u5] at hT5
  have e2 : p + 1 + 1 = p + 2 := by omega
  have e3 : p + 2 + 1 = p + 3 := by omega
  have e4 : p + 3 + 1 = p + 4 := by omega
  have e5 : p + 4 + 1 = p + 5 := by omega
  have e6 : p + 5 + 1 = p + 6 := by omega
  have x1 := fun D => N_212 (F := F) (L := L) (xs := xs) (d := D) (m := m) (p := p) (dep := dep) hb (by omega)
  have x2 := fun D => N_215 (F := F) (L := L) (xs := xs) (d := D) (m := m) (p := p + 1) (dep := dep) hb (by omega) hT1 rfl
  rw [e2] at x2
  have x3 := fun D => N_209y (F := F) (L := L) (xs := xs) (d := D) (m := m) (p := p + 2) (dep := dep) (a1 := 91) hb (by omega) (by omega) hT2
  have x6 := fun D => N_212 (F := F) (L := L) (xs := xs) (d := D) (m := m) (p := p + 2) (dep := dep) hb (by omega)
  rw [e3] at x6
  have x7 := fun D => N_212 (F := F) (L := L) (xs := xs) (d := D) (m := m) (p := p + 3) (dep := dep) hb (by omega)
  rw [e4] at x7
  have x8 := fun D => N_213 (F := F) (L := L) (xs := xs) (d := D) (m := m) (p := p + 4) (dep := dep) (a1 := 93) hb (by omega) hT4 (by omega) rfl
  rw [e5] at x8
  have kk : m 161 (p + 3).toNat = 2 ∧ 0 ≤ m 163 (p + 3).toNat ∧ m 163 (p + 3).toNat ≤ 32767 := by unfold TR at hT3; omega
  obtain ⟨kk, kv, kw⟩ := kk
  have hv : vlT m (p + 3) = m 163 (p + 3).toNat := rfl
  rw [hv] at hL ⊢
  have x4 := fun D a2 a3 => R_219 (F := F) (L := L) (xs := xs) (d := D) (m := put m 168 (m 158 21).toNat (m 163 (p + 3).toNat)) (p := p + 5) (dep := dep) (n := p + 1) (a2 := a2) (a3 := a3) hF W h29 (by omega) (by omega)
  have t21 : ttM (put m 168 (m 158 21).toNat (m 163 (p + 3).toNat)) (p + 1) 158 21 = m 158 21 := by unfold ttM; split <;> rfl
  have pL : put m 158 28 (m 158 28) = m := ps30
  have x5 : ∀ D, Cx F (D + 3) 213 [158, 59] (Hp L xs (rv (p + 5) dep (put (ttM (put m 168 (m 158 21).toNat (m 163 (p + 3).toNat)) (p + 1)) 158 21 (m 158 21 + 1)))) = some ([], Hp L xs (rv (if topK m (vlT m (p + 1)) = m 158 29 then p + 6 else p + 5) dep (put (ttM (put m 168 (m 158 21).toNat (m 163 (p + 3).toNat)) (p + 1)) 158 21 (m 158 21 + 1)))) := fun D => by
    by_cases hk : topK m (vlT m (p + 1)) = m 158 29
    · have et : ttM (put m 168 (m 158 21).toNat (m 163 (p + 3).toNat)) (p + 1) = put (put m 168 (m 158 21).toNat (m 163 (p + 3).toNat)) 158 29 (m 158 29 + 1) := if_pos hk
      rw [if_pos hk, et]
      have := N_213 (F := F) (L := L) (xs := xs) (d := D) (m := put (put (put m 168 (m 158 21).toNat (m 163 (p + 3).toNat)) 158 29 (m 158 29 + 1)) 158 21 (m 158 21 + 1)) (p := p + 5) (dep := dep) (a1 := 59) hb (by omega) hT5 (by omega) rfl
      rw [e6] at this
      exact this
    · have et : ttM (put m 168 (m 158 21).toNat (m 163 (p + 3).toNat)) (p + 1) = put (bkF (put m 168 (m 158 21).toNat (m 163 (p + 3).toNat)) (plT m (p + 1))) 158 29 (m 158 29 + 1) := if_neg hk
      rw [if_neg hk, et]
      exact B_213 (m := rv (p + 5) dep (put (put (bkF (put m 168 (m 158 21).toNat (m 163 (p + 3).toNat)) (plT m (p + 1))) 158 29 (m 158 29 + 1)) 158 21 (m 158 21 + 1))) rfl ⟨by show 0 ≤ p + 5; omega, by show p + 5 < 3001; omega⟩
  generalize (if topK m (vlT m (p + 1)) = m 158 29 then p + 6 else p + 5) = pq at *
  generalize hmt : ttM (put m 168 (m 158 21).toNat (m 163 (p + 3).toNat)) (p + 1) = mt at *
  rcases h28 with h28 | h28
  · rw [h28] at pL
    have z0 : ¬ m 163 (p + 3).toNat = 0 := fun z => by have := hL (by omega); omega
    have z1 : ¬ 500 < m 163 (p + 3).toNat := fun z => by have := hL (Or.inr z); omega
    simp (disch := first | omega | assumption) only [c_221, tr_221, ev_0, ev_1, ev_16, ev_17, ev_18, ev_2, ev_3, ev_4, ev_5, ev_6, ev_7, ev_8, ev_9, ev_20, ev_21, ev_22, ev_23, ev_24, ev_25, ev_27, ev_28, ev_30, ev_31, ev_32, ev_33, ev_34, ev_35, ev_36, ev_37, ev_38, ev_39, ev_40, ev_41, ev_42, ev_43, ev_45, ev_46, ev_47, ev_48, ev_49, ev_50, ev_51, ev_52, ev_54, ev_55, ev_57, ev_58, ev_59, k2_0, k2_1, k2_2, k3a, k3b, k4, o1_s, xbin_0, xbin_1, xbin_2, xbin_3, xbin_4, xbin_5, xbin_6, xbin_7, xbin_8, xbin_9, xbin_11, xbin_12, xun_0, xun_1, xun_2, xun_3, xun_4, xun_5, k6a, k8, k8b, k9, k20, k20b_0, k20b_1, k20b_2, k20b_3, k20b_4, k20b_5, k21_0, k21_1, k21_2, k21_3, k21_4, k21_5, k23, k24, k25, k27, k28, k40, nz_1, nz_2, nz_3, k31_0, k31_1, k31_2, k31_3, k32u, k33, k34, k35, k35b, k36, k37, k38, k47, k49, k49b_0, k49b_1, k49b_2, k49b_3, k50_0, k50_s, k51_0, k51_s, k55, k58, k58b, rk_0, rk_1, rk_2, rk_9, rk_3, rk_4, rk_5, sw_n, sw_c, xtb_n, xtb_c, lset_0, lset_2, lset_1, lkm_0, lkm_2, lkm_9, lkm_1, lkm_n, if_some1, c_10, c_01, c_x0, c_1x, c_n0, c_nn, List.getElem?_cons_zero, List.getElem?_cons_succ, List.set_cons_zero, List.set_cons_succ, List.length_cons, List.length_nil, Int.reduceToNat, Nat.reduceDiv, Nat.reduceMod, Nat.reduceSub, Nat.reduceAdd, Nat.reduceMul, Nat.reduceLT, Nat.reduceLeDiff, Nat.reduceEqDiff, Int.reduceMod, Int.reduceSub, Int.reduceNeg, Int.reduceAdd, Int.reduceMul, Int.reduceLT, Int.reduceLE, Int.reduceEq, put_ss, if_true, if_false, ite_true, ite_false, reduceIte, eq_self, and_true, true_and, and_false, false_and, or_true, true_or, or_false, false_or, not_true_eq_false, not_false_eq_true, k5_158_14, k34_158_14, k34i_158_14, k5_158_15, k34_158_15, k34i_158_15, k5_158_13, k34_158_13, k54_158_13, k54b_158_13_0, k54b_158_13_1, k5_158_5, k6_161, k35_161, n_161, k5_158_7, k6_163, k35_163, n_163, k5_158_12, k34_158_12, k54_158_12, k54b_158_12_0, k5_158_6, k6_162, k35_162, n_162, k5_158_21, k34_158_21, k54_158_21, k54b_158_21_0, k5_158_22, k6_168, k35_168, n_168, k5_158_28, k34_158_28, k34i_158_28, k5_158_24, k34_158_24, k54_158_24, k54b_158_24_0, rv_t, rv_d, rv_x, rv_y, rp_t, rp_d, rp_x, rp_y, w32_of, x1, x2, x3, x6, x7, x8, kk, z0, z1, h28, pL, x4, x5, t21, hb]
  · rw [h28] at pL
    simp (disch := first | omega | assumption) only [c_221, tr_221, ev_0, ev_1, ev_16, ev_17, ev_18, ev_2, ev_3, ev_4, ev_5, ev_6, ev_7, ev_8, ev_9, ev_20, ev_21, ev_22, ev_23, ev_24, ev_25, ev_27, ev_28, ev_30, ev_31, ev_32, ev_33, ev_34, ev_35, ev_36, ev_37, ev_38, ev_39, ev_40, ev_41, ev_42, ev_43, ev_45, ev_46, ev_47, ev_48, ev_49, ev_50, ev_51, ev_52, ev_54, ev_55, ev_57, ev_58, ev_59, k2_0, k2_1, k2_2, k3a, k3b, k4, o1_s, xbin_0, xbin_1, xbin_2, xbin_3, xbin_4, xbin_5, xbin_6, xbin_7, xbin_8, xbin_9, xbin_11, xbin_12, xun_0, xun_1, xun_2, xun_3, xun_4, xun_5, k6a, k8, k8b, k9, k20, k20b_0, k20b_1, k20b_2, k20b_3, k20b_4, k20b_5, k21_0, k21_1, k21_2, k21_3, k21_4, k21_5, k23, k24, k25, k27, k28, k40, nz_1, nz_2, nz_3, k31_0, k31_1, k31_2, k31_3, k32u, k33, k34, k35, k35b, k36, k37, k38, k47, k49, k49b_0, k49b_1, k49b_2, k49b_3, k50_0, k50_s, k51_0, k51_s, k55, k58, k58b, rk_0, rk_1, rk_2, rk_9, rk_3, rk_4, rk_5, sw_n, sw_c, xtb_n, xtb_c, lset_0, lset_2, lset_1, lkm_0, lkm_2, lkm_9, lkm_1, lkm_n, if_some1, c_10, c_01, c_x0, c_1x, c_n0, c_nn, List.getElem?_cons_zero, List.getElem?_cons_succ, List.set_cons_zero, List.set_cons_succ, List.length_cons, List.length_nil, Int.reduceToNat, Nat.reduceDiv, Nat.reduceMod, Nat.reduceSub, Nat.reduceAdd, Nat.reduceMul, Nat.reduceLT, Nat.reduceLeDiff, Nat.reduceEqDiff, Int.reduceMod, Int.reduceSub, Int.reduceNeg, Int.reduceAdd, Int.reduceMul, Int.reduceLT, Int.reduceLE, Int.reduceEq, put_ss, if_true, if_false, ite_true, ite_false, reduceIte, eq_self, and_true, true_and, and_false, false_and, or_true, true_or, or_false, false_or, not_true_eq_false, not_false_eq_true, k5_158_14, k34_158_14, k34i_158_14, k5_158_15, k34_158_15, k34i_158_15, k5_158_13, k34_158_13, k54_158_13, k54b_158_13_0, k54b_158_13_1, k5_158_5, k6_161, k35_161, n_161, k5_158_7, k6_163, k35_163, n_163, k5_158_12, k34_158_12, k54_158_12, k54b_158_12_0, k5_158_6, k6_162, k35_162, n_162, k5_158_21, k34_158_21, k54_158_21, k54b_158_21_0, k5_158_22, k6_168, k35_168, n_168, k5_158_28, k34_158_28, k34i_158_28, k5_158_24, k34_158_24, k54_158_24, k54b_158_24_0, rv_t, rv_d, rv_x, rv_y, rp_t, rp_d, rp_x, rp_y, w32_of, x1, x2, x3, x6, x7, x8, kk, h28, pL, x4, x5, t21, hb]
/-- a condition's name is told -/
theorem C_one (hF : 100000 ≤ F) (S : SE mc m e) (W : WT m) (h29 : 0 ≤ m 158 29 ∧ m 158 29 ≤ 1600) (h24 : 0 ≤ m 158 24 ∧ m 158 24 < 3000) (hp : 0 ≤ p) (hpe : p < e) (u1 : kd mc p = 2) : Cx F (d + 10) 222 [158] (Hp L xs (rv p dep m)) = some ([], Hp L xs (rv (p + 1) dep (put (ttM m p) 158 24 (m 158 24 + 1)))) := by
  have el := S.el
  have hb := W.2.2.2.2.2
  have hT1 := S.tr p hp (by omega)
  rw [u1] at hT1
  have x2 := fun D => N_215 (F := F) (L := L) (xs := xs) (d := D) (m := m) (p := p) (dep := dep) hb (by omega) hT1 rfl
  have x4 := fun D a2 a3 => R_219 (F := F) (L := L) (xs := xs) (d := D) (m := m) (p := p + 1) (dep := dep) (n := p) (a2 := a2) (a3 := a3) hF W h29 hp (by omega)
  have t24 : ttM m p 158 24 = m 158 24 := by unfold ttM; split <;> rfl
  generalize ttM m p = mt at *
  simp (disch := first | omega | assumption) only [c_222, tr_222, ev_0, ev_1, ev_16, ev_17, ev_18, ev_2, ev_3, ev_4, ev_5, ev_6, ev_7, ev_8, ev_9, ev_20, ev_21, ev_22, ev_23, ev_24, ev_25, ev_27, ev_28, ev_30, ev_31, ev_32, ev_33, ev_34, ev_35, ev_36, ev_37, ev_38, ev_39, ev_40, ev_41, ev_42, ev_43, ev_45, ev_46, ev_47, ev_48, ev_49, ev_50, ev_51, ev_52, ev_54, ev_55, ev_57, ev_58, ev_59, k2_0, k2_1, k2_2, k3a, k3b, k4, o1_s, xbin_0, xbin_1, xbin_2, xbin_3, xbin_4, xbin_5, xbin_6, xbin_7, xbin_8, xbin_9, xbin_11, xbin_12, xun_0, xun_1, xun_2, xun_3, xun_4, xun_5, k6a, k8, k8b, k9, k20, k20b_0, k20b_1, k20b_2, k20b_3, k20b_4, k20b_5, k21_0, k21_1, k21_2, k21_3, k21_4, k21_5, k23, k24, k25, k27, k28, k40, nz_1, nz_2, nz_3, k31_0, k31_1, k31_2, k31_3, k32u, k33, k34, k35, k35b, k36, k37, k38, k47, k49, k49b_0, k49b_1, k49b_2, k49b_3, k50_0, k50_s, k51_0, k51_s, k55, k58, k58b, rk_0, rk_1, rk_2, rk_9, rk_3, rk_4, rk_5, sw_n, sw_c, xtb_n, xtb_c, lset_0, lset_2, lset_1, lkm_0, lkm_2, lkm_9, lkm_1, lkm_n, if_some1, c_10, c_01, c_x0, c_1x, c_n0, c_nn, List.getElem?_cons_zero, List.getElem?_cons_succ, List.set_cons_zero, List.set_cons_succ, List.length_cons, List.length_nil, Int.reduceToNat, Nat.reduceDiv, Nat.reduceMod, Nat.reduceSub, Nat.reduceAdd, Nat.reduceMul, Nat.reduceLT, Nat.reduceLeDiff, Nat.reduceEqDiff, Int.reduceMod, Int.reduceSub, Int.reduceNeg, Int.reduceAdd, Int.reduceMul, Int.reduceLT, Int.reduceLE, Int.reduceEq, put_ss, if_true, if_false, ite_true, ite_false, reduceIte, eq_self, and_true, true_and, and_false, false_and, or_true, true_or, or_false, false_or, not_true_eq_false, not_false_eq_true, k5_158_14, k34_158_14, k34i_158_14, k5_158_15, k34_158_15, k34i_158_15, k5_158_13, k34_158_13, k54_158_13, k54b_158_13_0, k54b_158_13_1, k5_158_5, k6_161, k35_161, n_161, k5_158_7, k6_163, k35_163, n_163, k5_158_12, k34_158_12, k54_158_12, k54b_158_12_0, k5_158_6, k6_162, k35_162, n_162, k5_158_21, k34_158_21, k54_158_21, k54b_158_21_0, k5_158_22, k6_168, k35_168, n_168, k5_158_28, k34_158_28, k34i_158_28, k5_158_24, k34_158_24, k54_158_24, k54b_158_24_0, rv_t, rv_d, rv_x, rv_y, rp_t, rp_d, rp_x, rp_y, w32_of, x2, x4, t24]
end Itm
