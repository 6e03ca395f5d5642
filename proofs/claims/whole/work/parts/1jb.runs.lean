/-! RUN: class and model answer alike -/
section Rns
variable {F L d : Nat} {xs : Nat → Int32} {m M G : Mem} {np n : Nat} {fe : Nat → Nat} {h u : Nat → Int} {nc sz : Int} {cs : Nat → List Int} {w : Nat → Int}
theorem PRQ_c (Q : PRQ m np n fe h u nc cs) (h1 : ∀ a k, 184 ≤ a → a ≤ 194 → M a k = m a k) (h2 : M 158 67 = m 158 67 ∧ M 158 68 = m 158 68 ∧ M 158 70 = m 158 70 ∧ M 158 71 = m 158 71) : PRQ M np n fe h u nc cs := by
  have e184 : M 184 = m 184 := funext fun k => h1 184 k (by omega) (by omega)
  have e185 : M 185 = m 185 := funext fun k => h1 185 k (by omega) (by omega)
  have e186 : M 186 = m 186 := funext fun k => h1 186 k (by omega) (by omega)
  have e187 : M 187 = m 187 := funext fun k => h1 187 k (by omega) (by omega)
  have e188 : M 188 = m 188 := funext fun k => h1 188 k (by omega) (by omega)
  have e189 : M 189 = m 189 := funext fun k => h1 189 k (by omega) (by omega)
  have e190 : M 190 = m 190 := funext fun k => h1 190 k (by omega) (by omega)
  have e191 : M 191 = m 191 := funext fun k => h1 191 k (by omega) (by omega)
  have e192 : M 192 = m 192 := funext fun k => h1 192 k (by omega) (by omega)
  have e193 : M 193 = m 193 := funext fun k => h1 193 k (by omega) (by omega)
  have e194 : M 194 = m 194 := funext fun k => h1 194 k (by omega) (by omega)
  obtain ⟨f67, f68, f70, f71⟩ := h2
  have eB : Bq M = Bq m := by unfold Bq; rw [f68, f70]
  have eP : Pq M = Pq m := by funext t; unfold Pq; rw [e187]
  have eV : vatq M = vatq m := by
    funext k
    induction k with
    | zero => rfl
    | succ k ih =>
      show vatq M k + M 194 k = vatq m k + m 194 k
      rw [ih, e194]
  have eN : Nq M = Nq m := by funext t; unfold Nq; rw [e187, eB, f68, eV]
  have eY : yq M = yq m := by funext p i; unfold yq; rw [e184, e185, e188, e189, e191, e194]
  have eI : itq M = itq m := by funext c a b p i; unfold itq; rw [e184, e185, e186, e189, e190, eY]
  have eL : plE M = plE m := by funext a i; unfold plE; rw [e187, f68]
  unfold PRQ at Q ⊢
  rw [e184, e185, e186, e187, e188, e189, e190, e191, e192, e193, e194, eB, eP, eV, eN, eI, eL, f67, f68, f70, f71]
  exact Q
theorem vat_p {k : Nat} (hv : ∀ k : Nat, (k : Int) < m 158 71 → 1 ≤ m 194 k ∧ m 194 k ≤ 500) (hk : (k : Int) ≤ m 158 71) (h6 : m 158 71 ≤ 60) : 0 ≤ vatq m k ∧ vatq m k ≤ 500 * (k : Int) := by
  induction k with
  | zero => exact ⟨Int.le_refl 0, Int.le_refl 0⟩
  | succ k ih =>
    have := ih (by omega)
    have := hv k (by omega)
    have e : vatq m (k + 1) = vatq m k + m 194 k := rfl
    omega
/-- the copy of what was meant changes nothing -/
theorem L_328_1 {Z : Mem} {c' : Int} (ho : Z 158 106 ≤ 1000000) (h215 : ∀ k : Nat, (k : Int) < Z 158 106 → k < 500 → Z 209 k = Z 215 k) : ∀ (j N k : Nat), (k : Int) + (j : Int) = (if Z 158 106 < 500 then (if 0 ≤ Z 158 106 then Z 158 106 else 0) else 500) → j < N → LF F d la_328_1 lb_328_1 lc_328_1 N ([(2, 158), (0, c'), (0, (k : Int))], Hp L xs Z) = some (0, [], ([(2, 158), (0, c'), (0, (k : Int) + (j : Int))], Hp L xs Z)) := by
  intro j
  induction j with
  | zero =>
    intro N k hk hN
    obtain ⟨N, rfl⟩ : ∃ n', N = n' + 1 := ⟨N - 1, by omega⟩
    rw [lf_s, show (k : Int) + ((0 : Nat) : Int) = (k : Int) from by omega]
    by_cases c1 : (k : Int) < Z 158 106
    · have c2 : ¬ (k : Int) < 500 := by
        split at hk
        · split at hk <;> omega
        · omega
      simp (disch := omega) only [ea_328_1, eb_328_1, ec_328_1, l1_i, l1_1, l1_0, l2_0, l2_1, l2_2, l2_3, l3_0, w2_0, w2_1, w2_2, w2_3, d1_0, d1_1, d1_2, d1_3, d2_i, d2_1, d2_0, ev_0, ev_1, ev_16, ev_17, ev_18, ev_2, ev_3, ev_4, ev_5, ev_6, ev_7, ev_8, ev_9, ev_20, ev_21, ev_22, ev_23, ev_24, ev_25, ev_27, ev_28, ev_30, ev_31, ev_32, ev_33, ev_34, ev_35, ev_36, ev_37, ev_38, ev_39, ev_40, ev_41, ev_42, ev_43, ev_45, ev_46, ev_47, ev_48, ev_49, ev_50, ev_51, ev_52, ev_54, ev_55, ev_57, ev_58, ev_59, k2_0, k2_1, k2_2, k3a, k3b, k4, o1_s, xbin_0, xbin_1, xbin_2, xbin_3, xbin_4, xbin_5, xbin_6, xbin_7, xbin_8, xbin_9, xbin_11, xbin_12, xun_0, xun_1, xun_2, xun_3, xun_4, xun_5, k6a, k8, k8b, k9, k20, k20b_0, k20b_1, k20b_2, k20b_3, k20b_4, k20b_5, k21_0, k21_1, k21_2, k21_3, k21_4, k21_5, k23, k24, k25, k27, k28, k40, nz_1, nz_2, nz_3, k31_0, k31_1, k31_2, k31_3, k32u, k33, k34, k35, k35b, k36, k37, k38, k47, k49, k49b_0, k49b_1, k49b_2, k49b_3, k50_0, k50_s, k51_0, k51_s, k55, k58, k58b, rk_0, rk_1, rk_2, rk_9, rk_3, rk_4, rk_5, sw_n, sw_c, xtb_n, xtb_c, lset_0, lset_2, lset_1, lkm_0, lkm_2, lkm_9, lkm_1, lkm_n, if_some1, c_10, c_01, c_x0, c_1x, c_n0, c_nn, List.getElem?_cons_zero, List.getElem?_cons_succ, List.set_cons_zero, List.set_cons_succ, List.length_cons, List.length_nil, Int.reduceToNat, Nat.reduceDiv, Nat.reduceMod, Nat.reduceSub, Nat.reduceAdd, Nat.reduceMul, Nat.reduceLT, Nat.reduceLeDiff, Nat.reduceEqDiff, Int.reduceMod, Int.reduceSub, Int.reduceNeg, Int.reduceAdd, Int.reduceMul, Int.reduceLT, Int.reduceLE, Int.reduceEq, put_ss, if_true, if_false, ite_true, ite_false, reduceIte, eq_self, and_true, true_and, and_false, false_and, or_true, true_or, or_false, false_or, not_true_eq_false, not_false_eq_true, k5_158_106, k34_158_106, k54_158_106, k54b_158_106_0, c1, c2]
    · simp (disch := omega) only [ea_328_1, eb_328_1, ec_328_1, l1_i, l1_1, l1_0, l2_0, l2_1, l2_2, l2_3, l3_0, w2_0, w2_1, w2_2, w2_3, d1_0, d1_1, d1_2, d1_3, d2_i, d2_1, d2_0, ev_0, ev_1, ev_16, ev_17, ev_18, ev_2, ev_3, ev_4, ev_5, ev_6, ev_7, ev_8, ev_9, ev_20, ev_21, ev_22, ev_23, ev_24, ev_25, ev_27, ev_28, ev_30, ev_31, ev_32, ev_33, ev_34, ev_35, ev_36, ev_37, ev_38, ev_39, ev_40, ev_41, ev_42, ev_43, ev_45, ev_46, ev_47, ev_48, ev_49, ev_50, ev_51, ev_52, ev_54, ev_55, ev_57, ev_58, ev_59, k2_0, k2_1, k2_2, k3a, k3b, k4, o1_s, xbin_0, xbin_1, xbin_2, xbin_3, xbin_4, xbin_5, xbin_6, xbin_7, xbin_8, xbin_9, xbin_11, xbin_12, xun_0, xun_1, xun_2, xun_3, xun_4, xun_5, k6a, k8, k8b, k9, k20, k20b_0, k20b_1, k20b_2, k20b_3, k20b_4, k20b_5, k21_0, k21_1, k21_2, k21_3, k21_4, k21_5, k23, k24, k25, k27, k28, k40, nz_1, nz_2, nz_3, k31_0, k31_1, k31_2, k31_3, k32u, k33, k34, k35, k35b, k36, k37, k38, k47, k49, k49b_0, k49b_1, k49b_2, k49b_3, k50_0, k50_s, k51_0, k51_s, k55, k58, k58b, rk_0, rk_1, rk_2, rk_9, rk_3, rk_4, rk_5, sw_n, sw_c, xtb_n, xtb_c, lset_0, lset_2, lset_1, lkm_0, lkm_2, lkm_9, lkm_1, lkm_n, if_some1, c_10, c_01, c_x0, c_1x, c_n0, c_nn, List.getElem?_cons_zero, List.getElem?_cons_succ, List.set_cons_zero, List.set_cons_succ, List.length_cons, List.length_nil, Int.reduceToNat, Nat.reduceDiv, Nat.reduceMod, Nat.reduceSub, Nat.reduceAdd, Nat.reduceMul, Nat.reduceLT, Nat.reduceLeDiff, Nat.reduceEqDiff, Int.reduceMod, Int.reduceSub, Int.reduceNeg, Int.reduceAdd, Int.reduceMul, Int.reduceLT, Int.reduceLE, Int.reduceEq, put_ss, if_true, if_false, ite_true, ite_false, reduceIte, eq_self, and_true, true_and, and_false, false_and, or_true, true_or, or_false, false_or, not_true_eq_false, not_false_eq_true, k5_158_106, k34_158_106, k54_158_106, k54b_158_106_0, c1]
  | succ j ih =>
    intro N k hk hN
    obtain ⟨N, rfl⟩ : ∃ n', N = n' + 1 := ⟨N - 1, by omega⟩
    have c1 : (k : Int) < Z 158 106 ∧ (k : Int) < 500 := by
      split at hk
      · split at hk <;> omega
      · omega
    have k0 : (k : Int).toNat = k := Int.toNat_natCast k
    have e1 : put Z 209 k (Z 215 k) = Z := put_id (h215 k c1.1 (by omega))
    have IH := ih N (k + 1) (by omega) (by omega)
    rw [show ((k + 1 : Nat) : Int) = (k : Int) + 1 from by omega, show (k : Int) + 1 + (j : Int) = (k : Int) + ((j + 1 : Nat) : Int) from by omega] at IH
    have c2 := c1.1
    have c3 := c1.2
    rw [lf_s]
    simp (disch := omega) only [ea_328_1, eb_328_1, ec_328_1, l1_i, l1_1, l1_0, l2_0, l2_1, l2_2, l2_3, l3_0, w2_0, w2_1, w2_2, w2_3, d1_0, d1_1, d1_2, d1_3, d2_i, d2_1, d2_0, ev_0, ev_1, ev_16, ev_17, ev_18, ev_2, ev_3, ev_4, ev_5, ev_6, ev_7, ev_8, ev_9, ev_20, ev_21, ev_22, ev_23, ev_24, ev_25, ev_27, ev_28, ev_30, ev_31, ev_32, ev_33, ev_34, ev_35, ev_36, ev_37, ev_38, ev_39, ev_40, ev_41, ev_42, ev_43, ev_45, ev_46, ev_47, ev_48, ev_49, ev_50, ev_51, ev_52, ev_54, ev_55, ev_57, ev_58, ev_59, k2_0, k2_1, k2_2, k3a, k3b, k4, o1_s, xbin_0, xbin_1, xbin_2, xbin_3, xbin_4, xbin_5, xbin_6, xbin_7, xbin_8, xbin_9, xbin_11, xbin_12, xun_0, xun_1, xun_2, xun_3, xun_4, xun_5, k6a, k8, k8b, k9, k20, k20b_0, k20b_1, k20b_2, k20b_3, k20b_4, k20b_5, k21_0, k21_1, k21_2, k21_3, k21_4, k21_5, k23, k24, k25, k27, k28, k40, nz_1, nz_2, nz_3, k31_0, k31_1, k31_2, k31_3, k32u, k33, k34, k35, k35b, k36, k37, k38, k47, k49, k49b_0, k49b_1, k49b_2, k49b_3, k50_0, k50_s, k51_0, k51_s, k55, k58, k58b, rk_0, rk_1, rk_2, rk_9, rk_3, rk_4, rk_5, sw_n, sw_c, xtb_n, xtb_c, lset_0, lset_2, lset_1, lkm_0, lkm_2, lkm_9, lkm_1, lkm_n, if_some1, c_10, c_01, c_x0, c_1x, c_n0, c_nn, List.getElem?_cons_zero, List.getElem?_cons_succ, List.set_cons_zero, List.set_cons_succ, List.length_cons, List.length_nil, Int.reduceToNat, Nat.reduceDiv, Nat.reduceMod, Nat.reduceSub, Nat.reduceAdd, Nat.reduceMul, Nat.reduceLT, Nat.reduceLeDiff, Nat.reduceEqDiff, Int.reduceMod, Int.reduceSub, Int.reduceNeg, Int.reduceAdd, Int.reduceMul, Int.reduceLT, Int.reduceLE, Int.reduceEq, put_ss, if_true, if_false, ite_true, ite_false, reduceIte, eq_self, and_true, true_and, and_false, false_and, or_true, true_or, or_false, false_or, not_true_eq_false, not_false_eq_true, k5_158_106, k34_158_106, k54_158_106, k54b_158_106_0, k5_158_105, k6_209, k35_209, n_209, k5_158_116, k6_215, k35_215, n_215, c2, c3, k0, e1, w32_of, IH]
theorem M_328_0 (hh : m 158 54 = 0) : Cx F (d + 6) 328 [158] (Hp L xs (wmG G m)) = some ([-1], Hp L xs (wmG G m)) := by
  have C := M_326_0 (F := F) (L := L) (xs := xs) (d := d + 4) (m := m) (G := G) hh
  simp (disch := omega) only [c_328, tx_328, ev_0, ev_1, ev_16, ev_17, ev_18, ev_2, ev_3, ev_4, ev_5, ev_6, ev_7, ev_8, ev_9, ev_20, ev_21, ev_22, ev_23, ev_24, ev_25, ev_27, ev_28, ev_30, ev_31, ev_32, ev_33, ev_34, ev_35, ev_36, ev_37, ev_38, ev_39, ev_40, ev_41, ev_42, ev_43, ev_45, ev_46, ev_47, ev_48, ev_49, ev_50, ev_51, ev_52, ev_54, ev_55, ev_57, ev_58, ev_59, k2_0, k2_1, k2_2, k3a, k3b, k4, o1_s, xbin_0, xbin_1, xbin_2, xbin_3, xbin_4, xbin_5, xbin_6, xbin_7, xbin_8, xbin_9, xbin_11, xbin_12, xun_0, xun_1, xun_2, xun_3, xun_4, xun_5, k6a, k8, k8b, k9, k20, k20b_0, k20b_1, k20b_2, k20b_3, k20b_4, k20b_5, k21_0, k21_1, k21_2, k21_3, k21_4, k21_5, k23, k24, k25, k27, k28, k40, nz_1, nz_2, nz_3, k31_0, k31_1, k31_2, k31_3, k32u, k33, k34, k35, k35b, k36, k37, k38, k47, k49, k49b_0, k49b_1, k49b_2, k49b_3, k50_0, k50_s, k51_0, k51_s, k55, k58, k58b, rk_0, rk_1, rk_2, rk_9, rk_3, rk_4, rk_5, sw_n, sw_c, xtb_n, xtb_c, lset_0, lset_2, lset_1, lkm_0, lkm_2, lkm_9, lkm_1, lkm_n, if_some1, c_10, c_01, c_x0, c_1x, c_n0, c_nn, List.getElem?_cons_zero, List.getElem?_cons_succ, List.set_cons_zero, List.set_cons_succ, List.length_cons, List.length_nil, Int.reduceToNat, Nat.reduceDiv, Nat.reduceMod, Nat.reduceSub, Nat.reduceAdd, Nat.reduceMul, Nat.reduceLT, Nat.reduceLeDiff, Nat.reduceEqDiff, Int.reduceMod, Int.reduceSub, Int.reduceNeg, Int.reduceAdd, Int.reduceMul, Int.reduceLT, Int.reduceLE, Int.reduceEq, put_ss, if_true, if_false, ite_true, ite_false, reduceIte, eq_self, and_true, true_and, and_false, false_and, or_true, true_or, or_false, false_or, not_true_eq_false, not_false_eq_true, C]
theorem wm_o1 {V m : Mem} {c e : Int} {k : Nat} (hk : ¬ (k = 95 ∨ k = 96 ∨ k = 97 ∨ k = 98 ∨ k = 99 ∨ k = 103 ∨ k = 104 ∨ k = 106 ∨ k = 100 ∨ k = 101)) : wm V c e m 158 k = m 158 k := by
  unfold wm
  rw [if_pos rfl, if_neg (by omega), if_neg (by omega), if_neg (by omega), if_neg (by omega), if_neg (by omega), if_neg (by omega), if_neg (by omega), if_neg (by omega), if_neg (by omega), if_neg (by omega)]
theorem wm_o2 {V m : Mem} {c e : Int} {a k : Nat} (ha : ¬ (a = 158 ∨ a = 206 ∨ a = 207 ∨ a = 208 ∨ a = 209)) : wm V c e m a k = m a k := by
  unfold wm
  rw [if_neg (by omega), if_neg (by omega), if_neg (by omega), if_neg (by omega), if_neg (by omega)]
/-- what stands under the view counts no more -/
theorem wm_cg {V m m2 : Mem} {c e : Int} {a k : Nat} (h : ¬ (a = 206 ∨ a = 207 ∨ a = 208 ∨ a = 209) → (a = 158 → ¬ (k = 95 ∨ k = 96 ∨ k = 97 ∨ k = 98 ∨ k = 99 ∨ k = 103 ∨ k = 104 ∨ k = 106 ∨ k = 100 ∨ k = 101)) → m a k = m2 a k) : wm V c e m a k = wm V c e m2 a k := by
  by_cases h1 : a = 158
  · subst h1
    by_cases h2 : k = 95 ∨ k = 96 ∨ k = 97 ∨ k = 98 ∨ k = 99 ∨ k = 103 ∨ k = 104 ∨ k = 106 ∨ k = 100 ∨ k = 101
    · rcases h2 with rfl | rfl | rfl | rfl | rfl | rfl | rfl | rfl | rfl | rfl <;> rfl
    · rw [wm_o1 h2, wm_o1 h2]
      exact h (by omega) (fun _ => h2)
  · by_cases h2 : a = 206 ∨ a = 207 ∨ a = 208 ∨ a = 209
    · rcases h2 with rfl | rfl | rfl | rfl <;> rfl
    · rw [wm_o2 (by omega), wm_o2 (by omega)]
      exact h h2 (fun w => absurd w h1)
theorem wm_idem {V m : Mem} {c e : Int} : wm V c e (wm V c e m) = wm V c e m := by
  funext a k
  refine wm_cg (fun h1 h2 => ?_)
  by_cases q : a = 158
  · subst q
    exact wm_o1 (h2 rfl)
  · exact wm_o2 (by omega)
theorem tikn_k : ∀ (k : Nat) {m : Mem}, tikn k m 78 8 = m 78 8 ∧ ∀ j, tikn k m 81 j = m 81 j
  | 0, m => ⟨rfl, fun _ => rfl⟩
  | k + 1, m => by
    obtain ⟨a, b⟩ := tikn_k k (m := tik id m)
    exact ⟨a.trans (tik_f 8 (Or.inl rfl)), fun j => (b j).trans (tik_k 81 j (by decide) (by decide) (by decide) (by decide))⟩
/-- RUN of the model -/
theorem M_328 (hF : 100000 ≤ F) (h54 : m 158 54 = 1) (Q : PRQ m np n fe h u nc cs) (e68 : m 158 68 = sz) (hw : ∀ k : Nat, (k : Int) < sz → m 193 k = w k) (W : WC (rsm sz w G)) (hs : 0 ≤ sz ∧ sz ≤ 6000) : ∃ Z, Cx F (d + 6) 328 [158] (Hp L xs (wmG G m)) = some ([rna (adv 20000 (rsm sz w G)).2], Hp L xs Z) ∧ ∃ Z2, Z = wmG (adv 20000 (rsm sz w G)).2 Z2 ∧ ∀ a k, (a < 210 ∨ 215 < a) → (a = 158 → k ≠ 108 ∧ k ≠ 111 ∧ k ≠ 114 ∧ k ≠ 115) → Z2 a k = wmG (adv 20000 (rsm sz w G)).2 m a k := by
  have R := M_326 (F := F) (L := L) (xs := xs) (d := d + 4) (m := m) (G := G) (sz := sz) (w := w) hF h54 e68 hw hs
  have A := fun z => L_328 (F := F) (L := L) (xs := xs) (d := d + 1) (m := m) 20000 F (rsm sz w G) 0 z W (by omega) (by omega) (by omega)
  have W3 := adv_W 20000 W
  have hle := adv_le 20000 (rsm sz w G)
  obtain ⟨N, N1, N2⟩ := adv_tik 20000 (rsm sz w G)
  generalize hX : adv 20000 (rsm sz w G) = X at *
  have H := M_309 (F := F) (L := L) (xs := xs) (d := d + 4) (V := sgO X.2) (c := X.2 78 12) (e := X.2 78 13) (m := m) W3.1.2.1
  have r4 := W3.1.2.2.2.2.2.2.2.2.1 4 (by decide)
  have e207 : wmG X.2 m 207 4 = X.2 80 4 := rfl
  have idw : wmG X.2 (wmG X.2 m) = wmG X.2 m := wm_idem
  unfold rna
  by_cases ch : hlt X.2
  · rw [if_pos ch]
    have H1 : Cx F (d + 5) 309 [158] (Hp L xs (wmG X.2 m)) = some ([1], Hp L xs (wmG X.2 m)) := by
      have z := H
      rw [if_pos (show (sgO X.2) 78 6 = 1 ∧ (sgO X.2) 78 3 / 4096 = 15 from ch)] at z
      exact z
    by_cases c4 : X.2 80 4 = 65535
    · refine ⟨wmG X.2 m, ?_, wmG X.2 m, idw.symm, fun _ _ _ _ => rfl⟩
      have s4 : sg (X.2 80 4) = -1 := by rw [c4]; rfl
      rw [if_pos s4]
      simp (disch := omega) only [c_328, tx_328, ev_0, ev_1, ev_16, ev_17, ev_18, ev_2, ev_3, ev_4, ev_5, ev_6, ev_7, ev_8, ev_9, ev_20, ev_21, ev_22, ev_23, ev_24, ev_25, ev_27, ev_28, ev_30, ev_31, ev_32, ev_33, ev_34, ev_35, ev_36, ev_37, ev_38, ev_39, ev_40, ev_41, ev_42, ev_43, ev_45, ev_46, ev_47, ev_48, ev_49, ev_50, ev_51, ev_52, ev_54, ev_55, ev_57, ev_58, ev_59, k2_0, k2_1, k2_2, k3a, k3b, k4, o1_s, xbin_0, xbin_1, xbin_2, xbin_3, xbin_4, xbin_5, xbin_6, xbin_7, xbin_8, xbin_9, xbin_11, xbin_12, xun_0, xun_1, xun_2, xun_3, xun_4, xun_5, k6a, k8, k8b, k9, k20, k20b_0, k20b_1, k20b_2, k20b_3, k20b_4, k20b_5, k21_0, k21_1, k21_2, k21_3, k21_4, k21_5, k23, k24, k25, k27, k28, k40, nz_1, nz_2, nz_3, k31_0, k31_1, k31_2, k31_3, k32u, k33, k34, k35, k35b, k36, k37, k38, k47, k49, k49b_0, k49b_1, k49b_2, k49b_3, k50_0, k50_s, k51_0, k51_s, k55, k58, k58b, rk_0, rk_1, rk_2, rk_9, rk_3, rk_4, rk_5, sw_n, sw_c, xtb_n, xtb_c, lset_0, lset_2, lset_1, lkm_0, lkm_2, lkm_9, lkm_1, lkm_n, if_some1, c_10, c_01, c_x0, c_1x, c_n0, c_nn, List.getElem?_cons_zero, List.getElem?_cons_succ, List.set_cons_zero, List.set_cons_succ, List.length_cons, List.length_nil, Int.reduceToNat, Nat.reduceDiv, Nat.reduceMod, Nat.reduceSub, Nat.reduceAdd, Nat.reduceMul, Nat.reduceLT, Nat.reduceLeDiff, Nat.reduceEqDiff, Int.reduceMod, Int.reduceSub, Int.reduceNeg, Int.reduceAdd, Int.reduceMul, Int.reduceLT, Int.reduceLE, Int.reduceEq, put_ss, if_true, if_false, ite_true, ite_false, reduceIte, eq_self, and_true, true_and, and_false, false_and, or_true, true_or, or_false, false_or, not_true_eq_false, not_false_eq_true, l1_i, l1_1, l1_0, l2_0, l2_1, l2_2, l2_3, l3_0, w2_0, w2_1, w2_2, w2_3, d1_0, d1_1, d1_2, d1_3, d2_i, d2_1, d2_0, k5_158_94, k6_207, k35_207, n_207, R, A, Int.zero_add, H1, e207, c4]
    · have s4 : ¬ sg (X.2 80 4) = -1 := by
        rw [sg_v r4]
        split <;> omega
      rw [if_neg s4]
      -- what stands as the meaning begins
      have hQ := Q
      obtain ⟨-, -, -, -, -, ⟨P1, P2, P3⟩, ⟨p1, p2, p3⟩, ⟨⟨v0, v1⟩, v2, v3⟩, hE, -, ⟨⟨q1, q2⟩, q3⟩, -⟩ := hQ
      have hBm : Bq m = m 158 68 + m 158 70 := rfl
      have zo : ∀ a k, ¬ (a = 206 ∨ a = 207 ∨ a = 208 ∨ a = 209) → (a = 158 → ¬ (k = 95 ∨ k = 96 ∨ k = 97 ∨ k = 98 ∨ k = 99 ∨ k = 103 ∨ k = 104 ∨ k = 106 ∨ k = 100 ∨ k = 101)) → wmG X.2 m a k = m a k := fun a k h1 h2 => by
        by_cases q : a = 158
        · subst q
          exact wm_o1 (h2 rfl)
        · exact wm_o2 (by omega)
      have hv : ∀ k, vatq (wmG X.2 m) k = vatq m k := fun k => by
        induction k with
        | zero => rfl
        | succ k ih =>
          show vatq (wmG X.2 m) k + wmG X.2 m 194 k = vatq m k + m 194 k
          rw [ih]
          rfl
      generalize hZ : wmG X.2 m = Z0 at *
      have z67 : Z0 158 67 = m 158 67 := zo 158 67 (by decide) (fun _ => by decide)
      have z68 : Z0 158 68 = m 158 68 := zo 158 68 (by decide) (fun _ => by decide)
      have z70 : Z0 158 70 = m 158 70 := zo 158 70 (by decide) (fun _ => by decide)
      have z71 : Z0 158 71 = m 158 71 := zo 158 71 (by decide) (fun _ => by decide)
      have z103 : Z0 158 103 = X.2 78 8 := by rw [← hZ]; rfl
      have z208 : ∀ k, Z0 208 k = X.2 81 k := fun k => by rw [← hZ]; rfl
      have z209 : ∀ k, Z0 209 k = sg (X.2 82 k) := fun k => by rw [← hZ]; rfl
      have z106 : Z0 158 106 = X.2 78 11 := by rw [← hZ]; rfl
      have z8 : ∀ a k, 184 ≤ a → a ≤ 194 → Z0 a k = m a k := fun a k h1 h2 => zo a k (by omega) (by omega)
      obtain ⟨q, eq⟩ : ∃ q : Nat, m 158 67 = (q : Int) := ⟨(m 158 67).toNat, by omega⟩
      rw [eq, Int.toNat_natCast] at q3
      have hq : q < np := by omega
      obtain ⟨mlq, mxq, y1, y2, y3, y4, -, ⟨y5, y6⟩, -⟩ := PR_s Q hq
      -- the memory that the relation speaks of
      have QM : PRQ (row Z0 214 (vbg Z0 (m 158 71).toNat)) np n fe h u nc cs := PRQ_c Q (fun a k h1 h2 => by
        rw [row_ss, if_neg (by omega)]
        exact z8 a k h1 h2) ⟨z67, z68, z70, z71⟩
      have vM : ∀ k, vatq (row Z0 214 (vbg Z0 (m 158 71).toNat)) k = vatq m k := fun k => by
        induction k with
        | zero => rfl
        | succ k ih =>
          show vatq _ k + Z0 194 k = vatq m k + m 194 k
          rw [ih, z8 194 k (by omega) (by omega)]
      have XM : EXQ (row Z0 214 (vbg Z0 (m 158 71).toNat)) := by
        have w9 := W3.1.2.2.2.2.2.1
        refine ⟨?_, fun k hk => ?_, fun k hk => ?_⟩
        · show 0 ≤ Z0 158 103 ∧ Z0 158 103 ≤ 200
          rw [z103]
          omega
        · show 0 ≤ Z0 208 k ∧ Z0 208 k < 65536
          rw [z208]
          exact W3.1.2.2.2.2.2.2.2.2.2 k hk
        · have hk2 : (k : Int) < m 158 71 := by
            have : (k : Int) < Z0 158 71 := hk
            omega
          rw [vM]
          show vbg Z0 (m 158 71).toNat k = _
          unfold vbg
          rw [if_pos (by omega), hv]
      have nn : entM (vcl (mn0 Z0) (m 158 71).toNat) (q : Int) (-1) = zer (Z0 189 q - (Z0 188 q + 2)).toNat (put (put (put (vcl (mn0 Z0) (m 158 71).toNat) 211 0 (0 - Z0 188 q)) 212 0 (-1)) 158 111 (0 + 1)) := rfl
      have vcl_o : ∀ a k, a ≠ 213 → a ≠ 214 → vcl (mn0 Z0) (m 158 71).toNat a k = mn0 Z0 a k := fun a k h1 h2 => by
        unfold vcl row
        rw [if_neg h1, if_neg h2]
      have mn_o : ∀ a k, (a = 158 → k ≠ 108 ∧ k ≠ 111 ∧ k ≠ 114 ∧ k ≠ 115) → mn0 Z0 a k = Z0 a k := fun a k h1 => by
        unfold mn0
        by_cases e : a = 158
        · have := h1 e
          rw [put_ss, if_pos e, if_neg this.2.2.2, put_ss, if_pos e, if_neg this.2.2.1, put_ss, if_pos e, if_neg this.2.1, put_ss, if_pos e, if_neg this.1]
        · rw [put_ss, if_neg e, put_ss, if_neg e, put_ss, if_neg e, put_ss, if_neg e]
      have e188 : Z0 188 q = 0 := by rw [z8 188 q (by omega) (by omega)]; exact q3
      have e189 : Z0 189 q = m 189 q := z8 189 q (by omega) (by omega)
      generalize hS : entM (vcl (mn0 Z0) (m 158 71).toNat) (q : Int) (-1) = mS at *
      have hmv : ∀ k, vatq (mn0 Z0) k = vatq m k := fun k => by
        rw [← hv k]
        induction k with
        | zero => rfl
        | succ k ih =>
          show vatq (mn0 Z0) k + mn0 Z0 194 k = vatq Z0 k + Z0 194 k
          rw [ih]
          rfl
      have KS : KMq (row Z0 214 (vbg Z0 (m 158 71).toNat)) mS := fun a k h1 h2 => by
        rw [nn, zer_o _ _ _ _ (by omega) (fun w => (h2 w).1), put_ss]
        by_cases e : a = 158
        · rw [if_pos e, if_neg (h2 e).2.1, put_ss, if_neg (by omega), put_ss, if_neg (by omega), vcl_o _ _ (by omega) (by omega), mn_o a k h2, row_ss, if_neg (by omega)]
        · rw [if_neg e, put_ss, if_neg (by omega), put_ss, if_neg (by omega), row_ss]
          by_cases e2 : a = 214
          · rw [if_pos e2]
            unfold vcl row
            rw [if_neg (by omega), if_pos e2]
            unfold vbg
            rw [hmv, hv]
            rfl
          · rw [if_neg e2, vcl_o _ _ (by omega) e2, mn_o a k h2]
      have S111 : mS 158 111 = 1 := by
        rw [nn, zer_o _ _ _ _ (by decide) (fun _ => by decide)]
        rfl
      have S211 : mS 211 0 = 0 := by
        rw [nn, zer_o _ _ _ _ (by decide) (fun w => absurd w (by decide)), e188]
        rfl
      have S108 : mS 158 108 = m 189 q - 2 := by
        rw [nn, zer_top, e188, e189]
        show (0 : Int) + _ = _
        omega
      have S114 : mS 158 114 = 0 := by
        rw [nn, zer_o _ _ _ _ (by decide) (fun _ => by decide)]
        rfl
      have S115 : mS 158 115 = 0 := by
        rw [nn, zer_o _ _ _ _ (by decide) (fun _ => by decide)]
        rfl
      have S213 : ∀ g : Nat, (g : Int) < m 158 70 → mS 213 g = 0 := fun g hg => by
        rw [nn, zer_o _ _ _ _ (by decide) (fun w => absurd w (by decide))]
        show fz (mn0 Z0 213) (vatq (mn0 Z0) (m 158 71).toNat).toNat g = 0
        unfold fz
        rw [hmv, v3, if_pos (by omega)]
      generalize hM : row Z0 214 (vbg Z0 (m 158 71).toNat) = M at *
      have M67 : (M 158 67).toNat = q := by rw [← hM]; show (Z0 158 67).toNat = q; omega
      have M68 : M 158 68 = sz := by rw [← hM]; show Z0 158 68 = sz; omega
      have M70 : M 158 70 = m 158 70 := by rw [← hM]; exact z70
      have M103 : M 158 103 = X.2 78 8 := by rw [← hM]; exact z103
      have M208 : ∀ k, M 208 k = X.2 81 k := fun k => by rw [← hM]; exact z208 k
      have M193 : ∀ k, M 193 k = m 193 k := fun k => by rw [← hM]; exact z8 193 k (by omega) (by omega)
      have M189 : M 189 q = m 189 q := by rw [← hM]; exact e189
      have hh : hlt (tikn N (rsm sz w G)) := ⟨by rw [← N2 78 6 (by decide)]; exact ch.1, by rw [← N2 78 3 (by decide)]; exact ch.2⟩
      have x8 : X.2 78 8 = G 78 8 := by rw [N2 78 8 (by decide), (tikn_k N).1]; rfl
      have x81 : ∀ k, X.2 81 k = G 81 k := fun k => by rw [N2 81 k (by omega), (tikn_k N).2 k]; rfl
      have hR : Rst (M 158 68).toNat (M 193) (M 158 103) (M 208) (0, R8 0 0 0 0 0 0 0 0, rsm sz w G 79, 0, 0, rsm sz w G 82) (rsm sz w G) := by
        refine ⟨⟨rfl, rfl, rfl⟩, fun k hk => ?_, fun k => ?_, rfl, rfl, fun _ => rfl, ?_, fun k => ?_⟩
        · show fz (G 80) 8 k = R8 0 0 0 0 0 0 0 0 k
          unfold fz R8
          rw [if_pos hk]
          repeat (first | rfl | (split))
        · show rsm sz w G 79 k = if k < (M 158 68).toNat then M 193 k else rsm sz w G 79 k
          by_cases c : k < (M 158 68).toNat
          · rw [if_pos c, M193, hw k (by omega)]
            show rsw sz w (G 79) k = w k
            unfold rsw
            rw [if_pos (by omega), if_pos (by omega)]
          · rw [if_neg c]
        · rw [M103, x8]
          rfl
        · rw [M208, x81]
          rfl
      have BG := BEG (F := F) (d := d) (L := L) (xs := xs) (mS := mS) (Y := rsm sz w G 79) (sn := rsm sz w G 82) (N := N) hF QM XM KS S111 S211 (by rw [M67, M189]; exact S108) S114 S115 (fun g hg => S213 g (by omega)) (fun g h1 h2 => by
        show rsw sz w (G 79) g = 0
        unfold rsw
        rw [if_pos h2, if_neg (by omega)]) hR hh N1
      rw [M67] at BG
      have t80 : tikn N (rsm sz w G) 80 4 = X.2 80 4 := (N2 80 4 (by decide)).symm
      have t11 : tikn N (rsm sz w G) 78 11 = X.2 78 11 := (N2 78 11 (by decide)).symm
      have t82 : ∀ k, tikn N (rsm sz w G) 82 k = X.2 82 k := fun k => (N2 82 k (by omega)).symm
      rcases BG with BG | ⟨c', m', b1, b2, b3, b4, b5, b6⟩
      · rw [t80] at BG
        exact absurd BG c4
      · rw [t80] at b2
        rw [t11] at b5
        have hfe := (hE q hq).1
        have vb : ∀ k : Nat, (k : Int) ≤ m 158 71 → 0 ≤ vatq m k ∧ vatq m k ≤ 29000 := fun k hk => by
          have a1 := vat_m (M := m) v2 k 0 (by omega)
          rw [Nat.zero_add] at a1
          have a2 := vat_m (M := m) v2 ((m 158 71).toNat - k) k (by omega)
          rw [show k + ((m 158 71).toNat - k) = (m 158 71).toNat from by omega, v3] at a2
          exact ⟨a1, by omega⟩
        have C := M_317 (F := F) (d := d) (L := L) (xs := xs) (m := Z0) (x1 := 0) (x2 := 0) (nv := m 158 71) (c' := c') (m' := m') (mn := (q : Int)) (z := m 189 q) (x := 0) (y := (fe q : Int)) hF z71 ⟨v0, v1⟩ (fun k hk => by rw [z8 194 k (by omega) (by omega)]; have := v2 k hk; omega) (fun k hk => by rw [hv]; exact vb k hk) (by rw [z67]; exact eq) (by omega) e189 (by omega) e188 (by rw [Int.toNat_natCast, z8 191 q (by omega) (by omega)]; exact hfe) (by omega) (by rw [hS]; exact b1)
        have km : ∀ a k, (a < 210 ∨ 215 < a) → (a = 158 → k ≠ 108 ∧ k ≠ 111 ∧ k ≠ 114 ∧ k ≠ 115) → m' a k = Z0 a k := fun a k h1 h2 => by
          rw [b4 a k (by omega) h2, ← hM, row_ss, if_neg (by omega)]
        have m106 : m' 158 106 = m' 158 115 := by rw [km 158 106 (by omega) (fun _ => by decide), z106, b5.1]
        have p1' : put m' 158 106 (m' 158 115) = m' := put_id m106
        have l1 := fun j k => L_328_1 (F := F) (L := L) (xs := xs) (d := d + 5) (Z := m') (c' := c') (by omega) (fun k hk h5 => by
          rw [km 209 k (by omega) (fun w => absurd w (by decide)), z209, b6 k (by omega) h5, t82]) j F k
        have hsg : sg (X.2 80 4) = c' := by
          rw [sg_v r4, if_neg (by omega)]
          exact b2
        rw [hsg]
        have c4b : ¬ X.2 80 4 = 65535 := c4
        have e207b : Z0 207 4 = X.2 80 4 := e207
        refine ⟨m', ?_, m', ?_, km⟩
        · obtain ⟨J, hJ⟩ : ∃ J : Nat, (0 : Int) + (J : Int) = (if m' 158 106 < 500 then (if 0 ≤ m' 158 106 then m' 158 106 else 0) else 500) := by
            by_cases e1 : m' 158 106 < 500
            · rw [if_pos e1, if_pos (by omega)]
              exact ⟨(m' 158 106).toNat, by omega⟩
            · rw [if_neg e1]
              exact ⟨500, rfl⟩
          have hJ2 : (J : Int) ≤ 500 := by
            have := hJ
            split at this
            · split at this <;> omega
            · omega
          have l2 := l1 J 0 hJ (by omega)
          have ez : ((0 : Nat) : Int) = 0 := rfl
          rw [ez] at l2
          simp (disch := omega) only [c_328, tx_328, ev_0, ev_1, ev_16, ev_17, ev_18, ev_2, ev_3, ev_4, ev_5, ev_6, ev_7, ev_8, ev_9, ev_20, ev_21, ev_22, ev_23, ev_24, ev_25, ev_27, ev_28, ev_30, ev_31, ev_32, ev_33, ev_34, ev_35, ev_36, ev_37, ev_38, ev_39, ev_40, ev_41, ev_42, ev_43, ev_45, ev_46, ev_47, ev_48, ev_49, ev_50, ev_51, ev_52, ev_54, ev_55, ev_57, ev_58, ev_59, k2_0, k2_1, k2_2, k3a, k3b, k4, o1_s, xbin_0, xbin_1, xbin_2, xbin_3, xbin_4, xbin_5, xbin_6, xbin_7, xbin_8, xbin_9, xbin_11, xbin_12, xun_0, xun_1, xun_2, xun_3, xun_4, xun_5, k6a, k8, k8b, k9, k20, k20b_0, k20b_1, k20b_2, k20b_3, k20b_4, k20b_5, k21_0, k21_1, k21_2, k21_3, k21_4, k21_5, k23, k24, k25, k27, k28, k40, nz_1, nz_2, nz_3, k31_0, k31_1, k31_2, k31_3, k32u, k33, k34, k35, k35b, k36, k37, k38, k47, k49, k49b_0, k49b_1, k49b_2, k49b_3, k50_0, k50_s, k51_0, k51_s, k55, k58, k58b, rk_0, rk_1, rk_2, rk_9, rk_3, rk_4, rk_5, sw_n, sw_c, xtb_n, xtb_c, lset_0, lset_2, lset_1, lkm_0, lkm_2, lkm_9, lkm_1, lkm_n, if_some1, c_10, c_01, c_x0, c_1x, c_n0, c_nn, List.getElem?_cons_zero, List.getElem?_cons_succ, List.set_cons_zero, List.set_cons_succ, List.length_cons, List.length_nil, Int.reduceToNat, Nat.reduceDiv, Nat.reduceMod, Nat.reduceSub, Nat.reduceAdd, Nat.reduceMul, Nat.reduceLT, Nat.reduceLeDiff, Nat.reduceEqDiff, Int.reduceMod, Int.reduceSub, Int.reduceNeg, Int.reduceAdd, Int.reduceMul, Int.reduceLT, Int.reduceLE, Int.reduceEq, put_ss, if_true, if_false, ite_true, ite_false, reduceIte, eq_self, and_true, true_and, and_false, false_and, or_true, true_or, or_false, false_or, not_true_eq_false, not_false_eq_true, l1_i, l1_1, l1_0, l2_0, l2_1, l2_2, l2_3, l3_0, w2_0, w2_1, w2_2, w2_3, d1_0, d1_1, d1_2, d1_3, d2_i, d2_1, d2_0, k5_158_94, k6_207, k35_207, n_207, k5_158_106, k34_158_106, k54_158_106, k54b_158_106_0, k5_158_115, k34_158_115, k54_158_115, k54b_158_115_0, R, A, Int.zero_add, H1, e207b, c4b, C, p1', l2]
        · funext a k
          by_cases h1 : a = 206 ∨ a = 207 ∨ a = 208 ∨ a = 209
          · have z : m' a k = Z0 a k := km a k (by omega) (by omega)
            rw [z, ← hZ]
            rcases h1 with rfl | rfl | rfl | rfl <;> rfl
          · by_cases h2 : a = 158
            · subst h2
              by_cases h3 : k = 95 ∨ k = 96 ∨ k = 97 ∨ k = 98 ∨ k = 99 ∨ k = 103 ∨ k = 104 ∨ k = 106 ∨ k = 100 ∨ k = 101
              · have z : m' 158 k = Z0 158 k := km 158 k (by omega) (by omega)
                rw [z, ← hZ]
                rcases h3 with rfl | rfl | rfl | rfl | rfl | rfl | rfl | rfl | rfl | rfl <;> rfl
              · exact (wm_o1 h3).symm
            · exact (wm_o2 (by omega)).symm
  · rw [if_neg ch]
    have H1 : Cx F (d + 5) 309 [158] (Hp L xs (wmG X.2 m)) = some ([0], Hp L xs (wmG X.2 m)) := by
      have z := H
      rw [if_neg (show ¬ ((sgO X.2) 78 6 = 1 ∧ (sgO X.2) 78 3 / 4096 = 15) from ch)] at z
      exact z
    refine ⟨wmG X.2 m, ?_, wmG X.2 m, idw.symm, fun _ _ _ _ => rfl⟩
    simp (disch := omega) only [c_328, tx_328, ev_0, ev_1, ev_16, ev_17, ev_18, ev_2, ev_3, ev_4, ev_5, ev_6, ev_7, ev_8, ev_9, ev_20, ev_21, ev_22, ev_23, ev_24, ev_25, ev_27, ev_28, ev_30, ev_31, ev_32, ev_33, ev_34, ev_35, ev_36, ev_37, ev_38, ev_39, ev_40, ev_41, ev_42, ev_43, ev_45, ev_46, ev_47, ev_48, ev_49, ev_50, ev_51, ev_52, ev_54, ev_55, ev_57, ev_58, ev_59, k2_0, k2_1, k2_2, k3a, k3b, k4, o1_s, xbin_0, xbin_1, xbin_2, xbin_3, xbin_4, xbin_5, xbin_6, xbin_7, xbin_8, xbin_9, xbin_11, xbin_12, xun_0, xun_1, xun_2, xun_3, xun_4, xun_5, k6a, k8, k8b, k9, k20, k20b_0, k20b_1, k20b_2, k20b_3, k20b_4, k20b_5, k21_0, k21_1, k21_2, k21_3, k21_4, k21_5, k23, k24, k25, k27, k28, k40, nz_1, nz_2, nz_3, k31_0, k31_1, k31_2, k31_3, k32u, k33, k34, k35, k35b, k36, k37, k38, k47, k49, k49b_0, k49b_1, k49b_2, k49b_3, k50_0, k50_s, k51_0, k51_s, k55, k58, k58b, rk_0, rk_1, rk_2, rk_9, rk_3, rk_4, rk_5, sw_n, sw_c, xtb_n, xtb_c, lset_0, lset_2, lset_1, lkm_0, lkm_2, lkm_9, lkm_1, lkm_n, if_some1, c_10, c_01, c_x0, c_1x, c_n0, c_nn, List.getElem?_cons_zero, List.getElem?_cons_succ, List.set_cons_zero, List.set_cons_succ, List.length_cons, List.length_nil, Int.reduceToNat, Nat.reduceDiv, Nat.reduceMod, Nat.reduceSub, Nat.reduceAdd, Nat.reduceMul, Nat.reduceLT, Nat.reduceLeDiff, Nat.reduceEqDiff, Int.reduceMod, Int.reduceSub, Int.reduceNeg, Int.reduceAdd, Int.reduceMul, Int.reduceLT, Int.reduceLE, Int.reduceEq, put_ss, if_true, if_false, ite_true, ite_false, reduceIte, eq_self, and_true, true_and, and_false, false_and, or_true, true_or, or_false, false_or, not_true_eq_false, not_false_eq_true, l1_i, l1_1, l1_0, l2_0, l2_1, l2_2, l2_3, l3_0, w2_0, w2_1, w2_2, w2_3, d1_0, d1_1, d1_2, d1_3, d2_i, d2_1, d2_0, R, A, Int.zero_add, H1]
end Rns
