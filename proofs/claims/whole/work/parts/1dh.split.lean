/-! THE MODEL'S TEXT, split whole -/
section SplitM
variable {F L d : Nat} {m : Mem} {xs : Nat → Int32} {n : Int} {b : Nat → Int} {h : xH} {a0 a1 c p : Int}
theorem pb_s (h1 : p < n) : pb b n p = if bt b n p = 35 then pB (bt b n) n (n - p).toNat true (p + 1) else if bt b n p = 10 then pb b n (p + 1) else if bt b n p ≠ 9 ∧ bt b n p ≠ 13 ∧ bt b n p ≠ 32 then p else pb b n (p + 1) := by
  have e1 : (n - p + 1).toNat = (n - p).toNat + 1 := by omega
  have e2 : (n - (p + 1) + 1).toNat = (n - p).toNat := by omega
  unfold pb
  rw [e1, e2]
  have e3 : pB (bt b n) n ((n - p).toNat + 1) false p = if n ≤ p then n else if bt b n p = 35 then pB (bt b n) n (n - p).toNat true (p + 1) else if bt b n p = 10 then pB (bt b n) n (n - p).toNat false (p + 1) else if false = false ∧ bt b n p ≠ 9 ∧ bt b n p ≠ 13 ∧ bt b n p ≠ 32 then p else pB (bt b n) n (n - p).toNat false (p + 1) := rfl
  rw [e3, if_neg (by omega)]
  simp only [true_and]
theorem tks_p {f : Nat} {q : Int} (h : pb b n p = pb b n q) : tks b n f p = tks b n f q := by
  cases f with
  | zero => rfl
  | succ f =>
    unfold tks
    rw [h]
theorem L_206_1 (Y : YM m b n) {w : Nat × Int} : ∀ (j : Nat) (q : Int) (N : Nat), 0 ≤ q → q ≤ n → n - q ≤ j → j < N → ∃ e, q ≤ e ∧ e ≤ n ∧ LF F d la_206_1 lb_206_1 lc_206_1 N ([(2, 158), (0, q), w], Hp L xs m) = some (0, [], ([(2, 158), (0, e), w], Hp L xs m)) ∧ pB (bt b n) n (n - q + 1).toNat true q = pb b n e := by
  obtain ⟨y1, y2, y3, y4⟩ := Y
  have Y : YM m b n := ⟨y1, y2, y3, y4⟩
  intro j
  induction j with
  | zero =>
    intro q N h0 h1 h2 hn
    obtain ⟨N, rfl⟩ : ∃ n', N = n' + 1 := ⟨N - 1, by omega⟩
    have hq : q = n := by omega
    subst hq
    refine ⟨q, by omega, by omega, ?_, ?_⟩
    · rw [lf_s]
      simp (disch := first | omega | assumption) only [ea_206_1, eb_206_1, ec_206_1, l1_i, l1_1, l1_0, l2_0, l2_1, l2_2, l2_3, l3_0, w2_0, w2_1, w2_2, w2_3, d1_0, d1_1, d1_2, d1_3, d2_i, d2_1, d2_0, ev_0, ev_1, ev_16, ev_17, ev_18, ev_2, ev_3, ev_4, ev_5, ev_6, ev_7, ev_8, ev_9, ev_20, ev_21, ev_22, ev_23, ev_24, ev_25, ev_27, ev_28, ev_30, ev_31, ev_32, ev_33, ev_34, ev_35, ev_36, ev_37, ev_38, ev_39, ev_40, ev_41, ev_42, ev_43, ev_45, ev_46, ev_47, ev_48, ev_49, ev_50, ev_51, ev_52, ev_54, ev_55, ev_57, ev_58, ev_59, k2_0, k2_1, k2_2, k3a, k3b, k4, o1_s, xbin_0, xbin_1, xbin_2, xbin_3, xbin_4, xbin_5, xbin_6, xbin_7, xbin_8, xbin_9, xbin_11, xbin_12, xun_0, xun_1, xun_2, xun_3, xun_4, xun_5, k6a, k8, k8b, k9, k20, k20b_0, k20b_1, k20b_2, k20b_3, k20b_4, k20b_5, k21_0, k21_1, k21_2, k21_3, k21_4, k21_5, k23, k24, k25, k27, k28, k40, nz_1, nz_2, nz_3, k31_0, k31_1, k31_2, k31_3, k32u, k33, k34, k35, k35b, k36, k37, k38, k47, k49, k49b_0, k49b_1, k49b_2, k49b_3, k50_0, k50_s, k51_0, k51_s, k55, k58, k58b, rk_0, rk_1, rk_2, rk_9, rk_3, rk_4, rk_5, sw_n, sw_c, xtb_n, xtb_c, lset_0, lset_2, lset_1, lkm_0, lkm_2, lkm_9, lkm_1, lkm_n, if_some1, c_10, c_01, c_x0, c_1x, c_n0, c_nn, List.getElem?_cons_zero, List.getElem?_cons_succ, List.set_cons_zero, List.set_cons_succ, List.length_cons, List.length_nil, Int.reduceToNat, Nat.reduceDiv, Nat.reduceMod, Nat.reduceSub, Nat.reduceAdd, Nat.reduceMul, Nat.reduceLT, Nat.reduceLeDiff, Nat.reduceEqDiff, Int.reduceMod, Int.reduceSub, Int.reduceNeg, Int.reduceAdd, Int.reduceMul, Int.reduceLT, Int.reduceLE, Int.reduceEq, put_ss, if_true, if_false, ite_true, ite_false, reduceIte, eq_self, and_true, true_and, and_false, false_and, or_true, true_or, or_false, false_or, not_true_eq_false, not_false_eq_true, k5_158_3, k34_158_3, k5_158_2, k6_160, k35_160, n_160, y1, Int.lt_irrefl]
    · rw [pb_n, show (q - q + 1).toNat = 0 + 1 from by omega]
      exact if_pos (Int.le_refl _)
  | succ j ih =>
    intro q N h0 h1 h2 hn
    obtain ⟨N, rfl⟩ : ∃ n', N = n' + 1 := ⟨N - 1, by omega⟩
    by_cases hq : q < n
    · obtain ⟨b1, b2, b3, b4⟩ := YM_b Y (p := q) h0 hq
      have e1 : (n - q + 1).toNat = (n - q).toNat + 1 := by omega
      have e2 : (n - (q + 1) + 1).toNat = (n - q).toNat := by omega
      by_cases g : bt b n q = 10
      · refine ⟨q, by omega, by omega, ?_, ?_⟩
        · rw [lf_s]
          simp (disch := first | omega | assumption) only [ea_206_1, eb_206_1, ec_206_1, l1_i, l1_1, l1_0, l2_0, l2_1, l2_2, l2_3, l3_0, w2_0, w2_1, w2_2, w2_3, d1_0, d1_1, d1_2, d1_3, d2_i, d2_1, d2_0, ev_0, ev_1, ev_16, ev_17, ev_18, ev_2, ev_3, ev_4, ev_5, ev_6, ev_7, ev_8, ev_9, ev_20, ev_21, ev_22, ev_23, ev_24, ev_25, ev_27, ev_28, ev_30, ev_31, ev_32, ev_33, ev_34, ev_35, ev_36, ev_37, ev_38, ev_39, ev_40, ev_41, ev_42, ev_43, ev_45, ev_46, ev_47, ev_48, ev_49, ev_50, ev_51, ev_52, ev_54, ev_55, ev_57, ev_58, ev_59, k2_0, k2_1, k2_2, k3a, k3b, k4, o1_s, xbin_0, xbin_1, xbin_2, xbin_3, xbin_4, xbin_5, xbin_6, xbin_7, xbin_8, xbin_9, xbin_11, xbin_12, xun_0, xun_1, xun_2, xun_3, xun_4, xun_5, k6a, k8, k8b, k9, k20, k20b_0, k20b_1, k20b_2, k20b_3, k20b_4, k20b_5, k21_0, k21_1, k21_2, k21_3, k21_4, k21_5, k23, k24, k25, k27, k28, k40, nz_1, nz_2, nz_3, k31_0, k31_1, k31_2, k31_3, k32u, k33, k34, k35, k35b, k36, k37, k38, k47, k49, k49b_0, k49b_1, k49b_2, k49b_3, k50_0, k50_s, k51_0, k51_s, k55, k58, k58b, rk_0, rk_1, rk_2, rk_9, rk_3, rk_4, rk_5, sw_n, sw_c, xtb_n, xtb_c, lset_0, lset_2, lset_1, lkm_0, lkm_2, lkm_9, lkm_1, lkm_n, if_some1, c_10, c_01, c_x0, c_1x, c_n0, c_nn, List.getElem?_cons_zero, List.getElem?_cons_succ, List.set_cons_zero, List.set_cons_succ, List.length_cons, List.length_nil, Int.reduceToNat, Nat.reduceDiv, Nat.reduceMod, Nat.reduceSub, Nat.reduceAdd, Nat.reduceMul, Nat.reduceLT, Nat.reduceLeDiff, Nat.reduceEqDiff, Int.reduceMod, Int.reduceSub, Int.reduceNeg, Int.reduceAdd, Int.reduceMul, Int.reduceLT, Int.reduceLE, Int.reduceEq, put_ss, if_true, if_false, ite_true, ite_false, reduceIte, eq_self, and_true, true_and, and_false, false_and, or_true, true_or, or_false, false_or, not_true_eq_false, not_false_eq_true, k5_158_3, k34_158_3, k5_158_2, k6_160, k35_160, n_160, y1, hq, b4, g]
        · rw [pb_s hq, if_neg (by omega), if_pos g, e1]
          unfold pb
          rw [e2]
          show (if n ≤ q then n else if bt b n q = 35 then _ else if bt b n q = 10 then pB (bt b n) n (n - q).toNat false (q + 1) else _) = _
          rw [if_neg (by omega), if_neg (by omega), if_pos g]
      · obtain ⟨e, i1, i2, c1, i3⟩ := ih (q + 1) N (by omega) (by omega) (by omega) (by omega)
        refine ⟨e, by omega, i2, ?_, ?_⟩
        · rw [lf_s]
          simp (disch := first | omega | assumption) only [ea_206_1, eb_206_1, ec_206_1, l1_i, l1_1, l1_0, l2_0, l2_1, l2_2, l2_3, l3_0, w2_0, w2_1, w2_2, w2_3, d1_0, d1_1, d1_2, d1_3, d2_i, d2_1, d2_0, ev_0, ev_1, ev_16, ev_17, ev_18, ev_2, ev_3, ev_4, ev_5, ev_6, ev_7, ev_8, ev_9, ev_20, ev_21, ev_22, ev_23, ev_24, ev_25, ev_27, ev_28, ev_30, ev_31, ev_32, ev_33, ev_34, ev_35, ev_36, ev_37, ev_38, ev_39, ev_40, ev_41, ev_42, ev_43, ev_45, ev_46, ev_47, ev_48, ev_49, ev_50, ev_51, ev_52, ev_54, ev_55, ev_57, ev_58, ev_59, k2_0, k2_1, k2_2, k3a, k3b, k4, o1_s, xbin_0, xbin_1, xbin_2, xbin_3, xbin_4, xbin_5, xbin_6, xbin_7, xbin_8, xbin_9, xbin_11, xbin_12, xun_0, xun_1, xun_2, xun_3, xun_4, xun_5, k6a, k8, k8b, k9, k20, k20b_0, k20b_1, k20b_2, k20b_3, k20b_4, k20b_5, k21_0, k21_1, k21_2, k21_3, k21_4, k21_5, k23, k24, k25, k27, k28, k40, nz_1, nz_2, nz_3, k31_0, k31_1, k31_2, k31_3, k32u, k33, k34, k35, k35b, k36, k37, k38, k47, k49, k49b_0, k49b_1, k49b_2, k49b_3, k50_0, k50_s, k51_0, k51_s, k55, k58, k58b, rk_0, rk_1, rk_2, rk_9, rk_3, rk_4, rk_5, sw_n, sw_c, xtb_n, xtb_c, lset_0, lset_2, lset_1, lkm_0, lkm_2, lkm_9, lkm_1, lkm_n, if_some1, c_10, c_01, c_x0, c_1x, c_n0, c_nn, List.getElem?_cons_zero, List.getElem?_cons_succ, List.set_cons_zero, List.set_cons_succ, List.length_cons, List.length_nil, Int.reduceToNat, Nat.reduceDiv, Nat.reduceMod, Nat.reduceSub, Nat.reduceAdd, Nat.reduceMul, Nat.reduceLT, Nat.reduceLeDiff, Nat.reduceEqDiff, Int.reduceMod, Int.reduceSub, Int.reduceNeg, Int.reduceAdd, Int.reduceMul, Int.reduceLT, Int.reduceLE, Int.reduceEq, put_ss, if_true, if_false, ite_true, ite_false, reduceIte, eq_self, and_true, true_and, and_false, false_and, or_true, true_or, or_false, false_or, not_true_eq_false, not_false_eq_true, k5_158_3, k34_158_3, k5_158_2, k6_160, k35_160, n_160, y1, hq, b4, g, w32_of, c1]
        · rw [← i3, e1, e2]
          show (if n ≤ q then n else if bt b n q = 35 then pB (bt b n) n (n - q).toNat true (q + 1) else if bt b n q = 10 then _ else if true = false ∧ bt b n q ≠ 9 ∧ bt b n q ≠ 13 ∧ bt b n q ≠ 32 then q else pB (bt b n) n (n - q).toNat true (q + 1)) = _
          rw [if_neg (by omega)]
          by_cases g2 : bt b n q = 35
          · rw [if_pos g2]
          · rw [if_neg g2, if_neg g, if_neg (fun z => Bool.noConfusion z.1)]
    · have hq : q = n := by omega
      subst hq
      refine ⟨q, by omega, by omega, ?_, ?_⟩
      · rw [lf_s]
        simp (disch := first | omega | assumption) only [ea_206_1, eb_206_1, ec_206_1, l1_i, l1_1, l1_0, l2_0, l2_1, l2_2, l2_3, l3_0, w2_0, w2_1, w2_2, w2_3, d1_0, d1_1, d1_2, d1_3, d2_i, d2_1, d2_0, ev_0, ev_1, ev_16, ev_17, ev_18, ev_2, ev_3, ev_4, ev_5, ev_6, ev_7, ev_8, ev_9, ev_20, ev_21, ev_22, ev_23, ev_24, ev_25, ev_27, ev_28, ev_30, ev_31, ev_32, ev_33, ev_34, ev_35, ev_36, ev_37, ev_38, ev_39, ev_40, ev_41, ev_42, ev_43, ev_45, ev_46, ev_47, ev_48, ev_49, ev_50, ev_51, ev_52, ev_54, ev_55, ev_57, ev_58, ev_59, k2_0, k2_1, k2_2, k3a, k3b, k4, o1_s, xbin_0, xbin_1, xbin_2, xbin_3, xbin_4, xbin_5, xbin_6, xbin_7, xbin_8, xbin_9, xbin_11, xbin_12, xun_0, xun_1, xun_2, xun_3, xun_4, xun_5, k6a, k8, k8b, k9, k20, k20b_0, k20b_1, k20b_2, k20b_3, k20b_4, k20b_5, k21_0, k21_1, k21_2, k21_3, k21_4, k21_5, k23, k24, k25, k27, k28, k40, nz_1, nz_2, nz_3, k31_0, k31_1, k31_2, k31_3, k32u, k33, k34, k35, k35b, k36, k37, k38, k47, k49, k49b_0, k49b_1, k49b_2, k49b_3, k50_0, k50_s, k51_0, k51_s, k55, k58, k58b, rk_0, rk_1, rk_2, rk_9, rk_3, rk_4, rk_5, sw_n, sw_c, xtb_n, xtb_c, lset_0, lset_2, lset_1, lkm_0, lkm_2, lkm_9, lkm_1, lkm_n, if_some1, c_10, c_01, c_x0, c_1x, c_n0, c_nn, List.getElem?_cons_zero, List.getElem?_cons_succ, List.set_cons_zero, List.set_cons_succ, List.length_cons, List.length_nil, Int.reduceToNat, Nat.reduceDiv, Nat.reduceMod, Nat.reduceSub, Nat.reduceAdd, Nat.reduceMul, Nat.reduceLT, Nat.reduceLeDiff, Nat.reduceEqDiff, Int.reduceMod, Int.reduceSub, Int.reduceNeg, Int.reduceAdd, Int.reduceMul, Int.reduceLT, Int.reduceLE, Int.reduceEq, put_ss, if_true, if_false, ite_true, ite_false, reduceIte, eq_self, and_true, true_and, and_false, false_and, or_true, true_or, or_false, false_or, not_true_eq_false, not_false_eq_true, k5_158_3, k34_158_3, k5_158_2, k6_160, k35_160, n_160, y1, Int.lt_irrefl]
      · rw [pb_n, show (q - q + 1).toNat = 0 + 1 from by omega]
        exact if_pos (Int.le_refl _)
/-- what the model's cutting leaves -/
def KM (m m' : Mem) : Prop := ∀ a k, (a ≠ 161 ∧ a ≠ 162 ∧ a ≠ 163 ∧ (a = 158 → k ≠ 4)) → m' a k = m a k
theorem KM_aM {k p v : Int} : KM m (aM m k p v) := fun a j h => by
  obtain ⟨h1, h2, h3, h4⟩ := h
  unfold aM
  rw [put_ss, put_ss, put_ss, put_ss, if_neg h1, if_neg h2, if_neg h3]
  by_cases z : a = 158
  · rw [if_pos z, if_neg (h4 z)]
  · rw [if_neg z]
theorem KM_tr {m1 m2 m3 : Mem} (h1 : KM m1 m2) (h2 : KM m2 m3) : KM m1 m3 := fun a k h => (h2 a k h).trans (h1 a k h)
theorem KM_YM {m' : Mem} (K : KM m m') (Y : YM m b n) : YM m' b n := by
  obtain ⟨y1, y2, y3, y4⟩ := Y
  refine ⟨?_, y2, y3, fun k hk => ?_⟩
  · rw [K 158 3 (by omega)]; exact y1
  · rw [K 160 k (by omega)]; exact y4 k hk
theorem KM_KY {m' : Mem} (K : KM m m') (Y : KYm m) : KYm m' := fun k hk => by
  rw [K 164 k (by omega)]; exact Y k hk
theorem TkG_ok {m : Mem} (Y : YM m b n) (h0 : 0 ≤ p) (h1 : p < n) : TkG (tok b n p) n p :=
  (C_138 (F := 100000) (L := 0) (xs := fun _ => 0) (d := 0) (p := p) (n := n) (b := b) (m := fun a k => if a = 56 then kyL.getD k 0 else if a = 51 ∧ k = 1 then n else if a = 52 then b k else 0) (by omega) ⟨rfl, Y.2.1, Y.2.2.1, fun k hk => ⟨by
    obtain ⟨z1, z2, z3⟩ := Y.2.2.2 k hk
    show iand (b k) 255 = b k
    rw [iand_255]; exact Int.emod_eq_of_lt z2 (by omega), (Y.2.2.2 k hk).2⟩⟩ (fun _ _ => rfl) h0 h1 (by show (0 : Int) ≤ 0; omega) (by show (0 : Int) ≤ 3000; omega) (by show (0 : Int) ≤ 0; omega) (by show (0 : Int) < 1510; omega)).2
end SplitM
