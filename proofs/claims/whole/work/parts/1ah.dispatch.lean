/-! CLASS AND MODEL, THE SECOND WALK: the whens of a try are told -/
def nW : xT → Nat
  | .tag k (.nest _ (.append _ b)) => match k with
    | 31 => nW b + 1
    | _ => 0
  | _ => 0
def wWs (mc : Mem) : xT → List Int → Int → xSt → xSt
  | .tag k (.nest i (.append _ b)) => fun w l s => match k with
    | 31 => wWs mc b (w ++ [i + 1]) (l + 1) (dupB mc (i + 1) w (em 24 (nmI mc (idT mc (i + 1))) l (us mc (i + 1) 3 s)))
    | _ => s
  | _ => fun _ _ s => s
def dgX (m : Mem) (n : Int) : Int := if topK m (vlT m n) < 0 then 0 else inX m (vlT m n)
def dsM : xT → Int → Mem → Mem
  | .tag k (.nest i (.append _ b)) => fun l m => match k with
    | 31 => dsM b (l + 1) (emG m 24 (dgX m (i + 1)) l 0 false)
    | _ => m
  | _ => fun _ m => m
section Dsp
variable {K V : Int → Int}
theorem P11_q : ∀ (k : Nat) (t : xT), tsz t < k → ∀ (dep p q : Int), P K V t 11 dep p q → K q ≠ 12 ∧ 4 * (nW t : Int) ≤ q - p := by
  intro k
  induction k with
  | zero => intro t ht; exact absurd ht (Nat.not_lt_zero _)
  | succ k ih =>
    intro t ht dep p q h
    rcases inv_11 h with ⟨i, a, b, rfl, g1, g2, g3, r, g4, g5⟩ | ⟨i, a, b, rfl, hpq, ho⟩
    · rw [tsz_nd] at ht
      have := ih b (by omega) _ _ _ g5
      have l1 : p + 2 + 2 ≤ r := by
        obtain ⟨i, a, b, rfl, ho, h30, hv, r, h1, h3, hq2⟩ := inv_8 g4
        have := P_le a h1
        omega
      refine ⟨this.1, ?_⟩
      have e1 : nW (nd 31 i a b) = nW b + 1 := rfl
      rw [e1]
      omega
    · subst hpq
      refine ⟨ho, ?_⟩
      have e1 : nW (nd 32 i a b) = 0 := rfl
      rw [e1]
      omega
theorem wW_eq {mc : Mem} : ∀ (k : Nat) (t : xT), tsz t < k → ∀ (dep p q : Int), P K V t 11 dep p q → ∀ (w : List Int) (s : xSt) (y : yS), y.1.length + nW t < 3000 → wW mc t w (s, y) = (wWs mc t w (y.1.length : Int) s, (y.1 ++ List.replicate (nW t) (-1), y.2)) := by
  intro k
  induction k with
  | zero => intro t ht; exact absurd ht (Nat.not_lt_zero _)
  | succ k ih =>
    intro t ht dep p q h w s y hy
    rcases inv_11 h with ⟨i, a, b, rfl, g1, g2, g3, r, g4, g5⟩ | ⟨i, a, b, rfl, hpq, ho⟩
    · rw [tsz_nd] at ht
      have e1 : nW (nd 31 i a b) = nW b + 1 := rfl
      rw [e1] at hy ⊢
      have hl : y.1.length < 3000 := by omega
      have e2 : wW mc (nd 31 i a b) w (s, y) = wW mc b (w ++ [i + 1]) (dupB mc (i + 1) w (em 24 (nmI mc (idT mc (i + 1))) (nln y) (us mc (i + 1) 3 s)), nlb y) := rfl
      have hyl : (nlb y).1.length = y.1.length + 1 := by rw [nlb_1 hl, List.length_append, List.length_replicate]
      rw [e2, ih b (by omega) _ _ _ g5 _ _ (nlb y) (by omega), nln_1 hl, hyl, nlb_1 hl]
      have e3 : ((y.1.length + 1 : Nat) : Int) = (y.1.length : Int) + 1 := by omega
      rw [e3]
      show (_, (y.1 ++ List.replicate 1 (-1) ++ List.replicate (nW b) (-1), y.2)) = _
      rw [List.append_assoc, List.replicate_append_replicate, Nat.add_comm 1]
      rfl
    · show (s, y) = (s, (y.1 ++ List.replicate 0 (-1), y.2))
      rw [List.replicate_zero, List.append_nil]
variable {F L d : Nat} {xs : Nat → Int32} {m : Mem} {e : Int}
theorem L_w0 (hT : ∀ j, 0 ≤ j → j ≤ e → TR (K j) (m 161 j.toNat) (m 163 j.toNat)) (he : e < 1400) (hF : 100000 ≤ F) {x1 x2 x3 x4 : Int} {l7 l8 l9 : Nat × Int} : ∀ (k : Nat) (t : xT), tsz t < k → ∀ (dep p q : Int), P K V t 11 dep p q → 0 ≤ p → q ≤ e → ∀ (many : Int) (n : Nat), 0 ≤ many → many ≤ p → q - p < n → LF F (d + 10) la_234_0 lb_234_0 lc_234_0 n ([(2, 158), (0, x1), (0, x2), (0, x3), (0, x4), (0, many), (0, p), l7, l8, l9], Hp L xs m) = some (0, [], ([(2, 158), (0, x1), (0, x2), (0, x3), (0, x4), (0, many + nW t), (0, q), l7, l8, l9], Hp L xs m)) := by
  intro k
  induction k with
  | zero => intro t ht; exact absurd ht (Nat.not_lt_zero _)
  | succ k ih =>
    intro t ht dep p q h hp hq many n hm0 hm1 hn
    have l0 := P_le t h
    obtain ⟨n, rfl⟩ : ∃ n', n = n' + 1 := ⟨n - 1, by omega⟩
    have hTp := hT p hp (by omega)
    rcases inv_11 h with ⟨i, a, b, rfl, g1, g2, g3, r, g4, g5⟩ | ⟨i, a, b, rfl, hpq, ho⟩
    · rw [tsz_nd] at ht
      have l1 := P_le a g4
      have l2 := P_le b g5
      have e1 : nW (nd 31 i a b) = nW b + 1 := rfl
      rw [e1]
      have c1 := fun D => M_235 (F := F) (L := L) (xs := xs) (d := D) hT (by omega) hF (by omega) (by omega) g4
      have c2 := ih b (by omega) dep r q g5 (by omega) hq (many + 1) n (by omega) (by omega) (by omega)
      have e2 : many + 1 + (nW b : Int) = many + ((nW b + 1 : Nat) : Int) := by omega
      rw [e2] at c2
      have k1 : m 161 p.toNat = 3 ∧ m 163 p.toNat = 8 := by rw [g1] at hTp; unfold TR at hTp; omega
      obtain ⟨k1, k2⟩ := k1
      rw [lf_s]
      simp (disch := first | omega | assumption) only [ea_234_0, eb_234_0, ec_234_0, ev_0, ev_1, ev_16, ev_17, ev_18, ev_2, ev_3, ev_4, ev_5, ev_6, ev_7, ev_8, ev_9, ev_20, ev_21, ev_22, ev_23, ev_24, ev_25, ev_27, ev_28, ev_30, ev_31, ev_32, ev_33, ev_34, ev_35, ev_36, ev_37, ev_38, ev_39, ev_40, ev_41, ev_42, ev_43, ev_45, ev_46, ev_47, ev_48, ev_49, ev_50, ev_51, ev_52, ev_54, ev_55, ev_57, ev_58, ev_59, k2_0, k2_1, k2_2, k3a, k3b, k4, o1_s, xbin_0, xbin_1, xbin_2, xbin_3, xbin_4, xbin_5, xbin_6, xbin_7, xbin_8, xbin_9, xbin_11, xbin_12, xun_0, xun_1, xun_2, xun_3, xun_4, xun_5, k6a, k8, k8b, k9, k20, k20b_0, k20b_1, k20b_2, k20b_3, k20b_4, k20b_5, k21_0, k21_1, k21_2, k21_3, k21_4, k21_5, k23, k24, k25, k27, k28, k40, nz_1, nz_2, nz_3, k31_0, k31_1, k31_2, k31_3, k32u, k33, k34, k35, k35b, k36, k37, k38, k47, k49, k49b_0, k49b_1, k49b_2, k49b_3, k50_0, k50_s, k51_0, k51_s, k55, k58, k58b, rk_0, rk_1, rk_2, rk_9, rk_3, rk_4, rk_5, sw_n, sw_c, xtb_n, xtb_c, lset_0, lset_2, lset_1, lkm_0, lkm_2, lkm_9, lkm_1, lkm_n, if_some1, c_10, c_01, c_x0, c_1x, c_n0, c_nn, List.getElem?_cons_zero, List.getElem?_cons_succ, List.set_cons_zero, List.set_cons_succ, List.length_cons, List.length_nil, Int.reduceToNat, Nat.reduceDiv, Nat.reduceMod, Nat.reduceSub, Nat.reduceAdd, Nat.reduceMul, Nat.reduceLT, Nat.reduceLeDiff, Nat.reduceEqDiff, Int.reduceMod, Int.reduceSub, Int.reduceNeg, Int.reduceAdd, Int.reduceMul, Int.reduceLT, Int.reduceLE, Int.reduceEq, put_ss, if_true, if_false, ite_true, ite_false, reduceIte, eq_self, and_true, true_and, and_false, false_and, or_true, true_or, or_false, false_or, not_true_eq_false, not_false_eq_true, k5_158_14, k34_158_14, k34i_158_14, k5_158_15, k34_158_15, k34i_158_15, k5_158_13, k34_158_13, k54_158_13, k54b_158_13_0, k54b_158_13_1, k5_158_48, k34_158_48, k5_158_5, k6_161, k35_161, n_161, k5_158_7, k6_163, k35_163, n_163, k5_158_12, k34_158_12, k54_158_12, k54b_158_12_0, k5_158_17, k34_158_17, k54_158_17, k54b_158_17_0, k5_158_18, k6_165, k35_165, n_165, k5_158_20, k6_167, k35_167, n_167, rv_t, rv_d, rv_x, rv_y, rp_t, rp_d, rp_x, rp_y, w32_of, l1_i, l1_1, l1_0, l2_0, l2_1, l2_2, l2_3, l3_0, w2_0, w2_1, w2_2, w2_3, d1_0, d1_1, d1_2, d1_3, d2_i, d2_1, d2_0, k1, k2, c1, c2]
    · subst hpq
      have e1 : nW (nd 32 i a b) = 0 := rfl
      have e2 : many + ((0 : Nat) : Int) = many := by omega
      rw [e1, e2, lf_s]
      by_cases k1 : m 161 p.toNat = 3
      · have k2 : ¬ m 163 p.toNat = 8 := fun z => ho (by unfold TR at hTp; omega)
        simp (disch := first | omega | assumption) only [ea_234_0, eb_234_0, ec_234_0, ev_0, ev_1, ev_16, ev_17, ev_18, ev_2, ev_3, ev_4, ev_5, ev_6, ev_7, ev_8, ev_9, ev_20, ev_21, ev_22, ev_23, ev_24, ev_25, ev_27, ev_28, ev_30, ev_31, ev_32, ev_33, ev_34, ev_35, ev_36, ev_37, ev_38, ev_39, ev_40, ev_41, ev_42, ev_43, ev_45, ev_46, ev_47, ev_48, ev_49, ev_50, ev_51, ev_52, ev_54, ev_55, ev_57, ev_58, ev_59, k2_0, k2_1, k2_2, k3a, k3b, k4, o1_s, xbin_0, xbin_1, xbin_2, xbin_3, xbin_4, xbin_5, xbin_6, xbin_7, xbin_8, xbin_9, xbin_11, xbin_12, xun_0, xun_1, xun_2, xun_3, xun_4, xun_5, k6a, k8, k8b, k9, k20, k20b_0, k20b_1, k20b_2, k20b_3, k20b_4, k20b_5, k21_0, k21_1, k21_2, k21_3, k21_4, k21_5, k23, k24, k25, k27, k28, k40, nz_1, nz_2, nz_3, k31_0, k31_1, k31_2, k31_3, k32u, k33, k34, k35, k35b, k36, k37, k38, k47, k49, k49b_0, k49b_1, k49b_2, k49b_3, k50_0, k50_s, k51_0, k51_s, k55, k58, k58b, rk_0, rk_1, rk_2, rk_9, rk_3, rk_4, rk_5, sw_n, sw_c, xtb_n, xtb_c, lset_0, lset_2, lset_1, lkm_0, lkm_2, lkm_9, lkm_1, lkm_n, if_some1, c_10, c_01, c_x0, c_1x, c_n0, c_nn, List.getElem?_cons_zero, List.getElem?_cons_succ, List.set_cons_zero, List.set_cons_succ, List.length_cons, List.length_nil, Int.reduceToNat, Nat.reduceDiv, Nat.reduceMod, Nat.reduceSub, Nat.reduceAdd, Nat.reduceMul, Nat.reduceLT, Nat.reduceLeDiff, Nat.reduceEqDiff, Int.reduceMod, Int.reduceSub, Int.reduceNeg, Int.reduceAdd, Int.reduceMul, Int.reduceLT, Int.reduceLE, Int.reduceEq, put_ss, if_true, if_false, ite_true, ite_false, reduceIte, eq_self, and_true, true_and, and_false, false_and, or_true, true_or, or_false, false_or, not_true_eq_false, not_false_eq_true, k5_158_14, k34_158_14, k34i_158_14, k5_158_15, k34_158_15, k34i_158_15, k5_158_13, k34_158_13, k54_158_13, k54b_158_13_0, k54b_158_13_1, k5_158_48, k34_158_48, k5_158_5, k6_161, k35_161, n_161, k5_158_7, k6_163, k35_163, n_163, k5_158_12, k34_158_12, k54_158_12, k54b_158_12_0, k5_158_17, k34_158_17, k54_158_17, k54b_158_17_0, k5_158_18, k6_165, k35_165, n_165, k5_158_20, k6_167, k35_167, n_167, rv_t, rv_d, rv_x, rv_y, rp_t, rp_d, rp_x, rp_y, w32_of, l1_i, l1_1, l1_0, l2_0, l2_1, l2_2, l2_3, l3_0, w2_0, w2_1, w2_2, w2_3, d1_0, d1_1, d1_2, d1_3, d2_i, d2_1, d2_0, k1, k2]
      · simp (disch := first | omega | assumption) only [ea_234_0, eb_234_0, ec_234_0, ev_0, ev_1, ev_16, ev_17, ev_18, ev_2, ev_3, ev_4, ev_5, ev_6, ev_7, ev_8, ev_9, ev_20, ev_21, ev_22, ev_23, ev_24, ev_25, ev_27, ev_28, ev_30, ev_31, ev_32, ev_33, ev_34, ev_35, ev_36, ev_37, ev_38, ev_39, ev_40, ev_41, ev_42, ev_43, ev_45, ev_46, ev_47, ev_48, ev_49, ev_50, ev_51, ev_52, ev_54, ev_55, ev_57, ev_58, ev_59, k2_0, k2_1, k2_2, k3a, k3b, k4, o1_s, xbin_0, xbin_1, xbin_2, xbin_3, xbin_4, xbin_5, xbin_6, xbin_7, xbin_8, xbin_9, xbin_11, xbin_12, xun_0, xun_1, xun_2, xun_3, xun_4, xun_5, k6a, k8, k8b, k9, k20, k20b_0, k20b_1, k20b_2, k20b_3, k20b_4, k20b_5, k21_0, k21_1, k21_2, k21_3, k21_4, k21_5, k23, k24, k25, k27, k28, k40, nz_1, nz_2, nz_3, k31_0, k31_1, k31_2, k31_3, k32u, k33, k34, k35, k35b, k36, k37, k38, k47, k49, k49b_0, k49b_1, k49b_2, k49b_3, k50_0, k50_s, k51_0, k51_s, k55, k58, k58b, rk_0, rk_1, rk_2, rk_9, rk_3, rk_4, rk_5, sw_n, sw_c, xtb_n, xtb_c, lset_0, lset_2, lset_1, lkm_0, lkm_2, lkm_9, lkm_1, lkm_n, if_some1, c_10, c_01, c_x0, c_1x, c_n0, c_nn, List.getElem?_cons_zero, List.getElem?_cons_succ, List.set_cons_zero, List.set_cons_succ, List.length_cons, List.length_nil, Int.reduceToNat, Nat.reduceDiv, Nat.reduceMod, Nat.reduceSub, Nat.reduceAdd, Nat.reduceMul, Nat.reduceLT, Nat.reduceLeDiff, Nat.reduceEqDiff, Int.reduceMod, Int.reduceSub, Int.reduceNeg, Int.reduceAdd, Int.reduceMul, Int.reduceLT, Int.reduceLE, Int.reduceEq, put_ss, if_true, if_false, ite_true, ite_false, reduceIte, eq_self, and_true, true_and, and_false, false_and, or_true, true_or, or_false, false_or, not_true_eq_false, not_false_eq_true, k5_158_14, k34_158_14, k34i_158_14, k5_158_15, k34_158_15, k34i_158_15, k5_158_13, k34_158_13, k54_158_13, k54b_158_13_0, k54b_158_13_1, k5_158_48, k34_158_48, k5_158_5, k6_161, k35_161, n_161, k5_158_7, k6_163, k35_163, n_163, k5_158_12, k34_158_12, k54_158_12, k54b_158_12_0, k5_158_17, k34_158_17, k54_158_17, k54b_158_17_0, k5_158_18, k6_165, k35_165, n_165, k5_158_20, k6_167, k35_167, n_167, rv_t, rv_d, rv_x, rv_y, rp_t, rp_d, rp_x, rp_y, w32_of, l1_i, l1_1, l1_0, l2_0, l2_1, l2_2, l2_3, l3_0, w2_0, w2_1, w2_2, w2_3, d1_0, d1_1, d1_2, d1_3, d2_i, d2_1, d2_0, k1]
theorem L_w1 {x1 x2 x3 x4 p dep many : Int} {l8 l9 : Nat × Int} (hm : many < 1000) : ∀ (j : Nat) (k : Int) (n : Nat) (m : Mem) (l7 : Nat × Int), 0 ≤ k → many = k + j → j < n → 0 ≤ m 158 46 → m 158 46 + j < 12000 → ∃ l7', LF F (d + 10) la_234_1 lb_234_1 lc_234_1 n ([(2, 158), (0, x1), (0, x2), (0, x3), (0, x4), (0, many), (0, k), l7, l8, l9], Hp L xs (rv p dep m)) = some (0, [], ([(2, 158), (0, x1), (0, x2), (0, x3), (0, x4), (0, many), (0, many), l7', l8, l9], Hp L xs (rv p dep (put m 158 46 (m 158 46 + j))))) := by
  intro j
  induction j with
  | zero =>
    intro k n m l7 h0 hk hn h46 h46b
    obtain ⟨n, rfl⟩ : ∃ n', n = n' + 1 := ⟨n - 1, by omega⟩
    refine ⟨l7, ?_⟩
    have e1 : m 158 46 + ((0 : Nat) : Int) = m 158 46 := by omega
    have e2 : many = k := by omega
    subst e2
    have e3 : ¬ many < many := by omega
    rw [e1, ps30, lf_s]
    simp (disch := first | omega | assumption) only [ea_234_1, eb_234_1, ec_234_1, ev_0, ev_1, ev_16, ev_17, ev_18, ev_2, ev_3, ev_4, ev_5, ev_6, ev_7, ev_8, ev_9, ev_20, ev_21, ev_22, ev_23, ev_24, ev_25, ev_27, ev_28, ev_30, ev_31, ev_32, ev_33, ev_34, ev_35, ev_36, ev_37, ev_38, ev_39, ev_40, ev_41, ev_42, ev_43, ev_45, ev_46, ev_47, ev_48, ev_49, ev_50, ev_51, ev_52, ev_54, ev_55, ev_57, ev_58, ev_59, k2_0, k2_1, k2_2, k3a, k3b, k4, o1_s, xbin_0, xbin_1, xbin_2, xbin_3, xbin_4, xbin_5, xbin_6, xbin_7, xbin_8, xbin_9, xbin_11, xbin_12, xun_0, xun_1, xun_2, xun_3, xun_4, xun_5, k6a, k8, k8b, k9, k20, k20b_0, k20b_1, k20b_2, k20b_3, k20b_4, k20b_5, k21_0, k21_1, k21_2, k21_3, k21_4, k21_5, k23, k24, k25, k27, k28, k40, nz_1, nz_2, nz_3, k31_0, k31_1, k31_2, k31_3, k32u, k33, k34, k35, k35b, k36, k37, k38, k47, k49, k49b_0, k49b_1, k49b_2, k49b_3, k50_0, k50_s, k51_0, k51_s, k55, k58, k58b, rk_0, rk_1, rk_2, rk_9, rk_3, rk_4, rk_5, sw_n, sw_c, xtb_n, xtb_c, lset_0, lset_2, lset_1, lkm_0, lkm_2, lkm_9, lkm_1, lkm_n, if_some1, c_10, c_01, c_x0, c_1x, c_n0, c_nn, List.getElem?_cons_zero, List.getElem?_cons_succ, List.set_cons_zero, List.set_cons_succ, List.length_cons, List.length_nil, Int.reduceToNat, Nat.reduceDiv, Nat.reduceMod, Nat.reduceSub, Nat.reduceAdd, Nat.reduceMul, Nat.reduceLT, Nat.reduceLeDiff, Nat.reduceEqDiff, Int.reduceMod, Int.reduceSub, Int.reduceNeg, Int.reduceAdd, Int.reduceMul, Int.reduceLT, Int.reduceLE, Int.reduceEq, put_ss, if_true, if_false, ite_true, ite_false, reduceIte, eq_self, and_true, true_and, and_false, false_and, or_true, true_or, or_false, false_or, not_true_eq_false, not_false_eq_true, k5_158_14, k34_158_14, k34i_158_14, k5_158_15, k34_158_15, k34i_158_15, k5_158_13, k34_158_13, k54_158_13, k54b_158_13_0, k54b_158_13_1, k5_158_48, k34_158_48, k5_158_5, k6_161, k35_161, n_161, k5_158_7, k6_163, k35_163, n_163, k5_158_12, k34_158_12, k54_158_12, k54b_158_12_0, k5_158_17, k34_158_17, k54_158_17, k54b_158_17_0, k5_158_18, k6_165, k35_165, n_165, k5_158_20, k6_167, k35_167, n_167, rv_t, rv_d, rv_x, rv_y, rp_t, rp_d, rp_x, rp_y, w32_of, l1_i, l1_1, l1_0, l2_0, l2_1, l2_2, l2_3, l3_0, w2_0, w2_1, w2_2, w2_3, d1_0, d1_1, d1_2, d1_3, d2_i, d2_1, d2_0, e3]
  | succ j ih =>
    intro k n m l7 h0 hk hn h46 h46b
    obtain ⟨n, rfl⟩ : ∃ n', n = n' + 1 := ⟨n - 1, by omega⟩
    obtain ⟨l7', c2⟩ := ih (k + 1) n (put m 158 46 (m 158 46 + 1)) (0, m 158 46) (by omega) (by omega) (by omega) (by show 0 ≤ m 158 46 + 1; omega) (by show m 158 46 + 1 + (j : Int) < 12000; omega)
    have e1 : put m 158 46 (m 158 46 + 1) 158 46 + (j : Int) = m 158 46 + ((j + 1 : Nat) : Int) := by show m 158 46 + 1 + (j : Int) = _; omega
    rw [e1, pp30] at c2
    refine ⟨l7', ?_⟩
    have c1 := fun D => M_244 (F := F) (L := L) (xs := xs) (d := D) (m := m) (p := p) (dep := dep) h46 (by omega)
    have e3 : k < many := by omega
    rw [lf_s]
    simp (disch := first | omega | assumption) only [ea_234_1, eb_234_1, ec_234_1, ev_0, ev_1, ev_16, ev_17, ev_18, ev_2, ev_3, ev_4, ev_5, ev_6, ev_7, ev_8, ev_9, ev_20, ev_21, ev_22, ev_23, ev_24, ev_25, ev_27, ev_28, ev_30, ev_31, ev_32, ev_33, ev_34, ev_35, ev_36, ev_37, ev_38, ev_39, ev_40, ev_41, ev_42, ev_43, ev_45, ev_46, ev_47, ev_48, ev_49, ev_50, ev_51, ev_52, ev_54, ev_55, ev_57, ev_58, ev_59, k2_0, k2_1, k2_2, k3a, k3b, k4, o1_s, xbin_0, xbin_1, xbin_2, xbin_3, xbin_4, xbin_5, xbin_6, xbin_7, xbin_8, xbin_9, xbin_11, xbin_12, xun_0, xun_1, xun_2, xun_3, xun_4, xun_5, k6a, k8, k8b, k9, k20, k20b_0, k20b_1, k20b_2, k20b_3, k20b_4, k20b_5, k21_0, k21_1, k21_2, k21_3, k21_4, k21_5, k23, k24, k25, k27, k28, k40, nz_1, nz_2, nz_3, k31_0, k31_1, k31_2, k31_3, k32u, k33, k34, k35, k35b, k36, k37, k38, k47, k49, k49b_0, k49b_1, k49b_2, k49b_3, k50_0, k50_s, k51_0, k51_s, k55, k58, k58b, rk_0, rk_1, rk_2, rk_9, rk_3, rk_4, rk_5, sw_n, sw_c, xtb_n, xtb_c, lset_0, lset_2, lset_1, lkm_0, lkm_2, lkm_9, lkm_1, lkm_n, if_some1, c_10, c_01, c_x0, c_1x, c_n0, c_nn, List.getElem?_cons_zero, List.getElem?_cons_succ, List.set_cons_zero, List.set_cons_succ, List.length_cons, List.length_nil, Int.reduceToNat, Nat.reduceDiv, Nat.reduceMod, Nat.reduceSub, Nat.reduceAdd, Nat.reduceMul, Nat.reduceLT, Nat.reduceLeDiff, Nat.reduceEqDiff, Int.reduceMod, Int.reduceSub, Int.reduceNeg, Int.reduceAdd, Int.reduceMul, Int.reduceLT, Int.reduceLE, Int.reduceEq, put_ss, if_true, if_false, ite_true, ite_false, reduceIte, eq_self, and_true, true_and, and_false, false_and, or_true, true_or, or_false, false_or, not_true_eq_false, not_false_eq_true, k5_158_14, k34_158_14, k34i_158_14, k5_158_15, k34_158_15, k34i_158_15, k5_158_13, k34_158_13, k54_158_13, k54b_158_13_0, k54b_158_13_1, k5_158_48, k34_158_48, k5_158_5, k6_161, k35_161, n_161, k5_158_7, k6_163, k35_163, n_163, k5_158_12, k34_158_12, k54_158_12, k54b_158_12_0, k5_158_17, k34_158_17, k54_158_17, k54b_158_17_0, k5_158_18, k6_165, k35_165, n_165, k5_158_20, k6_167, k35_167, n_167, rv_t, rv_d, rv_x, rv_y, rp_t, rp_d, rp_x, rp_y, w32_of, l1_i, l1_1, l1_0, l2_0, l2_1, l2_2, l2_3, l3_0, w2_0, w2_1, w2_2, w2_3, d1_0, d1_1, d1_2, d1_3, d2_i, d2_1, d2_0, e3, c1, c2]
theorem L_w2 {mc : Mem} (he : e < 1400) (hF : 100000 ≤ F) {x1 x2 x3 x4 x5 pos dep0 : Int} {l9 : Nat × Int} (hx4 : 0 ≤ x4 ∧ x4 < 3000) : ∀ (k : Nat) (t : xT), tsz t < k → ∀ (dep p q : Int), P (kd mc) V t 11 dep p q → 0 ≤ p → q ≤ e → ∀ (c : Int) (n : Nat) (m : Mem) (l8 : Nat × Int), SE mc m e → WU m → m 158 15 = 0 → m 158 41 + (q - p) < 2990 → 0 ≤ c → c ≤ p → q - p < n → ∃ c' l8', LF F (d + 10) la_234_2 lb_234_2 lc_234_2 n ([(2, 158), (0, x1), (0, x2), (0, x3), (0, x4), (0, x5), (0, c), (0, p), l8, l9], Hp L xs (rv pos dep0 m)) = some (0, [], ([(2, 158), (0, x1), (0, x2), (0, x3), (0, x4), (0, x5), (0, c'), (0, q), l8', l9], Hp L xs (rv pos dep0 (dsM t (x4 + c) m)))) := by
  intro k
  induction k with
  | zero => intro t ht; exact absurd ht (Nat.not_lt_zero _)
  | succ k ih =>
    intro t ht dep p q h hp hq c n m l8 S0 U hb h41 hc0 hc1 hn
    have l0 := P_le t h
    obtain ⟨n, rfl⟩ : ∃ n', n = n' + 1 := ⟨n - 1, by omega⟩
    have hTp := S0.tr p hp (by omega)
    rcases inv_11 h with ⟨i, a, b, rfl, g1, g2, g3, r, g4, g5⟩ | ⟨i, a, b, rfl, hpq, ho⟩
    · rw [tsz_nd] at ht
      have l1 := P_le a g4
      have l2 := P_le b g5
      subst g3
      have W := WU_B U hb
      have c1 := fun D => M_235 (F := F) (L := L) (xs := xs) (d := D) (m := rv pos dep0 (emG m 24 (dgX m (i + 1)) (x4 + c) 0 false)) (fun j j0 j1 => (SE_FS S0 (FS_emG (m := m) (o := 24) (a := dgX m (i + 1)) (l := x4 + c) (u := 0) (z := false))).tr j j0 j1) (by omega) hF (by omega) (by omega) g4
      have g41 := (Fm_emG (m := m) (o := 24) (a := dgX m (i + 1)) (l := x4 + c) (u := 0) (z := false) (Or.inl hb))
      have g41b := g41.2.2.2.1
      obtain ⟨c', l8', c2⟩ := ih b (by omega) dep r q g5 (by omega) hq (c + 1) n (emG m 24 (dgX m (i + 1)) (x4 + c) 0 false) (0, topK m (m 163 (i + 1).toNat)) (SE_FS S0 FS_emG) (WU_Fm U g41 (by omega)) (emG_ok hb) (by omega) (by omega) (by omega) (by omega)
      have e2 : x4 + (c + 1) = x4 + c + 1 := by omega
      rw [e2] at c2
      refine ⟨c', l8', ?_⟩
      have e3 : dsM (nd 31 i a b) (x4 + c) m = dsM b (x4 + c + 1) (emG m 24 (dgX m (i + 1)) (x4 + c) 0 false) := rfl
      rw [e3]
      have k1 : m 161 i.toNat = 3 ∧ m 163 i.toNat = 8 := by rw [g1] at hTp; unfold TR at hTp; omega
      obtain ⟨k1, k2⟩ := k1
      have c3 := fun D => M_217r (F := F) (L := L) (xs := xs) (p := pos) (dep := dep0) (d := D) (c := m 163 (i + 1).toNat) hF W
      have c4 := fun D => R_246_24 (F := F) (L := L) (xs := xs) (d := D) (p := pos) (dep := dep0) (a := dgX m (i + 1)) (l := x4 + c) U
      have tb := topK_b (c := m 163 (i + 1).toNat) W
      have ed : dgX m (i + 1) = if topK m (m 163 (i + 1).toNat) < 0 then 0 else m 167 (topK m (m 163 (i + 1).toNat)).toNat := rfl
      rw [lf_s]
      generalize hmm : emG m 24 (dgX m (i + 1)) (x4 + c) 0 false = mm at *
      by_cases hk : topK m (m 163 (i + 1).toNat) < 0
      · rw [ed, if_pos hk] at c4
        generalize topK m (m 163 (i + 1).toNat) = kt at *
        simp (disch := first | omega | assumption) only [ea_234_2, eb_234_2, ec_234_2, ev_0, ev_1, ev_16, ev_17, ev_18, ev_2, ev_3, ev_4, ev_5, ev_6, ev_7, ev_8, ev_9, ev_20, ev_21, ev_22, ev_23, ev_24, ev_25, ev_27, ev_28, ev_30, ev_31, ev_32, ev_33, ev_34, ev_35, ev_36, ev_37, ev_38, ev_39, ev_40, ev_41, ev_42, ev_43, ev_45, ev_46, ev_47, ev_48, ev_49, ev_50, ev_51, ev_52, ev_54, ev_55, ev_57, ev_58, ev_59, k2_0, k2_1, k2_2, k3a, k3b, k4, o1_s, xbin_0, xbin_1, xbin_2, xbin_3, xbin_4, xbin_5, xbin_6, xbin_7, xbin_8, xbin_9, xbin_11, xbin_12, xun_0, xun_1, xun_2, xun_3, xun_4, xun_5, k6a, k8, k8b, k9, k20, k20b_0, k20b_1, k20b_2, k20b_3, k20b_4, k20b_5, k21_0, k21_1, k21_2, k21_3, k21_4, k21_5, k23, k24, k25, k27, k28, k40, nz_1, nz_2, nz_3, k31_0, k31_1, k31_2, k31_3, k32u, k33, k34, k35, k35b, k36, k37, k38, k47, k49, k49b_0, k49b_1, k49b_2, k49b_3, k50_0, k50_s, k51_0, k51_s, k55, k58, k58b, rk_0, rk_1, rk_2, rk_9, rk_3, rk_4, rk_5, sw_n, sw_c, xtb_n, xtb_c, lset_0, lset_2, lset_1, lkm_0, lkm_2, lkm_9, lkm_1, lkm_n, if_some1, c_10, c_01, c_x0, c_1x, c_n0, c_nn, List.getElem?_cons_zero, List.getElem?_cons_succ, List.set_cons_zero, List.set_cons_succ, List.length_cons, List.length_nil, Int.reduceToNat, Nat.reduceDiv, Nat.reduceMod, Nat.reduceSub, Nat.reduceAdd, Nat.reduceMul, Nat.reduceLT, Nat.reduceLeDiff, Nat.reduceEqDiff, Int.reduceMod, Int.reduceSub, Int.reduceNeg, Int.reduceAdd, Int.reduceMul, Int.reduceLT, Int.reduceLE, Int.reduceEq, put_ss, if_true, if_false, ite_true, ite_false, reduceIte, eq_self, and_true, true_and, and_false, false_and, or_true, true_or, or_false, false_or, not_true_eq_false, not_false_eq_true, k5_158_14, k34_158_14, k34i_158_14, k5_158_15, k34_158_15, k34i_158_15, k5_158_13, k34_158_13, k54_158_13, k54b_158_13_0, k54b_158_13_1, k5_158_48, k34_158_48, k5_158_5, k6_161, k35_161, n_161, k5_158_7, k6_163, k35_163, n_163, k5_158_12, k34_158_12, k54_158_12, k54b_158_12_0, k5_158_17, k34_158_17, k54_158_17, k54b_158_17_0, k5_158_18, k6_165, k35_165, n_165, k5_158_20, k6_167, k35_167, n_167, rv_t, rv_d, rv_x, rv_y, rp_t, rp_d, rp_x, rp_y, w32_of, l1_i, l1_1, l1_0, l2_0, l2_1, l2_2, l2_3, l3_0, w2_0, w2_1, w2_2, w2_3, d1_0, d1_1, d1_2, d1_3, d2_i, d2_1, d2_0, k1, k2, c1, c2, c3, c4, hk]
      · rw [ed, if_neg hk] at c4
        generalize topK m (m 163 (i + 1).toNat) = kt at *
        simp (disch := first | omega | assumption) only [ea_234_2, eb_234_2, ec_234_2, ev_0, ev_1, ev_16, ev_17, ev_18, ev_2, ev_3, ev_4, ev_5, ev_6, ev_7, ev_8, ev_9, ev_20, ev_21, ev_22, ev_23, ev_24, ev_25, ev_27, ev_28, ev_30, ev_31, ev_32, ev_33, ev_34, ev_35, ev_36, ev_37, ev_38, ev_39, ev_40, ev_41, ev_42, ev_43, ev_45, ev_46, ev_47, ev_48, ev_49, ev_50, ev_51, ev_52, ev_54, ev_55, ev_57, ev_58, ev_59, k2_0, k2_1, k2_2, k3a, k3b, k4, o1_s, xbin_0, xbin_1, xbin_2, xbin_3, xbin_4, xbin_5, xbin_6, xbin_7, xbin_8, xbin_9, xbin_11, xbin_12, xun_0, xun_1, xun_2, xun_3, xun_4, xun_5, k6a, k8, k8b, k9, k20, k20b_0, k20b_1, k20b_2, k20b_3, k20b_4, k20b_5, k21_0, k21_1, k21_2, k21_3, k21_4, k21_5, k23, k24, k25, k27, k28, k40, nz_1, nz_2, nz_3, k31_0, k31_1, k31_2, k31_3, k32u, k33, k34, k35, k35b, k36, k37, k38, k47, k49, k49b_0, k49b_1, k49b_2, k49b_3, k50_0, k50_s, k51_0, k51_s, k55, k58, k58b, rk_0, rk_1, rk_2, rk_9, rk_3, rk_4, rk_5, sw_n, sw_c, xtb_n, xtb_c, lset_0, lset_2, lset_1, lkm_0, lkm_2, lkm_9, lkm_1, lkm_n, if_some1, c_10, c_01, c_x0, c_1x, c_n0, c_nn, List.getElem?_cons_zero, List.getElem?_cons_succ, List.set_cons_zero, List.set_cons_succ, List.length_cons, List.length_nil, Int.reduceToNat, Nat.reduceDiv, Nat.reduceMod, Nat.reduceSub, Nat.reduceAdd, Nat.reduceMul, Nat.reduceLT, Nat.reduceLeDiff, Nat.reduceEqDiff, Int.reduceMod, Int.reduceSub, Int.reduceNeg, Int.reduceAdd, Int.reduceMul, Int.reduceLT, Int.reduceLE, Int.reduceEq, put_ss, if_true, if_false, ite_true, ite_false, reduceIte, eq_self, and_true, true_and, and_false, false_and, or_true, true_or, or_false, false_or, not_true_eq_false, not_false_eq_true, k5_158_14, k34_158_14, k34i_158_14, k5_158_15, k34_158_15, k34i_158_15, k5_158_13, k34_158_13, k54_158_13, k54b_158_13_0, k54b_158_13_1, k5_158_48, k34_158_48, k5_158_5, k6_161, k35_161, n_161, k5_158_7, k6_163, k35_163, n_163, k5_158_12, k34_158_12, k54_158_12, k54b_158_12_0, k5_158_17, k34_158_17, k54_158_17, k54b_158_17_0, k5_158_18, k6_165, k35_165, n_165, k5_158_20, k6_167, k35_167, n_167, rv_t, rv_d, rv_x, rv_y, rp_t, rp_d, rp_x, rp_y, w32_of, l1_i, l1_1, l1_0, l2_0, l2_1, l2_2, l2_3, l3_0, w2_0, w2_1, w2_2, w2_3, d1_0, d1_1, d1_2, d1_3, d2_i, d2_1, d2_0, k1, k2, c1, c2, c3, c4, hk]
    · subst hpq
      have e3 : dsM (nd 32 i a b) (x4 + c) m = m := rfl
      rw [e3]
      refine ⟨c, l8, ?_⟩
      rw [lf_s]
      by_cases k1 : m 161 p.toNat = 3
      · have k2 : ¬ m 163 p.toNat = 8 := fun z => ho (by unfold TR at hTp; omega)
        simp (disch := first | omega | assumption) only [ea_234_2, eb_234_2, ec_234_2, ev_0, ev_1, ev_16, ev_17, ev_18, ev_2, ev_3, ev_4, ev_5, ev_6, ev_7, ev_8, ev_9, ev_20, ev_21, ev_22, ev_23, ev_24, ev_25, ev_27, ev_28, ev_30, ev_31, ev_32, ev_33, ev_34, ev_35, ev_36, ev_37, ev_38, ev_39, ev_40, ev_41, ev_42, ev_43, ev_45, ev_46, ev_47, ev_48, ev_49, ev_50, ev_51, ev_52, ev_54, ev_55, ev_57, ev_58, ev_59, k2_0, k2_1, k2_2, k3a, k3b, k4, o1_s, xbin_0, xbin_1, xbin_2, xbin_3, xbin_4, xbin_5, xbin_6, xbin_7, xbin_8, xbin_9, xbin_11, xbin_12, xun_0, xun_1, xun_2, xun_3, xun_4, xun_5, k6a, k8, k8b, k9, k20, k20b_0, k20b_1, k20b_2, k20b_3, k20b_4, k20b_5, k21_0, k21_1, k21_2, k21_3, k21_4, k21_5, k23, k24, k25, k27, k28, k40, nz_1, nz_2, nz_3, k31_0, k31_1, k31_2, k31_3, k32u, k33, k34, k35, k35b, k36, k37, k38, k47, k49, k49b_0, k49b_1, k49b_2, k49b_3, k50_0, k50_s, k51_0, k51_s, k55, k58, k58b, rk_0, rk_1, rk_2, rk_9, rk_3, rk_4, rk_5, sw_n, sw_c, xtb_n, xtb_c, lset_0, lset_2, lset_1, lkm_0, lkm_2, lkm_9, lkm_1, lkm_n, if_some1, c_10, c_01, c_x0, c_1x, c_n0, c_nn, List.getElem?_cons_zero, List.getElem?_cons_succ, List.set_cons_zero, List.set_cons_succ, List.length_cons, List.length_nil, Int.reduceToNat, Nat.reduceDiv, Nat.reduceMod, Nat.reduceSub, Nat.reduceAdd, Nat.reduceMul, Nat.reduceLT, Nat.reduceLeDiff, Nat.reduceEqDiff, Int.reduceMod, Int.reduceSub, Int.reduceNeg, Int.reduceAdd, Int.reduceMul, Int.reduceLT, Int.reduceLE, Int.reduceEq, put_ss, if_true, if_false, ite_true, ite_false, reduceIte, eq_self, and_true, true_and, and_false, false_and, or_true, true_or, or_false, false_or, not_true_eq_false, not_false_eq_true, k5_158_14, k34_158_14, k34i_158_14, k5_158_15, k34_158_15, k34i_158_15, k5_158_13, k34_158_13, k54_158_13, k54b_158_13_0, k54b_158_13_1, k5_158_48, k34_158_48, k5_158_5, k6_161, k35_161, n_161, k5_158_7, k6_163, k35_163, n_163, k5_158_12, k34_158_12, k54_158_12, k54b_158_12_0, k5_158_17, k34_158_17, k54_158_17, k54b_158_17_0, k5_158_18, k6_165, k35_165, n_165, k5_158_20, k6_167, k35_167, n_167, rv_t, rv_d, rv_x, rv_y, rp_t, rp_d, rp_x, rp_y, w32_of, l1_i, l1_1, l1_0, l2_0, l2_1, l2_2, l2_3, l3_0, w2_0, w2_1, w2_2, w2_3, d1_0, d1_1, d1_2, d1_3, d2_i, d2_1, d2_0, k1, k2]
      · simp (disch := first | omega | assumption) only [ea_234_2, eb_234_2, ec_234_2, ev_0, ev_1, ev_16, ev_17, ev_18, ev_2, ev_3, ev_4, ev_5, ev_6, ev_7, ev_8, ev_9, ev_20, ev_21, ev_22, ev_23, ev_24, ev_25, ev_27, ev_28, ev_30, ev_31, ev_32, ev_33, ev_34, ev_35, ev_36, ev_37, ev_38, ev_39, ev_40, ev_41, ev_42, ev_43, ev_45, ev_46, ev_47, ev_48, ev_49, ev_50, ev_51, ev_52, ev_54, ev_55, ev_57, ev_58, ev_59, k2_0, k2_1, k2_2, k3a, k3b, k4, o1_s, xbin_0, xbin_1, xbin_2, xbin_3, xbin_4, xbin_5, xbin_6, xbin_7, xbin_8, xbin_9, xbin_11, xbin_12, xun_0, xun_1, xun_2, xun_3, xun_4, xun_5, k6a, k8, k8b, k9, k20, k20b_0, k20b_1, k20b_2, k20b_3, k20b_4, k20b_5, k21_0, k21_1, k21_2, k21_3, k21_4, k21_5, k23, k24, k25, k27, k28, k40, nz_1, nz_2, nz_3, k31_0, k31_1, k31_2, k31_3, k32u, k33, k34, k35, k35b, k36, k37, k38, k47, k49, k49b_0, k49b_1, k49b_2, k49b_3, k50_0, k50_s, k51_0, k51_s, k55, k58, k58b, rk_0, rk_1, rk_2, rk_9, rk_3, rk_4, rk_5, sw_n, sw_c, xtb_n, xtb_c, lset_0, lset_2, lset_1, lkm_0, lkm_2, lkm_9, lkm_1, lkm_n, if_some1, c_10, c_01, c_x0, c_1x, c_n0, c_nn, List.getElem?_cons_zero, List.getElem?_cons_succ, List.set_cons_zero, List.set_cons_succ, List.length_cons, List.length_nil, Int.reduceToNat, Nat.reduceDiv, Nat.reduceMod, Nat.reduceSub, Nat.reduceAdd, Nat.reduceMul, Nat.reduceLT, Nat.reduceLeDiff, Nat.reduceEqDiff, Int.reduceMod, Int.reduceSub, Int.reduceNeg, Int.reduceAdd, Int.reduceMul, Int.reduceLT, Int.reduceLE, Int.reduceEq, put_ss, if_true, if_false, ite_true, ite_false, reduceIte, eq_self, and_true, true_and, and_false, false_and, or_true, true_or, or_false, false_or, not_true_eq_false, not_false_eq_true, k5_158_14, k34_158_14, k34i_158_14, k5_158_15, k34_158_15, k34i_158_15, k5_158_13, k34_158_13, k54_158_13, k54b_158_13_0, k54b_158_13_1, k5_158_48, k34_158_48, k5_158_5, k6_161, k35_161, n_161, k5_158_7, k6_163, k35_163, n_163, k5_158_12, k34_158_12, k54_158_12, k54b_158_12_0, k5_158_17, k34_158_17, k54_158_17, k54b_158_17_0, k5_158_18, k6_165, k35_165, n_165, k5_158_20, k6_167, k35_167, n_167, rv_t, rv_d, rv_x, rv_y, rp_t, rp_d, rp_x, rp_y, w32_of, l1_i, l1_1, l1_0, l2_0, l2_1, l2_2, l2_3, l3_0, w2_0, w2_1, w2_2, w2_3, d1_0, d1_1, d1_2, d1_3, d2_i, d2_1, d2_0, k1]
end Dsp
