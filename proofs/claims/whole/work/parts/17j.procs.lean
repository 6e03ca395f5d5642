/-! THE MAKER over procs: parameters, raises -/
def prF (m : Mem) : xT → zS → zS
  | .tag k (.nest i (.append _ b)) => fun c => match k with
    | 45 => (tlS m i c.2 c.1, ymk m i c.2)
    | _ => prF m b (tlS m i c.2 c.1, ymk m i c.2)
  | _ => fun c => c
def sq : Int → Nat → List Int
  | _, 0 => []
  | f, k + 1 => f :: sq (f + 2) k
def rsF (m : Mem) (f : Int) : xT → Nat → xSt → xSt
  | .tag k (.nest i (.append _ b)) => fun n s => match k with
    | 45 => dupB m i (sq f n) (us m i 3 s)
    | _ => rsF m f b (n + 1) (dupB m i (sq f n) (us m i 3 s))
  | _ => fun _ s => s
theorem inv_N {K : Int → Int} : ∀ {t : xT} {p q : Int}, PN K t p q → (∃ a b, t = nd 45 p a b ∧ K p = 2 ∧ q = p + 1 ∧ K q ≠ 44) ∨ (∃ a b, t = nd 46 p a b ∧ K p = 2 ∧ K (p + 1) = 44 ∧ PN K b (p + 2) q)
  | .tag k (.nest i (.append a b)), p, q, h => by
    have h2 := h
    unfold PN at h2
    split at h2
    · obtain ⟨g1, g2⟩ := h2
      subst g1
      exact Or.inl ⟨a, b, rfl, g2⟩
    · obtain ⟨g1, g2⟩ := h2
      subst g1
      exact Or.inr ⟨a, b, rfl, g2⟩
    · exact h2.elim
  | .nil, _, _, h => h.elim
  | .line, _, _, h => h.elim
  | .align _, _, _, h => h.elim
  | .text _, _, _, h => h.elim
  | .append _ _, _, _, h => h.elim
  | .group _ _, _, _, h => h.elim
  | .nest _ _, _, _, h => h.elim
  | .tag _ .nil, _, _, h => h.elim
  | .tag _ .line, _, _, h => h.elim
  | .tag _ (.align _), _, _, h => h.elim
  | .tag _ (.text _), _, _, h => h.elim
  | .tag _ (.append _ _), _, _, h => h.elim
  | .tag _ (.group _ _), _, _, h => h.elim
  | .tag _ (.tag _ _), _, _, h => h.elim
  | .tag _ (.nest _ .nil), _, _, h => h.elim
  | .tag _ (.nest _ .line), _, _, h => h.elim
  | .tag _ (.nest _ (.align _)), _, _, h => h.elim
  | .tag _ (.nest _ (.text _)), _, _, h => h.elim
  | .tag _ (.nest _ (.nest _ _)), _, _, h => h.elim
  | .tag _ (.nest _ (.group _ _)), _, _, h => h.elim
  | .tag _ (.nest _ (.tag _ _)), _, _, h => h.elim
section MakP
variable {F cd : Nat} {m : Mem} {e : Int}
theorem L_95 (hc : cd = 83 ∨ cd = 93) (h2 : m 68 2 = (cd : Int)) (hN : m 51 5 ≤ 3001) (h4 : m 57 4 ≤ 1510) (h7 : m 57 7 ≤ 300) (heN : e < m 51 5) (hF : 100000 ≤ F) : ∀ (k : Nat) (t : xT), tsz t < k → ∀ (x r : Int), PN (kd m) t x r → kd m r = 41 → 0 ≤ x → r ≤ e → ∀ (L : Nat) (xs : Nat → Int32) (d : Nat) (H : Int) (s : xSt) (y : yS) (f : Int) (n : Nat), YI y → e - x < n → YI (prF m t (s, y)).2 ∧ (prF m t (s, y)).2.1 = y.1 ∧ LF F (d + 10) la_95_0 lb_95_0 lc_95_0 n ([(2, 68), (0, f), (9, 0)], Hp L xs (mv cd x s (sww H y m))) = some (0, [], ([(2, 68), (0, f), (9, 0)], Hp L xs (mv cd r (prF m t (s, y)).1 (sww H (prF m t (s, y)).2 m)))) := by
  intro k
  induction k with
  | zero => intro t ht; exact absurd ht (Nat.not_lt_zero _)
  | succ k ih =>
    intro t ht x r h hr h0 hre L xs d H s y f n hY hn
    have hnn := PN_n t h
    obtain ⟨n, rfl⟩ : ∃ n', n = n' + 1 := ⟨n - 1, by omega⟩
    have hx : x < m 51 5 := by omega
    have hx1 : x + 1 < m 51 5 := by omega
    have hy0 : 0 ≤ y.2.1 := hY.1
    have hyl : (ymk m x y).1 = y.1 := by unfold ymk; split <;> rfl
    rcases inv_N h with ⟨a, b, rfl, g1, g2, g3⟩ | ⟨a, b, rfl, g1, g2, g3⟩
    · subst g2
      obtain ⟨n, rfl⟩ : ∃ n', n = n' + 1 := ⟨n - 1, by omega⟩
      have e1 : prF m (nd 45 x a b) (s, y) = (tlS m x y s, ymk m x y) := rfl
      rw [e1]
      refine ⟨(YI_ymk hY).1, hyl, ?_⟩
      rw [lf_s]
      simp (disch := first | omega | assumption) only [ea_95_0, eb_95_0, ec_95_0, l1_i, l1_1, l1_0, l2_0, l2_1, l2_2, l2_3, l3_0, w2_0, w2_1, w2_2, w2_3, d1_0, d1_1, d1_2, d1_3, d2_i, d2_1, d2_0, ev_0, ev_1, ev_16, ev_17, ev_18, ev_2, ev_3, ev_4, ev_5, ev_6, ev_7, ev_8, ev_9, ev_20, ev_21, ev_22, ev_23, ev_24, ev_25, ev_27, ev_28, ev_30, ev_31, ev_32, ev_33, ev_34, ev_35, ev_36, ev_37, ev_38, ev_39, ev_40, ev_41, ev_42, ev_43, ev_45, ev_46, ev_47, ev_48, ev_49, ev_50, ev_51, ev_52, ev_54, ev_55, ev_57, ev_58, ev_59, k2_0, k2_1, k2_2, k3a, k3b, k4, o1_s, xbin_0, xbin_1, xbin_2, xbin_3, xbin_4, xbin_5, xbin_6, xbin_7, xbin_8, xbin_9, xbin_11, xbin_12, xun_0, xun_1, xun_2, xun_3, xun_4, xun_5, k6a, k8, k8b, k9, k20, k20b_0, k20b_1, k20b_2, k20b_3, k20b_4, k20b_5, k21_0, k21_1, k21_2, k21_3, k21_4, k21_5, k23, k24, k25, k27, k28, k40, nz_1, nz_2, nz_3, k31_0, k31_1, k31_2, k31_3, k32u, k33, k34, k35, k35b, k36, k37, k38, k47, k49, k49b_0, k49b_1, k49b_2, k49b_3, k50_0, k50_s, k51_0, k51_s, k55, k58, k58b, rk_0, rk_1, rk_2, rk_9, rk_3, rk_4, rk_5, sw_n, sw_c, xtb_n, xtb_c, lset_0, lset_2, lset_1, lkm_0, lkm_2, lkm_9, lkm_1, lkm_n, if_some1, c_10, c_01, c_x0, c_1x, c_n0, c_nn, List.getElem?_cons_zero, List.getElem?_cons_succ, List.set_cons_zero, List.set_cons_succ, List.length_cons, List.length_nil, Int.reduceToNat, Nat.reduceDiv, Nat.reduceMod, Nat.reduceSub, Nat.reduceAdd, Nat.reduceMul, Nat.reduceLT, Nat.reduceLeDiff, Nat.reduceEqDiff, Int.reduceMod, Int.reduceSub, Int.reduceNeg, Int.reduceAdd, Int.reduceMul, Int.reduceLT, Int.reduceLE, Int.reduceEq, put_ss, if_true, if_false, ite_true, ite_false, reduceIte, eq_self, and_true, true_and, and_false, false_and, or_true, true_or, or_false, false_or, not_true_eq_false, not_false_eq_true, k5_68_3, k34_68_3, k54_68_3, k54b_68_3_0, k5_68_0, k5_68_1, k5_68_5, k34_68_5, k5_68_7, k34_68_7, k54_68_7, k54b_68_7_0, k54b_68_7_1, k5_68_4, k34_68_4, k54_68_4, k54b_68_4_0, k5_68_12, k34_68_12, k54_68_12, k54b_68_12_0, k5_51_5, k34_51_5, k54_51_5, k54b_51_5_0, s_86, s_90, s_94, s_130, s_128, s_91, C_87, mv_p, mv_h, sw_5, mv_4, sw_4, mv_12, sw_12, mp_p, s_51, w32_of, ad2, ad3, mm_5, sp_5, C_92, mv_7, sw_7, g1, hx, hx1, hr, lf_s, ite_self]
    · rw [tsz_nd] at ht
      have hnn2 := PN_n b g3
      obtain ⟨n, rfl⟩ : ∃ n', n = n' + 1 := ⟨n - 1, by omega⟩
      obtain ⟨k1, k2, c1⟩ := ih b (by omega) (x + 2) r g3 hr (by omega) hre L xs d H (tlS m x y s) (ymk m x y) f n (YI_ymk hY).1 (by omega)
      have e1 : prF m (nd 46 x a b) (s, y) = prF m b (tlS m x y s, ymk m x y) := rfl
      rw [e1]
      refine ⟨k1, k2.trans hyl, ?_⟩
      rw [lf_s]
      simp (disch := first | omega | assumption) only [ea_95_0, eb_95_0, ec_95_0, l1_i, l1_1, l1_0, l2_0, l2_1, l2_2, l2_3, l3_0, w2_0, w2_1, w2_2, w2_3, d1_0, d1_1, d1_2, d1_3, d2_i, d2_1, d2_0, ev_0, ev_1, ev_16, ev_17, ev_18, ev_2, ev_3, ev_4, ev_5, ev_6, ev_7, ev_8, ev_9, ev_20, ev_21, ev_22, ev_23, ev_24, ev_25, ev_27, ev_28, ev_30, ev_31, ev_32, ev_33, ev_34, ev_35, ev_36, ev_37, ev_38, ev_39, ev_40, ev_41, ev_42, ev_43, ev_45, ev_46, ev_47, ev_48, ev_49, ev_50, ev_51, ev_52, ev_54, ev_55, ev_57, ev_58, ev_59, k2_0, k2_1, k2_2, k3a, k3b, k4, o1_s, xbin_0, xbin_1, xbin_2, xbin_3, xbin_4, xbin_5, xbin_6, xbin_7, xbin_8, xbin_9, xbin_11, xbin_12, xun_0, xun_1, xun_2, xun_3, xun_4, xun_5, k6a, k8, k8b, k9, k20, k20b_0, k20b_1, k20b_2, k20b_3, k20b_4, k20b_5, k21_0, k21_1, k21_2, k21_3, k21_4, k21_5, k23, k24, k25, k27, k28, k40, nz_1, nz_2, nz_3, k31_0, k31_1, k31_2, k31_3, k32u, k33, k34, k35, k35b, k36, k37, k38, k47, k49, k49b_0, k49b_1, k49b_2, k49b_3, k50_0, k50_s, k51_0, k51_s, k55, k58, k58b, rk_0, rk_1, rk_2, rk_9, rk_3, rk_4, rk_5, sw_n, sw_c, xtb_n, xtb_c, lset_0, lset_2, lset_1, lkm_0, lkm_2, lkm_9, lkm_1, lkm_n, if_some1, c_10, c_01, c_x0, c_1x, c_n0, c_nn, List.getElem?_cons_zero, List.getElem?_cons_succ, List.set_cons_zero, List.set_cons_succ, List.length_cons, List.length_nil, Int.reduceToNat, Nat.reduceDiv, Nat.reduceMod, Nat.reduceSub, Nat.reduceAdd, Nat.reduceMul, Nat.reduceLT, Nat.reduceLeDiff, Nat.reduceEqDiff, Int.reduceMod, Int.reduceSub, Int.reduceNeg, Int.reduceAdd, Int.reduceMul, Int.reduceLT, Int.reduceLE, Int.reduceEq, put_ss, if_true, if_false, ite_true, ite_false, reduceIte, eq_self, and_true, true_and, and_false, false_and, or_true, true_or, or_false, false_or, not_true_eq_false, not_false_eq_true, k5_68_3, k34_68_3, k54_68_3, k54b_68_3_0, k5_68_0, k5_68_1, k5_68_5, k34_68_5, k5_68_7, k34_68_7, k54_68_7, k54b_68_7_0, k54b_68_7_1, k5_68_4, k34_68_4, k54_68_4, k54b_68_4_0, k5_68_12, k34_68_12, k54_68_12, k54b_68_12_0, k5_51_5, k34_51_5, k54_51_5, k54b_51_5_0, s_86, s_90, s_94, s_130, s_128, s_91, C_87, mv_p, mv_h, sw_5, mv_4, sw_4, mv_12, sw_12, mp_p, s_51, w32_of, ad2, ad3, mm_5, sp_5, C_92, mv_7, sw_7, g1, g2, hx, hx1, c1, lf_s]
theorem L_97_1 (hc : cd = 83 ∨ cd = 93) (h2 : m 68 2 = (cd : Int)) (hN : m 51 5 ≤ 3001) (h4 : m 57 4 ≤ 1510) (h7 : m 57 7 ≤ 300) (heN : e < m 51 5) (hF : 100000 ≤ F) : ∀ (k : Nat) (L : Nat) (xs : Nat → Int32) (d : Nat) (x H : Int) (s : xSt) (y : yS) (u f : Int) (n : Nat), x = u + 2 * k → 0 ≤ u → x < m 51 5 → k < n → LF F (d + 10) la_97_1 lb_97_1 lc_97_1 n ([(2, 68), (0, f), (0, u)], Hp L xs (mv cd x s (sww H y m))) = some (0, [], ([(2, 68), (0, f), (0, x)], Hp L xs (mv cd x (dupB m x (sq u k) s) (sww H y m)))) := by
  intro k
  induction k with
  | zero =>
    intro L xs d x H s y u f n h h0 hx hn
    obtain ⟨n, rfl⟩ : ∃ n', n = n' + 1 := ⟨n - 1, by omega⟩
    have h' : x = u := by omega
    subst h'
    have hx2 : ¬ x < x := by omega
    rw [lf_s]
    simp (disch := first | omega | assumption) only [ea_97_1, eb_97_1, ec_97_1, l1_i, l1_1, l1_0, l2_0, l2_1, l2_2, l2_3, l3_0, w2_0, w2_1, w2_2, w2_3, d1_0, d1_1, d1_2, d1_3, d2_i, d2_1, d2_0, ev_0, ev_1, ev_16, ev_17, ev_18, ev_2, ev_3, ev_4, ev_5, ev_6, ev_7, ev_8, ev_9, ev_20, ev_21, ev_22, ev_23, ev_24, ev_25, ev_27, ev_28, ev_30, ev_31, ev_32, ev_33, ev_34, ev_35, ev_36, ev_37, ev_38, ev_39, ev_40, ev_41, ev_42, ev_43, ev_45, ev_46, ev_47, ev_48, ev_49, ev_50, ev_51, ev_52, ev_54, ev_55, ev_57, ev_58, ev_59, k2_0, k2_1, k2_2, k3a, k3b, k4, o1_s, xbin_0, xbin_1, xbin_2, xbin_3, xbin_4, xbin_5, xbin_6, xbin_7, xbin_8, xbin_9, xbin_11, xbin_12, xun_0, xun_1, xun_2, xun_3, xun_4, xun_5, k6a, k8, k8b, k9, k20, k20b_0, k20b_1, k20b_2, k20b_3, k20b_4, k20b_5, k21_0, k21_1, k21_2, k21_3, k21_4, k21_5, k23, k24, k25, k27, k28, k40, nz_1, nz_2, nz_3, k31_0, k31_1, k31_2, k31_3, k32u, k33, k34, k35, k35b, k36, k37, k38, k47, k49, k49b_0, k49b_1, k49b_2, k49b_3, k50_0, k50_s, k51_0, k51_s, k55, k58, k58b, rk_0, rk_1, rk_2, rk_9, rk_3, rk_4, rk_5, sw_n, sw_c, xtb_n, xtb_c, lset_0, lset_2, lset_1, lkm_0, lkm_2, lkm_9, lkm_1, lkm_n, if_some1, c_10, c_01, c_x0, c_1x, c_n0, c_nn, List.getElem?_cons_zero, List.getElem?_cons_succ, List.set_cons_zero, List.set_cons_succ, List.length_cons, List.length_nil, Int.reduceToNat, Nat.reduceDiv, Nat.reduceMod, Nat.reduceSub, Nat.reduceAdd, Nat.reduceMul, Nat.reduceLT, Nat.reduceLeDiff, Nat.reduceEqDiff, Int.reduceMod, Int.reduceSub, Int.reduceNeg, Int.reduceAdd, Int.reduceMul, Int.reduceLT, Int.reduceLE, Int.reduceEq, put_ss, if_true, if_false, ite_true, ite_false, reduceIte, eq_self, and_true, true_and, and_false, false_and, or_true, true_or, or_false, false_or, not_true_eq_false, not_false_eq_true, k5_68_3, k34_68_3, k54_68_3, k54b_68_3_0, k5_68_0, k5_68_1, k5_68_5, k34_68_5, k5_68_7, k34_68_7, k54_68_7, k54b_68_7_0, k54b_68_7_1, k5_68_4, k34_68_4, k54_68_4, k54b_68_4_0, k5_68_12, k34_68_12, k54_68_12, k54b_68_12_0, k5_51_5, k34_51_5, k54_51_5, k54b_51_5_0, s_86, s_90, s_94, s_130, s_128, s_91, C_87, mv_p, mv_h, sw_5, mv_4, sw_4, mv_12, sw_12, mp_p, s_51, w32_of, ad2, ad3, mm_5, sp_5, C_92, mv_7, sw_7, hx2, sq, dupB]
  | succ k ih =>
    intro L xs d x H s y u f n h h0 hx hn
    obtain ⟨n, rfl⟩ : ∃ n', n = n' + 1 := ⟨n - 1, by omega⟩
    have hx2 : u < x := by omega
    rw [lf_s]
    by_cases hd : idT m u = idT m x
    · have c5 := ih L xs d x H (bl m x s) y (u + 2) f n (by omega) (by omega) hx (by omega)
      have e2 : dupB m x (sq u (k + 1)) s = dupB m x (sq (u + 2) k) (bl m x s) := by
        show dupB m x (sq (u + 2) k) (if idT m u = idT m x then bl m x s else s) = _
        rw [if_pos hd]
      rw [e2]
      simp (disch := first | omega | assumption) only [ea_97_1, eb_97_1, ec_97_1, l1_i, l1_1, l1_0, l2_0, l2_1, l2_2, l2_3, l3_0, w2_0, w2_1, w2_2, w2_3, d1_0, d1_1, d1_2, d1_3, d2_i, d2_1, d2_0, ev_0, ev_1, ev_16, ev_17, ev_18, ev_2, ev_3, ev_4, ev_5, ev_6, ev_7, ev_8, ev_9, ev_20, ev_21, ev_22, ev_23, ev_24, ev_25, ev_27, ev_28, ev_30, ev_31, ev_32, ev_33, ev_34, ev_35, ev_36, ev_37, ev_38, ev_39, ev_40, ev_41, ev_42, ev_43, ev_45, ev_46, ev_47, ev_48, ev_49, ev_50, ev_51, ev_52, ev_54, ev_55, ev_57, ev_58, ev_59, k2_0, k2_1, k2_2, k3a, k3b, k4, o1_s, xbin_0, xbin_1, xbin_2, xbin_3, xbin_4, xbin_5, xbin_6, xbin_7, xbin_8, xbin_9, xbin_11, xbin_12, xun_0, xun_1, xun_2, xun_3, xun_4, xun_5, k6a, k8, k8b, k9, k20, k20b_0, k20b_1, k20b_2, k20b_3, k20b_4, k20b_5, k21_0, k21_1, k21_2, k21_3, k21_4, k21_5, k23, k24, k25, k27, k28, k40, nz_1, nz_2, nz_3, k31_0, k31_1, k31_2, k31_3, k32u, k33, k34, k35, k35b, k36, k37, k38, k47, k49, k49b_0, k49b_1, k49b_2, k49b_3, k50_0, k50_s, k51_0, k51_s, k55, k58, k58b, rk_0, rk_1, rk_2, rk_9, rk_3, rk_4, rk_5, sw_n, sw_c, xtb_n, xtb_c, lset_0, lset_2, lset_1, lkm_0, lkm_2, lkm_9, lkm_1, lkm_n, if_some1, c_10, c_01, c_x0, c_1x, c_n0, c_nn, List.getElem?_cons_zero, List.getElem?_cons_succ, List.set_cons_zero, List.set_cons_succ, List.length_cons, List.length_nil, Int.reduceToNat, Nat.reduceDiv, Nat.reduceMod, Nat.reduceSub, Nat.reduceAdd, Nat.reduceMul, Nat.reduceLT, Nat.reduceLeDiff, Nat.reduceEqDiff, Int.reduceMod, Int.reduceSub, Int.reduceNeg, Int.reduceAdd, Int.reduceMul, Int.reduceLT, Int.reduceLE, Int.reduceEq, put_ss, if_true, if_false, ite_true, ite_false, reduceIte, eq_self, and_true, true_and, and_false, false_and, or_true, true_or, or_false, false_or, not_true_eq_false, not_false_eq_true, k5_68_3, k34_68_3, k54_68_3, k54b_68_3_0, k5_68_0, k5_68_1, k5_68_5, k34_68_5, k5_68_7, k34_68_7, k54_68_7, k54b_68_7_0, k54b_68_7_1, k5_68_4, k34_68_4, k54_68_4, k54b_68_4_0, k5_68_12, k34_68_12, k54_68_12, k54b_68_12_0, k5_51_5, k34_51_5, k54_51_5, k54b_51_5_0, s_86, s_90, s_94, s_130, s_128, s_91, C_87, mv_p, mv_h, sw_5, mv_4, sw_4, mv_12, sw_12, mp_p, s_51, w32_of, ad2, ad3, mm_5, sp_5, C_92, mv_7, sw_7, hx2, hd, c5]
    · have c5 := ih L xs d x H s y (u + 2) f n (by omega) (by omega) hx (by omega)
      have e2 : dupB m x (sq u (k + 1)) s = dupB m x (sq (u + 2) k) s := by
        show dupB m x (sq (u + 2) k) (if idT m u = idT m x then bl m x s else s) = _
        rw [if_neg hd]
      rw [e2]
      simp (disch := first | omega | assumption) only [ea_97_1, eb_97_1, ec_97_1, l1_i, l1_1, l1_0, l2_0, l2_1, l2_2, l2_3, l3_0, w2_0, w2_1, w2_2, w2_3, d1_0, d1_1, d1_2, d1_3, d2_i, d2_1, d2_0, ev_0, ev_1, ev_16, ev_17, ev_18, ev_2, ev_3, ev_4, ev_5, ev_6, ev_7, ev_8, ev_9, ev_20, ev_21, ev_22, ev_23, ev_24, ev_25, ev_27, ev_28, ev_30, ev_31, ev_32, ev_33, ev_34, ev_35, ev_36, ev_37, ev_38, ev_39, ev_40, ev_41, ev_42, ev_43, ev_45, ev_46, ev_47, ev_48, ev_49, ev_50, ev_51, ev_52, ev_54, ev_55, ev_57, ev_58, ev_59, k2_0, k2_1, k2_2, k3a, k3b, k4, o1_s, xbin_0, xbin_1, xbin_2, xbin_3, xbin_4, xbin_5, xbin_6, xbin_7, xbin_8, xbin_9, xbin_11, xbin_12, xun_0, xun_1, xun_2, xun_3, xun_4, xun_5, k6a, k8, k8b, k9, k20, k20b_0, k20b_1, k20b_2, k20b_3, k20b_4, k20b_5, k21_0, k21_1, k21_2, k21_3, k21_4, k21_5, k23, k24, k25, k27, k28, k40, nz_1, nz_2, nz_3, k31_0, k31_1, k31_2, k31_3, k32u, k33, k34, k35, k35b, k36, k37, k38, k47, k49, k49b_0, k49b_1, k49b_2, k49b_3, k50_0, k50_s, k51_0, k51_s, k55, k58, k58b, rk_0, rk_1, rk_2, rk_9, rk_3, rk_4, rk_5, sw_n, sw_c, xtb_n, xtb_c, lset_0, lset_2, lset_1, lkm_0, lkm_2, lkm_9, lkm_1, lkm_n, if_some1, c_10, c_01, c_x0, c_1x, c_n0, c_nn, List.getElem?_cons_zero, List.getElem?_cons_succ, List.set_cons_zero, List.set_cons_succ, List.length_cons, List.length_nil, Int.reduceToNat, Nat.reduceDiv, Nat.reduceMod, Nat.reduceSub, Nat.reduceAdd, Nat.reduceMul, Nat.reduceLT, Nat.reduceLeDiff, Nat.reduceEqDiff, Int.reduceMod, Int.reduceSub, Int.reduceNeg, Int.reduceAdd, Int.reduceMul, Int.reduceLT, Int.reduceLE, Int.reduceEq, put_ss, if_true, if_false, ite_true, ite_false, reduceIte, eq_self, and_true, true_and, and_false, false_and, or_true, true_or, or_false, false_or, not_true_eq_false, not_false_eq_true, k5_68_3, k34_68_3, k54_68_3, k54b_68_3_0, k5_68_0, k5_68_1, k5_68_5, k34_68_5, k5_68_7, k34_68_7, k54_68_7, k54b_68_7_0, k54b_68_7_1, k5_68_4, k34_68_4, k54_68_4, k54b_68_4_0, k5_68_12, k34_68_12, k54_68_12, k54b_68_12_0, k5_51_5, k34_51_5, k54_51_5, k54b_51_5_0, s_86, s_90, s_94, s_130, s_128, s_91, C_87, mv_p, mv_h, sw_5, mv_4, sw_4, mv_12, sw_12, mp_p, s_51, w32_of, ad2, ad3, mm_5, sp_5, C_92, mv_7, sw_7, hx2, hd, c5]
theorem L_97_0 (hc : cd = 83 ∨ cd = 93) (h2 : m 68 2 = (cd : Int)) (hN : m 51 5 ≤ 3001) (h4 : m 57 4 ≤ 1510) (h7 : m 57 7 ≤ 300) (heN : e < m 51 5) (hF : 100000 ≤ F) : ∀ (k : Nat) (t : xT), tsz t < k → ∀ (x r f : Int) (j : Nat), PN (kd m) t x r → kd m r = 123 → x = f + 2 * j → 0 ≤ f → r ≤ e → ∀ (L : Nat) (xs : Nat → Int32) (d : Nat) (H : Int) (s : xSt) (y : yS) (z : Nat × Int) (n : Nat), e - x < n → ∃ z', LF F (d + 10) la_97_0 lb_97_0 lc_97_0 n ([(2, 68), (0, f), z], Hp L xs (mv cd x s (sww H y m))) = some (0, [], ([(2, 68), (0, f), z'], Hp L xs (mv cd r (rsF m f t j s) (sww H y m)))) := by
  intro k
  induction k with
  | zero => intro t ht; exact absurd ht (Nat.not_lt_zero _)
  | succ k ih =>
    intro t ht x r f j h hr hxf h0 hre L xs d H s y z n hn
    have hnn := PN_n t h
    obtain ⟨n, rfl⟩ : ∃ n', n = n' + 1 := ⟨n - 1, by omega⟩
    have hx : x < m 51 5 := by omega
    have hx1 : x + 1 < m 51 5 := by omega
    have c3 := L_97_1 hc h2 hN h4 h7 heN hF j L xs d x H (us m x 3 s) y f f F hxf h0 hx (by omega)
    rcases inv_N h with ⟨a, b, rfl, g1, g2, g3⟩ | ⟨a, b, rfl, g1, g2, g3⟩
    · subst g2
      obtain ⟨n, rfl⟩ : ∃ n', n = n' + 1 := ⟨n - 1, by omega⟩
      have e1 : rsF m f (nd 45 x a b) j s = dupB m x (sq f j) (us m x 3 s) := rfl
      rw [e1]
      refine ⟨(0, x), ?_⟩
      rw [lf_s]
      simp (disch := first | omega | assumption) only [ea_97_0, eb_97_0, ec_97_0, l1_i, l1_1, l1_0, l2_0, l2_1, l2_2, l2_3, l3_0, w2_0, w2_1, w2_2, w2_3, d1_0, d1_1, d1_2, d1_3, d2_i, d2_1, d2_0, ev_0, ev_1, ev_16, ev_17, ev_18, ev_2, ev_3, ev_4, ev_5, ev_6, ev_7, ev_8, ev_9, ev_20, ev_21, ev_22, ev_23, ev_24, ev_25, ev_27, ev_28, ev_30, ev_31, ev_32, ev_33, ev_34, ev_35, ev_36, ev_37, ev_38, ev_39, ev_40, ev_41, ev_42, ev_43, ev_45, ev_46, ev_47, ev_48, ev_49, ev_50, ev_51, ev_52, ev_54, ev_55, ev_57, ev_58, ev_59, k2_0, k2_1, k2_2, k3a, k3b, k4, o1_s, xbin_0, xbin_1, xbin_2, xbin_3, xbin_4, xbin_5, xbin_6, xbin_7, xbin_8, xbin_9, xbin_11, xbin_12, xun_0, xun_1, xun_2, xun_3, xun_4, xun_5, k6a, k8, k8b, k9, k20, k20b_0, k20b_1, k20b_2, k20b_3, k20b_4, k20b_5, k21_0, k21_1, k21_2, k21_3, k21_4, k21_5, k23, k24, k25, k27, k28, k40, nz_1, nz_2, nz_3, k31_0, k31_1, k31_2, k31_3, k32u, k33, k34, k35, k35b, k36, k37, k38, k47, k49, k49b_0, k49b_1, k49b_2, k49b_3, k50_0, k50_s, k51_0, k51_s, k55, k58, k58b, rk_0, rk_1, rk_2, rk_9, rk_3, rk_4, rk_5, sw_n, sw_c, xtb_n, xtb_c, lset_0, lset_2, lset_1, lkm_0, lkm_2, lkm_9, lkm_1, lkm_n, if_some1, c_10, c_01, c_x0, c_1x, c_n0, c_nn, List.getElem?_cons_zero, List.getElem?_cons_succ, List.set_cons_zero, List.set_cons_succ, List.length_cons, List.length_nil, Int.reduceToNat, Nat.reduceDiv, Nat.reduceMod, Nat.reduceSub, Nat.reduceAdd, Nat.reduceMul, Nat.reduceLT, Nat.reduceLeDiff, Nat.reduceEqDiff, Int.reduceMod, Int.reduceSub, Int.reduceNeg, Int.reduceAdd, Int.reduceMul, Int.reduceLT, Int.reduceLE, Int.reduceEq, put_ss, if_true, if_false, ite_true, ite_false, reduceIte, eq_self, and_true, true_and, and_false, false_and, or_true, true_or, or_false, false_or, not_true_eq_false, not_false_eq_true, k5_68_3, k34_68_3, k54_68_3, k54b_68_3_0, k5_68_0, k5_68_1, k5_68_5, k34_68_5, k5_68_7, k34_68_7, k54_68_7, k54b_68_7_0, k54b_68_7_1, k5_68_4, k34_68_4, k54_68_4, k54b_68_4_0, k5_68_12, k34_68_12, k54_68_12, k54b_68_12_0, k5_51_5, k34_51_5, k54_51_5, k54b_51_5_0, s_86, s_90, s_94, s_130, s_128, s_91, C_87, mv_p, mv_h, sw_5, mv_4, sw_4, mv_12, sw_12, mp_p, s_51, w32_of, ad2, ad3, mm_5, sp_5, C_92, mv_7, sw_7, g1, hx, hx1, hr, c3, lf_s]
    · rw [tsz_nd] at ht
      have hnn2 := PN_n b g3
      obtain ⟨n, rfl⟩ : ∃ n', n = n' + 1 := ⟨n - 1, by omega⟩
      obtain ⟨z', c1⟩ := ih b (by omega) (x + 2) r f (j + 1) g3 hr (by omega) h0 hre L xs d H (dupB m x (sq f j) (us m x 3 s)) y (0, x) n (by omega)
      have e1 : rsF m f (nd 46 x a b) j s = rsF m f b (j + 1) (dupB m x (sq f j) (us m x 3 s)) := rfl
      rw [e1]
      refine ⟨z', ?_⟩
      rw [lf_s]
      simp (disch := first | omega | assumption) only [ea_97_0, eb_97_0, ec_97_0, l1_i, l1_1, l1_0, l2_0, l2_1, l2_2, l2_3, l3_0, w2_0, w2_1, w2_2, w2_3, d1_0, d1_1, d1_2, d1_3, d2_i, d2_1, d2_0, ev_0, ev_1, ev_16, ev_17, ev_18, ev_2, ev_3, ev_4, ev_5, ev_6, ev_7, ev_8, ev_9, ev_20, ev_21, ev_22, ev_23, ev_24, ev_25, ev_27, ev_28, ev_30, ev_31, ev_32, ev_33, ev_34, ev_35, ev_36, ev_37, ev_38, ev_39, ev_40, ev_41, ev_42, ev_43, ev_45, ev_46, ev_47, ev_48, ev_49, ev_50, ev_51, ev_52, ev_54, ev_55, ev_57, ev_58, ev_59, k2_0, k2_1, k2_2, k3a, k3b, k4, o1_s, xbin_0, xbin_1, xbin_2, xbin_3, xbin_4, xbin_5, xbin_6, xbin_7, xbin_8, xbin_9, xbin_11, xbin_12, xun_0, xun_1, xun_2, xun_3, xun_4, xun_5, k6a, k8, k8b, k9, k20, k20b_0, k20b_1, k20b_2, k20b_3, k20b_4, k20b_5, k21_0, k21_1, k21_2, k21_3, k21_4, k21_5, k23, k24, k25, k27, k28, k40, nz_1, nz_2, nz_3, k31_0, k31_1, k31_2, k31_3, k32u, k33, k34, k35, k35b, k36, k37, k38, k47, k49, k49b_0, k49b_1, k49b_2, k49b_3, k50_0, k50_s, k51_0, k51_s, k55, k58, k58b, rk_0, rk_1, rk_2, rk_9, rk_3, rk_4, rk_5, sw_n, sw_c, xtb_n, xtb_c, lset_0, lset_2, lset_1, lkm_0, lkm_2, lkm_9, lkm_1, lkm_n, if_some1, c_10, c_01, c_x0, c_1x, c_n0, c_nn, List.getElem?_cons_zero, List.getElem?_cons_succ, List.set_cons_zero, List.set_cons_succ, List.length_cons, List.length_nil, Int.reduceToNat, Nat.reduceDiv, Nat.reduceMod, Nat.reduceSub, Nat.reduceAdd, Nat.reduceMul, Nat.reduceLT, Nat.reduceLeDiff, Nat.reduceEqDiff, Int.reduceMod, Int.reduceSub, Int.reduceNeg, Int.reduceAdd, Int.reduceMul, Int.reduceLT, Int.reduceLE, Int.reduceEq, put_ss, if_true, if_false, ite_true, ite_false, reduceIte, eq_self, and_true, true_and, and_false, false_and, or_true, true_or, or_false, false_or, not_true_eq_false, not_false_eq_true, k5_68_3, k34_68_3, k54_68_3, k54b_68_3_0, k5_68_0, k5_68_1, k5_68_5, k34_68_5, k5_68_7, k34_68_7, k54_68_7, k54b_68_7_0, k54b_68_7_1, k5_68_4, k34_68_4, k54_68_4, k54b_68_4_0, k5_68_12, k34_68_12, k54_68_12, k54b_68_12_0, k5_51_5, k34_51_5, k54_51_5, k54b_51_5_0, s_86, s_90, s_94, s_130, s_128, s_91, C_87, mv_p, mv_h, sw_5, mv_4, sw_4, mv_12, sw_12, mp_p, s_51, w32_of, ad2, ad3, mm_5, sp_5, C_92, mv_7, sw_7, g1, g2, hx, hx1, c3, c1, lf_s]
theorem C_97n (hc : cd = 83 ∨ cd = 93) (h2 : m 68 2 = (cd : Int)) (hN : m 51 5 ≤ 3001) (h4 : m 57 4 ≤ 1510) (h7 : m 57 7 ≤ 300) (heN : e < m 51 5) (hF : 100000 ≤ F) {L : Nat} {xs : Nat → Int32} {d : Nat} {x H : Int} {s : xSt} {y : yS} (hx : kd m x = 123) (h0 : 0 ≤ x) (hxe : x ≤ e) : Cx F (d + 11) 97 [68] (Hp L xs (mv cd x s (sww H y m))) = some ([], Hp L xs (mv cd x s (sww H y m))) := by
  obtain ⟨n9, hn9⟩ : ∃ n, F = n + 1 := ⟨F - 1, by omega⟩
  have c9 : ∀ s h, LF F (d + 10) la_97_0 lb_97_0 lc_97_0 F (s, h) = LF F (d + 10) la_97_0 lb_97_0 lc_97_0 (n9 + 1) (s, h) := fun s h => by rw [← hn9]
  have hxl : x < m 51 5 := by omega
  simp (disch := first | omega | assumption) only [c_97, tx_97, ev_0, ev_1, ev_16, ev_17, ev_18, ev_2, ev_3, ev_4, ev_5, ev_6, ev_7, ev_8, ev_9, ev_20, ev_21, ev_22, ev_23, ev_24, ev_25, ev_27, ev_28, ev_30, ev_31, ev_32, ev_33, ev_34, ev_35, ev_36, ev_37, ev_38, ev_39, ev_40, ev_41, ev_42, ev_43, ev_45, ev_46, ev_47, ev_48, ev_49, ev_50, ev_51, ev_52, ev_54, ev_55, ev_57, ev_58, ev_59, k2_0, k2_1, k2_2, k3a, k3b, k4, o1_s, xbin_0, xbin_1, xbin_2, xbin_3, xbin_4, xbin_5, xbin_6, xbin_7, xbin_8, xbin_9, xbin_11, xbin_12, xun_0, xun_1, xun_2, xun_3, xun_4, xun_5, k6a, k8, k8b, k9, k20, k20b_0, k20b_1, k20b_2, k20b_3, k20b_4, k20b_5, k21_0, k21_1, k21_2, k21_3, k21_4, k21_5, k23, k24, k25, k27, k28, k40, nz_1, nz_2, nz_3, k31_0, k31_1, k31_2, k31_3, k32u, k33, k34, k35, k35b, k36, k37, k38, k47, k49, k49b_0, k49b_1, k49b_2, k49b_3, k50_0, k50_s, k51_0, k51_s, k55, k58, k58b, rk_0, rk_1, rk_2, rk_9, rk_3, rk_4, rk_5, sw_n, sw_c, xtb_n, xtb_c, lset_0, lset_2, lset_1, lkm_0, lkm_2, lkm_9, lkm_1, lkm_n, if_some1, c_10, c_01, c_x0, c_1x, c_n0, c_nn, List.getElem?_cons_zero, List.getElem?_cons_succ, List.set_cons_zero, List.set_cons_succ, List.length_cons, List.length_nil, Int.reduceToNat, Nat.reduceDiv, Nat.reduceMod, Nat.reduceSub, Nat.reduceAdd, Nat.reduceMul, Nat.reduceLT, Nat.reduceLeDiff, Nat.reduceEqDiff, Int.reduceMod, Int.reduceSub, Int.reduceNeg, Int.reduceAdd, Int.reduceMul, Int.reduceLT, Int.reduceLE, Int.reduceEq, put_ss, if_true, if_false, ite_true, ite_false, reduceIte, eq_self, and_true, true_and, and_false, false_and, or_true, true_or, or_false, false_or, not_true_eq_false, not_false_eq_true, k5_68_3, k34_68_3, k54_68_3, k54b_68_3_0, k5_68_0, k5_68_1, k5_68_5, k34_68_5, k5_68_7, k34_68_7, k54_68_7, k54b_68_7_0, k54b_68_7_1, k5_68_4, k34_68_4, k54_68_4, k54b_68_4_0, k5_68_12, k34_68_12, k54_68_12, k54b_68_12_0, k5_51_5, k34_51_5, k54_51_5, k54b_51_5_0, s_86, s_90, s_94, s_130, s_128, s_91, C_87, mv_p, mv_h, sw_5, mv_4, sw_4, mv_12, sw_12, mp_p, s_51, w32_of, ad2, ad3, mm_5, sp_5, C_92, mv_7, sw_7, c9, lf_s, ea_97_0, eb_97_0, ec_97_0, l1_i, l1_1, l1_0, l2_0, l2_1, l2_2, l2_3, l3_0, w2_0, w2_1, w2_2, w2_3, d1_0, d1_1, d1_2, d1_3, d2_i, d2_1, d2_0, hx, hxl]
theorem C_97y (hc : cd = 83 ∨ cd = 93) (h2 : m 68 2 = (cd : Int)) (hN : m 51 5 ≤ 3001) (h4 : m 57 4 ≤ 1510) (h7 : m 57 7 ≤ 300) (heN : e < m 51 5) (hF : 100000 ≤ F) {L : Nat} {xs : Nat → Int32} {d : Nat} {x r H : Int} {s : xSt} {y : yS} {t : xT} (hx : kd m x = 7) (h : PN (kd m) t (x + 1) r) (hr : kd m r = 123) (h0 : 0 ≤ x) (hre : r ≤ e) : Cx F (d + 11) 97 [68] (Hp L xs (mv cd x s (sww H y m))) = some ([], Hp L xs (mv cd r (rsF m (x + 1) t 0 s) (sww H y m))) := by
  have hnn := PN_n t h
  obtain ⟨n9, hn9⟩ : ∃ n, F = n + 1 := ⟨F - 1, by omega⟩
  have c9 : ∀ s h, LF F (d + 10) la_97_0 lb_97_0 lc_97_0 F (s, h) = LF F (d + 10) la_97_0 lb_97_0 lc_97_0 (n9 + 1) (s, h) := fun s h => by rw [← hn9]
  have hxl : x < m 51 5 := by omega
  obtain ⟨z', c1⟩ := L_97_0 hc h2 hN h4 h7 heN hF (tsz t + 1) t (by omega) (x + 1) r (x + 1) 0 h hr (by omega) (by omega) hre L xs d H s y (9, 0) n9 (by omega)
  simp (disch := first | omega | assumption) only [c_97, tx_97, ev_0, ev_1, ev_16, ev_17, ev_18, ev_2, ev_3, ev_4, ev_5, ev_6, ev_7, ev_8, ev_9, ev_20, ev_21, ev_22, ev_23, ev_24, ev_25, ev_27, ev_28, ev_30, ev_31, ev_32, ev_33, ev_34, ev_35, ev_36, ev_37, ev_38, ev_39, ev_40, ev_41, ev_42, ev_43, ev_45, ev_46, ev_47, ev_48, ev_49, ev_50, ev_51, ev_52, ev_54, ev_55, ev_57, ev_58, ev_59, k2_0, k2_1, k2_2, k3a, k3b, k4, o1_s, xbin_0, xbin_1, xbin_2, xbin_3, xbin_4, xbin_5, xbin_6, xbin_7, xbin_8, xbin_9, xbin_11, xbin_12, xun_0, xun_1, xun_2, xun_3, xun_4, xun_5, k6a, k8, k8b, k9, k20, k20b_0, k20b_1, k20b_2, k20b_3, k20b_4, k20b_5, k21_0, k21_1, k21_2, k21_3, k21_4, k21_5, k23, k24, k25, k27, k28, k40, nz_1, nz_2, nz_3, k31_0, k31_1, k31_2, k31_3, k32u, k33, k34, k35, k35b, k36, k37, k38, k47, k49, k49b_0, k49b_1, k49b_2, k49b_3, k50_0, k50_s, k51_0, k51_s, k55, k58, k58b, rk_0, rk_1, rk_2, rk_9, rk_3, rk_4, rk_5, sw_n, sw_c, xtb_n, xtb_c, lset_0, lset_2, lset_1, lkm_0, lkm_2, lkm_9, lkm_1, lkm_n, if_some1, c_10, c_01, c_x0, c_1x, c_n0, c_nn, List.getElem?_cons_zero, List.getElem?_cons_succ, List.set_cons_zero, List.set_cons_succ, List.length_cons, List.length_nil, Int.reduceToNat, Nat.reduceDiv, Nat.reduceMod, Nat.reduceSub, Nat.reduceAdd, Nat.reduceMul, Nat.reduceLT, Nat.reduceLeDiff, Nat.reduceEqDiff, Int.reduceMod, Int.reduceSub, Int.reduceNeg, Int.reduceAdd, Int.reduceMul, Int.reduceLT, Int.reduceLE, Int.reduceEq, put_ss, if_true, if_false, ite_true, ite_false, reduceIte, eq_self, and_true, true_and, and_false, false_and, or_true, true_or, or_false, false_or, not_true_eq_false, not_false_eq_true, k5_68_3, k34_68_3, k54_68_3, k54b_68_3_0, k5_68_0, k5_68_1, k5_68_5, k34_68_5, k5_68_7, k34_68_7, k54_68_7, k54b_68_7_0, k54b_68_7_1, k5_68_4, k34_68_4, k54_68_4, k54b_68_4_0, k5_68_12, k34_68_12, k54_68_12, k54b_68_12_0, k5_51_5, k34_51_5, k54_51_5, k54b_51_5_0, s_86, s_90, s_94, s_130, s_128, s_91, C_87, mv_p, mv_h, sw_5, mv_4, sw_4, mv_12, sw_12, mp_p, s_51, w32_of, ad2, ad3, mm_5, sp_5, C_92, mv_7, sw_7, c9, lf_s, ea_97_0, eb_97_0, ec_97_0, l1_i, l1_1, l1_0, l2_0, l2_1, l2_2, l2_3, l3_0, w2_0, w2_1, w2_2, w2_3, d1_0, d1_1, d1_2, d1_3, d2_i, d2_1, d2_0, hx, hxl, c1]
end MakP
