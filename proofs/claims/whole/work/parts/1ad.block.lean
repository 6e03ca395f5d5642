/-! CLASS AND MODEL, THE SECOND WALK: blocks -/
def QsL (F : Nat) (mc : Mem) (e : Int) (t : xT) : Prop := ∀ (V : Int → Int) (dep p q : Int), P (kd mc) V t 9 dep p q → 0 ≤ dep → dep ≤ 30 → 0 ≤ p → q ≤ e → kd mc q = 125 → ∀ (L : Nat) (xs : Nat → Int32) (d : Nat) (m : Mem) (s : xSt) (y : yS) (σ : Int → Int) (D H : Int) (G : Prop) (u : Int) (n : Nat), SE mc m e → SR mc s y m σ D G H p → s.2.1 = 0 → m 158 15 = 0 → m 158 41 + 2 * (q - p) < 2900 → (y.1.length : Int) + 2 * (q - p) < 2900 → (∀ j, 0 ≤ j → j < q → mc 54 j.toNat < D) → 300 + 4 * (31 - dep).toNat + 3 ≤ d → e - p + 1 < n → ∃ p' m', LF F (d + 10) la_230_0 lb_230_0 lc_230_0 n ([(2, 158), (0, u)], Hp L xs (rv p dep m)) = some (0, [], ([(2, 158), (0, u)], Hp L xs (rv p' dep m'))) ∧ Pst mc e (stS mc t H 0 0 (s, y)) y m m' σ D G H p q p' 0 0
section Blk
variable {F : Nat} {mc : Mem} {e : Int}
theorem L_230b {L d : Nat} {xs : Nat → Int32} {m : Mem} {p dep u : Int} (hb : m 158 15 = 1) {n : Nat} (hn : 0 < n) : LF F (d + 10) la_230_0 lb_230_0 lc_230_0 n ([(2, 158), (0, u)], Hp L xs (rv p dep m)) = some (0, [], ([(2, 158), (0, u)], Hp L xs (rv p dep m))) := by
  obtain ⟨n, rfl⟩ : ∃ n', n = n' + 1 := ⟨n - 1, by omega⟩
  rw [lf_s]
  simp (disch := first | omega | assumption) only [ea_230_0, eb_230_0, ec_230_0, ev_0, ev_1, ev_16, ev_17, ev_18, ev_2, ev_3, ev_4, ev_5, ev_6, ev_7, ev_8, ev_9, ev_20, ev_21, ev_22, ev_23, ev_24, ev_25, ev_27, ev_28, ev_30, ev_31, ev_32, ev_33, ev_34, ev_35, ev_36, ev_37, ev_38, ev_39, ev_40, ev_41, ev_42, ev_43, ev_45, ev_46, ev_47, ev_48, ev_49, ev_50, ev_51, ev_52, ev_54, ev_55, ev_57, ev_58, ev_59, k2_0, k2_1, k2_2, k3a, k3b, k4, o1_s, xbin_0, xbin_1, xbin_2, xbin_3, xbin_4, xbin_5, xbin_6, xbin_7, xbin_8, xbin_9, xbin_11, xbin_12, xun_0, xun_1, xun_2, xun_3, xun_4, xun_5, k6a, k8, k8b, k9, k20, k20b_0, k20b_1, k20b_2, k20b_3, k20b_4, k20b_5, k21_0, k21_1, k21_2, k21_3, k21_4, k21_5, k23, k24, k25, k27, k28, k40, nz_1, nz_2, nz_3, k31_0, k31_1, k31_2, k31_3, k32u, k33, k34, k35, k35b, k36, k37, k38, k47, k49, k49b_0, k49b_1, k49b_2, k49b_3, k50_0, k50_s, k51_0, k51_s, k55, k58, k58b, rk_0, rk_1, rk_2, rk_9, rk_3, rk_4, rk_5, sw_n, sw_c, xtb_n, xtb_c, lset_0, lset_2, lset_1, lkm_0, lkm_2, lkm_9, lkm_1, lkm_n, if_some1, c_10, c_01, c_x0, c_1x, c_n0, c_nn, List.getElem?_cons_zero, List.getElem?_cons_succ, List.set_cons_zero, List.set_cons_succ, List.length_cons, List.length_nil, Int.reduceToNat, Nat.reduceDiv, Nat.reduceMod, Nat.reduceSub, Nat.reduceAdd, Nat.reduceMul, Nat.reduceLT, Nat.reduceLeDiff, Nat.reduceEqDiff, Int.reduceMod, Int.reduceSub, Int.reduceNeg, Int.reduceAdd, Int.reduceMul, Int.reduceLT, Int.reduceLE, Int.reduceEq, put_ss, if_true, if_false, ite_true, ite_false, reduceIte, eq_self, and_true, true_and, and_false, false_and, or_true, true_or, or_false, false_or, not_true_eq_false, not_false_eq_true, k5_158_14, k34_158_14, k34i_158_14, k5_158_15, k34_158_15, k34i_158_15, k5_158_13, k34_158_13, k54_158_13, k54b_158_13_0, k54b_158_13_1, k5_158_48, k34_158_48, k5_158_5, k6_161, k35_161, n_161, k5_158_7, k6_163, k35_163, n_163, k5_158_12, k34_158_12, k54_158_12, k54b_158_12_0, k5_158_30, k34_158_30, k54_158_30, k54b_158_30_0, rv_t, rv_d, rv_x, rv_y, rp_t, rp_d, rp_x, rp_y, w32_of, l1_i, l1_1, l1_0, l2_0, l2_1, l2_2, l2_3, l3_0, w2_0, w2_1, w2_2, w2_3, d1_0, d1_1, d1_2, d1_3, d2_i, d2_1, d2_0, hb]
theorem B_230 {L d : Nat} {xs : Nat → Int32} {m : Mem} {p dep : Int} (U : WU m) (hF : 100000 ≤ F) (hb : m 158 15 = 1) (hp : 0 ≤ p ∧ p < 3001) (hd : 0 ≤ dep ∧ dep ≤ 30) : Cx F (d + 10) 230 [158] (Hp L xs (rv p dep m)) = some ([], Hp L xs (rv p dep m)) := by
  have i1 := fun D D1 s => B_209 (F := F) (L := L) (xs := xs) (d := D) (m := rv p D1 m) (a1 := s) hb
  have x0 := fun D D1 => B_208 (F := F) (L := L) (xs := xs) (d := D) (m := rv p D1 m) hb hp
  have x1 := fun D => B_216 (F := F) (L := L) (xs := xs) (d := D) (m := rv p dep m) hb
  rw [rp_d, rv_d, w32_of (by omega) (by omega)] at x1
  have x2 := fun D D1 => B_212 (F := F) (L := L) (xs := xs) (d := D) (m := rv p D1 m) hb
  have x4 := fun D D1 => B_213 (F := F) (L := L) (xs := xs) (d := D) (m := rv p D1 m) (a1 := 125) hb hp
  have e2 : dep + 1 - 1 = dep := by omega
  obtain ⟨n, hn⟩ : ∃ n, F = n + 1 := ⟨F - 1, by omega⟩
  have c3 : ∀ s h, LF F (d + 9) la_230_0 lb_230_0 lc_230_0 F (s, h) = LF F (d + 9) la_230_0 lb_230_0 lc_230_0 (n + 1) (s, h) := fun s h => by rw [← hn]
  simp (disch := first | omega | assumption) only [c_230, tx_230, ev_0, ev_1, ev_16, ev_17, ev_18, ev_2, ev_3, ev_4, ev_5, ev_6, ev_7, ev_8, ev_9, ev_20, ev_21, ev_22, ev_23, ev_24, ev_25, ev_27, ev_28, ev_30, ev_31, ev_32, ev_33, ev_34, ev_35, ev_36, ev_37, ev_38, ev_39, ev_40, ev_41, ev_42, ev_43, ev_45, ev_46, ev_47, ev_48, ev_49, ev_50, ev_51, ev_52, ev_54, ev_55, ev_57, ev_58, ev_59, k2_0, k2_1, k2_2, k3a, k3b, k4, o1_s, xbin_0, xbin_1, xbin_2, xbin_3, xbin_4, xbin_5, xbin_6, xbin_7, xbin_8, xbin_9, xbin_11, xbin_12, xun_0, xun_1, xun_2, xun_3, xun_4, xun_5, k6a, k8, k8b, k9, k20, k20b_0, k20b_1, k20b_2, k20b_3, k20b_4, k20b_5, k21_0, k21_1, k21_2, k21_3, k21_4, k21_5, k23, k24, k25, k27, k28, k40, nz_1, nz_2, nz_3, k31_0, k31_1, k31_2, k31_3, k32u, k33, k34, k35, k35b, k36, k37, k38, k47, k49, k49b_0, k49b_1, k49b_2, k49b_3, k50_0, k50_s, k51_0, k51_s, k55, k58, k58b, rk_0, rk_1, rk_2, rk_9, rk_3, rk_4, rk_5, sw_n, sw_c, xtb_n, xtb_c, lset_0, lset_2, lset_1, lkm_0, lkm_2, lkm_9, lkm_1, lkm_n, if_some1, c_10, c_01, c_x0, c_1x, c_n0, c_nn, List.getElem?_cons_zero, List.getElem?_cons_succ, List.set_cons_zero, List.set_cons_succ, List.length_cons, List.length_nil, Int.reduceToNat, Nat.reduceDiv, Nat.reduceMod, Nat.reduceSub, Nat.reduceAdd, Nat.reduceMul, Nat.reduceLT, Nat.reduceLeDiff, Nat.reduceEqDiff, Int.reduceMod, Int.reduceSub, Int.reduceNeg, Int.reduceAdd, Int.reduceMul, Int.reduceLT, Int.reduceLE, Int.reduceEq, put_ss, if_true, if_false, ite_true, ite_false, reduceIte, eq_self, and_true, true_and, and_false, false_and, or_true, true_or, or_false, false_or, not_true_eq_false, not_false_eq_true, k5_158_14, k34_158_14, k34i_158_14, k5_158_15, k34_158_15, k34i_158_15, k5_158_13, k34_158_13, k54_158_13, k54b_158_13_0, k54b_158_13_1, k5_158_48, k34_158_48, k5_158_5, k6_161, k35_161, n_161, k5_158_7, k6_163, k35_163, n_163, k5_158_12, k34_158_12, k54_158_12, k54b_158_12_0, k5_158_30, k34_158_30, k54_158_30, k54b_158_30_0, rv_t, rv_d, rv_x, rv_y, rp_t, rp_d, rp_x, rp_y, w32_of, i1, x0, x1, x2, x4, e2, hb, c3, lf_s, ea_230_0, eb_230_0, ec_230_0, l1_i, l1_1, l1_0, l2_0, l2_1, l2_2, l2_3, l3_0, w2_0, w2_1, w2_2, w2_3, d1_0, d1_1, d1_2, d1_3, d2_i, d2_1, d2_0, ps30]
theorem P_st_lt {K V : Int → Int} {t : xT} {dep p q : Int} (h : P K V t 10 dep p q) : p < q := by
  rcases inv_10 h with ⟨i, a, b, rfl, h1, h3, h5, h6, r, h8, h9, h10⟩ | ⟨i, a, b, rfl, h1, h3, r, h8, h9, h10⟩ | ⟨i, a, b, rfl, h1, h3, h5, r, h8, h9, h10⟩ | ⟨i, a, b, rfl, h1, h3, h5, h6, r, u, h8, h9, h10, h11, h12, h13⟩ | ⟨i, a, b, rfl, h1, r, h8, h9, h10⟩ | ⟨i, a, b, rfl, h1, r, h8, h9⟩ | ⟨i, a, b, rfl, h1, r, h8, h9⟩ | ⟨i, a, b, rfl, h1, r, h8, h9, h10⟩ | ⟨i, a, b, rfl, h1, h3, h5, h6, h8⟩ | ⟨i, a, b, rfl, h1, r, h8, h9, h10⟩ | ⟨i, a, b, rfl, h1, r, h8, h9, h10⟩
  · have := P_le a h8; omega
  · have := P_le a h8; omega
  · have := P_le a h8; omega
  · have := P_le a h8; have := P_le b h11; omega
  · have := P_le a h8; have := P_le b h9; omega
  · have := P_le a h8; have := P_le b h9; omega
  · have := P_le a h8; have := P_le b h9; omega
  · have := P_le a h8; have := P_le b h10; omega
  · omega
  · have := P_le a h8; omega
  · have := P_le a h8; omega
theorem QsL_ok {t : xT} (hF : 100000 ≤ F) (hX : ∀ a, tsz a < tsz t → Qst 231 10 3 0 F mc e a) (hT : ∀ a, tsz a < tsz t → QsL F mc e a) : QsL F mc e t := by
  intro V dep p q h hd0 hd1 hp hq h125 L xs d m s y σ D H G u n S R hs0 hb h41 hlab hD hd hn
  have el := S.el
  have l0 := P_le t h
  obtain ⟨n, rfl⟩ : ∃ n', n = n' + 1 := ⟨n - 1, by omega⟩
  have hT1 := S.tr p hp (by omega)
  have i_p := fun (s : Int) (D : Nat) (hs : 33 ≤ s ∧ s ≤ 255 ∨ 300 ≤ s ∧ s ≤ 303) => N_209 (L := L) (xs := xs) (F := F) (d := D) (dep := dep) (p := p) (a1 := s) (m := m) hb (by omega) hT1 hs
  rcases inv_9 h with ⟨i, a, b, rfl, ho, r, h1, h3⟩ | ⟨i, a, b, rfl, hpq, ho⟩
  · have sa : tsz a < tsz (nd 21 i a b) := by rw [tsz_nd]; omega
    have sb : tsz b < tsz (nd 21 i a b) := by rw [tsz_nd]; omega
    have l1 := P_st_lt h1
    have l2 := P_le b h3
    obtain ⟨p1, m1, c1, X⟩ := hX a sa V dep p r h1 hd0 hd1 hp (by omega) L xs d m s y σ D H G S R hs0 hb (by omega) (by omega) (fun j j1 j2 => hD j j1 (by omega)) hd
    have ec : stS mc (nd 21 i a b) H 0 0 (s, y) = stS mc b H 0 0 (stS mc a H 0 0 (s, y)) := rfl
    rw [ec]
    obtain ⟨F1, q0, q1, σ1, e1, Y⟩ := X
    rcases Y with ⟨Y, hp1⟩ | ⟨W, B⟩
    · subst hp1
      have y41 := Y.o41
      have ylc := Y.lc
      obtain ⟨p2, m2, c2, X2⟩ := hT b sb V dep p1 q h3 hd0 hd1 q0 hq h125 L xs d m1 (stS mc a H 0 0 (s, y)).1 (stS mc a H 0 0 (s, y)).2 σ1 D H G u n (SE_FS S F1) Y.sr Y.pz Y.b0 (by omega) (by omega) hD hd (by omega)
      refine ⟨p2, m2, ?_, Pst_tr (w1 := 0) (w2 := 0) (v1 := 0) (v2 := 0) F1 e1 Y (by omega) X2⟩
      rw [lf_s]
      simp (disch := first | omega | assumption) only [ea_230_0, eb_230_0, ec_230_0, ev_0, ev_1, ev_16, ev_17, ev_18, ev_2, ev_3, ev_4, ev_5, ev_6, ev_7, ev_8, ev_9, ev_20, ev_21, ev_22, ev_23, ev_24, ev_25, ev_27, ev_28, ev_30, ev_31, ev_32, ev_33, ev_34, ev_35, ev_36, ev_37, ev_38, ev_39, ev_40, ev_41, ev_42, ev_43, ev_45, ev_46, ev_47, ev_48, ev_49, ev_50, ev_51, ev_52, ev_54, ev_55, ev_57, ev_58, ev_59, k2_0, k2_1, k2_2, k3a, k3b, k4, o1_s, xbin_0, xbin_1, xbin_2, xbin_3, xbin_4, xbin_5, xbin_6, xbin_7, xbin_8, xbin_9, xbin_11, xbin_12, xun_0, xun_1, xun_2, xun_3, xun_4, xun_5, k6a, k8, k8b, k9, k20, k20b_0, k20b_1, k20b_2, k20b_3, k20b_4, k20b_5, k21_0, k21_1, k21_2, k21_3, k21_4, k21_5, k23, k24, k25, k27, k28, k40, nz_1, nz_2, nz_3, k31_0, k31_1, k31_2, k31_3, k32u, k33, k34, k35, k35b, k36, k37, k38, k47, k49, k49b_0, k49b_1, k49b_2, k49b_3, k50_0, k50_s, k51_0, k51_s, k55, k58, k58b, rk_0, rk_1, rk_2, rk_9, rk_3, rk_4, rk_5, sw_n, sw_c, xtb_n, xtb_c, lset_0, lset_2, lset_1, lkm_0, lkm_2, lkm_9, lkm_1, lkm_n, if_some1, c_10, c_01, c_x0, c_1x, c_n0, c_nn, List.getElem?_cons_zero, List.getElem?_cons_succ, List.set_cons_zero, List.set_cons_succ, List.length_cons, List.length_nil, Int.reduceToNat, Nat.reduceDiv, Nat.reduceMod, Nat.reduceSub, Nat.reduceAdd, Nat.reduceMul, Nat.reduceLT, Nat.reduceLeDiff, Nat.reduceEqDiff, Int.reduceMod, Int.reduceSub, Int.reduceNeg, Int.reduceAdd, Int.reduceMul, Int.reduceLT, Int.reduceLE, Int.reduceEq, put_ss, if_true, if_false, ite_true, ite_false, reduceIte, eq_self, and_true, true_and, and_false, false_and, or_true, true_or, or_false, false_or, not_true_eq_false, not_false_eq_true, k5_158_14, k34_158_14, k34i_158_14, k5_158_15, k34_158_15, k34i_158_15, k5_158_13, k34_158_13, k54_158_13, k54b_158_13_0, k54b_158_13_1, k5_158_48, k34_158_48, k5_158_5, k6_161, k35_161, n_161, k5_158_7, k6_163, k35_163, n_163, k5_158_12, k34_158_12, k54_158_12, k54b_158_12_0, k5_158_30, k34_158_30, k54_158_30, k54b_158_30_0, rv_t, rv_d, rv_x, rv_y, rp_t, rp_d, rp_x, rp_y, w32_of, l1_i, l1_1, l1_0, l2_0, l2_1, l2_2, l2_3, l3_0, w2_0, w2_1, w2_2, w2_3, d1_0, d1_1, d1_2, d1_3, d2_i, d2_1, d2_0, i_p, sgn, ho, hb, c1, c2]
    · have c2 := fun D => L_230b (F := F) (L := L) (xs := xs) (d := D) (m := m1) (p := p1) (dep := dep) (u := u) B.1 (n := n) (by omega)
      refine ⟨p1, m1, ?_, F1, q0, q1, σ, fun _ _ => rfl, Or.inr ⟨W, ?_⟩⟩
      · rw [lf_s]
        simp (disch := first | omega | assumption) only [ea_230_0, eb_230_0, ec_230_0, ev_0, ev_1, ev_16, ev_17, ev_18, ev_2, ev_3, ev_4, ev_5, ev_6, ev_7, ev_8, ev_9, ev_20, ev_21, ev_22, ev_23, ev_24, ev_25, ev_27, ev_28, ev_30, ev_31, ev_32, ev_33, ev_34, ev_35, ev_36, ev_37, ev_38, ev_39, ev_40, ev_41, ev_42, ev_43, ev_45, ev_46, ev_47, ev_48, ev_49, ev_50, ev_51, ev_52, ev_54, ev_55, ev_57, ev_58, ev_59, k2_0, k2_1, k2_2, k3a, k3b, k4, o1_s, xbin_0, xbin_1, xbin_2, xbin_3, xbin_4, xbin_5, xbin_6, xbin_7, xbin_8, xbin_9, xbin_11, xbin_12, xun_0, xun_1, xun_2, xun_3, xun_4, xun_5, k6a, k8, k8b, k9, k20, k20b_0, k20b_1, k20b_2, k20b_3, k20b_4, k20b_5, k21_0, k21_1, k21_2, k21_3, k21_4, k21_5, k23, k24, k25, k27, k28, k40, nz_1, nz_2, nz_3, k31_0, k31_1, k31_2, k31_3, k32u, k33, k34, k35, k35b, k36, k37, k38, k47, k49, k49b_0, k49b_1, k49b_2, k49b_3, k50_0, k50_s, k51_0, k51_s, k55, k58, k58b, rk_0, rk_1, rk_2, rk_9, rk_3, rk_4, rk_5, sw_n, sw_c, xtb_n, xtb_c, lset_0, lset_2, lset_1, lkm_0, lkm_2, lkm_9, lkm_1, lkm_n, if_some1, c_10, c_01, c_x0, c_1x, c_n0, c_nn, List.getElem?_cons_zero, List.getElem?_cons_succ, List.set_cons_zero, List.set_cons_succ, List.length_cons, List.length_nil, Int.reduceToNat, Nat.reduceDiv, Nat.reduceMod, Nat.reduceSub, Nat.reduceAdd, Nat.reduceMul, Nat.reduceLT, Nat.reduceLeDiff, Nat.reduceEqDiff, Int.reduceMod, Int.reduceSub, Int.reduceNeg, Int.reduceAdd, Int.reduceMul, Int.reduceLT, Int.reduceLE, Int.reduceEq, put_ss, if_true, if_false, ite_true, ite_false, reduceIte, eq_self, and_true, true_and, and_false, false_and, or_true, true_or, or_false, false_or, not_true_eq_false, not_false_eq_true, k5_158_14, k34_158_14, k34i_158_14, k5_158_15, k34_158_15, k34i_158_15, k5_158_13, k34_158_13, k54_158_13, k54b_158_13_0, k54b_158_13_1, k5_158_48, k34_158_48, k5_158_5, k6_161, k35_161, n_161, k5_158_7, k6_163, k35_163, n_163, k5_158_12, k34_158_12, k54_158_12, k54b_158_12_0, k5_158_30, k34_158_30, k54_158_30, k54b_158_30_0, rv_t, rv_d, rv_x, rv_y, rp_t, rp_d, rp_x, rp_y, w32_of, l1_i, l1_1, l1_0, l2_0, l2_1, l2_2, l2_3, l3_0, w2_0, w2_1, w2_2, w2_3, d1_0, d1_1, d1_2, d1_3, d2_i, d2_1, d2_0, i_p, sgn, ho, hb, c1, c2]
      · exact Br_stS (y := (stS mc a H 0 0 (s, y)).2) S.mo B hp (by decide) (by decide) h3 (by omega) hq
  · subst hpq
    refine ⟨p, m, ?_, FS_rf, hp, hq, σ, fun _ _ => rfl, Or.inl ⟨⟨hb, R, hs0, by omega, by show (y.1.length : Int) ≤ _; omega, by show (y.1.length : Int) ≤ (y.1.length : Int); omega, by omega, rfl, rfl, fun _ _ => rfl⟩, rfl⟩⟩
    rw [lf_s]
    simp (disch := first | omega | assumption) only [ea_230_0, eb_230_0, ec_230_0, ev_0, ev_1, ev_16, ev_17, ev_18, ev_2, ev_3, ev_4, ev_5, ev_6, ev_7, ev_8, ev_9, ev_20, ev_21, ev_22, ev_23, ev_24, ev_25, ev_27, ev_28, ev_30, ev_31, ev_32, ev_33, ev_34, ev_35, ev_36, ev_37, ev_38, ev_39, ev_40, ev_41, ev_42, ev_43, ev_45, ev_46, ev_47, ev_48, ev_49, ev_50, ev_51, ev_52, ev_54, ev_55, ev_57, ev_58, ev_59, k2_0, k2_1, k2_2, k3a, k3b, k4, o1_s, xbin_0, xbin_1, xbin_2, xbin_3, xbin_4, xbin_5, xbin_6, xbin_7, xbin_8, xbin_9, xbin_11, xbin_12, xun_0, xun_1, xun_2, xun_3, xun_4, xun_5, k6a, k8, k8b, k9, k20, k20b_0, k20b_1, k20b_2, k20b_3, k20b_4, k20b_5, k21_0, k21_1, k21_2, k21_3, k21_4, k21_5, k23, k24, k25, k27, k28, k40, nz_1, nz_2, nz_3, k31_0, k31_1, k31_2, k31_3, k32u, k33, k34, k35, k35b, k36, k37, k38, k47, k49, k49b_0, k49b_1, k49b_2, k49b_3, k50_0, k50_s, k51_0, k51_s, k55, k58, k58b, rk_0, rk_1, rk_2, rk_9, rk_3, rk_4, rk_5, sw_n, sw_c, xtb_n, xtb_c, lset_0, lset_2, lset_1, lkm_0, lkm_2, lkm_9, lkm_1, lkm_n, if_some1, c_10, c_01, c_x0, c_1x, c_n0, c_nn, List.getElem?_cons_zero, List.getElem?_cons_succ, List.set_cons_zero, List.set_cons_succ, List.length_cons, List.length_nil, Int.reduceToNat, Nat.reduceDiv, Nat.reduceMod, Nat.reduceSub, Nat.reduceAdd, Nat.reduceMul, Nat.reduceLT, Nat.reduceLeDiff, Nat.reduceEqDiff, Int.reduceMod, Int.reduceSub, Int.reduceNeg, Int.reduceAdd, Int.reduceMul, Int.reduceLT, Int.reduceLE, Int.reduceEq, put_ss, if_true, if_false, ite_true, ite_false, reduceIte, eq_self, and_true, true_and, and_false, false_and, or_true, true_or, or_false, false_or, not_true_eq_false, not_false_eq_true, k5_158_14, k34_158_14, k34i_158_14, k5_158_15, k34_158_15, k34i_158_15, k5_158_13, k34_158_13, k54_158_13, k54b_158_13_0, k54b_158_13_1, k5_158_48, k34_158_48, k5_158_5, k6_161, k35_161, n_161, k5_158_7, k6_163, k35_163, n_163, k5_158_12, k34_158_12, k54_158_12, k54b_158_12_0, k5_158_30, k34_158_30, k54_158_30, k54b_158_30_0, rv_t, rv_d, rv_x, rv_y, rp_t, rp_d, rp_x, rp_y, w32_of, l1_i, l1_1, l1_0, l2_0, l2_1, l2_2, l2_3, l3_0, w2_0, w2_1, w2_2, w2_3, d1_0, d1_1, d1_2, d1_3, d2_i, d2_1, d2_0, i_p, sgn, ho, hb]
theorem QsB_ok {t : xT} (hF : 100000 ≤ F) (hT : ∀ a, tsz a < tsz t → QsL F mc e a) : Qst 230 8 0 2 F mc e t := by
  intro V dep p q h hd0 hd1 hp hq L xs d m s y σ D H G S R hs0 hb h41 hlab hD hd
  have el := S.el
  have l0 := P_le t h
  obtain ⟨i, a, b, rfl, ho, h30, hv, r, h1, h3, hq2⟩ := inv_8 h
  have sa : tsz a < tsz (nd 20 i a b) := by rw [tsz_nd]; omega
  have l1 := P_le a h1
  have N := SR_En S R (by omega) (Or.inl hb) (by omega)
  have hT1 := S.tr p hp (by omega)
  rw [ho] at hT1
  have i1 := fun (D : Nat) => N_209y (L := L) (xs := xs) (F := F) (d := D) (dep := dep) (p := p) (a1 := 123) (m := m) hb (by omega) (by omega) hT1
  have x1 := fun D => R_216 (F := F) (L := L) (xs := xs) (d := D) (p := p) (dep := dep) N.1 ⟨hd0, h30⟩
  have x2 := fun D D1 => N_212 (F := F) (L := L) (xs := xs) (d := D) (m := m) (p := p) (dep := D1) hb (by omega)
  obtain ⟨d, rfl⟩ : ∃ d', d = d' + 1 := ⟨d - 1, by omega⟩
  obtain ⟨p1, m1, c1, X⟩ := hT a sa V (dep + 1) (p + 1) r h1 (by omega) (by omega) (by omega) (by omega) h3 L xs d m s y σ D H G (m 158 30) F S (SR_p R (by omega)) hs0 hb (by omega) (by omega) (fun j j1 j2 => hD j j1 (by omega)) (by omega) (by omega)
  obtain ⟨F1, q0, q1, σ1, e1, Y⟩ := X
  have ec : stS mc (nd 20 i a b) H 0 0 (s, y) = ((stS mc a H 0 0 (s, y)).1, fgN mc ((stS mc a H 0 0 (s, y)).2.2.1 - y.2.1).toNat (stS mc a H 0 0 (s, y)).2) := rfl
  rw [ec]
  have e2 : dep + 1 - 1 = dep := by omega
  have S1 := SE_FS S F1
  rcases Y with ⟨Y, hp1⟩ | ⟨W, B⟩
  · subst hp1
    have y41 := Y.o41
    have ylc := Y.lc
    have y30 := Y.l30
    have T2 := S1.tr p1 (by omega) (by omega)
    rw [h3] at T2
    have x4 := fun D D1 => N_213 (F := F) (L := L) (xs := xs) (d := D) (m := m1) (p := p1) (dep := D1) (a1 := 125) Y.b0 (by omega) T2 (by omega) rfl
    have n1 := Y.sr.ln
    have n2 := R.ln
    have n3 := R.l0
    have R2 := SR_fg ((stS mc a H 0 0 (s, y)).2.2.1 - y.2.1).toNat _ m1 S1 Y.sr (by omega)
    have e30 : m1 158 30 - (((stS mc a H 0 0 (s, y)).2.2.1 - y.2.1).toNat : Int) = m 158 30 := by omega
    rw [e30] at R2
    have fg1 := (fgN_n (m := mc) ((stS mc a H 0 0 (s, y)).2.2.1 - y.2.1).toNat (stS mc a H 0 0 (s, y)).2).1
    refine ⟨p1 + 1, put m1 158 30 (m 158 30), ?_, FS_put F1 rfl, by omega, by omega, σ1, e1, Or.inl ⟨⟨Y.b0, ?_, Y.pz, ?_, ?_, ?_, by show m 158 30 ≤ m 158 30; omega, Y.w39, Y.w40, Y.c176⟩, by omega⟩⟩
    · simp (disch := first | omega | assumption) only [c_230, tx_230, ev_0, ev_1, ev_16, ev_17, ev_18, ev_2, ev_3, ev_4, ev_5, ev_6, ev_7, ev_8, ev_9, ev_20, ev_21, ev_22, ev_23, ev_24, ev_25, ev_27, ev_28, ev_30, ev_31, ev_32, ev_33, ev_34, ev_35, ev_36, ev_37, ev_38, ev_39, ev_40, ev_41, ev_42, ev_43, ev_45, ev_46, ev_47, ev_48, ev_49, ev_50, ev_51, ev_52, ev_54, ev_55, ev_57, ev_58, ev_59, k2_0, k2_1, k2_2, k3a, k3b, k4, o1_s, xbin_0, xbin_1, xbin_2, xbin_3, xbin_4, xbin_5, xbin_6, xbin_7, xbin_8, xbin_9, xbin_11, xbin_12, xun_0, xun_1, xun_2, xun_3, xun_4, xun_5, k6a, k8, k8b, k9, k20, k20b_0, k20b_1, k20b_2, k20b_3, k20b_4, k20b_5, k21_0, k21_1, k21_2, k21_3, k21_4, k21_5, k23, k24, k25, k27, k28, k40, nz_1, nz_2, nz_3, k31_0, k31_1, k31_2, k31_3, k32u, k33, k34, k35, k35b, k36, k37, k38, k47, k49, k49b_0, k49b_1, k49b_2, k49b_3, k50_0, k50_s, k51_0, k51_s, k55, k58, k58b, rk_0, rk_1, rk_2, rk_9, rk_3, rk_4, rk_5, sw_n, sw_c, xtb_n, xtb_c, lset_0, lset_2, lset_1, lkm_0, lkm_2, lkm_9, lkm_1, lkm_n, if_some1, c_10, c_01, c_x0, c_1x, c_n0, c_nn, List.getElem?_cons_zero, List.getElem?_cons_succ, List.set_cons_zero, List.set_cons_succ, List.length_cons, List.length_nil, Int.reduceToNat, Nat.reduceDiv, Nat.reduceMod, Nat.reduceSub, Nat.reduceAdd, Nat.reduceMul, Nat.reduceLT, Nat.reduceLeDiff, Nat.reduceEqDiff, Int.reduceMod, Int.reduceSub, Int.reduceNeg, Int.reduceAdd, Int.reduceMul, Int.reduceLT, Int.reduceLE, Int.reduceEq, put_ss, if_true, if_false, ite_true, ite_false, reduceIte, eq_self, and_true, true_and, and_false, false_and, or_true, true_or, or_false, false_or, not_true_eq_false, not_false_eq_true, k5_158_14, k34_158_14, k34i_158_14, k5_158_15, k34_158_15, k34i_158_15, k5_158_13, k34_158_13, k54_158_13, k54b_158_13_0, k54b_158_13_1, k5_158_48, k34_158_48, k5_158_5, k6_161, k35_161, n_161, k5_158_7, k6_163, k35_163, n_163, k5_158_12, k34_158_12, k54_158_12, k54b_158_12_0, k5_158_30, k34_158_30, k54_158_30, k54b_158_30_0, rv_t, rv_d, rv_x, rv_y, rp_t, rp_d, rp_x, rp_y, w32_of, i1, x1, x2, c1, x4, e2, hb]
    · exact SR_p R2 (by omega)
    · show m1 158 41 ≤ _
      omega
    · show ((fgN mc ((stS mc a H 0 0 (s, y)).2.2.1 - y.2.1).toNat (stS mc a H 0 0 (s, y)).2).1.length : Int) ≤ _
      rw [fg1]
      omega
    · show _ ≤ ((fgN mc ((stS mc a H 0 0 (s, y)).2.2.1 - y.2.1).toNat (stS mc a H 0 0 (s, y)).2).1.length : Int)
      rw [fg1]
      exact Y.ly
  · have x4 := fun D D1 => B_213 (F := F) (L := L) (xs := xs) (d := D) (m := rv p1 D1 m1) (a1 := 125) B.1 ⟨q0, by show p1 < 3001; omega⟩
    refine ⟨p1, put m1 158 30 (m 158 30), ?_, FS_put F1 rfl, q0, q1, σ, fun _ _ => rfl, Or.inr ⟨?_, Br_le B (by omega) (by omega)⟩⟩
    · simp (disch := first | omega | assumption) only [c_230, tx_230, ev_0, ev_1, ev_16, ev_17, ev_18, ev_2, ev_3, ev_4, ev_5, ev_6, ev_7, ev_8, ev_9, ev_20, ev_21, ev_22, ev_23, ev_24, ev_25, ev_27, ev_28, ev_30, ev_31, ev_32, ev_33, ev_34, ev_35, ev_36, ev_37, ev_38, ev_39, ev_40, ev_41, ev_42, ev_43, ev_45, ev_46, ev_47, ev_48, ev_49, ev_50, ev_51, ev_52, ev_54, ev_55, ev_57, ev_58, ev_59, k2_0, k2_1, k2_2, k3a, k3b, k4, o1_s, xbin_0, xbin_1, xbin_2, xbin_3, xbin_4, xbin_5, xbin_6, xbin_7, xbin_8, xbin_9, xbin_11, xbin_12, xun_0, xun_1, xun_2, xun_3, xun_4, xun_5, k6a, k8, k8b, k9, k20, k20b_0, k20b_1, k20b_2, k20b_3, k20b_4, k20b_5, k21_0, k21_1, k21_2, k21_3, k21_4, k21_5, k23, k24, k25, k27, k28, k40, nz_1, nz_2, nz_3, k31_0, k31_1, k31_2, k31_3, k32u, k33, k34, k35, k35b, k36, k37, k38, k47, k49, k49b_0, k49b_1, k49b_2, k49b_3, k50_0, k50_s, k51_0, k51_s, k55, k58, k58b, rk_0, rk_1, rk_2, rk_9, rk_3, rk_4, rk_5, sw_n, sw_c, xtb_n, xtb_c, lset_0, lset_2, lset_1, lkm_0, lkm_2, lkm_9, lkm_1, lkm_n, if_some1, c_10, c_01, c_x0, c_1x, c_n0, c_nn, List.getElem?_cons_zero, List.getElem?_cons_succ, List.set_cons_zero, List.set_cons_succ, List.length_cons, List.length_nil, Int.reduceToNat, Nat.reduceDiv, Nat.reduceMod, Nat.reduceSub, Nat.reduceAdd, Nat.reduceMul, Nat.reduceLT, Nat.reduceLeDiff, Nat.reduceEqDiff, Int.reduceMod, Int.reduceSub, Int.reduceNeg, Int.reduceAdd, Int.reduceMul, Int.reduceLT, Int.reduceLE, Int.reduceEq, put_ss, if_true, if_false, ite_true, ite_false, reduceIte, eq_self, and_true, true_and, and_false, false_and, or_true, true_or, or_false, false_or, not_true_eq_false, not_false_eq_true, k5_158_14, k34_158_14, k34i_158_14, k5_158_15, k34_158_15, k34i_158_15, k5_158_13, k34_158_13, k54_158_13, k54b_158_13_0, k54b_158_13_1, k5_158_48, k34_158_48, k5_158_5, k6_161, k35_161, n_161, k5_158_7, k6_163, k35_163, n_163, k5_158_12, k34_158_12, k54_158_12, k54b_158_12_0, k5_158_30, k34_158_30, k54_158_30, k54b_158_30_0, rv_t, rv_d, rv_x, rv_y, rp_t, rp_d, rp_x, rp_y, w32_of, i1, x1, x2, c1, x4, e2, hb]
    · obtain ⟨u1, u2, u3, u4, u5, u6, u7, u8⟩ := W
      have := R.l0
      exact ⟨u1, u2, this.1, by show m 158 30 < 1600; omega, u5, u6, u7, u8⟩
end Blk
