/-! COMPILE: a text that is no program -/
section Fl1
variable {F L d : Nat} {xs : Nat → Int32} {mc mr M M' j' : Mem} {n q e dp x : Int} {b V' : Nat → Int}
theorem mt23_s (h220 : Cx F d 220 [158] (Hp L xs M) = some ([], Hp L xs M')) : rK 0 (Ev F d mt23 0 ([(2, 158), (0, x)], Hp L xs M)) = rK 0 (Ev F d mt24 0 ([(2, 158), (0, x)], Hp L xs M')) := by
  rw [mt23_e]
  refine rk_s0 (s1 := ([(2, 158), (0, x)], Hp L xs M')) ?_ rfl
  simp (disch := omega) only [ev_0, ev_1, ev_16, ev_17, ev_18, ev_2, ev_3, ev_4, ev_5, ev_6, ev_7, ev_8, ev_9, ev_20, ev_21, ev_22, ev_23, ev_24, ev_25, ev_27, ev_28, ev_30, ev_31, ev_32, ev_33, ev_34, ev_35, ev_36, ev_37, ev_38, ev_39, ev_40, ev_41, ev_42, ev_43, ev_45, ev_46, ev_47, ev_48, ev_49, ev_50, ev_51, ev_52, ev_54, ev_55, ev_57, ev_58, ev_59, k2_0, k2_1, k2_2, k3a, k3b, k4, o1_s, xbin_0, xbin_1, xbin_2, xbin_3, xbin_4, xbin_5, xbin_6, xbin_7, xbin_8, xbin_9, xbin_11, xbin_12, xun_0, xun_1, xun_2, xun_3, xun_4, xun_5, k6a, k8, k8b, k9, k20, k20b_0, k20b_1, k20b_2, k20b_3, k20b_4, k20b_5, k21_0, k21_1, k21_2, k21_3, k21_4, k21_5, k23, k24, k25, k27, k28, k40, nz_1, nz_2, nz_3, k31_0, k31_1, k31_2, k31_3, k32u, k33, k34, k35, k35b, k36, k37, k38, k47, k49, k49b_0, k49b_1, k49b_2, k49b_3, k50_0, k50_s, k51_0, k51_s, k55, k58, k58b, rk_0, rk_1, rk_2, rk_9, rk_3, rk_4, rk_5, sw_n, sw_c, xtb_n, xtb_c, lset_0, lset_2, lset_1, lkm_0, lkm_2, lkm_9, lkm_1, lkm_n, if_some1, c_10, c_01, c_x0, c_1x, c_n0, c_nn, List.getElem?_cons_zero, List.getElem?_cons_succ, List.set_cons_zero, List.set_cons_succ, List.length_cons, List.length_nil, Int.reduceToNat, Nat.reduceDiv, Nat.reduceMod, Nat.reduceSub, Nat.reduceAdd, Nat.reduceMul, Nat.reduceLT, Nat.reduceLeDiff, Nat.reduceEqDiff, Int.reduceMod, Int.reduceSub, Int.reduceNeg, Int.reduceAdd, Int.reduceMul, Int.reduceLT, Int.reduceLE, Int.reduceEq, put_ss, if_true, if_false, ite_true, ite_false, reduceIte, eq_self, and_true, true_and, and_false, false_and, or_true, true_or, or_false, false_or, not_true_eq_false, not_false_eq_true, h220]
theorem CP1 (hF : 100000 ≤ F) (hn : n ≤ 1300) (Yc : BY mc b n) (Ym : MTp mr b n) (Kc : KYc mc) (Km : KYm mr) (hq : 0 ≤ q ∧ q ≤ e) (he : e < mcF mc b n 51 5 ∧ mcF mc b n 51 5 ≤ 3001) (h17 : 0 ≤ mrF mr b n 158 17 ∧ mrF mr b n 158 17 ≤ 1600) (c18 : Cx F (d + 20) 18 [67] (Hp L xs (mcF mc b n)) = some ([0], Hp L xs (gv q V' (mcF mc b n)))) (r220 : Cx F (d + 20) 220 [158] (Hp L xs (mrF mr b n)) = some ([], Hp L xs (fl q dp (jt j' (mrF mr b n))))) : Cx F (d + 21) 181 [50] (Hp L xs mc) = some ([-1], Hp L xs (put (put (put (gv q V' (mcF mc b n)) 50 10 1) 50 11 (mcF mc b n 54 q.toNat)) 51 1 0)) ∧ Cx F (d + 21) 252 [158] (Hp L xs mr) = some ([-1], Hp L xs (fl q dp (jt j' (mrF mr b n)))) := by
  constructor
  · refine C_181a (d := d + 12) hF hn Yc Kc ?_
    have g5 : gv q V' (mcF mc b n) 51 5 = mcF mc b n 51 5 := rfl
    have g1 : gv q V' (mcF mc b n) 67 1 = q := rfl
    have g54 : gv q V' (mcF mc b n) 54 q.toNat = mcF mc b n 54 q.toNat := rfl
    rw [ct6_no (D := d + 19) c18 (by rw [g5]; exact he.2), g1, g5, g54, if_neg (by omega)]
    exact ct7_f (by
      show ¬ (1 : Int) = 0
      decide)
  · refine M_252a (d := d + 12) hF hn Ym Km ?_
    rw [mt23_s r220]
    have w := W_17 h17.1 h17.2 r220
    exact mt24_b (d := d + 13) hF rfl w.1 w.2
end Fl1
