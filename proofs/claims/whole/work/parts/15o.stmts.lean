/-! PAIRS: try; all statements -/
theorem jb_48 {j m : Mem} : jb j m 158 48 = j 158 48 := (rfl)
section PairT
variable {F b : Nat} {mc mr : Mem} {e dep p : Int}
theorem ps_try (T : TK mc mr e) (h15 : e ≤ 1500) (hb : mr 158 15 = 0) (hf : mr 158 14 = 0) (hF : 100000 ≤ F) (hd : 0 ≤ dep ∧ dep ≤ 30) (hB : ∀ p, 0 ≤ p → p ≤ e → PuX F b 24 230 8 mc mr e dep p) (hW : ∀ p, 0 ≤ p → p ≤ e → PuW F (b + 1) mc mr e dep p) (h0 : 0 ≤ p) (he : p ≤ e) (kp : kd mc p = 11) : PuX F (b + 3) 25 231 10 mc mr e dep p := by
  have hN := T.2.2.1
  have hNe := T.2.1
  have hTp := (T.2.2.2.2.2 p h0 he).1
  have hpe : p + 1 ≤ e := TK_lt T he (by omega)
  rcases hB (p + 1) (by omega) hpe with ⟨r, t1, ga, gb, gc, gr⟩ | ⟨r, ga, gb, gc, gr⟩
  · rcases hW r (by omega) gb with ⟨s, t2, ka, kb, kk, kn, kc, kr⟩ | ⟨s, ka, kb, kc, kr⟩
    · rcases TlW_ok T h15 hb hf hF hd hW (e - s + 1).toNat s (by omega) kb (by omega) with ⟨q, t3, la, lb, lc, lr⟩ | ⟨q, la, lb, lc, lr⟩
      · left
        refine ⟨q, nd 30 0 t1 (nd 31 r t2 t3), by omega, lb, fun L xs d V hbd => ?_, fun L xs d j hbd hj => ?_⟩
        · obtain ⟨d, rfl⟩ : ∃ d', d = d' + 2 := ⟨d - 2, by omega⟩
          obtain ⟨V1, f1, q1, c1⟩ := gc L xs d V (by omega)
          obtain ⟨V2, f2, q2, c2⟩ := kc L xs d V1 (by omega)
          obtain ⟨V3, left3, f3, q3, c3⟩ := lc L xs d V2 (mc 51 5) F (by omega) (by omega) hN (by omega)
          refine ⟨V3, Fr_tr (Fr_up (Fr_tr f1 f2 (by omega) (by omega)) (p' := p) (q' := s) (by omega) (by omega)) f3 (by omega) la, p_30.mpr ⟨rfl, kp, r, P_fr q1 (Fr_tr f2 f3 (by omega) la) (by omega) (Or.inl (by omega)), kk, p_31.mpr ⟨rfl, kk, kn, rfl, s, P_fr q2 f3 (by omega) (Or.inl (by omega)), q3⟩⟩, ?_⟩
          simp (disch := omega) only [c_25, tr_25, c_27, tx_27, ev_0, ev_1, ev_16, ev_17, ev_18, ev_2, ev_3, ev_4, ev_5, ev_6, ev_7, ev_8, ev_9, ev_20, ev_21, ev_22, ev_23, ev_24, ev_25, ev_27, ev_28, ev_30, ev_31, ev_32, ev_33, ev_34, ev_35, ev_36, ev_37, ev_38, ev_39, ev_40, ev_41, ev_42, ev_43, ev_45, ev_46, ev_47, ev_48, ev_49, ev_50, ev_51, ev_52, ev_54, ev_55, ev_57, ev_58, ev_59, k2_0, k2_1, k2_2, k3a, k3b, k4, o1_s, xbin_0, xbin_1, xbin_2, xbin_3, xbin_4, xbin_5, xbin_6, xbin_7, xbin_8, xbin_9, xbin_11, xbin_12, xun_0, xun_1, xun_2, xun_3, xun_4, xun_5, k6a, k8, k8b, k9, k20, k20b_0, k20b_1, k20b_2, k20b_3, k20b_4, k20b_5, k21_0, k21_1, k21_2, k21_3, k21_4, k21_5, k23, k24, k25, k27, k28, k40, nz_1, nz_2, nz_3, k31_0, k31_1, k31_2, k31_3, k32u, k33, k34, k35, k35b, k36, k37, k38, k47, k49, k49b_0, k49b_1, k49b_2, k49b_3, k50_0, k50_s, k51_0, k51_s, k55, k58, k58b, rk_0, rk_1, rk_2, rk_9, rk_3, rk_4, rk_5, sw_n, sw_c, xtb_n, xtb_c, lset_0, lset_2, lset_1, lkm_0, lkm_2, lkm_9, lkm_1, lkm_n, if_some1, c_10, c_01, c_x0, c_1x, c_n0, c_nn, List.getElem?_cons_zero, List.getElem?_cons_succ, List.set_cons_zero, List.set_cons_succ, List.length_cons, List.length_nil, Int.reduceToNat, Nat.reduceDiv, Nat.reduceMod, Nat.reduceSub, Nat.reduceAdd, Nat.reduceMul, Nat.reduceLT, Nat.reduceLeDiff, Nat.reduceEqDiff, Int.reduceMod, Int.reduceSub, Int.reduceNeg, Int.reduceAdd, Int.reduceMul, Int.reduceLT, Int.reduceLE, Int.reduceEq, put_ss, if_true, if_false, ite_true, ite_false, reduceIte, eq_self, and_true, true_and, and_false, false_and, or_true, true_or, or_false, false_or, not_true_eq_false, not_false_eq_true, C_19, C_20, C_21, k5_67_1, k34_67_1, k54_67_1, k54b_67_1_0, k54b_67_1_1, k5_67_0, k5_51_5, k34_51_5, k54_51_5, k54b_51_5_0, gv_p, gp_p, gv_n, ad2, ad3, adm, adn, w32_of, kp, c1, c2, c3]
        · obtain ⟨d, rfl⟩ : ∃ d', d = d' + 2 := ⟨d - 2, by omega⟩
          obtain ⟨w1, w2, w3, w4⟩ := id hj
          have i_p := fun (s dd : Int) (D : Nat) (hs : 33 ≤ s ∧ s ≤ 255 ∨ 300 ≤ s ∧ s ≤ 303) => N_209 (L := L) (xs := xs) (F := F) (d := D) (dep := dd) (a1 := s) (m := jb j mr) hb (by omega) hTp hs
          have y_p := fun (s dd : Int) (D : Nat) (hs : 0 ≤ s ∧ s ≤ 12) => N_210 (L := L) (xs := xs) (F := F) (d := D) (dep := dd) (a1 := s) (m := jb j mr) hb (by omega) hTp hs
          have w_p := fun (dd : Int) (D : Nat) => N_211 (L := L) (xs := xs) (F := F) (d := D) (dep := dd) (m := jb j mr) hb (by omega) hTp
          obtain ⟨j1, hj1, r1⟩ := gr L xs d (put (put j 158 46 (j 158 46 + 2)) 158 48 (j 158 46)) (by omega) (by unfold JI; simp only [put_ss, Nat.reduceEqDiff, if_true, if_false]; omega)
          obtain ⟨v1, v2, v3, v4⟩ := id hj1
          obtain ⟨j2, y2, a7, a8, a9, hj2, r2⟩ := kr L xs d (put (put (put j1 158 48 (j 158 48)) 181 (j 158 46).toNat (mr 158 41)) 158 40 (j1 158 39)) (j 158 48) (j 158 46) (j 158 46 + 1) (j1 158 46) (j1 158 40) 0 (9, 0) (9, 0) (9, 0) (by omega) (by unfold JI; simp only [put_ss, Nat.reduceEqDiff, if_true, if_false]; omega)
          obtain ⟨j3, y3, b7, b8, b9, hj3, r3⟩ := lr L xs d j2 (j 158 48) (j 158 46) (j 158 46 + 1) (j1 158 46) (j1 158 40) y2 a7 a8 a9 (F - 1) (by omega) hj2 (by omega)
          obtain ⟨u1, u2, u3, u4⟩ := id hj3
          have r4 : ∀ s h, LD F (d + 10) la_234_3 lb_234_3 F (s, h) = D1 F (d + 10) la_234_3 lb_234_3 (F - 1) (Ev F (d + 10) la_234_3 0 (s, h)) := fun s h => by
            obtain ⟨n, hn⟩ : ∃ n, F = n + 1 := ⟨F - 1, by omega⟩
            have := ld_s (F := F) (d := d + 10) (n := n) (a := la_234_3) (b := lb_234_3) (s := (s, h))
            rw [← hn] at this
            rw [this, hn]
            rfl
          refine ⟨put (put (put j3 158 39 (j3 158 40)) 158 40 (j1 158 40)) 181 (j 158 46 + 1).toNat (mr 158 41), by unfold JI; simp only [put_ss, Nat.reduceEqDiff, if_true, if_false]; omega, ?_⟩
          simp (disch := omega) only [c_231, tr_231, c_234, tx_234, ev_0, ev_1, ev_16, ev_17, ev_18, ev_2, ev_3, ev_4, ev_5, ev_6, ev_7, ev_8, ev_9, ev_20, ev_21, ev_22, ev_23, ev_24, ev_25, ev_27, ev_28, ev_30, ev_31, ev_32, ev_33, ev_34, ev_35, ev_36, ev_37, ev_38, ev_39, ev_40, ev_41, ev_42, ev_43, ev_45, ev_46, ev_47, ev_48, ev_49, ev_50, ev_51, ev_52, ev_54, ev_55, ev_57, ev_58, ev_59, k2_0, k2_1, k2_2, k3a, k3b, k4, o1_s, xbin_0, xbin_1, xbin_2, xbin_3, xbin_4, xbin_5, xbin_6, xbin_7, xbin_8, xbin_9, xbin_11, xbin_12, xun_0, xun_1, xun_2, xun_3, xun_4, xun_5, k6a, k8, k8b, k9, k20, k20b_0, k20b_1, k20b_2, k20b_3, k20b_4, k20b_5, k21_0, k21_1, k21_2, k21_3, k21_4, k21_5, k23, k24, k25, k27, k28, k40, nz_1, nz_2, nz_3, k31_0, k31_1, k31_2, k31_3, k32u, k33, k34, k35, k35b, k36, k37, k38, k47, k49, k49b_0, k49b_1, k49b_2, k49b_3, k50_0, k50_s, k51_0, k51_s, k55, k58, k58b, rk_0, rk_1, rk_2, rk_9, rk_3, rk_4, rk_5, sw_n, sw_c, xtb_n, xtb_c, lset_0, lset_2, lset_1, lkm_0, lkm_2, lkm_9, lkm_1, lkm_n, if_some1, c_10, c_01, c_x0, c_1x, c_n0, c_nn, List.getElem?_cons_zero, List.getElem?_cons_succ, List.set_cons_zero, List.set_cons_succ, List.length_cons, List.length_nil, Int.reduceToNat, Nat.reduceDiv, Nat.reduceMod, Nat.reduceSub, Nat.reduceAdd, Nat.reduceMul, Nat.reduceLT, Nat.reduceLeDiff, Nat.reduceEqDiff, Int.reduceMod, Int.reduceSub, Int.reduceNeg, Int.reduceAdd, Int.reduceMul, Int.reduceLT, Int.reduceLE, Int.reduceEq, put_ss, if_true, if_false, ite_true, ite_false, reduceIte, eq_self, and_true, true_and, and_false, false_and, or_true, true_or, or_false, false_or, not_true_eq_false, not_false_eq_true, nj_212, nj_216, nj_208, nj_246, nj_242, nj_243, rv_t, rv_d, rv_f, rv_b, rv_k, rv_w, rv_v, rv_h, rp_t, rp_d, sgn, bf_207, bf_209, bf_210, bf_211, bf_212, bf_208, bf_213, bf_214, bf_215, bf_216, bf_246, bf_239, bf_238, bf_237, bf_236, fl_d, fl_b, fl_t, fl_f, fl_h, fl_v, fp_d, rj_30, rjp_30, fj_30, fjp_30, rj_31, rjp_31, fj_31, fjp_31, rj_39, rjp_39, fj_39, fjp_39, rj_40, rjp_40, fj_40, fjp_40, rj_46, rjp_46, fj_46, fjp_46, rj_48, rjp_48, fj_48, fjp_48, rj_172, rjp_172, fj_172, fjp_172, rj_181, rjp_181, fj_181, fjp_181, rj_o, fj_o, rj_p, fj_p, j_244, j_245, jf_245, j_224, jf_224, j_225, jf_225, j_228, jf_228, jf_230, jb_f, jb_b, jb_v, jb_k, jb_w, j_244b, jb_48, put_ss, l1_i, l1_1, l1_0, l2_0, l2_1, l2_2, l2_3, l3_0, w2_0, w2_1, w2_2, w2_3, d1_0, d1_1, d1_2, d1_3, d2_i, d2_1, d2_0, k5_158_15, k34_158_15, k34i_158_15, k5_158_14, k34_158_14, k34i_158_14, k5_158_48, k34_158_48, k5_158_30, k34_158_30, k54_158_30, k54b_158_30_0, k5_158_33, k34_158_33, k5_158_46, k34_158_46, k54_158_46, k54b_158_46_0, k5_158_39, k34_158_39, k54_158_39, k54b_158_39_0, k5_158_40, k34_158_40, hb, hf, ad2, ad3, i_p, y_p, w_p, kp, r1, r2, r3, r4]
      · right
        refine ⟨q, by omega, lb, fun L xs d V hbd => ?_, fun L xs d j hbd hj => ?_⟩
        · obtain ⟨d, rfl⟩ : ∃ d', d = d' + 2 := ⟨d - 2, by omega⟩
          obtain ⟨V1, f1, q1, c1⟩ := gc L xs d V (by omega)
          obtain ⟨V2, f2, q2, c2⟩ := kc L xs d V1 (by omega)
          obtain ⟨V3, left3, c3⟩ := lc L xs d V2 (mc 51 5) F (by omega) (by omega) hN (by omega)
          refine ⟨V3, ?_⟩
          simp (disch := omega) only [c_25, tr_25, c_27, tx_27, ev_0, ev_1, ev_16, ev_17, ev_18, ev_2, ev_3, ev_4, ev_5, ev_6, ev_7, ev_8, ev_9, ev_20, ev_21, ev_22, ev_23, ev_24, ev_25, ev_27, ev_28, ev_30, ev_31, ev_32, ev_33, ev_34, ev_35, ev_36, ev_37, ev_38, ev_39, ev_40, ev_41, ev_42, ev_43, ev_45, ev_46, ev_47, ev_48, ev_49, ev_50, ev_51, ev_52, ev_54, ev_55, ev_57, ev_58, ev_59, k2_0, k2_1, k2_2, k3a, k3b, k4, o1_s, xbin_0, xbin_1, xbin_2, xbin_3, xbin_4, xbin_5, xbin_6, xbin_7, xbin_8, xbin_9, xbin_11, xbin_12, xun_0, xun_1, xun_2, xun_3, xun_4, xun_5, k6a, k8, k8b, k9, k20, k20b_0, k20b_1, k20b_2, k20b_3, k20b_4, k20b_5, k21_0, k21_1, k21_2, k21_3, k21_4, k21_5, k23, k24, k25, k27, k28, k40, nz_1, nz_2, nz_3, k31_0, k31_1, k31_2, k31_3, k32u, k33, k34, k35, k35b, k36, k37, k38, k47, k49, k49b_0, k49b_1, k49b_2, k49b_3, k50_0, k50_s, k51_0, k51_s, k55, k58, k58b, rk_0, rk_1, rk_2, rk_9, rk_3, rk_4, rk_5, sw_n, sw_c, xtb_n, xtb_c, lset_0, lset_2, lset_1, lkm_0, lkm_2, lkm_9, lkm_1, lkm_n, if_some1, c_10, c_01, c_x0, c_1x, c_n0, c_nn, List.getElem?_cons_zero, List.getElem?_cons_succ, List.set_cons_zero, List.set_cons_succ, List.length_cons, List.length_nil, Int.reduceToNat, Nat.reduceDiv, Nat.reduceMod, Nat.reduceSub, Nat.reduceAdd, Nat.reduceMul, Nat.reduceLT, Nat.reduceLeDiff, Nat.reduceEqDiff, Int.reduceMod, Int.reduceSub, Int.reduceNeg, Int.reduceAdd, Int.reduceMul, Int.reduceLT, Int.reduceLE, Int.reduceEq, put_ss, if_true, if_false, ite_true, ite_false, reduceIte, eq_self, and_true, true_and, and_false, false_and, or_true, true_or, or_false, false_or, not_true_eq_false, not_false_eq_true, C_19, C_20, C_21, k5_67_1, k34_67_1, k54_67_1, k54b_67_1_0, k54b_67_1_1, k5_67_0, k5_51_5, k34_51_5, k54_51_5, k54b_51_5_0, gv_p, gp_p, gv_n, ad2, ad3, adm, adn, w32_of, kp, c1, c2, c3]
        · obtain ⟨d, rfl⟩ : ∃ d', d = d' + 2 := ⟨d - 2, by omega⟩
          obtain ⟨w1, w2, w3, w4⟩ := id hj
          have i_p := fun (s dd : Int) (D : Nat) (hs : 33 ≤ s ∧ s ≤ 255 ∨ 300 ≤ s ∧ s ≤ 303) => N_209 (L := L) (xs := xs) (F := F) (d := D) (dep := dd) (a1 := s) (m := jb j mr) hb (by omega) hTp hs
          have y_p := fun (s dd : Int) (D : Nat) (hs : 0 ≤ s ∧ s ≤ 12) => N_210 (L := L) (xs := xs) (F := F) (d := D) (dep := dd) (a1 := s) (m := jb j mr) hb (by omega) hTp hs
          have w_p := fun (dd : Int) (D : Nat) => N_211 (L := L) (xs := xs) (F := F) (d := D) (dep := dd) (m := jb j mr) hb (by omega) hTp
          obtain ⟨j1, hj1, r1⟩ := gr L xs d (put (put j 158 46 (j 158 46 + 2)) 158 48 (j 158 46)) (by omega) (by unfold JI; simp only [put_ss, Nat.reduceEqDiff, if_true, if_false]; omega)
          obtain ⟨v1, v2, v3, v4⟩ := id hj1
          obtain ⟨j2, y2, a7, a8, a9, hj2, r2⟩ := kr L xs d (put (put (put j1 158 48 (j 158 48)) 181 (j 158 46).toNat (mr 158 41)) 158 40 (j1 158 39)) (j 158 48) (j 158 46) (j 158 46 + 1) (j1 158 46) (j1 158 40) 0 (9, 0) (9, 0) (9, 0) (by omega) (by unfold JI; simp only [put_ss, Nat.reduceEqDiff, if_true, if_false]; omega)
          obtain ⟨j3, dp, y3, b7, b8, b9, r3⟩ := lr L xs d j2 (j 158 48) (j 158 46) (j 158 46 + 1) (j1 158 46) (j1 158 40) y2 a7 a8 a9 (F - 1) (by omega) hj2 (by omega)
          have r4 : ∀ s h, LD F (d + 10) la_234_3 lb_234_3 F (s, h) = D1 F (d + 10) la_234_3 lb_234_3 (F - 1) (Ev F (d + 10) la_234_3 0 (s, h)) := fun s h => by
            obtain ⟨n, hn⟩ : ∃ n, F = n + 1 := ⟨F - 1, by omega⟩
            have := ld_s (F := F) (d := d + 10) (n := n) (a := la_234_3) (b := lb_234_3) (s := (s, h))
            rw [← hn] at this
            rw [this, hn]
            rfl
          refine ⟨put (put (put j3 158 39 (j3 158 40)) 158 40 (j1 158 40)) 181 (j 158 46 + 1).toNat (mr 158 41), dp, ?_⟩
          simp (disch := omega) only [c_231, tr_231, c_234, tx_234, ev_0, ev_1, ev_16, ev_17, ev_18, ev_2, ev_3, ev_4, ev_5, ev_6, ev_7, ev_8, ev_9, ev_20, ev_21, ev_22, ev_23, ev_24, ev_25, ev_27, ev_28, ev_30, ev_31, ev_32, ev_33, ev_34, ev_35, ev_36, ev_37, ev_38, ev_39, ev_40, ev_41, ev_42, ev_43, ev_45, ev_46, ev_47, ev_48, ev_49, ev_50, ev_51, ev_52, ev_54, ev_55, ev_57, ev_58, ev_59, k2_0, k2_1, k2_2, k3a, k3b, k4, o1_s, xbin_0, xbin_1, xbin_2, xbin_3, xbin_4, xbin_5, xbin_6, xbin_7, xbin_8, xbin_9, xbin_11, xbin_12, xun_0, xun_1, xun_2, xun_3, xun_4, xun_5, k6a, k8, k8b, k9, k20, k20b_0, k20b_1, k20b_2, k20b_3, k20b_4, k20b_5, k21_0, k21_1, k21_2, k21_3, k21_4, k21_5, k23, k24, k25, k27, k28, k40, nz_1, nz_2, nz_3, k31_0, k31_1, k31_2, k31_3, k32u, k33, k34, k35, k35b, k36, k37, k38, k47, k49, k49b_0, k49b_1, k49b_2, k49b_3, k50_0, k50_s, k51_0, k51_s, k55, k58, k58b, rk_0, rk_1, rk_2, rk_9, rk_3, rk_4, rk_5, sw_n, sw_c, xtb_n, xtb_c, lset_0, lset_2, lset_1, lkm_0, lkm_2, lkm_9, lkm_1, lkm_n, if_some1, c_10, c_01, c_x0, c_1x, c_n0, c_nn, List.getElem?_cons_zero, List.getElem?_cons_succ, List.set_cons_zero, List.set_cons_succ, List.length_cons, List.length_nil, Int.reduceToNat, Nat.reduceDiv, Nat.reduceMod, Nat.reduceSub, Nat.reduceAdd, Nat.reduceMul, Nat.reduceLT, Nat.reduceLeDiff, Nat.reduceEqDiff, Int.reduceMod, Int.reduceSub, Int.reduceNeg, Int.reduceAdd, Int.reduceMul, Int.reduceLT, Int.reduceLE, Int.reduceEq, put_ss, if_true, if_false, ite_true, ite_false, reduceIte, eq_self, and_true, true_and, and_false, false_and, or_true, true_or, or_false, false_or, not_true_eq_false, not_false_eq_true, nj_212, nj_216, nj_208, nj_246, nj_242, nj_243, rv_t, rv_d, rv_f, rv_b, rv_k, rv_w, rv_v, rv_h, rp_t, rp_d, sgn, bf_207, bf_209, bf_210, bf_211, bf_212, bf_208, bf_213, bf_214, bf_215, bf_216, bf_246, bf_239, bf_238, bf_237, bf_236, fl_d, fl_b, fl_t, fl_f, fl_h, fl_v, fp_d, rj_30, rjp_30, fj_30, fjp_30, rj_31, rjp_31, fj_31, fjp_31, rj_39, rjp_39, fj_39, fjp_39, rj_40, rjp_40, fj_40, fjp_40, rj_46, rjp_46, fj_46, fjp_46, rj_48, rjp_48, fj_48, fjp_48, rj_172, rjp_172, fj_172, fjp_172, rj_181, rjp_181, fj_181, fjp_181, rj_o, fj_o, rj_p, fj_p, j_244, j_245, jf_245, j_224, jf_224, j_225, jf_225, j_228, jf_228, jf_230, jb_f, jb_b, jb_v, jb_k, jb_w, j_244b, jb_48, put_ss, l1_i, l1_1, l1_0, l2_0, l2_1, l2_2, l2_3, l3_0, w2_0, w2_1, w2_2, w2_3, d1_0, d1_1, d1_2, d1_3, d2_i, d2_1, d2_0, k5_158_15, k34_158_15, k34i_158_15, k5_158_14, k34_158_14, k34i_158_14, k5_158_48, k34_158_48, k5_158_30, k34_158_30, k54_158_30, k54b_158_30_0, k5_158_33, k34_158_33, k5_158_46, k34_158_46, k54_158_46, k54b_158_46_0, k5_158_39, k34_158_39, k54_158_39, k54b_158_39_0, k5_158_40, k34_158_40, hb, hf, ad2, ad3, i_p, y_p, w_p, kp, r1, r2, r3, r4]
    · right
      refine ⟨s, by omega, kb, fun L xs d V hbd => ?_, fun L xs d j hbd hj => ?_⟩
      · obtain ⟨d, rfl⟩ : ∃ d', d = d' + 2 := ⟨d - 2, by omega⟩
        obtain ⟨V1, f1, q1, c1⟩ := gc L xs d V (by omega)
        obtain ⟨V2, c2⟩ := kc L xs d V1 (by omega)
        refine ⟨V2, ?_⟩
        simp (disch := omega) only [c_25, tr_25, c_27, tx_27, ev_0, ev_1, ev_16, ev_17, ev_18, ev_2, ev_3, ev_4, ev_5, ev_6, ev_7, ev_8, ev_9, ev_20, ev_21, ev_22, ev_23, ev_24, ev_25, ev_27, ev_28, ev_30, ev_31, ev_32, ev_33, ev_34, ev_35, ev_36, ev_37, ev_38, ev_39, ev_40, ev_41, ev_42, ev_43, ev_45, ev_46, ev_47, ev_48, ev_49, ev_50, ev_51, ev_52, ev_54, ev_55, ev_57, ev_58, ev_59, k2_0, k2_1, k2_2, k3a, k3b, k4, o1_s, xbin_0, xbin_1, xbin_2, xbin_3, xbin_4, xbin_5, xbin_6, xbin_7, xbin_8, xbin_9, xbin_11, xbin_12, xun_0, xun_1, xun_2, xun_3, xun_4, xun_5, k6a, k8, k8b, k9, k20, k20b_0, k20b_1, k20b_2, k20b_3, k20b_4, k20b_5, k21_0, k21_1, k21_2, k21_3, k21_4, k21_5, k23, k24, k25, k27, k28, k40, nz_1, nz_2, nz_3, k31_0, k31_1, k31_2, k31_3, k32u, k33, k34, k35, k35b, k36, k37, k38, k47, k49, k49b_0, k49b_1, k49b_2, k49b_3, k50_0, k50_s, k51_0, k51_s, k55, k58, k58b, rk_0, rk_1, rk_2, rk_9, rk_3, rk_4, rk_5, sw_n, sw_c, xtb_n, xtb_c, lset_0, lset_2, lset_1, lkm_0, lkm_2, lkm_9, lkm_1, lkm_n, if_some1, c_10, c_01, c_x0, c_1x, c_n0, c_nn, List.getElem?_cons_zero, List.getElem?_cons_succ, List.set_cons_zero, List.set_cons_succ, List.length_cons, List.length_nil, Int.reduceToNat, Nat.reduceDiv, Nat.reduceMod, Nat.reduceSub, Nat.reduceAdd, Nat.reduceMul, Nat.reduceLT, Nat.reduceLeDiff, Nat.reduceEqDiff, Int.reduceMod, Int.reduceSub, Int.reduceNeg, Int.reduceAdd, Int.reduceMul, Int.reduceLT, Int.reduceLE, Int.reduceEq, put_ss, if_true, if_false, ite_true, ite_false, reduceIte, eq_self, and_true, true_and, and_false, false_and, or_true, true_or, or_false, false_or, not_true_eq_false, not_false_eq_true, C_19, C_20, C_21, k5_67_1, k34_67_1, k54_67_1, k54b_67_1_0, k54b_67_1_1, k5_67_0, k5_51_5, k34_51_5, k54_51_5, k54b_51_5_0, gv_p, gp_p, gv_n, ad2, ad3, adm, adn, w32_of, kp, c1, c2]
      · obtain ⟨d, rfl⟩ : ∃ d', d = d' + 2 := ⟨d - 2, by omega⟩
        obtain ⟨w1, w2, w3, w4⟩ := id hj
        have i_p := fun (s dd : Int) (D : Nat) (hs : 33 ≤ s ∧ s ≤ 255 ∨ 300 ≤ s ∧ s ≤ 303) => N_209 (L := L) (xs := xs) (F := F) (d := D) (dep := dd) (a1 := s) (m := jb j mr) hb (by omega) hTp hs
        have y_p := fun (s dd : Int) (D : Nat) (hs : 0 ≤ s ∧ s ≤ 12) => N_210 (L := L) (xs := xs) (F := F) (d := D) (dep := dd) (a1 := s) (m := jb j mr) hb (by omega) hTp hs
        have w_p := fun (dd : Int) (D : Nat) => N_211 (L := L) (xs := xs) (F := F) (d := D) (dep := dd) (m := jb j mr) hb (by omega) hTp
        obtain ⟨j1, hj1, r1⟩ := gr L xs d (put (put j 158 46 (j 158 46 + 2)) 158 48 (j 158 46)) (by omega) (by unfold JI; simp only [put_ss, Nat.reduceEqDiff, if_true, if_false]; omega)
        obtain ⟨v1, v2, v3, v4⟩ := id hj1
        obtain ⟨j2, dp, y2, a7, a8, a9, r2⟩ := kr L xs d (put (put (put j1 158 48 (j 158 48)) 181 (j 158 46).toNat (mr 158 41)) 158 40 (j1 158 39)) (j 158 48) (j 158 46) (j 158 46 + 1) (j1 158 46) (j1 158 40) 0 (9, 0) (9, 0) (9, 0) (by omega) (by unfold JI; simp only [put_ss, Nat.reduceEqDiff, if_true, if_false]; omega)
        have r4 : ∀ s h, LD F (d + 10) la_234_3 lb_234_3 F (s, h) = D1 F (d + 10) la_234_3 lb_234_3 (F - 1) (Ev F (d + 10) la_234_3 0 (s, h)) := fun s h => by
          obtain ⟨n, hn⟩ : ∃ n, F = n + 1 := ⟨F - 1, by omega⟩
          have := ld_s (F := F) (d := d + 10) (n := n) (a := la_234_3) (b := lb_234_3) (s := (s, h))
          rw [← hn] at this
          rw [this, hn]
          rfl
        refine ⟨put (put (put j2 158 39 (j2 158 40)) 158 40 (j1 158 40)) 181 (j 158 46 + 1).toNat (mr 158 41), dp, ?_⟩
        simp (disch := omega) only [c_231, tr_231, c_234, tx_234, ev_0, ev_1, ev_16, ev_17, ev_18, ev_2, ev_3, ev_4, ev_5, ev_6, ev_7, ev_8, ev_9, ev_20, ev_21, ev_22, ev_23, ev_24, ev_25, ev_27, ev_28, ev_30, ev_31, ev_32, ev_33, ev_34, ev_35, ev_36, ev_37, ev_38, ev_39, ev_40, ev_41, ev_42, ev_43, ev_45, ev_46, ev_47, ev_48, ev_49, ev_50, ev_51, ev_52, ev_54, ev_55, ev_57, ev_58, ev_59, k2_0, k2_1, k2_2, k3a, k3b, k4, o1_s, xbin_0, xbin_1, xbin_2, xbin_3, xbin_4, xbin_5, xbin_6, xbin_7, xbin_8, xbin_9, xbin_11, xbin_12, xun_0, xun_1, xun_2, xun_3, xun_4, xun_5, k6a, k8, k8b, k9, k20, k20b_0, k20b_1, k20b_2, k20b_3, k20b_4, k20b_5, k21_0, k21_1, k21_2, k21_3, k21_4, k21_5, k23, k24, k25, k27, k28, k40, nz_1, nz_2, nz_3, k31_0, k31_1, k31_2, k31_3, k32u, k33, k34, k35, k35b, k36, k37, k38, k47, k49, k49b_0, k49b_1, k49b_2, k49b_3, k50_0, k50_s, k51_0, k51_s, k55, k58, k58b, rk_0, rk_1, rk_2, rk_9, rk_3, rk_4, rk_5, sw_n, sw_c, xtb_n, xtb_c, lset_0, lset_2, lset_1, lkm_0, lkm_2, lkm_9, lkm_1, lkm_n, if_some1, c_10, c_01, c_x0, c_1x, c_n0, c_nn, List.getElem?_cons_zero, List.getElem?_cons_succ, List.set_cons_zero, List.set_cons_succ, List.length_cons, List.length_nil, Int.reduceToNat, Nat.reduceDiv, Nat.reduceMod, Nat.reduceSub, Nat.reduceAdd, Nat.reduceMul, Nat.reduceLT, Nat.reduceLeDiff, Nat.reduceEqDiff, Int.reduceMod, Int.reduceSub, Int.reduceNeg, Int.reduceAdd, Int.reduceMul, Int.reduceLT, Int.reduceLE, Int.reduceEq, put_ss, if_true, if_false, ite_true, ite_false, reduceIte, eq_self, and_true, true_and, and_false, false_and, or_true, true_or, or_false, false_or, not_true_eq_false, not_false_eq_true, nj_212, nj_216, nj_208, nj_246, nj_242, nj_243, rv_t, rv_d, rv_f, rv_b, rv_k, rv_w, rv_v, rv_h, rp_t, rp_d, sgn, bf_207, bf_209, bf_210, bf_211, bf_212, bf_208, bf_213, bf_214, bf_215, bf_216, bf_246, bf_239, bf_238, bf_237, bf_236, fl_d, fl_b, fl_t, fl_f, fl_h, fl_v, fp_d, rj_30, rjp_30, fj_30, fjp_30, rj_31, rjp_31, fj_31, fjp_31, rj_39, rjp_39, fj_39, fjp_39, rj_40, rjp_40, fj_40, fjp_40, rj_46, rjp_46, fj_46, fjp_46, rj_48, rjp_48, fj_48, fjp_48, rj_172, rjp_172, fj_172, fjp_172, rj_181, rjp_181, fj_181, fjp_181, rj_o, fj_o, rj_p, fj_p, j_244, j_245, jf_245, j_224, jf_224, j_225, jf_225, j_228, jf_228, jf_230, jb_f, jb_b, jb_v, jb_k, jb_w, j_244b, jb_48, put_ss, l1_i, l1_1, l1_0, l2_0, l2_1, l2_2, l2_3, l3_0, w2_0, w2_1, w2_2, w2_3, d1_0, d1_1, d1_2, d1_3, d2_i, d2_1, d2_0, k5_158_15, k34_158_15, k34i_158_15, k5_158_14, k34_158_14, k34i_158_14, k5_158_48, k34_158_48, k5_158_30, k34_158_30, k54_158_30, k54b_158_30_0, k5_158_33, k34_158_33, k5_158_46, k34_158_46, k54_158_46, k54b_158_46_0, k5_158_39, k34_158_39, k54_158_39, k54b_158_39_0, k5_158_40, k34_158_40, hb, hf, ad2, ad3, i_p, y_p, w_p, kp, r1, r2, r4, eb_234_3]
  · right
    refine ⟨r, by omega, gb, fun L xs d V hbd => ?_, fun L xs d j hbd hj => ?_⟩
    · obtain ⟨d, rfl⟩ : ∃ d', d = d' + 2 := ⟨d - 2, by omega⟩
      obtain ⟨V1, c1⟩ := gc L xs d V (by omega)
      refine ⟨V1, ?_⟩
      simp (disch := omega) only [c_25, tr_25, c_27, tx_27, ev_0, ev_1, ev_16, ev_17, ev_18, ev_2, ev_3, ev_4, ev_5, ev_6, ev_7, ev_8, ev_9, ev_20, ev_21, ev_22, ev_23, ev_24, ev_25, ev_27, ev_28, ev_30, ev_31, ev_32, ev_33, ev_34, ev_35, ev_36, ev_37, ev_38, ev_39, ev_40, ev_41, ev_42, ev_43, ev_45, ev_46, ev_47, ev_48, ev_49, ev_50, ev_51, ev_52, ev_54, ev_55, ev_57, ev_58, ev_59, k2_0, k2_1, k2_2, k3a, k3b, k4, o1_s, xbin_0, xbin_1, xbin_2, xbin_3, xbin_4, xbin_5, xbin_6, xbin_7, xbin_8, xbin_9, xbin_11, xbin_12, xun_0, xun_1, xun_2, xun_3, xun_4, xun_5, k6a, k8, k8b, k9, k20, k20b_0, k20b_1, k20b_2, k20b_3, k20b_4, k20b_5, k21_0, k21_1, k21_2, k21_3, k21_4, k21_5, k23, k24, k25, k27, k28, k40, nz_1, nz_2, nz_3, k31_0, k31_1, k31_2, k31_3, k32u, k33, k34, k35, k35b, k36, k37, k38, k47, k49, k49b_0, k49b_1, k49b_2, k49b_3, k50_0, k50_s, k51_0, k51_s, k55, k58, k58b, rk_0, rk_1, rk_2, rk_9, rk_3, rk_4, rk_5, sw_n, sw_c, xtb_n, xtb_c, lset_0, lset_2, lset_1, lkm_0, lkm_2, lkm_9, lkm_1, lkm_n, if_some1, c_10, c_01, c_x0, c_1x, c_n0, c_nn, List.getElem?_cons_zero, List.getElem?_cons_succ, List.set_cons_zero, List.set_cons_succ, List.length_cons, List.length_nil, Int.reduceToNat, Nat.reduceDiv, Nat.reduceMod, Nat.reduceSub, Nat.reduceAdd, Nat.reduceMul, Nat.reduceLT, Nat.reduceLeDiff, Nat.reduceEqDiff, Int.reduceMod, Int.reduceSub, Int.reduceNeg, Int.reduceAdd, Int.reduceMul, Int.reduceLT, Int.reduceLE, Int.reduceEq, put_ss, if_true, if_false, ite_true, ite_false, reduceIte, eq_self, and_true, true_and, and_false, false_and, or_true, true_or, or_false, false_or, not_true_eq_false, not_false_eq_true, C_19, C_20, C_21, k5_67_1, k34_67_1, k54_67_1, k54b_67_1_0, k54b_67_1_1, k5_67_0, k5_51_5, k34_51_5, k54_51_5, k54b_51_5_0, gv_p, gp_p, gv_n, ad2, ad3, adm, adn, w32_of, kp, c1]
    · obtain ⟨d, rfl⟩ : ∃ d', d = d' + 2 := ⟨d - 2, by omega⟩
      obtain ⟨w1, w2, w3, w4⟩ := id hj
      have i_p := fun (s dd : Int) (D : Nat) (hs : 33 ≤ s ∧ s ≤ 255 ∨ 300 ≤ s ∧ s ≤ 303) => N_209 (L := L) (xs := xs) (F := F) (d := D) (dep := dd) (a1 := s) (m := jb j mr) hb (by omega) hTp hs
      have y_p := fun (s dd : Int) (D : Nat) (hs : 0 ≤ s ∧ s ≤ 12) => N_210 (L := L) (xs := xs) (F := F) (d := D) (dep := dd) (a1 := s) (m := jb j mr) hb (by omega) hTp hs
      have w_p := fun (dd : Int) (D : Nat) => N_211 (L := L) (xs := xs) (F := F) (d := D) (dep := dd) (m := jb j mr) hb (by omega) hTp
      obtain ⟨j1, dp, r1⟩ := gr L xs d (put (put j 158 46 (j 158 46 + 2)) 158 48 (j 158 46)) (by omega) (by unfold JI; simp only [put_ss, Nat.reduceEqDiff, if_true, if_false]; omega)
      obtain ⟨n9, hn9⟩ : ∃ n, F = n + 1 := ⟨F - 1, by omega⟩
      have c9 : ∀ s h, LF F (d + 10) la_234_4 lb_234_4 lc_234_4 F (s, h) = LF F (d + 10) la_234_4 lb_234_4 lc_234_4 (n9 + 1) (s, h) := fun s h => by rw [← hn9]
      have r4 : ∀ s h, LD F (d + 10) la_234_3 lb_234_3 F (s, h) = D1 F (d + 10) la_234_3 lb_234_3 (F - 1) (Ev F (d + 10) la_234_3 0 (s, h)) := fun s h => by
        obtain ⟨n, hn⟩ : ∃ n, F = n + 1 := ⟨F - 1, by omega⟩
        have := ld_s (F := F) (d := d + 10) (n := n) (a := la_234_3) (b := lb_234_3) (s := (s, h))
        rw [← hn] at this
        rw [this, hn]
        rfl
      exact ⟨_, _, by
        simp (disch := omega) only [c_231, tr_231, c_234, tx_234, ev_0, ev_1, ev_16, ev_17, ev_18, ev_2, ev_3, ev_4, ev_5, ev_6, ev_7, ev_8, ev_9, ev_20, ev_21, ev_22, ev_23, ev_24, ev_25, ev_27, ev_28, ev_30, ev_31, ev_32, ev_33, ev_34, ev_35, ev_36, ev_37, ev_38, ev_39, ev_40, ev_41, ev_42, ev_43, ev_45, ev_46, ev_47, ev_48, ev_49, ev_50, ev_51, ev_52, ev_54, ev_55, ev_57, ev_58, ev_59, k2_0, k2_1, k2_2, k3a, k3b, k4, o1_s, xbin_0, xbin_1, xbin_2, xbin_3, xbin_4, xbin_5, xbin_6, xbin_7, xbin_8, xbin_9, xbin_11, xbin_12, xun_0, xun_1, xun_2, xun_3, xun_4, xun_5, k6a, k8, k8b, k9, k20, k20b_0, k20b_1, k20b_2, k20b_3, k20b_4, k20b_5, k21_0, k21_1, k21_2, k21_3, k21_4, k21_5, k23, k24, k25, k27, k28, k40, nz_1, nz_2, nz_3, k31_0, k31_1, k31_2, k31_3, k32u, k33, k34, k35, k35b, k36, k37, k38, k47, k49, k49b_0, k49b_1, k49b_2, k49b_3, k50_0, k50_s, k51_0, k51_s, k55, k58, k58b, rk_0, rk_1, rk_2, rk_9, rk_3, rk_4, rk_5, sw_n, sw_c, xtb_n, xtb_c, lset_0, lset_2, lset_1, lkm_0, lkm_2, lkm_9, lkm_1, lkm_n, if_some1, c_10, c_01, c_x0, c_1x, c_n0, c_nn, List.getElem?_cons_zero, List.getElem?_cons_succ, List.set_cons_zero, List.set_cons_succ, List.length_cons, List.length_nil, Int.reduceToNat, Nat.reduceDiv, Nat.reduceMod, Nat.reduceSub, Nat.reduceAdd, Nat.reduceMul, Nat.reduceLT, Nat.reduceLeDiff, Nat.reduceEqDiff, Int.reduceMod, Int.reduceSub, Int.reduceNeg, Int.reduceAdd, Int.reduceMul, Int.reduceLT, Int.reduceLE, Int.reduceEq, put_ss, if_true, if_false, ite_true, ite_false, reduceIte, eq_self, and_true, true_and, and_false, false_and, or_true, true_or, or_false, false_or, not_true_eq_false, not_false_eq_true, nj_212, nj_216, nj_208, nj_246, nj_242, nj_243, rv_t, rv_d, rv_f, rv_b, rv_k, rv_w, rv_v, rv_h, rp_t, rp_d, sgn, bf_207, bf_209, bf_210, bf_211, bf_212, bf_208, bf_213, bf_214, bf_215, bf_216, bf_246, bf_239, bf_238, bf_237, bf_236, fl_d, fl_b, fl_t, fl_f, fl_h, fl_v, fp_d, rj_30, rjp_30, fj_30, fjp_30, rj_31, rjp_31, fj_31, fjp_31, rj_39, rjp_39, fj_39, fjp_39, rj_40, rjp_40, fj_40, fjp_40, rj_46, rjp_46, fj_46, fjp_46, rj_48, rjp_48, fj_48, fjp_48, rj_172, rjp_172, fj_172, fjp_172, rj_181, rjp_181, fj_181, fjp_181, rj_o, fj_o, rj_p, fj_p, j_244, j_245, jf_245, j_224, jf_224, j_225, jf_225, j_228, jf_228, jf_230, jb_f, jb_b, jb_v, jb_k, jb_w, j_244b, jb_48, put_ss, l1_i, l1_1, l1_0, l2_0, l2_1, l2_2, l2_3, l3_0, w2_0, w2_1, w2_2, w2_3, d1_0, d1_1, d1_2, d1_3, d2_i, d2_1, d2_0, k5_158_15, k34_158_15, k34i_158_15, k5_158_14, k34_158_14, k34i_158_14, k5_158_48, k34_158_48, k5_158_30, k34_158_30, k54_158_30, k54b_158_30_0, k5_158_33, k34_158_33, k5_158_46, k34_158_46, k54_158_46, k54b_158_46_0, k5_158_39, k34_158_39, k54_158_39, k54b_158_39_0, k5_158_40, k34_158_40, hb, hf, ad2, ad3, i_p, y_p, w_p, kp, r1, r4, ea_234_3, eb_234_3, c9, lf_s, ea_234_4, eb_234_4, ec_234_4, ite_self]
        rfl⟩
theorem PuS_ok (T : TK mc mr e) (h15 : e ≤ 1500) (hb : mr 158 15 = 0) (hf : mr 158 14 = 0) (hF : 100000 ≤ F) (hd : 0 ≤ dep ∧ dep ≤ 30) (hE : PuE F b mc mr e dep) (hE1 : dep < 30 → ∀ j, PrE F b mc (jb j mr) e (dep + 1)) (hB : ∀ p, 0 ≤ p → p ≤ e → PuX F b 24 230 8 mc mr e dep p) (h0 : 0 ≤ p) (he : p ≤ e) : PuX F (b + 3) 25 231 10 mc mr e dep p := by
  by_cases k4 : kd mc p = 4
  · exact ps_var T h15 hb hf hF hd hE hB h0 he k4
  by_cases k2 : kd mc p = 2
  · have hpe : p + 1 ≤ e := TK_lt T he (by omega)
    by_cases k61 : kd mc (p + 1) = 61
    · exact ps_asg T h15 hb hf hF hd hE hB h0 he k2 k61
    by_cases k91 : kd mc (p + 1) = 91
    · exact ps_set T h15 hb hf hF hd hE hB h0 he k2 k91 (PuI_ok T hb hF hd hE1 (by omega) hpe k91)
    by_cases k40 : kd mc (p + 1) = 40
    · exact ps_call T h15 hb hf hF hd hE hB h0 he k2 k40 (PuA_ok T hb hf hF hd hE1 (by omega) hpe k40 p)
    exact ps_nm T h15 hb hf hF hd hE hB h0 he k2 k61 k91 k40
  by_cases k8 : kd mc p = 8
  · exact ps_if T h15 hb hf hF hd hE hB h0 he k8
  by_cases k10 : kd mc p = 10
  · exact ps_while T h15 hb hf hF hd hE hB h0 he k10
  by_cases k11 : kd mc p = 11
  · exact ps_try T h15 hb hf hF hd hB (fun p h0 he => PuW_ok T h15 hb hf hF hd hB h0 he) h0 he k11
  by_cases k13 : kd mc p = 13
  · exact ps_raise T h15 hb hf hF hd hE hB h0 he k13
  by_cases k14 : kd mc p = 14
  · exact ps_ret T h15 hb hf hF hd hE hB h0 he k14
  by_cases k15 : kd mc p = 15
  · exact ps_out T h15 hb hf hF hd hE hB h0 he k15
  exact ps_no T h15 hb hf hF hd hE hB h0 he k4 k2 k8 k10 k11 k13 k14 k15
theorem PuX_up {ci ri nt b2 : Nat} (hb : b ≤ b2) (h : PuX F b ci ri nt mc mr e dep p) : PuX F b2 ci ri nt mc mr e dep p := by
  rcases h with ⟨q, t, g1, g2, g3, g4⟩ | ⟨q, g1, g2, g3, g4⟩
  · exact Or.inl ⟨q, t, g1, g2, fun L xs d V hd => g3 L xs d V (by omega), fun L xs d j hd => g4 L xs d j (by omega)⟩
  · exact Or.inr ⟨q, g1, g2, fun L xs d V hd => g3 L xs d V (by omega), fun L xs d j hd => g4 L xs d j (by omega)⟩
theorem PuE_up {b2 : Nat} (hb : b ≤ b2) (h : PuE F b mc mr e dep) : PuE F b2 mc mr e dep := fun p h0 he => by
  rcases h p h0 he with ⟨q, t, g1, g2, g3, g4, g5⟩ | ⟨q, g1, g2, g4, g5⟩
  · exact Or.inl ⟨q, t, g1, g2, g3, cR_up hb g4, fun j => rR_up hb (g5 j)⟩
  · exact Or.inr ⟨q, g1, g2, cR_up hb g4, fun j => rN_up hb (g5 j)⟩
theorem PrE_up {b2 : Nat} (hb : b ≤ b2) (h : PrE F b mc mr e dep) : PrE F b2 mc mr e dep := fun p h0 he => by
  rcases h p h0 he with ⟨q, g1, g2, g3, g4, g5⟩ | ⟨q, g1, g2, g4, g5⟩
  · exact Or.inl ⟨q, g1, g2, g3, cR_up hb g4, rR_up hb g5⟩
  · exact Or.inr ⟨q, g1, g2, cR_up hb g4, rN_up hb g5⟩
/-- all blocks -/
theorem PuAll : ∀ (k : Nat) (dep : Int), (TK mc mr e) → e ≤ 1500 → mr 158 15 = 0 → mr 158 14 = 0 → 100000 ≤ F → 0 ≤ dep → dep ≤ 30 → dep + k = 30 → ∀ p, 0 ≤ p → p ≤ e → PuX F (160 + 4 * k) 24 230 8 mc mr e dep p := by
  intro k
  induction k with
  | zero =>
    intro dep T h15 hb hf hF h0 h1 h2 p hp he
    exact PuX_up (by omega) (PuB_ok (b := 0) T h15 hb hf hF ⟨h0, h1⟩ (fun h => by omega) hp he)
  | succ k ih =>
    intro dep T h15 hb hf hF h0 h1 h2 p hp he
    have hE : ∀ (dp : Int), 0 ≤ dp → dp ≤ 30 → ∀ j, PrE F 160 mc (jb j mr) e dp := fun dp h0 h1 j => PrE_up (b := 5 * (31 - dp).toNat) (by omega) (PrA (31 - dp).toNat dp (TK_jb T) hb hf hF h0 h1 (by omega)).1
    have hB := ih (dep + 1) T h15 hb hf hF (by omega) (by omega) (by omega)
    refine PuB_ok (b := 160 + 4 * k + 3) T h15 hb hf hF ⟨h0, h1⟩ (fun h p hp he => ?_) hp he
    exact PuS_ok T h15 hb hf hF ⟨by omega, by omega⟩ (PuE_up (by omega) (PuE_ok (hE (dep + 1) (by omega) (by omega)))) (fun h j => PrE_up (by omega) (hE (dep + 1 + 1) (by omega) (by omega) j)) hB hp he
end PairT
