/-! THE MODEL'S SECOND WALK: its steps, broken or not -/
def WU (m : Mem) : Prop := 0 ≤ m 158 17 ∧ m 158 17 ≤ 1600 ∧ 0 ≤ m 158 30 ∧ m 158 30 < 1600 ∧ m 158 14 = 1 ∧ (m 158 15 = 0 ∨ m 158 15 = 1) ∧ 0 ≤ m 158 41 ∧ m 158 41 < 11900
theorem WU_B {m : Mem} (U : WU m) (h : m 158 15 = 0) : WB m := ⟨U.1, U.2.1, U.2.2.1, U.2.2.2.1, U.2.2.2.2.1, h⟩
section Rst
variable {F L d : Nat} {m : Mem} {xs : Nat → Int32} {p dep a l : Int}
theorem R_246_0 (U : WU m) : Cx F (d + 1) 246 [158, 0, a, l] (Hp L xs (rv p dep m)) = some ([], Hp L xs (rv p dep (emG m 0 a l 0 false))) := by
  rcases U.2.2.2.2.2.1 with hb | hb
  · have e1 : emG m 0 a l 0 false = emF m 0 a l 0 false := if_pos hb
    rw [e1]
    exact M_246_0 U.2.2.2.2.1 hb U.2.2.2.2.2.2.1 (by have := U.2.2.2.2.2.2.2; omega)
  · rw [emG_b hb]
    exact B_246 (m := rv p dep m) hb
theorem R_246_1 (U : WU m) : Cx F (d + 1) 246 [158, 1, a, l] (Hp L xs (rv p dep m)) = some ([], Hp L xs (rv p dep (emG m 1 a l 1 false))) := by
  rcases U.2.2.2.2.2.1 with hb | hb
  · have e1 : emG m 1 a l 1 false = emF m 1 a l 1 false := if_pos hb
    rw [e1]
    exact M_246_1 U.2.2.2.2.1 hb U.2.2.2.2.2.2.1 (by have := U.2.2.2.2.2.2.2; omega)
  · rw [emG_b hb]
    exact B_246 (m := rv p dep m) hb
theorem R_246_2 (U : WU m) : Cx F (d + 1) 246 [158, 2, a, l] (Hp L xs (rv p dep m)) = some ([], Hp L xs (rv p dep (emG m 2 a l 1 false))) := by
  rcases U.2.2.2.2.2.1 with hb | hb
  · have e1 : emG m 2 a l 1 false = emF m 2 a l 1 false := if_pos hb
    rw [e1]
    exact M_246_2 U.2.2.2.2.1 hb U.2.2.2.2.2.2.1 (by have := U.2.2.2.2.2.2.2; omega)
  · rw [emG_b hb]
    exact B_246 (m := rv p dep m) hb
theorem R_246_3 (U : WU m) : Cx F (d + 1) 246 [158, 3, a, l] (Hp L xs (rv p dep m)) = some ([], Hp L xs (rv p dep (emG m 3 a l (-1) false))) := by
  rcases U.2.2.2.2.2.1 with hb | hb
  · have e1 : emG m 3 a l (-1) false = emF m 3 a l (-1) false := if_pos hb
    rw [e1]
    exact M_246_3 U.2.2.2.2.1 hb U.2.2.2.2.2.2.1 (by have := U.2.2.2.2.2.2.2; omega)
  · rw [emG_b hb]
    exact B_246 (m := rv p dep m) hb
theorem R_246_4 (U : WU m) : Cx F (d + 1) 246 [158, 4, a, l] (Hp L xs (rv p dep m)) = some ([], Hp L xs (rv p dep (emG m 4 a l 1 false))) := by
  rcases U.2.2.2.2.2.1 with hb | hb
  · have e1 : emG m 4 a l 1 false = emF m 4 a l 1 false := if_pos hb
    rw [e1]
    exact M_246_4 U.2.2.2.2.1 hb U.2.2.2.2.2.2.1 (by have := U.2.2.2.2.2.2.2; omega)
  · rw [emG_b hb]
    exact B_246 (m := rv p dep m) hb
theorem R_246_5 (U : WU m) : Cx F (d + 1) 246 [158, 5, a, l] (Hp L xs (rv p dep m)) = some ([], Hp L xs (rv p dep (emG m 5 a l (-1) false))) := by
  rcases U.2.2.2.2.2.1 with hb | hb
  · have e1 : emG m 5 a l (-1) false = emF m 5 a l (-1) false := if_pos hb
    rw [e1]
    exact M_246_5 U.2.2.2.2.1 hb U.2.2.2.2.2.2.1 (by have := U.2.2.2.2.2.2.2; omega)
  · rw [emG_b hb]
    exact B_246 (m := rv p dep m) hb
theorem R_246_6 (U : WU m) : Cx F (d + 1) 246 [158, 6, a, l] (Hp L xs (rv p dep m)) = some ([], Hp L xs (rv p dep (emG m 6 a l 0 false))) := by
  rcases U.2.2.2.2.2.1 with hb | hb
  · have e1 : emG m 6 a l 0 false = emF m 6 a l 0 false := if_pos hb
    rw [e1]
    exact M_246_6 U.2.2.2.2.1 hb U.2.2.2.2.2.2.1 (by have := U.2.2.2.2.2.2.2; omega)
  · rw [emG_b hb]
    exact B_246 (m := rv p dep m) hb
theorem R_246_7 (U : WU m) : Cx F (d + 1) 246 [158, 7, a, l] (Hp L xs (rv p dep m)) = some ([], Hp L xs (rv p dep (emG m 7 a l (-2) false))) := by
  rcases U.2.2.2.2.2.1 with hb | hb
  · have e1 : emG m 7 a l (-2) false = emF m 7 a l (-2) false := if_pos hb
    rw [e1]
    exact M_246_7 U.2.2.2.2.1 hb U.2.2.2.2.2.2.1 (by have := U.2.2.2.2.2.2.2; omega)
  · rw [emG_b hb]
    exact B_246 (m := rv p dep m) hb
theorem R_246_8 (U : WU m) : Cx F (d + 1) 246 [158, 8, a, l] (Hp L xs (rv p dep m)) = some ([], Hp L xs (rv p dep (emG m 8 a l (-1) false))) := by
  rcases U.2.2.2.2.2.1 with hb | hb
  · have e1 : emG m 8 a l (-1) false = emF m 8 a l (-1) false := if_pos hb
    rw [e1]
    exact M_246_8 U.2.2.2.2.1 hb U.2.2.2.2.2.2.1 (by have := U.2.2.2.2.2.2.2; omega)
  · rw [emG_b hb]
    exact B_246 (m := rv p dep m) hb
theorem R_246_9 (U : WU m) : Cx F (d + 1) 246 [158, 9, a, l] (Hp L xs (rv p dep m)) = some ([], Hp L xs (rv p dep (emG m 9 a l (-1) false))) := by
  rcases U.2.2.2.2.2.1 with hb | hb
  · have e1 : emG m 9 a l (-1) false = emF m 9 a l (-1) false := if_pos hb
    rw [e1]
    exact M_246_9 U.2.2.2.2.1 hb U.2.2.2.2.2.2.1 (by have := U.2.2.2.2.2.2.2; omega)
  · rw [emG_b hb]
    exact B_246 (m := rv p dep m) hb
theorem R_246_10 (U : WU m) : Cx F (d + 1) 246 [158, 10, a, l] (Hp L xs (rv p dep m)) = some ([], Hp L xs (rv p dep (emG m 10 a l (-1) false))) := by
  rcases U.2.2.2.2.2.1 with hb | hb
  · have e1 : emG m 10 a l (-1) false = emF m 10 a l (-1) false := if_pos hb
    rw [e1]
    exact M_246_10 U.2.2.2.2.1 hb U.2.2.2.2.2.2.1 (by have := U.2.2.2.2.2.2.2; omega)
  · rw [emG_b hb]
    exact B_246 (m := rv p dep m) hb
theorem R_246_11 (U : WU m) : Cx F (d + 1) 246 [158, 11, a, l] (Hp L xs (rv p dep m)) = some ([], Hp L xs (rv p dep (emG m 11 a l (-1) false))) := by
  rcases U.2.2.2.2.2.1 with hb | hb
  · have e1 : emG m 11 a l (-1) false = emF m 11 a l (-1) false := if_pos hb
    rw [e1]
    exact M_246_11 U.2.2.2.2.1 hb U.2.2.2.2.2.2.1 (by have := U.2.2.2.2.2.2.2; omega)
  · rw [emG_b hb]
    exact B_246 (m := rv p dep m) hb
theorem R_246_12 (U : WU m) : Cx F (d + 1) 246 [158, 12, a, l] (Hp L xs (rv p dep m)) = some ([], Hp L xs (rv p dep (emG m 12 a l (-1) false))) := by
  rcases U.2.2.2.2.2.1 with hb | hb
  · have e1 : emG m 12 a l (-1) false = emF m 12 a l (-1) false := if_pos hb
    rw [e1]
    exact M_246_12 U.2.2.2.2.1 hb U.2.2.2.2.2.2.1 (by have := U.2.2.2.2.2.2.2; omega)
  · rw [emG_b hb]
    exact B_246 (m := rv p dep m) hb
theorem R_246_13 (U : WU m) : Cx F (d + 1) 246 [158, 13, a, l] (Hp L xs (rv p dep m)) = some ([], Hp L xs (rv p dep (emG m 13 a l 0 false))) := by
  rcases U.2.2.2.2.2.1 with hb | hb
  · have e1 : emG m 13 a l 0 false = emF m 13 a l 0 false := if_pos hb
    rw [e1]
    exact M_246_13 U.2.2.2.2.1 hb U.2.2.2.2.2.2.1 (by have := U.2.2.2.2.2.2.2; omega)
  · rw [emG_b hb]
    exact B_246 (m := rv p dep m) hb
theorem R_246_14 (U : WU m) : Cx F (d + 1) 246 [158, 14, a, l] (Hp L xs (rv p dep m)) = some ([], Hp L xs (rv p dep (emG m 14 a l (-1) false))) := by
  rcases U.2.2.2.2.2.1 with hb | hb
  · have e1 : emG m 14 a l (-1) false = emF m 14 a l (-1) false := if_pos hb
    rw [e1]
    exact M_246_14 U.2.2.2.2.1 hb U.2.2.2.2.2.2.1 (by have := U.2.2.2.2.2.2.2; omega)
  · rw [emG_b hb]
    exact B_246 (m := rv p dep m) hb
theorem R_246_15 (U : WU m) : Cx F (d + 1) 246 [158, 15, a, l] (Hp L xs (rv p dep m)) = some ([], Hp L xs (rv p dep (emG m 15 a l 0 true))) := by
  rcases U.2.2.2.2.2.1 with hb | hb
  · have e1 : emG m 15 a l 0 true = emF m 15 a l 0 true := if_pos hb
    rw [e1]
    exact M_246_15 U.2.2.2.2.1 hb U.2.2.2.2.2.2.1 (by have := U.2.2.2.2.2.2.2; omega)
  · rw [emG_b hb]
    exact B_246 (m := rv p dep m) hb
theorem R_246_16 (U : WU m) : Cx F (d + 1) 246 [158, 16, a, l] (Hp L xs (rv p dep m)) = some ([], Hp L xs (rv p dep (emG m 16 a l (-1) false))) := by
  rcases U.2.2.2.2.2.1 with hb | hb
  · have e1 : emG m 16 a l (-1) false = emF m 16 a l (-1) false := if_pos hb
    rw [e1]
    exact M_246_16 U.2.2.2.2.1 hb U.2.2.2.2.2.2.1 (by have := U.2.2.2.2.2.2.2; omega)
  · rw [emG_b hb]
    exact B_246 (m := rv p dep m) hb
theorem R_246_17 (ha : 0 ≤ a ∧ a < 1600) (U : WU m) : Cx F (d + 1) 246 [158, 17, a, l] (Hp L xs (rv p dep m)) = some ([], Hp L xs (rv p dep (emG m 17 a l (w32 (1 - m 170 a.toNat)) false))) := by
  rcases U.2.2.2.2.2.1 with hb | hb
  · have e1 : emG m 17 a l (w32 (1 - m 170 a.toNat)) false = emF m 17 a l (w32 (1 - m 170 a.toNat)) false := if_pos hb
    rw [e1]
    exact M_246_17 ha U.2.2.2.2.1 hb U.2.2.2.2.2.2.1 (by have := U.2.2.2.2.2.2.2; omega)
  · rw [emG_b hb]
    exact B_246 (m := rv p dep m) hb
theorem R_246_18 (U : WU m) : Cx F (d + 1) 246 [158, 18, a, l] (Hp L xs (rv p dep m)) = some ([], Hp L xs (rv p dep (emG m 18 a l (-1) false))) := by
  rcases U.2.2.2.2.2.1 with hb | hb
  · have e1 : emG m 18 a l (-1) false = emF m 18 a l (-1) false := if_pos hb
    rw [e1]
    exact M_246_18 U.2.2.2.2.1 hb U.2.2.2.2.2.2.1 (by have := U.2.2.2.2.2.2.2; omega)
  · rw [emG_b hb]
    exact B_246 (m := rv p dep m) hb
theorem R_246_19 (U : WU m) : Cx F (d + 1) 246 [158, 19, a, l] (Hp L xs (rv p dep m)) = some ([], Hp L xs (rv p dep (emG m 19 a l 1 false))) := by
  rcases U.2.2.2.2.2.1 with hb | hb
  · have e1 : emG m 19 a l 1 false = emF m 19 a l 1 false := if_pos hb
    rw [e1]
    exact M_246_19 U.2.2.2.2.1 hb U.2.2.2.2.2.2.1 (by have := U.2.2.2.2.2.2.2; omega)
  · rw [emG_b hb]
    exact B_246 (m := rv p dep m) hb
theorem R_246_20 (U : WU m) : Cx F (d + 1) 246 [158, 20, a, l] (Hp L xs (rv p dep m)) = some ([], Hp L xs (rv p dep (emG m 20 a l (-1) false))) := by
  rcases U.2.2.2.2.2.1 with hb | hb
  · have e1 : emG m 20 a l (-1) false = emF m 20 a l (-1) false := if_pos hb
    rw [e1]
    exact M_246_20 U.2.2.2.2.1 hb U.2.2.2.2.2.2.1 (by have := U.2.2.2.2.2.2.2; omega)
  · rw [emG_b hb]
    exact B_246 (m := rv p dep m) hb
theorem R_246_21 (U : WU m) : Cx F (d + 1) 246 [158, 21, a, l] (Hp L xs (rv p dep m)) = some ([], Hp L xs (rv p dep (emG m 21 a l 0 true))) := by
  rcases U.2.2.2.2.2.1 with hb | hb
  · have e1 : emG m 21 a l 0 true = emF m 21 a l 0 true := if_pos hb
    rw [e1]
    exact M_246_21 U.2.2.2.2.1 hb U.2.2.2.2.2.2.1 (by have := U.2.2.2.2.2.2.2; omega)
  · rw [emG_b hb]
    exact B_246 (m := rv p dep m) hb
theorem R_246_22 (U : WU m) : Cx F (d + 1) 246 [158, 22, a, l] (Hp L xs (rv p dep m)) = some ([], Hp L xs (rv p dep (emG m 22 a l (-1) true))) := by
  rcases U.2.2.2.2.2.1 with hb | hb
  · have e1 : emG m 22 a l (-1) true = emF m 22 a l (-1) true := if_pos hb
    rw [e1]
    exact M_246_22 U.2.2.2.2.1 hb U.2.2.2.2.2.2.1 (by have := U.2.2.2.2.2.2.2; omega)
  · rw [emG_b hb]
    exact B_246 (m := rv p dep m) hb
theorem R_246_23 (U : WU m) : Cx F (d + 1) 246 [158, 23, a, l] (Hp L xs (rv p dep m)) = some ([], Hp L xs (rv p dep (emG m 23 a l 0 false))) := by
  rcases U.2.2.2.2.2.1 with hb | hb
  · have e1 : emG m 23 a l 0 false = emF m 23 a l 0 false := if_pos hb
    rw [e1]
    exact M_246_23 U.2.2.2.2.1 hb U.2.2.2.2.2.2.1 (by have := U.2.2.2.2.2.2.2; omega)
  · rw [emG_b hb]
    exact B_246 (m := rv p dep m) hb
theorem R_246_24 (U : WU m) : Cx F (d + 1) 246 [158, 24, a, l] (Hp L xs (rv p dep m)) = some ([], Hp L xs (rv p dep (emG m 24 a l 0 false))) := by
  rcases U.2.2.2.2.2.1 with hb | hb
  · have e1 : emG m 24 a l 0 false = emF m 24 a l 0 false := if_pos hb
    rw [e1]
    exact M_246_24 U.2.2.2.2.1 hb U.2.2.2.2.2.2.1 (by have := U.2.2.2.2.2.2.2; omega)
  · rw [emG_b hb]
    exact B_246 (m := rv p dep m) hb
theorem R_246_25 (U : WU m) : Cx F (d + 1) 246 [158, 25, a, l] (Hp L xs (rv p dep m)) = some ([], Hp L xs (rv p dep (emG m 25 a l 0 true))) := by
  rcases U.2.2.2.2.2.1 with hb | hb
  · have e1 : emG m 25 a l 0 true = emF m 25 a l 0 true := if_pos hb
    rw [e1]
    exact M_246_25 U.2.2.2.2.1 hb U.2.2.2.2.2.2.1 (by have := U.2.2.2.2.2.2.2; omega)
  · rw [emG_b hb]
    exact B_246 (m := rv p dep m) hb
theorem R_246_26 (U : WU m) : Cx F (d + 1) 246 [158, 26, a, l] (Hp L xs (rv p dep m)) = some ([], Hp L xs (rv p dep (emG m 26 a l 0 false))) := by
  rcases U.2.2.2.2.2.1 with hb | hb
  · have e1 : emG m 26 a l 0 false = emF m 26 a l 0 false := if_pos hb
    rw [e1]
    exact M_246_26 U.2.2.2.2.1 hb U.2.2.2.2.2.2.1 (by have := U.2.2.2.2.2.2.2; omega)
  · rw [emG_b hb]
    exact B_246 (m := rv p dep m) hb
theorem R_242 (hF : 100000 ≤ F) (U : WU m) (h0 : 0 ≤ a) (h1 : a < 3001) (hX : isK m (vlT m a) 1 → 0 ≤ inX m (vlT m a) ∧ inX m (vlT m a) ≤ 3000) : Cx F (d + 2) 242 [158, a] (Hp L xs (rv p dep m)) = some ([plV m a], Hp L xs (rv p dep (plM m a))) := by
  rcases U.2.2.2.2.2.1 with hb | hb
  · have W := WU_B U hb
    unfold plV plM
    rw [if_pos hb, if_pos hb]
    by_cases q1 : 0 ≤ lcK m (vlT m a)
    · rw [if_pos q1, if_pos q1]
      exact M_242l hF W h0 h1 q1
    · rw [if_neg q1, if_neg q1]
      by_cases q2 : isK m (vlT m a) 1
      · rw [if_pos q2, if_pos q2]
        exact M_242y hF W h0 h1 (by unfold vlT at q1; omega) q2.1 q2.2 (hX q2)
      · rw [if_neg q2, if_neg q2]
        exact M_242n hF W h0 h1 (by unfold vlT at q1; omega) (by
          by_cases q3 : topK m (m 163 a.toNat) < 0
          · exact Or.inl q3
          · exact Or.inr (fun z => q2 ⟨by unfold vlT; omega, z⟩))
  · rw [plM_b hb]
    have e1 : plV m a = 0 := if_neg (by omega)
    have hf := U.2.2.2.2.1
    rw [e1]
    simp (disch := first | omega | assumption) only [c_242, tr_242, ev_0, ev_1, ev_16, ev_17, ev_18, ev_2, ev_3, ev_4, ev_5, ev_6, ev_7, ev_8, ev_9, ev_20, ev_21, ev_22, ev_23, ev_24, ev_25, ev_27, ev_28, ev_30, ev_31, ev_32, ev_33, ev_34, ev_35, ev_36, ev_37, ev_38, ev_39, ev_40, ev_41, ev_42, ev_43, ev_45, ev_46, ev_47, ev_48, ev_49, ev_50, ev_51, ev_52, ev_54, ev_55, ev_57, ev_58, ev_59, k2_0, k2_1, k2_2, k3a, k3b, k4, o1_s, xbin_0, xbin_1, xbin_2, xbin_3, xbin_4, xbin_5, xbin_6, xbin_7, xbin_8, xbin_9, xbin_11, xbin_12, xun_0, xun_1, xun_2, xun_3, xun_4, xun_5, k6a, k8, k8b, k9, k20, k20b_0, k20b_1, k20b_2, k20b_3, k20b_4, k20b_5, k21_0, k21_1, k21_2, k21_3, k21_4, k21_5, k23, k24, k25, k27, k28, k40, nz_1, nz_2, nz_3, k31_0, k31_1, k31_2, k31_3, k32u, k33, k34, k35, k35b, k36, k37, k38, k47, k49, k49b_0, k49b_1, k49b_2, k49b_3, k50_0, k50_s, k51_0, k51_s, k55, k58, k58b, rk_0, rk_1, rk_2, rk_9, rk_3, rk_4, rk_5, sw_n, sw_c, xtb_n, xtb_c, lset_0, lset_2, lset_1, lkm_0, lkm_2, lkm_9, lkm_1, lkm_n, if_some1, c_10, c_01, c_x0, c_1x, c_n0, c_nn, List.getElem?_cons_zero, List.getElem?_cons_succ, List.set_cons_zero, List.set_cons_succ, List.length_cons, List.length_nil, Int.reduceToNat, Nat.reduceDiv, Nat.reduceMod, Nat.reduceSub, Nat.reduceAdd, Nat.reduceMul, Nat.reduceLT, Nat.reduceLeDiff, Nat.reduceEqDiff, Int.reduceMod, Int.reduceSub, Int.reduceNeg, Int.reduceAdd, Int.reduceMul, Int.reduceLT, Int.reduceLE, Int.reduceEq, put_ss, if_true, if_false, ite_true, ite_false, reduceIte, eq_self, and_true, true_and, and_false, false_and, or_true, true_or, or_false, false_or, not_true_eq_false, not_false_eq_true, k5_158_14, k34_158_14, k34i_158_14, k5_158_15, k34_158_15, k34i_158_15, rv_x, rv_y, hf, hb]
theorem R_243 (hF : 100000 ≤ F) (U : WU m) (h0 : 0 ≤ a) (h1 : a < 3001) : Cx F (d + 2) 243 [158, a] (Hp L xs (rv p dep m)) = some ([arV m a], Hp L xs (rv p dep (arM m a))) := by
  rcases U.2.2.2.2.2.1 with hb | hb
  · have W := WU_B U hb
    unfold arV arM
    rw [if_pos hb, if_pos hb]
    by_cases q2 : isK m (vlT m a) 2 ∧ lcK m (vlT m a) < 0
    · rw [if_pos q2, if_pos q2]
      exact M_243y hF W h0 h1 q2.2 q2.1.1 q2.1.2
    · rw [if_neg q2, if_neg q2]
      exact M_243n hF W h0 h1 (by
        by_cases q3 : 0 ≤ lcK m (m 163 a.toNat)
        · exact Or.inr q3
        · left
          by_cases q4 : topK m (m 163 a.toNat) < 0
          · exact Or.inl q4
          · exact Or.inr (fun z => q2 ⟨⟨by unfold vlT; omega, z⟩, by unfold vlT; omega⟩))
  · rw [arM_b hb]
    have e1 : arV m a = 0 := if_neg (by omega)
    have hf := U.2.2.2.2.1
    rw [e1]
    simp (disch := first | omega | assumption) only [c_243, tr_243, ev_0, ev_1, ev_16, ev_17, ev_18, ev_2, ev_3, ev_4, ev_5, ev_6, ev_7, ev_8, ev_9, ev_20, ev_21, ev_22, ev_23, ev_24, ev_25, ev_27, ev_28, ev_30, ev_31, ev_32, ev_33, ev_34, ev_35, ev_36, ev_37, ev_38, ev_39, ev_40, ev_41, ev_42, ev_43, ev_45, ev_46, ev_47, ev_48, ev_49, ev_50, ev_51, ev_52, ev_54, ev_55, ev_57, ev_58, ev_59, k2_0, k2_1, k2_2, k3a, k3b, k4, o1_s, xbin_0, xbin_1, xbin_2, xbin_3, xbin_4, xbin_5, xbin_6, xbin_7, xbin_8, xbin_9, xbin_11, xbin_12, xun_0, xun_1, xun_2, xun_3, xun_4, xun_5, k6a, k8, k8b, k9, k20, k20b_0, k20b_1, k20b_2, k20b_3, k20b_4, k20b_5, k21_0, k21_1, k21_2, k21_3, k21_4, k21_5, k23, k24, k25, k27, k28, k40, nz_1, nz_2, nz_3, k31_0, k31_1, k31_2, k31_3, k32u, k33, k34, k35, k35b, k36, k37, k38, k47, k49, k49b_0, k49b_1, k49b_2, k49b_3, k50_0, k50_s, k51_0, k51_s, k55, k58, k58b, rk_0, rk_1, rk_2, rk_9, rk_3, rk_4, rk_5, sw_n, sw_c, xtb_n, xtb_c, lset_0, lset_2, lset_1, lkm_0, lkm_2, lkm_9, lkm_1, lkm_n, if_some1, c_10, c_01, c_x0, c_1x, c_n0, c_nn, List.getElem?_cons_zero, List.getElem?_cons_succ, List.set_cons_zero, List.set_cons_succ, List.length_cons, List.length_nil, Int.reduceToNat, Nat.reduceDiv, Nat.reduceMod, Nat.reduceSub, Nat.reduceAdd, Nat.reduceMul, Nat.reduceLT, Nat.reduceLeDiff, Nat.reduceEqDiff, Int.reduceMod, Int.reduceSub, Int.reduceNeg, Int.reduceAdd, Int.reduceMul, Int.reduceLT, Int.reduceLE, Int.reduceEq, put_ss, if_true, if_false, ite_true, ite_false, reduceIte, eq_self, and_true, true_and, and_false, false_and, or_true, true_or, or_false, false_or, not_true_eq_false, not_false_eq_true, k5_158_14, k34_158_14, k34i_158_14, k5_158_15, k34_158_15, k34i_158_15, rv_x, rv_y, hf, hb]
end Rst
