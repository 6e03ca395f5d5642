/-! THE MODEL'S LOOP while (more) -/
section Whi
variable {F L d : Nat} {xs : Nat → Int32} {main : Int}
theorem plq_b {M : Mem} {Q E : Nat → Int} {n : Nat} (hQ : ∀ k : Nat, 0 ≤ Q k ∧ Q k ≤ 1000000) (hB : ∀ i, i ≤ n → 82 + ((mlI (fv E M) 0 i).length : Int) ≤ 60000) : ∀ k : Nat, 0 ≤ plq 82 (fv E M) 0 Q n k ∧ plq 82 (fv E M) 0 Q n k ≤ 1000000 := fun k => by
  unfold plq
  split
  · have := hB k (by omega)
    omega
  · exact hQ k
theorem L_289_1 {M : Mem} {e : Int} {n : Nat} (hF : 100000 ≤ F) (K : LM M e n) (hM84 : M 158 83 = 8 ∧ M 158 84 = 38) (hm : 0 ≤ main ∧ main < 1600) (he : M 182 main.toNat = e) {y2 : Nat × Int} : ∀ (k : Nat) (T : mSt) (Q E : Nat → Int) (c : Int) (M0 : Mem) (y1 : Nat × Int) (N : Nat), put (put M0 158 83 8) 158 84 38 = M → zc E (gsm M n) ≤ k → b01 E → 0 ≤ c ∧ c < 1600 → (∀ k : Nat, 0 ≤ Q k ∧ Q k ≤ 1000000) → k + 1 < N → ∃ (T2 : mSt) (Q2 : Nat → Int) (y3 : Nat × Int), (∀ k : Nat, 0 ≤ Q2 k ∧ Q2 k ≤ 1000000) ∧ b01 (itr M e n (k + 1) E) ∧ chE M e n (itr M e n (k + 1) E) = false ∧ LF F (d + 25) la_289_1 lb_289_1 lc_289_1 N ([(2, 158), (0, main), (0, 1), y1, y2], Hp L xs (my T (pv Q c (fv E M0)))) = some (0, [], ([(2, 158), (0, main), (0, 0), y3, y2], Hp L xs (lyd T2 Q2 M (itr M e n (k + 1) E) e n))) := by
  have hid : put (put M 158 83 8) 158 84 38 = M := by rw [put_id hM84.1, put_id hM84.2]
  obtain ⟨hO, hn, hn3, h0, hX, hB, hL⟩ := K
  have K : LM M e n := ⟨hO, hn, hn3, h0, hX, hB, hL⟩
  have one : ∀ (T : mSt) (Q E : Nat → Int) (c : Int) (M0 : Mem) (y1 : Nat × Int) (N : Nat), put (put M0 158 83 8) 158 84 38 = M → b01 E → 0 ≤ c ∧ c < 1600 → (∀ k : Nat, 0 ≤ Q k ∧ Q k ≤ 1000000) → LF F (d + 25) la_289_1 lb_289_1 lc_289_1 (N + 1) ([(2, 158), (0, main), (0, 1), y1, y2], Hp L xs (my T (pv Q c (fv E M0)))) = LF F (d + 25) la_289_1 lb_289_1 lc_289_1 N ([(2, 158), (0, main), (0, if chE M e n E = true then 1 else 0), (0, ((gsm M n : Nat) : Int)), y2], Hp L xs (fv (stE M e n E) (lyd T Q M E e n))) := fun T Q E c M0 y1 N hM hE hc hQ => by
    have c1 := fun D => M_287x (F := F) (L := L) (xs := xs) (d := D) (T := T) (Q := Q) hF K hM hm he hE hc
    have hg := ngo_A (E := E) (e := e) hO
    have gb := gsm_b (M := M) n
    have i76 : lyd T Q M E e n 158 76 = ((gsm M n : Nat) : Int) := by
      have z := (mI_n (itA M E e n) (rs T)).2.1
      have z2 : (rs T).2.2.1 = 0 := rfl
      rw [z2, hg, Int.zero_add] at z
      exact z
    have hGo := (mI_ok (itA M E e n) (rs T) (Int.le_refl 0) (Int.le_refl 0) (Int.le_refl 0)).2.1
    have hlen : ((itA M E e n).length : Int) ≤ 60000 := by
      unfold itA
      rw [List.length_append, hdI_l]
      have := hB E hE n (Nat.le_refl _)
      omega
    have hA : ∀ q : Nat, (q : Int) < lyd T Q M E e n 158 76 → (0 ≤ lyd T Q M E e n 196 q ∧ lyd T Q M E e n 196 q ≤ 1000000) ∧ (0 ≤ lyd T Q M E e n 197 q ∧ lyd T Q M E e n 197 q < 12000) := fun q hq => by
      rw [i76] at hq
      have z := GoOk_b (B := (n : Int)) (itA M E e n) 0 0 (Int.le_refl 0) hGo (hL E hE) q (by omega) (by omega)
      refine ⟨⟨z.1.1, ?_⟩, z.2.1, ?_⟩
      · have z1 := z.1.2
        have : (mI (itA M E e n) (rs T)).2.2.2.1 q ≤ 1000000 := by omega
        exact this
      · have z1 := z.2.2
        have : (mI (itA M E e n) (rs T)).2.2.2.2.1 q < 12000 := by omega
        exact this
    have l2 := fun D => L_289_2 (F := F) (L := L) (xs := xs) (d := D) (main := main) (m := lyd T Q M E e n) (z := y2) (plq_b hQ (hB E hE)) hA (by rw [i76]; omega) (gsm M n) 0 E 0 F hE (by rw [i76]; omega) (by omega)
    have efv : fv E (lyd T Q M E e n) = lyd T Q M E e n := by
      rw [fv_lyd]
      rfl
    have f1 := fcl_st (T := T) (Q := Q) hO hE (hL E hE)
    have f2 := any_ch (T := T) (Q := Q) hO hE (hL E hE)
    rw [hg] at f1 f2
    have ez : ((0 : Nat) : Int) = 0 := rfl
    rw [efv, f1, f2, i76, ez] at l2
    rw [lf_s]
    simp (disch := omega) only [ea_289_1, eb_289_1, ec_289_1, l1_i, l1_1, l1_0, l2_0, l2_1, l2_2, l2_3, l3_0, w2_0, w2_1, w2_2, w2_3, d1_0, d1_1, d1_2, d1_3, d2_i, d2_1, d2_0, ev_0, ev_1, ev_16, ev_17, ev_18, ev_2, ev_3, ev_4, ev_5, ev_6, ev_7, ev_8, ev_9, ev_20, ev_21, ev_22, ev_23, ev_24, ev_25, ev_27, ev_28, ev_30, ev_31, ev_32, ev_33, ev_34, ev_35, ev_36, ev_37, ev_38, ev_39, ev_40, ev_41, ev_42, ev_43, ev_45, ev_46, ev_47, ev_48, ev_49, ev_50, ev_51, ev_52, ev_54, ev_55, ev_57, ev_58, ev_59, k2_0, k2_1, k2_2, k3a, k3b, k4, o1_s, xbin_0, xbin_1, xbin_2, xbin_3, xbin_4, xbin_5, xbin_6, xbin_7, xbin_8, xbin_9, xbin_11, xbin_12, xun_0, xun_1, xun_2, xun_3, xun_4, xun_5, k6a, k8, k8b, k9, k20, k20b_0, k20b_1, k20b_2, k20b_3, k20b_4, k20b_5, k21_0, k21_1, k21_2, k21_3, k21_4, k21_5, k23, k24, k25, k27, k28, k40, nz_1, nz_2, nz_3, k31_0, k31_1, k31_2, k31_3, k32u, k33, k34, k35, k35b, k36, k37, k38, k47, k49, k49b_0, k49b_1, k49b_2, k49b_3, k50_0, k50_s, k51_0, k51_s, k55, k58, k58b, rk_0, rk_1, rk_2, rk_9, rk_3, rk_4, rk_5, sw_n, sw_c, xtb_n, xtb_c, lset_0, lset_2, lset_1, lkm_0, lkm_2, lkm_9, lkm_1, lkm_n, if_some1, c_10, c_01, c_x0, c_1x, c_n0, c_nn, List.getElem?_cons_zero, List.getElem?_cons_succ, List.set_cons_zero, List.set_cons_succ, List.length_cons, List.length_nil, Int.reduceToNat, Nat.reduceDiv, Nat.reduceMod, Nat.reduceSub, Nat.reduceAdd, Nat.reduceMul, Nat.reduceLT, Nat.reduceLeDiff, Nat.reduceEqDiff, Int.reduceMod, Int.reduceSub, Int.reduceNeg, Int.reduceAdd, Int.reduceMul, Int.reduceLT, Int.reduceLE, Int.reduceEq, put_ss, if_true, if_false, ite_true, ite_false, reduceIte, eq_self, and_true, true_and, and_false, false_and, or_true, true_or, or_false, false_or, not_true_eq_false, not_false_eq_true, c1, l2]
    try rfl
  intro k
  induction k with
  | zero =>
    intro T Q E c M0 y1 N hM hz hE hc hQ hN
    obtain ⟨N, rfl⟩ : ∃ n', N = n' + 1 + 1 := ⟨N - 2, by omega⟩
    have hch : chE M e n E = false := by
      cases h : chE M e n E with
      | false => rfl
      | true =>
        have := st_zc hO hE (hL E hE) h
        omega
    have ei : itr M e n (0 + 1) E = E := by
      show (if chE M e n E = true then itr M e n 0 (stE M e n E) else E) = E
      rw [hch, if_neg (fun w => Bool.noConfusion w)]
    rw [ei]
    refine ⟨T, Q, (0, ((gsm M n : Nat) : Int)), hQ, hE, hch, ?_⟩
    rw [one T Q E c M0 y1 (N + 1) hM hE hc hQ, hch, if_neg (fun w => Bool.noConfusion w)]
    have es : stE M e n E = E := by
      funext q
      unfold stE
      have : ¬ goX (pA M E n) (itA M E e n) 0 q = true := fun w => by
        by_cases hq : q < ngo (itA M E e n)
        · have := (cX_go (P := pA M E n) (itA M E e n) 0).mpr ⟨q, hq, w⟩
          unfold chE at hch
          rw [hch] at this
          exact Bool.noConfusion this
        · rw [goX_z _ _ _ (by omega)] at w
          exact Bool.noConfusion w
      rw [if_neg this]
    have efv : fv E (lyd T Q M E e n) = lyd T Q M E e n := by
      rw [fv_lyd]
      rfl
    rw [es, efv, lf_s]
    simp (disch := omega) only [ea_289_1, eb_289_1, ec_289_1, l1_i, l1_1, l1_0, l2_0, l2_1, l2_2, l2_3, l3_0, w2_0, w2_1, w2_2, w2_3, d1_0, d1_1, d1_2, d1_3, d2_i, d2_1, d2_0, ev_0, ev_1, ev_16, ev_17, ev_18, ev_2, ev_3, ev_4, ev_5, ev_6, ev_7, ev_8, ev_9, ev_20, ev_21, ev_22, ev_23, ev_24, ev_25, ev_27, ev_28, ev_30, ev_31, ev_32, ev_33, ev_34, ev_35, ev_36, ev_37, ev_38, ev_39, ev_40, ev_41, ev_42, ev_43, ev_45, ev_46, ev_47, ev_48, ev_49, ev_50, ev_51, ev_52, ev_54, ev_55, ev_57, ev_58, ev_59, k2_0, k2_1, k2_2, k3a, k3b, k4, o1_s, xbin_0, xbin_1, xbin_2, xbin_3, xbin_4, xbin_5, xbin_6, xbin_7, xbin_8, xbin_9, xbin_11, xbin_12, xun_0, xun_1, xun_2, xun_3, xun_4, xun_5, k6a, k8, k8b, k9, k20, k20b_0, k20b_1, k20b_2, k20b_3, k20b_4, k20b_5, k21_0, k21_1, k21_2, k21_3, k21_4, k21_5, k23, k24, k25, k27, k28, k40, nz_1, nz_2, nz_3, k31_0, k31_1, k31_2, k31_3, k32u, k33, k34, k35, k35b, k36, k37, k38, k47, k49, k49b_0, k49b_1, k49b_2, k49b_3, k50_0, k50_s, k51_0, k51_s, k55, k58, k58b, rk_0, rk_1, rk_2, rk_9, rk_3, rk_4, rk_5, sw_n, sw_c, xtb_n, xtb_c, lset_0, lset_2, lset_1, lkm_0, lkm_2, lkm_9, lkm_1, lkm_n, if_some1, c_10, c_01, c_x0, c_1x, c_n0, c_nn, List.getElem?_cons_zero, List.getElem?_cons_succ, List.set_cons_zero, List.set_cons_succ, List.length_cons, List.length_nil, Int.reduceToNat, Nat.reduceDiv, Nat.reduceMod, Nat.reduceSub, Nat.reduceAdd, Nat.reduceMul, Nat.reduceLT, Nat.reduceLeDiff, Nat.reduceEqDiff, Int.reduceMod, Int.reduceSub, Int.reduceNeg, Int.reduceAdd, Int.reduceMul, Int.reduceLT, Int.reduceLE, Int.reduceEq, put_ss, if_true, if_false, ite_true, ite_false, reduceIte, eq_self, and_true, true_and, and_false, false_and, or_true, true_or, or_false, false_or, not_true_eq_false, not_false_eq_true]
    try rfl
  | succ k ih =>
    intro T Q E c M0 y1 N hM hz hE hc hQ hN
    obtain ⟨N, rfl⟩ : ∃ n', N = n' + 1 + 1 := ⟨N - 2, by omega⟩
    cases hch : chE M e n E with
    | false =>
      have ei : itr M e n (k + 1 + 1) E = E := by
        show (if chE M e n E = true then itr M e n (k + 1) (stE M e n E) else E) = E
        rw [hch, if_neg (fun w => Bool.noConfusion w)]
      rw [ei]
      refine ⟨T, Q, (0, ((gsm M n : Nat) : Int)), hQ, hE, hch, ?_⟩
      rw [one T Q E c M0 y1 (N + 1) hM hE hc hQ, hch, if_neg (fun w => Bool.noConfusion w)]
      have es : stE M e n E = E := by
        funext q
        unfold stE
        have : ¬ goX (pA M E n) (itA M E e n) 0 q = true := fun w => by
          by_cases hq : q < ngo (itA M E e n)
          · have := (cX_go (P := pA M E n) (itA M E e n) 0).mpr ⟨q, hq, w⟩
            unfold chE at hch
            rw [hch] at this
            exact Bool.noConfusion this
          · rw [goX_z _ _ _ (by omega)] at w
            exact Bool.noConfusion w
        rw [if_neg this]
      have efv : fv E (lyd T Q M E e n) = lyd T Q M E e n := by
        rw [fv_lyd]
        rfl
      rw [es, efv, lf_s]
      simp (disch := omega) only [ea_289_1, eb_289_1, ec_289_1, l1_i, l1_1, l1_0, l2_0, l2_1, l2_2, l2_3, l3_0, w2_0, w2_1, w2_2, w2_3, d1_0, d1_1, d1_2, d1_3, d2_i, d2_1, d2_0, ev_0, ev_1, ev_16, ev_17, ev_18, ev_2, ev_3, ev_4, ev_5, ev_6, ev_7, ev_8, ev_9, ev_20, ev_21, ev_22, ev_23, ev_24, ev_25, ev_27, ev_28, ev_30, ev_31, ev_32, ev_33, ev_34, ev_35, ev_36, ev_37, ev_38, ev_39, ev_40, ev_41, ev_42, ev_43, ev_45, ev_46, ev_47, ev_48, ev_49, ev_50, ev_51, ev_52, ev_54, ev_55, ev_57, ev_58, ev_59, k2_0, k2_1, k2_2, k3a, k3b, k4, o1_s, xbin_0, xbin_1, xbin_2, xbin_3, xbin_4, xbin_5, xbin_6, xbin_7, xbin_8, xbin_9, xbin_11, xbin_12, xun_0, xun_1, xun_2, xun_3, xun_4, xun_5, k6a, k8, k8b, k9, k20, k20b_0, k20b_1, k20b_2, k20b_3, k20b_4, k20b_5, k21_0, k21_1, k21_2, k21_3, k21_4, k21_5, k23, k24, k25, k27, k28, k40, nz_1, nz_2, nz_3, k31_0, k31_1, k31_2, k31_3, k32u, k33, k34, k35, k35b, k36, k37, k38, k47, k49, k49b_0, k49b_1, k49b_2, k49b_3, k50_0, k50_s, k51_0, k51_s, k55, k58, k58b, rk_0, rk_1, rk_2, rk_9, rk_3, rk_4, rk_5, sw_n, sw_c, xtb_n, xtb_c, lset_0, lset_2, lset_1, lkm_0, lkm_2, lkm_9, lkm_1, lkm_n, if_some1, c_10, c_01, c_x0, c_1x, c_n0, c_nn, List.getElem?_cons_zero, List.getElem?_cons_succ, List.set_cons_zero, List.set_cons_succ, List.length_cons, List.length_nil, Int.reduceToNat, Nat.reduceDiv, Nat.reduceMod, Nat.reduceSub, Nat.reduceAdd, Nat.reduceMul, Nat.reduceLT, Nat.reduceLeDiff, Nat.reduceEqDiff, Int.reduceMod, Int.reduceSub, Int.reduceNeg, Int.reduceAdd, Int.reduceMul, Int.reduceLT, Int.reduceLE, Int.reduceEq, put_ss, if_true, if_false, ite_true, ite_false, reduceIte, eq_self, and_true, true_and, and_false, false_and, or_true, true_or, or_false, false_or, not_true_eq_false, not_false_eq_true]
      try rfl
    | true =>
      have ei : itr M e n (k + 1 + 1) E = itr M e n (k + 1) (stE M e n E) := by
        show (if chE M e n E = true then itr M e n (k + 1) (stE M e n E) else E) = _
        rw [hch, if_pos rfl]
      have hz2 := st_zc hO hE (hL E hE) hch
      have hcb := cq_b (m := fv E M) (c0 := 0) (n := n) hO (by omega) n (Nat.le_refl _)
      obtain ⟨T2, Q2, y3, a1, a2, a3, a4⟩ := ih (mI (itA M E e n) (rs T)) (plq 82 (fv E M) 0 Q n) (stE M e n E) (cq (fv E M) 0 n) M (0, ((gsm M n : Nat) : Int)) (N + 1) hid (by omega) (st_01 hE) hcb (plq_b hQ (hB E hE)) (by omega)
      rw [ei]
      refine ⟨T2, Q2, y3, a1, a2, a3, ?_⟩
      rw [one T Q E c M0 y1 (N + 1) hM hE hc hQ, hch, if_pos rfl, fv_lyd]
      exact a4
end Whi
