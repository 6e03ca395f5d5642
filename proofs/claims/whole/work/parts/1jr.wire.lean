/-! WIRES: wire of the class, whole -/
/-- the shown wires of a memory -/
def svM (m : Mem) : Nat → Int := fun k => if k < 212 then shM m 77 k else 0
theorem svM_c {m m' : Mem} (h : ∀ a j, 78 ≤ a → a ≤ 81 → m' a j = m a j) : svM m' = svM m := by
  funext k
  unfold svM
  by_cases c : k < 212
  · rw [if_pos c, if_pos c, shM_eq h c]
  · rw [if_neg c, if_neg c]
/-- the class's net and what is settled of it -/
def WQ (m : Mem) : Prop := (212 ≤ m 73 0 ∧ m 73 0 ≤ 4104) ∧ (∀ j : Nat, (0 ≤ m 74 j ∧ m 74 j < 4104) ∧ 0 ≤ m 75 j ∧ m 75 j < 4104) ∧ (∀ j : Nat, 212 ≤ j → (j : Int) < m 73 0 → m 74 j < j ∧ m 75 j < j) ∧ (∀ j : Nat, m 77 j = 0 ∨ m 77 j = 1) ∧ (m 73 6 = 0 ∨ (212 ≤ m 73 6 ∧ m 73 6 ≤ m 73 0 ∧ ∀ j : Nat, (j : Int) < m 73 6 → m 77 j = wzS (m 74) (m 75) (svM m) j))
section Wr9
variable {F L d : Nat} {xs : Nat → Int32} {m : Mem} {k : Int}
theorem C_112 {s : Nat → Int} (hF : 100000 ≤ F) (h0 : 0 ≤ k ∧ k < m 73 0) (hn : m 73 0 ≤ 4104) (hl : ∀ j : Nat, (0 ≤ m 74 j ∧ m 74 j < 4104) ∧ 0 ≤ m 75 j ∧ m 75 j < 4104) (hg : ∀ j : Nat, 212 ≤ j → (j : Int) < m 73 0 → m 74 j < j ∧ m 75 j < j) (hv : ∀ j : Nat, m 77 j = 0 ∨ m 77 j = 1) (h6 : 212 ≤ m 73 6 ∧ m 73 6 ≤ m 73 0) (hw : ∀ j : Nat, (j : Int) < m 73 6 → m 77 j = wzS (m 74) (m 75) s j) : ∃ m', Cx F (d + 1) 112 [73, k] (Hp L xs m) = some ([wzS (m 74) (m 75) s k.toNat], Hp L xs m') ∧ (∀ a j, a ≠ 77 → (a = 73 → j ≠ 6) → m' a j = m a j) ∧ (∀ j : Nat, m' 77 j = 0 ∨ m' 77 j = 1) ∧ (212 ≤ m' 73 6 ∧ m' 73 6 ≤ m 73 0) ∧ ∀ j : Nat, (j : Int) < m' 73 6 → m' 77 j = wzS (m 74) (m 75) s j := by
  have n0 : ¬ k < 0 := by omega
  have n1 : ¬ m 73 0 ≤ k := by omega
  by_cases c : m 73 6 ≤ k
  · obtain ⟨m', l, n2, f2, b2, v2⟩ := L_112a (F := F) (L := L) (xs := xs) (d := d) (k := k) (s := s) (lf := m 74) (rt := m 75) (by omega) (fun j => (hl j).1) (fun j => (hl j).2) (fun j g1 g2 => hg j g1 (by omega)) (k + 1 - m 73 6).toNat m F h6.1 (by omega) (by omega) (fun _ => rfl) (fun _ => rfl) hv hw
    refine ⟨m', ?_, f2, b2, by omega, fun j hj => v2 j (by omega)⟩
    have v := v2 k.toNat (by omega)
    simp (disch := omega) only [c_112, tx_112, ev_0, ev_1, ev_16, ev_17, ev_18, ev_2, ev_3, ev_4, ev_5, ev_6, ev_7, ev_8, ev_9, ev_20, ev_21, ev_22, ev_23, ev_24, ev_25, ev_27, ev_28, ev_30, ev_31, ev_32, ev_33, ev_34, ev_35, ev_36, ev_37, ev_38, ev_39, ev_40, ev_41, ev_42, ev_43, ev_45, ev_46, ev_47, ev_48, ev_49, ev_50, ev_51, ev_52, ev_54, ev_55, ev_57, ev_58, ev_59, k2_0, k2_1, k2_2, k3a, k3b, k4, o1_s, xbin_0, xbin_1, xbin_2, xbin_3, xbin_4, xbin_5, xbin_6, xbin_7, xbin_8, xbin_9, xbin_11, xbin_12, xun_0, xun_1, xun_2, xun_3, xun_4, xun_5, k6a, k8, k8b, k9, k20, k20b_0, k20b_1, k20b_2, k20b_3, k20b_4, k20b_5, k21_0, k21_1, k21_2, k21_3, k21_4, k21_5, k23, k24, k25, k27, k28, k40, nz_1, nz_2, nz_3, k31_0, k31_1, k31_2, k31_3, k32u, k33, k34, k35, k35b, k36, k37, k38, k47, k49, k49b_0, k49b_1, k49b_2, k49b_3, k50_0, k50_s, k51_0, k51_s, k55, k58, k58b, rk_0, rk_1, rk_2, rk_9, rk_3, rk_4, rk_5, sw_n, sw_c, xtb_n, xtb_c, lset_0, lset_2, lset_1, lkm_0, lkm_2, lkm_9, lkm_1, lkm_n, if_some1, c_10, c_01, c_x0, c_1x, c_n0, c_nn, List.getElem?_cons_zero, List.getElem?_cons_succ, List.set_cons_zero, List.set_cons_succ, List.length_cons, List.length_nil, Int.reduceToNat, Nat.reduceDiv, Nat.reduceMod, Nat.reduceSub, Nat.reduceAdd, Nat.reduceMul, Nat.reduceLT, Nat.reduceLeDiff, Nat.reduceEqDiff, Int.reduceMod, Int.reduceSub, Int.reduceNeg, Int.reduceAdd, Int.reduceMul, Int.reduceLT, Int.reduceLE, Int.reduceEq, put_ss, if_true, if_false, ite_true, ite_false, reduceIte, eq_self, and_true, true_and, and_false, false_and, or_true, true_or, or_false, false_or, not_true_eq_false, not_false_eq_true, k5_73_0, k34_73_0, k54_73_0, k54b_73_0_0, k5_73_5, k6_77, k35_77, n_77, n0, n1, l, v]
  · obtain ⟨N, rfl⟩ : ∃ N, F = N + 1 := ⟨F - 1, by omega⟩
    have l := L_112e (F := N + 1) (L := L) (xs := xs) (d := d) (N := N) (m := m) (k := k) c
    have v := hw k.toNat (by omega)
    refine ⟨m, ?_, fun _ _ _ _ => rfl, hv, h6, hw⟩
    simp (disch := omega) only [c_112, tx_112, ev_0, ev_1, ev_16, ev_17, ev_18, ev_2, ev_3, ev_4, ev_5, ev_6, ev_7, ev_8, ev_9, ev_20, ev_21, ev_22, ev_23, ev_24, ev_25, ev_27, ev_28, ev_30, ev_31, ev_32, ev_33, ev_34, ev_35, ev_36, ev_37, ev_38, ev_39, ev_40, ev_41, ev_42, ev_43, ev_45, ev_46, ev_47, ev_48, ev_49, ev_50, ev_51, ev_52, ev_54, ev_55, ev_57, ev_58, ev_59, k2_0, k2_1, k2_2, k3a, k3b, k4, o1_s, xbin_0, xbin_1, xbin_2, xbin_3, xbin_4, xbin_5, xbin_6, xbin_7, xbin_8, xbin_9, xbin_11, xbin_12, xun_0, xun_1, xun_2, xun_3, xun_4, xun_5, k6a, k8, k8b, k9, k20, k20b_0, k20b_1, k20b_2, k20b_3, k20b_4, k20b_5, k21_0, k21_1, k21_2, k21_3, k21_4, k21_5, k23, k24, k25, k27, k28, k40, nz_1, nz_2, nz_3, k31_0, k31_1, k31_2, k31_3, k32u, k33, k34, k35, k35b, k36, k37, k38, k47, k49, k49b_0, k49b_1, k49b_2, k49b_3, k50_0, k50_s, k51_0, k51_s, k55, k58, k58b, rk_0, rk_1, rk_2, rk_9, rk_3, rk_4, rk_5, sw_n, sw_c, xtb_n, xtb_c, lset_0, lset_2, lset_1, lkm_0, lkm_2, lkm_9, lkm_1, lkm_n, if_some1, c_10, c_01, c_x0, c_1x, c_n0, c_nn, List.getElem?_cons_zero, List.getElem?_cons_succ, List.set_cons_zero, List.set_cons_succ, List.length_cons, List.length_nil, Int.reduceToNat, Nat.reduceDiv, Nat.reduceMod, Nat.reduceSub, Nat.reduceAdd, Nat.reduceMul, Nat.reduceLT, Nat.reduceLeDiff, Nat.reduceEqDiff, Int.reduceMod, Int.reduceSub, Int.reduceNeg, Int.reduceAdd, Int.reduceMul, Int.reduceLT, Int.reduceLE, Int.reduceEq, put_ss, if_true, if_false, ite_true, ite_false, reduceIte, eq_self, and_true, true_and, and_false, false_and, or_true, true_or, or_false, false_or, not_true_eq_false, not_false_eq_true, k5_73_0, k34_73_0, k54_73_0, k54b_73_0_0, k5_73_5, k6_77, k35_77, n_77, n0, n1, l, v]
theorem shM_o {a j : Nat} (h : a ≠ 77) : shM m a j = m a j := by
  unfold shM
  rw [sb_o h, rgM_o h, sh5_o h]
theorem shM_hi {j : Nat} (h : 212 ≤ j) : shM m 77 j = m 77 j := by
  have r : ∀ (M : Mem) i, i ≤ 8 → rgM i M 77 j = M 77 j := fun M i => by
    induction i with
    | zero => intro _; rfl
    | succ i ih =>
      intro hi
      show sb (68 + 16 * i) 16 (M 80 i) (rgM i M) 77 j = _
      unfold sb
      rw [if_neg (by omega)]
      exact ih (by omega)
  unfold shM
  unfold sb
  rw [if_neg (by omega), r _ 8 (by omega)]
  unfold sh5 sb
  rw [if_neg (by omega), if_neg (by omega), if_neg (by omega), if_neg (by omega), if_neg (by omega), put_ne (by omega), put_ne (by omega)]
theorem C_194 (hF : 100000 ≤ F) (W : WM m) (Q : WQ m) : ∃ m', Cx F (d + 4) 194 [50, k] (Hp L xs m) = some ([if 0 ≤ k ∧ k < m 73 0 then wzS (m 74) (m 75) (svM m) k.toNat else -1], Hp L xs m') ∧ (∀ a j, a ≠ 77 → (a = 73 → j ≠ 6) → m' a j = m a j) ∧ WQ m' := by
  obtain ⟨qn, ql, qg, qv, qs⟩ := Q
  have Q : WQ m := ⟨qn, ql, qg, qv, qs⟩
  by_cases c0 : k < 0
  · refine ⟨m, ?_, fun _ _ _ _ => rfl, Q⟩
    rw [if_neg (by omega)]
    simp (disch := omega) only [c_194, tr_194, ev_0, ev_1, ev_16, ev_17, ev_18, ev_2, ev_3, ev_4, ev_5, ev_6, ev_7, ev_8, ev_9, ev_20, ev_21, ev_22, ev_23, ev_24, ev_25, ev_27, ev_28, ev_30, ev_31, ev_32, ev_33, ev_34, ev_35, ev_36, ev_37, ev_38, ev_39, ev_40, ev_41, ev_42, ev_43, ev_45, ev_46, ev_47, ev_48, ev_49, ev_50, ev_51, ev_52, ev_54, ev_55, ev_57, ev_58, ev_59, k2_0, k2_1, k2_2, k3a, k3b, k4, o1_s, xbin_0, xbin_1, xbin_2, xbin_3, xbin_4, xbin_5, xbin_6, xbin_7, xbin_8, xbin_9, xbin_11, xbin_12, xun_0, xun_1, xun_2, xun_3, xun_4, xun_5, k6a, k8, k8b, k9, k20, k20b_0, k20b_1, k20b_2, k20b_3, k20b_4, k20b_5, k21_0, k21_1, k21_2, k21_3, k21_4, k21_5, k23, k24, k25, k27, k28, k40, nz_1, nz_2, nz_3, k31_0, k31_1, k31_2, k31_3, k32u, k33, k34, k35, k35b, k36, k37, k38, k47, k49, k49b_0, k49b_1, k49b_2, k49b_3, k50_0, k50_s, k51_0, k51_s, k55, k58, k58b, rk_0, rk_1, rk_2, rk_9, rk_3, rk_4, rk_5, sw_n, sw_c, xtb_n, xtb_c, lset_0, lset_2, lset_1, lkm_0, lkm_2, lkm_9, lkm_1, lkm_n, if_some1, c_10, c_01, c_x0, c_1x, c_n0, c_nn, List.getElem?_cons_zero, List.getElem?_cons_succ, List.set_cons_zero, List.set_cons_succ, List.length_cons, List.length_nil, Int.reduceToNat, Nat.reduceDiv, Nat.reduceMod, Nat.reduceSub, Nat.reduceAdd, Nat.reduceMul, Nat.reduceLT, Nat.reduceLeDiff, Nat.reduceEqDiff, Int.reduceMod, Int.reduceSub, Int.reduceNeg, Int.reduceAdd, Int.reduceMul, Int.reduceLT, Int.reduceLE, Int.reduceEq, put_ss, if_true, if_false, ite_true, ite_false, reduceIte, eq_self, and_true, true_and, and_false, false_and, or_true, true_or, or_false, false_or, not_true_eq_false, not_false_eq_true, k5_50_5, k5_73_0, k34_73_0, k54_73_0, k54b_73_0_0, c0]
  by_cases c1 : m 73 0 ≤ k
  · refine ⟨m, ?_, fun _ _ _ _ => rfl, Q⟩
    rw [if_neg (by omega)]
    simp (disch := omega) only [c_194, tr_194, ev_0, ev_1, ev_16, ev_17, ev_18, ev_2, ev_3, ev_4, ev_5, ev_6, ev_7, ev_8, ev_9, ev_20, ev_21, ev_22, ev_23, ev_24, ev_25, ev_27, ev_28, ev_30, ev_31, ev_32, ev_33, ev_34, ev_35, ev_36, ev_37, ev_38, ev_39, ev_40, ev_41, ev_42, ev_43, ev_45, ev_46, ev_47, ev_48, ev_49, ev_50, ev_51, ev_52, ev_54, ev_55, ev_57, ev_58, ev_59, k2_0, k2_1, k2_2, k3a, k3b, k4, o1_s, xbin_0, xbin_1, xbin_2, xbin_3, xbin_4, xbin_5, xbin_6, xbin_7, xbin_8, xbin_9, xbin_11, xbin_12, xun_0, xun_1, xun_2, xun_3, xun_4, xun_5, k6a, k8, k8b, k9, k20, k20b_0, k20b_1, k20b_2, k20b_3, k20b_4, k20b_5, k21_0, k21_1, k21_2, k21_3, k21_4, k21_5, k23, k24, k25, k27, k28, k40, nz_1, nz_2, nz_3, k31_0, k31_1, k31_2, k31_3, k32u, k33, k34, k35, k35b, k36, k37, k38, k47, k49, k49b_0, k49b_1, k49b_2, k49b_3, k50_0, k50_s, k51_0, k51_s, k55, k58, k58b, rk_0, rk_1, rk_2, rk_9, rk_3, rk_4, rk_5, sw_n, sw_c, xtb_n, xtb_c, lset_0, lset_2, lset_1, lkm_0, lkm_2, lkm_9, lkm_1, lkm_n, if_some1, c_10, c_01, c_x0, c_1x, c_n0, c_nn, List.getElem?_cons_zero, List.getElem?_cons_succ, List.set_cons_zero, List.set_cons_succ, List.length_cons, List.length_nil, Int.reduceToNat, Nat.reduceDiv, Nat.reduceMod, Nat.reduceSub, Nat.reduceAdd, Nat.reduceMul, Nat.reduceLT, Nat.reduceLeDiff, Nat.reduceEqDiff, Int.reduceMod, Int.reduceSub, Int.reduceNeg, Int.reduceAdd, Int.reduceMul, Int.reduceLT, Int.reduceLE, Int.reduceEq, put_ss, if_true, if_false, ite_true, ite_false, reduceIte, eq_self, and_true, true_and, and_false, false_and, or_true, true_or, or_false, false_or, not_true_eq_false, not_false_eq_true, k5_50_5, k5_73_0, k34_73_0, k54_73_0, k54b_73_0_0, c0, c1]
  rw [if_pos (by omega)]
  have fin : ∀ m2 : Mem, (∀ a j, a ≠ 77 → (a = 73 → j ≠ 6) → m2 a j = m a j) → (∀ j : Nat, m2 77 j = 0 ∨ m2 77 j = 1) → (212 ≤ m2 73 6 ∧ m2 73 6 ≤ m 73 0) → (∀ j : Nat, (j : Int) < m2 73 6 → m2 77 j = wzS (m 74) (m 75) (svM m) j) → WQ m2 := fun m2 f b h6 hw => by
    have e4 : m2 74 = m 74 := funext fun j => f 74 j (by decide) (by omega)
    have e5 : m2 75 = m 75 := funext fun j => f 75 j (by decide) (by omega)
    have e0 : m2 73 0 = m 73 0 := f 73 0 (by decide) (by omega)
    have es : svM m2 = svM m := svM_c (fun a j g1 g2 => f a j (by omega) (by omega))
    refine ⟨by rw [e0]; exact qn, fun j => by rw [e4, e5]; exact ql j, fun j => by rw [e4, e5, e0]; exact qg j, b, Or.inr ⟨h6.1, by rw [e0]; exact h6.2, fun j hj => ?_⟩⟩
    rw [e4, e5, es]
    exact hw j hj
  by_cases c2 : m 73 6 = 0
  · have s81 := C_81 (F := F) (L := L) (xs := xs) (d := d) hF W
    have f1 : ∀ a j, a ≠ 77 → (a = 73 → j ≠ 6) → put (shM m) 73 6 212 a j = m a j := fun a j g1 g2 => by
      rw [put_ne g2, shM_o g1]
    have e4 : put (shM m) 73 6 212 74 = m 74 := funext fun j => f1 74 j (by decide) (by omega)
    have e5 : put (shM m) 73 6 212 75 = m 75 := funext fun j => f1 75 j (by decide) (by omega)
    have e0 : put (shM m) 73 6 212 73 0 = m 73 0 := f1 73 0 (by decide) (by omega)
    have e6 : put (shM m) 73 6 212 73 6 = 212 := rfl
    have e7 : ∀ j, put (shM m) 73 6 212 77 j = shM m 77 j := fun j => rfl
    obtain ⟨m', c112, f2, b2, h2, v2⟩ := C_112 (F := F) (L := L) (xs := xs) (d := d + 2) (m := put (shM m) 73 6 212) (k := k) (s := svM m) hF (by rw [e0]; omega) (by rw [e0]; omega) (fun j => by rw [e4, e5]; exact ql j) (fun j => by rw [e4, e5, e0]; exact qg j) (fun j => by
      rw [e7]
      by_cases c : j < 212
      · exact shM_bt c
      · rw [shM_hi (by omega)]
        exact qv j) (by rw [e0, e6]; omega) (fun j hj => by
      rw [e6] at hj
      rw [e7, wzS_0 (by omega)]
      exact (if_pos (by omega)).symm)
    rw [e4, e5] at c112 v2
    rw [e0] at h2
    have fr : ∀ a j, a ≠ 77 → (a = 73 → j ≠ 6) → m' a j = m a j := fun a j g1 g2 => (f2 a j g1 g2).trans (f1 a j g1 g2)
    refine ⟨m', ?_, fr, fin m' fr b2 h2 v2⟩
    simp (disch := omega) only [c_194, tr_194, ev_0, ev_1, ev_16, ev_17, ev_18, ev_2, ev_3, ev_4, ev_5, ev_6, ev_7, ev_8, ev_9, ev_20, ev_21, ev_22, ev_23, ev_24, ev_25, ev_27, ev_28, ev_30, ev_31, ev_32, ev_33, ev_34, ev_35, ev_36, ev_37, ev_38, ev_39, ev_40, ev_41, ev_42, ev_43, ev_45, ev_46, ev_47, ev_48, ev_49, ev_50, ev_51, ev_52, ev_54, ev_55, ev_57, ev_58, ev_59, k2_0, k2_1, k2_2, k3a, k3b, k4, o1_s, xbin_0, xbin_1, xbin_2, xbin_3, xbin_4, xbin_5, xbin_6, xbin_7, xbin_8, xbin_9, xbin_11, xbin_12, xun_0, xun_1, xun_2, xun_3, xun_4, xun_5, k6a, k8, k8b, k9, k20, k20b_0, k20b_1, k20b_2, k20b_3, k20b_4, k20b_5, k21_0, k21_1, k21_2, k21_3, k21_4, k21_5, k23, k24, k25, k27, k28, k40, nz_1, nz_2, nz_3, k31_0, k31_1, k31_2, k31_3, k32u, k33, k34, k35, k35b, k36, k37, k38, k47, k49, k49b_0, k49b_1, k49b_2, k49b_3, k50_0, k50_s, k51_0, k51_s, k55, k58, k58b, rk_0, rk_1, rk_2, rk_9, rk_3, rk_4, rk_5, sw_n, sw_c, xtb_n, xtb_c, lset_0, lset_2, lset_1, lkm_0, lkm_2, lkm_9, lkm_1, lkm_n, if_some1, c_10, c_01, c_x0, c_1x, c_n0, c_nn, List.getElem?_cons_zero, List.getElem?_cons_succ, List.set_cons_zero, List.set_cons_succ, List.length_cons, List.length_nil, Int.reduceToNat, Nat.reduceDiv, Nat.reduceMod, Nat.reduceSub, Nat.reduceAdd, Nat.reduceMul, Nat.reduceLT, Nat.reduceLeDiff, Nat.reduceEqDiff, Int.reduceMod, Int.reduceSub, Int.reduceNeg, Int.reduceAdd, Int.reduceMul, Int.reduceLT, Int.reduceLE, Int.reduceEq, put_ss, if_true, if_false, ite_true, ite_false, reduceIte, eq_self, and_true, true_and, and_false, false_and, or_true, true_or, or_false, false_or, not_true_eq_false, not_false_eq_true, k5_50_5, k5_50_6, k5_73_0, k34_73_0, k54_73_0, k54b_73_0_0, k5_73_6, k34_73_6, k54_73_6, k54b_73_6_0, k5_73_5, k6_77, k35_77, n_77, c0, c1, c2, s81, c112]
  · rcases qs with z | ⟨q1, q2, q3⟩
    · exact absurd z c2
    · obtain ⟨m', c112, f2, b2, h2, v2⟩ := C_112 (F := F) (L := L) (xs := xs) (d := d + 2) (m := m) (k := k) (s := svM m) hF (by omega) qn.2 ql qg qv ⟨q1, q2⟩ q3
      refine ⟨m', ?_, f2, fin m' f2 b2 h2 v2⟩
      simp (disch := omega) only [c_194, tr_194, ev_0, ev_1, ev_16, ev_17, ev_18, ev_2, ev_3, ev_4, ev_5, ev_6, ev_7, ev_8, ev_9, ev_20, ev_21, ev_22, ev_23, ev_24, ev_25, ev_27, ev_28, ev_30, ev_31, ev_32, ev_33, ev_34, ev_35, ev_36, ev_37, ev_38, ev_39, ev_40, ev_41, ev_42, ev_43, ev_45, ev_46, ev_47, ev_48, ev_49, ev_50, ev_51, ev_52, ev_54, ev_55, ev_57, ev_58, ev_59, k2_0, k2_1, k2_2, k3a, k3b, k4, o1_s, xbin_0, xbin_1, xbin_2, xbin_3, xbin_4, xbin_5, xbin_6, xbin_7, xbin_8, xbin_9, xbin_11, xbin_12, xun_0, xun_1, xun_2, xun_3, xun_4, xun_5, k6a, k8, k8b, k9, k20, k20b_0, k20b_1, k20b_2, k20b_3, k20b_4, k20b_5, k21_0, k21_1, k21_2, k21_3, k21_4, k21_5, k23, k24, k25, k27, k28, k40, nz_1, nz_2, nz_3, k31_0, k31_1, k31_2, k31_3, k32u, k33, k34, k35, k35b, k36, k37, k38, k47, k49, k49b_0, k49b_1, k49b_2, k49b_3, k50_0, k50_s, k51_0, k51_s, k55, k58, k58b, rk_0, rk_1, rk_2, rk_9, rk_3, rk_4, rk_5, sw_n, sw_c, xtb_n, xtb_c, lset_0, lset_2, lset_1, lkm_0, lkm_2, lkm_9, lkm_1, lkm_n, if_some1, c_10, c_01, c_x0, c_1x, c_n0, c_nn, List.getElem?_cons_zero, List.getElem?_cons_succ, List.set_cons_zero, List.set_cons_succ, List.length_cons, List.length_nil, Int.reduceToNat, Nat.reduceDiv, Nat.reduceMod, Nat.reduceSub, Nat.reduceAdd, Nat.reduceMul, Nat.reduceLT, Nat.reduceLeDiff, Nat.reduceEqDiff, Int.reduceMod, Int.reduceSub, Int.reduceNeg, Int.reduceAdd, Int.reduceMul, Int.reduceLT, Int.reduceLE, Int.reduceEq, put_ss, if_true, if_false, ite_true, ite_false, reduceIte, eq_self, and_true, true_and, and_false, false_and, or_true, true_or, or_false, false_or, not_true_eq_false, not_false_eq_true, k5_50_5, k5_50_6, k5_73_0, k34_73_0, k54_73_0, k54b_73_0_0, k5_73_6, k34_73_6, k54_73_6, k54b_73_6_0, k5_73_5, k6_77, k35_77, n_77, c0, c1, c2, c112]
end Wr9
