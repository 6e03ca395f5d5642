/-! THE CLASS'S LOOP OF ORDERS, in any turn -/
section Olp
variable {F L d : Nat} {xs : Nat → Int32} {cd : Nat} {m : Mem} {Lo : xL} {y w turn p0 : Int}
theorem kc_4 (hc : cd = 83 ∨ cd = 93) : K5 1 4 (some (0, [(cd : Int)], (Lo, Hp L xs m))) = some (0, [((cd + 4 : Nat) : Int)], (Lo, Hp L xs m)) := by
  rcases hc with z | z <;> subst z
  · exact k5_83_4
  · exact k5_93_4
theorem kc35_4 (hc : cd = 83 ∨ cd = 93) (h0 : 0 ≤ y) (h1 : y < 3000) : K35c 0 ((cd + 4 : Nat) : Int) y (some (0, [w], (Lo, Hp L xs m))) = some (0, [], (Lo, Hp L xs (put m (cd + 4) y.toNat w))) := by
  rcases hc with z | z <;> subst z
  · exact k35_87 h0 h1
  · exact k35_97 h0 h1
theorem L_36_1 {n : Nat} {SS : Nat → lS} {QQ : Nat → Nat → Int} {ii : Nat → Int} (hF : 100000 ≤ F) (K : LK m cd n) (h71 : m 71 1 = (cd : Int)) (hS : ∀ i, i < n → SS (i + 1) = cI (m 71 3) (PLc (qv cd (QQ (i + 1)) i (cpC m cd p0 (i + 1)) m) cd) (nC (qv cd (QQ (i + 1)) i (cpC m cd p0 (i + 1)) m) cd) i (dC m cd p0 ((SS i).2.2.2.1 i) i) ((SS i).1, 0, (SS i).2.2)) (hQs : ∀ i, i < n → QQ (i + 1) = vput (QQ i) i (SS i).1) (hii : ∀ i : Nat, ii (i + 1) = (i : Int)) (hb : ∀ i, i ≤ n → LBd (SS i) 0) (hQ : ∀ i, i ≤ n → ∀ k : Nat, 0 ≤ QQ i k ∧ QQ i k ≤ 1000000) (hp : ∀ j : Nat, -1000000 ≤ cpC m cd p0 j ∧ cpC m cd p0 j ≤ 1000000) (hJ : ∀ i, i < n → 0 ≤ (SS i).2.2.2.1 i ∧ (SS i).2.2.2.1 i < 4) : ∀ (j i N : Nat), i + j = n → j < N → LF F (d + 12) la_36_1 lb_36_1 lc_36_1 N ([(2, 71), (2, (cd : Int)), (0, turn), (0, (i : Int))], Hp L xs (lyS (SS i) cd (qv cd (QQ i) (ii i) (cpC m cd p0 i) m))) = some (0, [], ([(2, 71), (2, (cd : Int)), (0, turn), (0, (n : Int))], Hp L xs (lyS (SS n) cd (qv cd (QQ n) (ii n) (cpC m cd p0 n) m)))) := by
  have hc := K.1
  have hn := K.2.1
  have hn3 := K.2.2.1
  have a0 : ∀ i, lyS (SS i) cd (qv cd (QQ i) (ii i) (cpC m cd p0 i) m) cd 0 = (n : Int) := fun i => by
    rw [← hn, lyS_cd hc]
    rcases hc with rfl | rfl <;> rfl
  have a1 : ∀ i, lyS (SS i) cd (qv cd (QQ i) (ii i) (cpC m cd p0 i) m) 71 1 = (cd : Int) := fun i => h71
  have a2 : ∀ i, lyS (SS i) cd (qv cd (QQ i) (ii i) (cpC m cd p0 i) m) 71 2 = (SS i).1 := fun i => rfl
  have q0 := fun (Lo : xL) (m : Mem) => kc_0 (L := L) (xs := xs) (m := m) (Lo := Lo) hc
  have q4 := fun (Lo : xL) (m : Mem) => kc_4 (L := L) (xs := xs) (m := m) (Lo := Lo) hc
  intro j
  induction j with
  | zero =>
    intro i N h hN
    obtain ⟨N, rfl⟩ : ∃ n', N = n' + 1 := ⟨N - 1, by omega⟩
    have e : i = n := by omega
    subst e
    rw [lf_s]
    simp (disch := omega) only [ea_36_1, eb_36_1, ec_36_1, l1_i, l1_1, l1_0, l2_0, l2_1, l2_2, l2_3, l3_0, w2_0, w2_1, w2_2, w2_3, d1_0, d1_1, d1_2, d1_3, d2_i, d2_1, d2_0, ev_0, ev_1, ev_16, ev_17, ev_18, ev_2, ev_3, ev_4, ev_5, ev_6, ev_7, ev_8, ev_9, ev_20, ev_21, ev_22, ev_23, ev_24, ev_25, ev_27, ev_28, ev_30, ev_31, ev_32, ev_33, ev_34, ev_35, ev_36, ev_37, ev_38, ev_39, ev_40, ev_41, ev_42, ev_43, ev_45, ev_46, ev_47, ev_48, ev_49, ev_50, ev_51, ev_52, ev_54, ev_55, ev_57, ev_58, ev_59, k2_0, k2_1, k2_2, k3a, k3b, k4, o1_s, xbin_0, xbin_1, xbin_2, xbin_3, xbin_4, xbin_5, xbin_6, xbin_7, xbin_8, xbin_9, xbin_11, xbin_12, xun_0, xun_1, xun_2, xun_3, xun_4, xun_5, k6a, k8, k8b, k9, k20, k20b_0, k20b_1, k20b_2, k20b_3, k20b_4, k20b_5, k21_0, k21_1, k21_2, k21_3, k21_4, k21_5, k23, k24, k25, k27, k28, k40, nz_1, nz_2, nz_3, k31_0, k31_1, k31_2, k31_3, k32u, k33, k34, k35, k35b, k36, k37, k38, k47, k49, k49b_0, k49b_1, k49b_2, k49b_3, k50_0, k50_s, k51_0, k51_s, k55, k58, k58b, rk_0, rk_1, rk_2, rk_9, rk_3, rk_4, rk_5, sw_n, sw_c, xtb_n, xtb_c, lset_0, lset_2, lset_1, lkm_0, lkm_2, lkm_9, lkm_1, lkm_n, if_some1, c_10, c_01, c_x0, c_1x, c_n0, c_nn, List.getElem?_cons_zero, List.getElem?_cons_succ, List.set_cons_zero, List.set_cons_succ, List.length_cons, List.length_nil, Int.reduceToNat, Nat.reduceDiv, Nat.reduceMod, Nat.reduceSub, Nat.reduceAdd, Nat.reduceMul, Nat.reduceLT, Nat.reduceLeDiff, Nat.reduceEqDiff, Int.reduceMod, Int.reduceSub, Int.reduceNeg, Int.reduceAdd, Int.reduceMul, Int.reduceLT, Int.reduceLE, Int.reduceEq, put_ss, if_true, if_false, ite_true, ite_false, reduceIte, eq_self, and_true, true_and, and_false, false_and, or_true, true_or, or_false, false_or, not_true_eq_false, not_false_eq_true, k5_71_1, k34_71_1, a1, q0, a0, Int.lt_irrefl]
    try rfl
  | succ j ih =>
    intro i N h hN
    obtain ⟨N, rfl⟩ : ∃ n', N = n' + 1 := ⟨N - 1, by omega⟩
    have c1 := ih (i + 1) N (by omega) (by omega)
    have hlt : (i : Int) < (n : Int) := by omega
    have i0 : (i : Int).toNat = i := Int.toNat_natCast i
    have ecast : ((i + 1 : Nat) : Int) = (i : Int) + 1 := by omega
    have q35 := fun (w : Int) (Lo : xL) (m : Mem) => kc35_4 (L := L) (xs := xs) (m := m) (Lo := Lo) (y := (i : Int)) (w := w) hc (by omega) (by omega)
    rw [i0] at q35
    have e1 : put (lyS (SS i) cd (qv cd (QQ i) (ii i) (cpC m cd p0 i) m)) (cd + 4) i (SS i).1 = lyS (SS i) cd (qv cd (QQ (i + 1)) (ii i) (cpC m cd p0 i) m) := by
      rw [hQs i (by omega), ← qv_4 hc]
      exact ly_4 hc
    have k1 := fun D => K_50q (F := F) (L := L) (d := D) (xs := xs) (Q := QQ (i + 1)) (i5 := ii i) (S := SS i) (p0 := p0) hF K (by omega : i < n) (hb i (by omega)) (hQ (i + 1) (by omega)) hp (hJ i (by omega))
    rw [← hS i (by omega)] at k1
    rw [hii, ecast] at c1
    rw [lf_s]
    simp (disch := omega) only [ea_36_1, eb_36_1, ec_36_1, l1_i, l1_1, l1_0, l2_0, l2_1, l2_2, l2_3, l3_0, w2_0, w2_1, w2_2, w2_3, d1_0, d1_1, d1_2, d1_3, d2_i, d2_1, d2_0, ev_0, ev_1, ev_16, ev_17, ev_18, ev_2, ev_3, ev_4, ev_5, ev_6, ev_7, ev_8, ev_9, ev_20, ev_21, ev_22, ev_23, ev_24, ev_25, ev_27, ev_28, ev_30, ev_31, ev_32, ev_33, ev_34, ev_35, ev_36, ev_37, ev_38, ev_39, ev_40, ev_41, ev_42, ev_43, ev_45, ev_46, ev_47, ev_48, ev_49, ev_50, ev_51, ev_52, ev_54, ev_55, ev_57, ev_58, ev_59, k2_0, k2_1, k2_2, k3a, k3b, k4, o1_s, xbin_0, xbin_1, xbin_2, xbin_3, xbin_4, xbin_5, xbin_6, xbin_7, xbin_8, xbin_9, xbin_11, xbin_12, xun_0, xun_1, xun_2, xun_3, xun_4, xun_5, k6a, k8, k8b, k9, k20, k20b_0, k20b_1, k20b_2, k20b_3, k20b_4, k20b_5, k21_0, k21_1, k21_2, k21_3, k21_4, k21_5, k23, k24, k25, k27, k28, k40, nz_1, nz_2, nz_3, k31_0, k31_1, k31_2, k31_3, k32u, k33, k34, k35, k35b, k36, k37, k38, k47, k49, k49b_0, k49b_1, k49b_2, k49b_3, k50_0, k50_s, k51_0, k51_s, k55, k58, k58b, rk_0, rk_1, rk_2, rk_9, rk_3, rk_4, rk_5, sw_n, sw_c, xtb_n, xtb_c, lset_0, lset_2, lset_1, lkm_0, lkm_2, lkm_9, lkm_1, lkm_n, if_some1, c_10, c_01, c_x0, c_1x, c_n0, c_nn, List.getElem?_cons_zero, List.getElem?_cons_succ, List.set_cons_zero, List.set_cons_succ, List.length_cons, List.length_nil, Int.reduceToNat, Nat.reduceDiv, Nat.reduceMod, Nat.reduceSub, Nat.reduceAdd, Nat.reduceMul, Nat.reduceLT, Nat.reduceLeDiff, Nat.reduceEqDiff, Int.reduceMod, Int.reduceSub, Int.reduceNeg, Int.reduceAdd, Int.reduceMul, Int.reduceLT, Int.reduceLE, Int.reduceEq, put_ss, if_true, if_false, ite_true, ite_false, reduceIte, eq_self, and_true, true_and, and_false, false_and, or_true, true_or, or_false, false_or, not_true_eq_false, not_false_eq_true, k5_71_1, k34_71_1, k5_71_2, k34_71_2, k54_71_2, k54b_71_2_0, a1, a2, q0, q4, q35, a0, hlt, e1, w32_of, k1, c1]
    try rfl
end Olp
