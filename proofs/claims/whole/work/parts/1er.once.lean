/-! THE MODEL LAYS ALL ORDERS ONCE -/
def pv (Q : Nat → Int) (c : Int) (m : Mem) : Mem := fun a k => if a = 180 then Q k else if a = 158 then (if k = 85 then c else m a k) else m a k
theorem pv_180 {Q : Nat → Int} {c : Int} {m : Mem} {k : Nat} : pv Q c m 180 k = Q k := rfl
theorem pv_p {Q : Nat → Int} {c w : Int} {m : Mem} {k : Nat} : put (pv Q c m) 180 k w = pv (vput Q k w) c m := by
  funext a q
  rw [put_ss]
  unfold pv vput
  by_cases h : a = 180
  · rw [if_pos h, if_pos h, if_pos h]
  · rw [if_neg h, if_neg h, if_neg h]
theorem pv_c {Q : Nat → Int} {c w : Int} {m : Mem} : put (pv Q c m) 158 85 w = pv Q w m := by
  funext a q
  rw [put_ss]
  unfold pv
  by_cases h : a = 158
  · have h2 : ¬ a = 180 := by omega
    rw [if_pos h, if_neg h2, if_neg h2, if_pos h, if_pos h]
    by_cases h3 : q = 85
    · rw [if_pos h3, if_pos h3]
    · rw [if_neg h3, if_neg h3, if_neg h3]
  · rw [if_neg h, if_neg h, if_neg h]
/-- the proc whose order stands before i -/
def cq (m : Mem) (c0 : Int) : Nat → Int
  | 0 => c0
  | i + 1 => if m 177 i = 0 then m 178 i else cq m c0 i
theorem rcM_c {m m2 : Mem} (h : ∀ k, m 175 k = m2 175 k) : ∀ (j : Nat) (f : Int), rcM m f j = rcM m2 f j
  | 0, f => rfl
  | j + 1, f => by
    show m 175 f.toNat :: rcM m (f + 1) j = m2 175 f.toNat :: rcM m2 (f + 1) j
    rw [h, rcM_c h j]
/-- the items of order i, when its first go has number g -/
def dM (m : Mem) (c0 : Int) (g : Nat) (i : Nat) : List It := itM (pv (fun _ => 0) (cq m c0 (i + 1)) m) (g : Int) i
theorem dM_e {m : Mem} {Q : Nat → Int} {c0 : Int} {g i : Nat} : itM (pv Q (cq m c0 (i + 1)) m) (g : Int) i = dM m c0 g i := by
  unfold dM itM
  have e : csM (pv Q (cq m c0 (i + 1)) m) (pv Q (cq m c0 (i + 1)) m 178 i) = csM (pv (fun _ => 0) (cq m c0 (i + 1)) m) (pv (fun _ => 0) (cq m c0 (i + 1)) m 178 i) := rcM_c (m := pv Q (cq m c0 (i + 1)) m) (m2 := pv (fun _ => 0) (cq m c0 (i + 1)) m) (fun _ => rfl) _ _
  rw [e]
  rfl
/-- the items of the first orders -/
def mlI (m : Mem) (c0 : Int) : Nat → List It
  | 0 => []
  | i + 1 => mlI m c0 i ++ dM m c0 (ngo (mlI m c0 i)) i
def OK0 (m : Mem) (n : Nat) : Prop := ∀ i, i < n → MO m (m 177 i) (m 178 i) (m 179 i)
theorem mlI_n {m : Mem} {c0 : Int} {n : Nat} (h : OK0 m n) : ∀ i, i ≤ n → ngo (mlI m c0 i) ≤ 2 * i ∧ nno (mlI m c0 i) ≤ i
  | 0 => fun _ => ⟨Nat.le_refl _, Nat.le_refl _⟩
  | i + 1 => fun hi => by
    obtain ⟨a, b⟩ := mlI_n (c0 := c0) h i (by omega)
    obtain ⟨o1, o2, o3, o4, o5, o6⟩ := h i (by omega)
    have e1 : ngo (mlI m c0 (i + 1)) = ngo (mlI m c0 i) + gNo (m 177 i) := by
      show ngo (mlI m c0 i ++ dM m c0 (ngo (mlI m c0 i)) i) = _
      rw [ngo_app]
      have z : ngo (dM m c0 (ngo (mlI m c0 i)) i) = gNo (m 177 i) := itO_g o1 o4
      rw [z]
    have e2 : nno (mlI m c0 (i + 1)) ≤ nno (mlI m c0 i) + 1 := by
      show nno (mlI m c0 i ++ dM m c0 (ngo (mlI m c0 i)) i) ≤ _
      rw [nno_app]
      have z : nno (dM m c0 (ngo (mlI m c0 i)) i) ≤ 1 := itO_n o1 o4
      omega
    have e3 : gNo (m 177 i) ≤ 2 := by
      unfold gNo
      split
      · exact Nat.le_refl _
      · split <;> decide
    rw [e1]
    omega
def plq (A0 : Int) (m : Mem) (c0 : Int) (Q0 : Nat → Int) (i : Nat) : Nat → Int := fun q => if q < i then A0 + (mlI m c0 q).length else Q0 q
theorem plq_s {A0 : Int} {m : Mem} {c0 : Int} {Q0 : Nat → Int} {i : Nat} : vput (plq A0 m c0 Q0 i) i (A0 + (mlI m c0 i).length) = plq A0 m c0 Q0 (i + 1) := by
  funext q
  unfold vput plq
  by_cases h : q = i
  · subst h
    rw [if_pos rfl, if_pos (by omega)]
  · rw [if_neg h]
    by_cases h2 : q < i
    · rw [if_pos h2, if_pos (by omega)]
    · rw [if_neg h2, if_neg (by omega)]
section Onc
variable {F L d : Nat} {xs : Nat → Int32} {m : Mem} {main c0 : Int}
theorem cq_b {n : Nat} (h : OK0 m n) (h0 : 0 ≤ c0 ∧ c0 < 1600) : ∀ i, i ≤ n → 0 ≤ cq m c0 i ∧ cq m c0 i < 1600
  | 0 => fun _ => h0
  | i + 1 => fun hi => by
    show 0 ≤ (if m 177 i = 0 then m 178 i else cq m c0 i) ∧ (if m 177 i = 0 then m 178 i else cq m c0 i) < 1600
    split
    · next z => exact (h i (by omega)).2.2.1 (Or.inl z)
    · exact cq_b h h0 i (by omega)
theorem L_287_0 {n : Nat} {T0 : mSt} {Q0 : Nat → Int} (hF : 100000 ≤ F) (hO : OK0 m n) (hn : m 158 41 = (n : Int)) (hn3 : n ≤ 3000) (hc : 0 ≤ c0 ∧ c0 < 1600) (hX : ∀ Q c, 0 ≤ c → c < 1600 → MX (pv Q c m)) (hT : 0 ≤ T0.1) (hg : T0.2.2.1 = 0) (hno : 0 ≤ T0.2.2.2.2.2.1 ∧ T0.2.2.2.2.2.1 ≤ 10) (hB : ∀ i, i ≤ n → T0.1 + (mlI m c0 i).length ≤ 60000) : ∀ (j i N : Nat), i + j = n → j < N → LF F (d + 15) la_287_0 lb_287_0 lc_287_0 N ([(2, 158), (0, main), (0, (i : Int))], Hp L xs (my (mI (mlI m c0 i) T0) (pv (plq T0.1 m c0 Q0 i) (cq m c0 i) m))) = some (0, [], ([(2, 158), (0, main), (0, (n : Int))], Hp L xs (my (mI (mlI m c0 n) T0) (pv (plq T0.1 m c0 Q0 n) (cq m c0 n) m)))) := by
  intro j
  induction j with
  | zero =>
    intro i N h hN
    obtain ⟨N, rfl⟩ : ∃ n', N = n' + 1 := ⟨N - 1, by omega⟩
    have e : i = n := by omega
    subst e
    have e41 : my (mI (mlI m c0 i) T0) (pv (plq T0.1 m c0 Q0 i) (cq m c0 i) m) 158 41 = (i : Int) := hn
    rw [lf_s]
    simp (disch := omega) only [ea_287_0, eb_287_0, ec_287_0, l1_i, l1_1, l1_0, l2_0, l2_1, l2_2, l2_3, l3_0, w2_0, w2_1, w2_2, w2_3, d1_0, d1_1, d1_2, d1_3, d2_i, d2_1, d2_0, ev_0, ev_1, ev_16, ev_17, ev_18, ev_2, ev_3, ev_4, ev_5, ev_6, ev_7, ev_8, ev_9, ev_20, ev_21, ev_22, ev_23, ev_24, ev_25, ev_27, ev_28, ev_30, ev_31, ev_32, ev_33, ev_34, ev_35, ev_36, ev_37, ev_38, ev_39, ev_40, ev_41, ev_42, ev_43, ev_45, ev_46, ev_47, ev_48, ev_49, ev_50, ev_51, ev_52, ev_54, ev_55, ev_57, ev_58, ev_59, k2_0, k2_1, k2_2, k3a, k3b, k4, o1_s, xbin_0, xbin_1, xbin_2, xbin_3, xbin_4, xbin_5, xbin_6, xbin_7, xbin_8, xbin_9, xbin_11, xbin_12, xun_0, xun_1, xun_2, xun_3, xun_4, xun_5, k6a, k8, k8b, k9, k20, k20b_0, k20b_1, k20b_2, k20b_3, k20b_4, k20b_5, k21_0, k21_1, k21_2, k21_3, k21_4, k21_5, k23, k24, k25, k27, k28, k40, nz_1, nz_2, nz_3, k31_0, k31_1, k31_2, k31_3, k32u, k33, k34, k35, k35b, k36, k37, k38, k47, k49, k49b_0, k49b_1, k49b_2, k49b_3, k50_0, k50_s, k51_0, k51_s, k55, k58, k58b, rk_0, rk_1, rk_2, rk_9, rk_3, rk_4, rk_5, sw_n, sw_c, xtb_n, xtb_c, lset_0, lset_2, lset_1, lkm_0, lkm_2, lkm_9, lkm_1, lkm_n, if_some1, c_10, c_01, c_x0, c_1x, c_n0, c_nn, List.getElem?_cons_zero, List.getElem?_cons_succ, List.set_cons_zero, List.set_cons_succ, List.length_cons, List.length_nil, Int.reduceToNat, Nat.reduceDiv, Nat.reduceMod, Nat.reduceSub, Nat.reduceAdd, Nat.reduceMul, Nat.reduceLT, Nat.reduceLeDiff, Nat.reduceEqDiff, Int.reduceMod, Int.reduceSub, Int.reduceNeg, Int.reduceAdd, Int.reduceMul, Int.reduceLT, Int.reduceLE, Int.reduceEq, put_ss, if_true, if_false, ite_true, ite_false, reduceIte, eq_self, and_true, true_and, and_false, false_and, or_true, true_or, or_false, false_or, not_true_eq_false, not_false_eq_true, k5_158_41, k34_158_41, k54_158_41, k54b_158_41_0, e41, Int.lt_irrefl]
  | succ j ih =>
    intro i N h hN
    obtain ⟨N, rfl⟩ : ∃ n', N = n' + 1 := ⟨N - 1, by omega⟩
    have c1 := ih (i + 1) N (by omega) (by omega)
    obtain ⟨t1, t2, t3⟩ := mI_n (mlI m c0 i) T0
    obtain ⟨g1, g2⟩ := mlI_n (c0 := c0) hO i (by omega)
    have hb := hB i (by omega)
    have hT1 : (mI (mlI m c0 i) T0).1 = T0.1 + (mlI m c0 i).length := t1
    have hgo : (mI (mlI m c0 i) T0).2.2.1 = ((ngo (mlI m c0 i) : Nat) : Int) := by rw [t2, hg]; omega
    have e41 : my (mI (mlI m c0 i) T0) (pv (plq T0.1 m c0 Q0 i) (cq m c0 i) m) 158 41 = (n : Int) := hn
    have e74 : my (mI (mlI m c0 i) T0) (pv (plq T0.1 m c0 Q0 i) (cq m c0 i) m) 158 74 = T0.1 + (mlI m c0 i).length := t1
    have hlt : (i : Int) < (n : Int) := by omega
    have i0 : (i : Int).toNat = i := Int.toNat_natCast i
    have e1 : put (my (mI (mlI m c0 i) T0) (pv (plq T0.1 m c0 Q0 i) (cq m c0 i) m)) 180 i (T0.1 + (mlI m c0 i).length) = my (mI (mlI m c0 i) T0) (pv (plq T0.1 m c0 Q0 (i + 1)) (cq m c0 i) m) := by
      rw [np_180, pv_p, plq_s]
    have hM : pv (plq T0.1 m c0 Q0 (i + 1)) (cq m c0 (i + 1)) m = if pv (plq T0.1 m c0 Q0 (i + 1)) (cq m c0 i) m 177 (i : Int).toNat = 0 then put (pv (plq T0.1 m c0 Q0 (i + 1)) (cq m c0 i) m) 158 85 (pv (plq T0.1 m c0 Q0 (i + 1)) (cq m c0 i) m 178 (i : Int).toNat) else pv (plq T0.1 m c0 Q0 (i + 1)) (cq m c0 i) m := by
      rw [i0, pv_c]
      show pv (plq T0.1 m c0 Q0 (i + 1)) (if m 177 i = 0 then m 178 i else cq m c0 i) m = if m 177 i = 0 then pv (plq T0.1 m c0 Q0 (i + 1)) (m 178 i) m else pv (plq T0.1 m c0 Q0 (i + 1)) (cq m c0 i) m
      split <;> rfl
    have hcb := cq_b hO hc (i + 1) (by omega)
    have k1 := fun D => K_281 (F := F) (L := L) (xs := xs) (d := D) (T := mI (mlI m c0 i) T0) (n := 0) (i := (i : Int)) (hX (plq T0.1 m c0 Q0 (i + 1)) (cq m c0 (i + 1)) hcb.1 hcb.2) hM hF ⟨by omega, by omega⟩ (by omega) (by omega) (by omega) (by omega) (by rw [i0]; exact hO i (by omega))
    have eL : mI (itM (pv (plq T0.1 m c0 Q0 (i + 1)) (cq m c0 (i + 1)) m) (mI (mlI m c0 i) T0).2.2.1 (i : Int).toNat) (mI (mlI m c0 i) T0) = mI (mlI m c0 (i + 1)) T0 := by
      rw [i0, hgo, dM_e, mI_app]
      rfl
    rw [eL] at k1
    have ecast : ((i + 1 : Nat) : Int) = (i : Int) + 1 := by omega
    rw [ecast] at c1
    rw [lf_s]
    simp (disch := omega) only [ea_287_0, eb_287_0, ec_287_0, l1_i, l1_1, l1_0, l2_0, l2_1, l2_2, l2_3, l3_0, w2_0, w2_1, w2_2, w2_3, d1_0, d1_1, d1_2, d1_3, d2_i, d2_1, d2_0, ev_0, ev_1, ev_16, ev_17, ev_18, ev_2, ev_3, ev_4, ev_5, ev_6, ev_7, ev_8, ev_9, ev_20, ev_21, ev_22, ev_23, ev_24, ev_25, ev_27, ev_28, ev_30, ev_31, ev_32, ev_33, ev_34, ev_35, ev_36, ev_37, ev_38, ev_39, ev_40, ev_41, ev_42, ev_43, ev_45, ev_46, ev_47, ev_48, ev_49, ev_50, ev_51, ev_52, ev_54, ev_55, ev_57, ev_58, ev_59, k2_0, k2_1, k2_2, k3a, k3b, k4, o1_s, xbin_0, xbin_1, xbin_2, xbin_3, xbin_4, xbin_5, xbin_6, xbin_7, xbin_8, xbin_9, xbin_11, xbin_12, xun_0, xun_1, xun_2, xun_3, xun_4, xun_5, k6a, k8, k8b, k9, k20, k20b_0, k20b_1, k20b_2, k20b_3, k20b_4, k20b_5, k21_0, k21_1, k21_2, k21_3, k21_4, k21_5, k23, k24, k25, k27, k28, k40, nz_1, nz_2, nz_3, k31_0, k31_1, k31_2, k31_3, k32u, k33, k34, k35, k35b, k36, k37, k38, k47, k49, k49b_0, k49b_1, k49b_2, k49b_3, k50_0, k50_s, k51_0, k51_s, k55, k58, k58b, rk_0, rk_1, rk_2, rk_9, rk_3, rk_4, rk_5, sw_n, sw_c, xtb_n, xtb_c, lset_0, lset_2, lset_1, lkm_0, lkm_2, lkm_9, lkm_1, lkm_n, if_some1, c_10, c_01, c_x0, c_1x, c_n0, c_nn, List.getElem?_cons_zero, List.getElem?_cons_succ, List.set_cons_zero, List.set_cons_succ, List.length_cons, List.length_nil, Int.reduceToNat, Nat.reduceDiv, Nat.reduceMod, Nat.reduceSub, Nat.reduceAdd, Nat.reduceMul, Nat.reduceLT, Nat.reduceLeDiff, Nat.reduceEqDiff, Int.reduceMod, Int.reduceSub, Int.reduceNeg, Int.reduceAdd, Int.reduceMul, Int.reduceLT, Int.reduceLE, Int.reduceEq, put_ss, if_true, if_false, ite_true, ite_false, reduceIte, eq_self, and_true, true_and, and_false, false_and, or_true, true_or, or_false, false_or, not_true_eq_false, not_false_eq_true, k5_158_41, k34_158_41, k54_158_41, k54b_158_41_0, k5_158_45, k6_180, k35_180, n_180, k5_158_74, k34_158_74, k54_158_74, k54b_158_74_0, e41, e74, hlt, i0, e1, w32_of, k1, c1]
    try rfl
end Onc
