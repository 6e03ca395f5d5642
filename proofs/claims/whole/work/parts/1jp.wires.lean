/-! WIRES: what each wire carries; the class's show and settle -/
/-- the wires when j gates have settled -/
def wtS (lf rt s : Nat → Int) : Nat → Nat → Int
  | 0 => s
  | j + 1 => fun k => if k = 212 + j then 1 - iand (wtS lf rt s j (lf (212 + j)).toNat) (wtS lf rt s j (rt (212 + j)).toNat) else wtS lf rt s j k
section Wrs
variable {lf rt s : Nat → Int}
theorem wtS_m {k j : Nat} (h : k < 212 + j) : ∀ i, wtS lf rt s (j + i) k = wtS lf rt s j k
  | 0 => rfl
  | i + 1 => by
    show (if k = 212 + (j + i) then _ else wtS lf rt s (j + i) k) = _
    rw [if_neg (by omega)]
    exact wtS_m h i
/-- what wire k carries -/
def wzS (lf rt s : Nat → Int) (k : Nat) : Int := wtS lf rt s 4104 k
theorem wzS_0 {k : Nat} (h : k < 212) : wzS lf rt s k = s k := by
  have z := wtS_m (lf := lf) (rt := rt) (s := s) (k := k) (j := 0) (by omega) 4104
  rw [Nat.zero_add] at z
  exact z
theorem wzS_g {j : Nat} (h : j < 4104) (h1 : 0 ≤ lf (212 + j) ∧ lf (212 + j) < 212 + j) (h2 : 0 ≤ rt (212 + j) ∧ rt (212 + j) < 212 + j) : wzS lf rt s (212 + j) = 1 - iand (wzS lf rt s (lf (212 + j)).toNat) (wzS lf rt s (rt (212 + j)).toNat) := by
  have a1 := wtS_m (lf := lf) (rt := rt) (s := s) (k := 212 + j) (j := j + 1) (by omega) (4104 - (j + 1))
  have a2 := wtS_m (lf := lf) (rt := rt) (s := s) (k := (lf (212 + j)).toNat) (j := j) (by omega) (4104 - j)
  have a3 := wtS_m (lf := lf) (rt := rt) (s := s) (k := (rt (212 + j)).toNat) (j := j) (by omega) (4104 - j)
  rw [show j + 1 + (4104 - (j + 1)) = 4104 from by omega] at a1
  rw [show j + (4104 - j) = 4104 from by omega] at a2 a3
  unfold wzS
  rw [a1, a2, a3]
  exact if_pos rfl
/-- the shown wires are bits: all are -/
theorem wzS_b (hs : ∀ k, k < 212 → s k = 0 ∨ s k = 1) (n : Nat) (hn : n ≤ 4104) (hg : ∀ k : Nat, 212 ≤ k → k < n → (0 ≤ lf k ∧ lf k < k) ∧ 0 ≤ rt k ∧ rt k < k) : ∀ i k : Nat, k < i → k < n → wzS lf rt s k = 0 ∨ wzS lf rt s k = 1 := by
  intro i
  induction i with
  | zero => intro k h; omega
  | succ i ih =>
    intro k hk hkn
    by_cases c : k < 212
    · rw [wzS_0 c]
      exact hs k c
    · obtain ⟨j, rfl⟩ : ∃ j, k = 212 + j := ⟨k - 212, by omega⟩
      obtain ⟨g1, g2⟩ := hg (212 + j) (by omega) hkn
      rw [wzS_g (by omega) (by omega) (by omega)]
      have b1 := ih (lf (212 + j)).toNat (by omega) (by omega)
      have b2 := ih (rt (212 + j)).toNat (by omega) (by omega)
      rcases b1 with z1 | z1 <;> rcases b2 with z2 | z2 <;> rw [z1, z2] <;> decide
end Wrs
section Sh3
variable {F L d N : Nat} {xs : Nat → Int32} {m : Mem}
theorem sh5_o {a k : Nat} (h : a ≠ 77) : sh5 m a k = m a k := by
  unfold sh5
  rw [sb_o h, sb_o h, sb_o h, sb_o h, sb_o h, put_ss, if_neg h, put_ss, if_neg h]
theorem C_81 (hF : 100000 ≤ F) (W : WM m) : Cx F (d + 3) 81 [78, 77] (Hp L xs m) = some ([], Hp L xs (shM m)) := by
  have l := L_81a (F := F) (L := L) (xs := xs) (d := d + 1) (m := sh5 m) hF 8 0 F (by omega) (by omega)
  have z0 : ((0 : Nat) : Int) = 0 := rfl
  have z1 : rgM 0 (sh5 m) = sh5 m := rfl
  rw [z0, z1] at l
  have c1 : Cx F (d + 2) 82 [77, 2, 16, m 78 2] (Hp L xs (put (put m 77 0 0) 77 1 1)) = some ([], Hp L xs (sb 2 16 (m 78 2) (put (put m 77 0 0) 77 1 1))) := C_82 (f := 2) (nb := 16) hF (by omega) (by omega)
  have c2 : Cx F (d + 2) 82 [77, 18, 16, m 78 3] (Hp L xs (sb 2 16 (m 78 2) (put (put m 77 0 0) 77 1 1))) = some ([], Hp L xs (sb 18 16 (m 78 3) (sb 2 16 (m 78 2) (put (put m 77 0 0) 77 1 1)))) := C_82 (f := 18) (nb := 16) hF (by omega) (by omega)
  have c3 : Cx F (d + 2) 82 [77, 34, 16, m 78 4] (Hp L xs (sb 18 16 (m 78 3) (sb 2 16 (m 78 2) (put (put m 77 0 0) 77 1 1)))) = some ([], Hp L xs (sb 34 16 (m 78 4) (sb 18 16 (m 78 3) (sb 2 16 (m 78 2) (put (put m 77 0 0) 77 1 1))))) := C_82 (f := 34) (nb := 16) hF (by omega) (by omega)
  have c4 : Cx F (d + 2) 82 [77, 50, 16, m 78 5] (Hp L xs (sb 34 16 (m 78 4) (sb 18 16 (m 78 3) (sb 2 16 (m 78 2) (put (put m 77 0 0) 77 1 1))))) = some ([], Hp L xs (sb 50 16 (m 78 5) (sb 34 16 (m 78 4) (sb 18 16 (m 78 3) (sb 2 16 (m 78 2) (put (put m 77 0 0) 77 1 1)))))) := C_82 (f := 50) (nb := 16) hF (by omega) (by omega)
  have c5 : Cx F (d + 2) 82 [77, 66, 2, m 78 6] (Hp L xs (sb 50 16 (m 78 5) (sb 34 16 (m 78 4) (sb 18 16 (m 78 3) (sb 2 16 (m 78 2) (put (put m 77 0 0) 77 1 1)))))) = some ([], Hp L xs (sh5 m)) := C_82 (f := 66) (nb := 2) hF (by omega) (by omega)
  have W8 : WM (rgM 8 (sh5 m)) := by
    have e : ∀ a j, a ≠ 77 → rgM 8 (sh5 m) a j = m a j := fun a j h => (rgM_o h 8).trans (sh5_o h)
    obtain ⟨w1, w2, w3, w4, w5, w6, w7, w8, w9, w10⟩ := W
    refine ⟨by rw [e _ _ (by decide)]; exact w1, by rw [e _ _ (by decide)]; exact w2, by rw [e _ _ (by decide)]; exact w3, by rw [e _ _ (by decide)]; exact w4, by rw [e _ _ (by decide)]; exact w5, by rw [e _ _ (by decide), e _ _ (by decide)]; exact w6, by rw [e _ _ (by decide)]; exact w7, fun k hk => by rw [e _ _ (by decide)]; exact w8 k hk, fun k hk => by rw [e _ _ (by decide)]; exact w9 k hk, fun k hk => by rw [e _ _ (by decide)]; exact w10 k hk⟩
  have ed : dat (rgM 8 (sh5 m)) = dat m := by
    have e : ∀ a j, a ≠ 77 → rgM 8 (sh5 m) a j = m a j := fun a j h => (rgM_o h 8).trans (sh5_o h)
    unfold dat
    rw [e 78 4 (by decide), e 78 9 (by decide), e 78 8 (by decide), e 79 _ (by decide), e 81 _ (by decide)]
  have c6 := C_75 (F := F) (L := L) (xs := xs) (d := d) W8
  rw [ed] at c6
  have c7 : Cx F (d + 2) 82 [77, 196, 16, dat m] (Hp L xs (rgM 8 (sh5 m))) = some ([], Hp L xs (shM m)) := C_82 (f := 196) (nb := 16) hF (by omega) (by omega)
  have hf1 : put (put m 77 0 0) 77 1 1 78 2 = m 78 2 := rfl
  have hf2 : sb 2 16 (m 78 2) (put (put m 77 0 0) 77 1 1) 78 3 = m 78 3 := rfl
  have hf3 : sb 18 16 (m 78 3) (sb 2 16 (m 78 2) (put (put m 77 0 0) 77 1 1)) 78 4 = m 78 4 := rfl
  have hf4 : sb 34 16 (m 78 4) (sb 18 16 (m 78 3) (sb 2 16 (m 78 2) (put (put m 77 0 0) 77 1 1))) 78 5 = m 78 5 := rfl
  have hf5 : sb 50 16 (m 78 5) (sb 34 16 (m 78 4) (sb 18 16 (m 78 3) (sb 2 16 (m 78 2) (put (put m 77 0 0) 77 1 1)))) 78 6 = m 78 6 := rfl
  have t0 : (0 : Int).toNat = 0 := rfl
  have t1 : (1 : Int).toNat = 1 := rfl
  simp (disch := omega) only [c_81, tx_81, ev_0, ev_1, ev_16, ev_17, ev_18, ev_2, ev_3, ev_4, ev_5, ev_6, ev_7, ev_8, ev_9, ev_20, ev_21, ev_22, ev_23, ev_24, ev_25, ev_27, ev_28, ev_30, ev_31, ev_32, ev_33, ev_34, ev_35, ev_36, ev_37, ev_38, ev_39, ev_40, ev_41, ev_42, ev_43, ev_45, ev_46, ev_47, ev_48, ev_49, ev_50, ev_51, ev_52, ev_54, ev_55, ev_57, ev_58, ev_59, k2_0, k2_1, k2_2, k3a, k3b, k4, o1_s, xbin_0, xbin_1, xbin_2, xbin_3, xbin_4, xbin_5, xbin_6, xbin_7, xbin_8, xbin_9, xbin_11, xbin_12, xun_0, xun_1, xun_2, xun_3, xun_4, xun_5, k6a, k8, k8b, k9, k20, k20b_0, k20b_1, k20b_2, k20b_3, k20b_4, k20b_5, k21_0, k21_1, k21_2, k21_3, k21_4, k21_5, k23, k24, k25, k27, k28, k40, nz_1, nz_2, nz_3, k31_0, k31_1, k31_2, k31_3, k32u, k33, k34, k35, k35b, k36, k37, k38, k47, k49, k49b_0, k49b_1, k49b_2, k49b_3, k50_0, k50_s, k51_0, k51_s, k55, k58, k58b, rk_0, rk_1, rk_2, rk_9, rk_3, rk_4, rk_5, sw_n, sw_c, xtb_n, xtb_c, lset_0, lset_2, lset_1, lkm_0, lkm_2, lkm_9, lkm_1, lkm_n, if_some1, c_10, c_01, c_x0, c_1x, c_n0, c_nn, List.getElem?_cons_zero, List.getElem?_cons_succ, List.set_cons_zero, List.set_cons_succ, List.length_cons, List.length_nil, Int.reduceToNat, Nat.reduceDiv, Nat.reduceMod, Nat.reduceSub, Nat.reduceAdd, Nat.reduceMul, Nat.reduceLT, Nat.reduceLeDiff, Nat.reduceEqDiff, Int.reduceMod, Int.reduceSub, Int.reduceNeg, Int.reduceAdd, Int.reduceMul, Int.reduceLT, Int.reduceLE, Int.reduceEq, put_ss, if_true, if_false, ite_true, ite_false, reduceIte, eq_self, and_true, true_and, and_false, false_and, or_true, true_or, or_false, false_or, not_true_eq_false, not_false_eq_true, k5_78_2, k34_78_2, k5_78_3, k34_78_3, k5_78_4, k34_78_4, k5_78_5, k34_78_5, k5_78_6, k34_78_6, n_77, k35_77, hf1, hf2, hf3, hf4, hf5, c1, c2, c3, c4, c5, l, c6, c7, t0, t1]
end Sh3
