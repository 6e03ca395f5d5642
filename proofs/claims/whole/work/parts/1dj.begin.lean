/-! BEGINNING: five conditions are told ahead, by both -/
def fiveC : List Int := [33804981, 17582276, 295370117, 10051963, 10307774]
def five : List (Int × Int × Int) := [(33804981, 3, 1), (17582276, 3, 2), (295370117, 3, 3), (10051963, 3, 4), (10307774, 3, 5)]
def s6 : tS6 := (five, 0, 6, 0, false, [])
/-- one more condition, told by the class -/
def tA (m : Mem) (c : Int) : Mem := put (put (put (put (put (put (put (put m 58 (m 57 4).toNat c) 59 (m 57 4).toNat 0) 60 (m 57 4).toNat (-1)) 61 (m 57 4).toNat (-1)) 57 4 (m 57 4 + 1)) 57 6 (m 57 6 + 1)) 59 (m 57 4).toNat 3) 60 (m 57 4).toNat (m 57 6 + 1)
def BgI (m : Mem) (cs : List Int) : Prop := m 57 4 = cs.length ∧ m 57 6 = cs.length ∧ ∀ i : Nat, i < cs.length → m 58 i = cs.getD i 0 ∧ m 59 i = 3 ∧ m 60 i = i + 1 ∧ m 61 i = -1
theorem fst1_no {f : Nat → Int} {c : Int} {cs : List Int} (h : ∀ i : Nat, i < cs.length → f i = cs.getD i 0) (hc : c ∉ cs) : fst1 f c 0 cs.length = -1 := by
  rcases fst1_b (f := f) (c := c) cs.length 0 with z | ⟨z1, z2, z3⟩
  · exact z
  · exfalso
    have hl : (fst1 f c 0 cs.length).toNat < cs.length := by omega
    have e := h _ hl
    rw [z3, List.getD_eq_getElem?_getD, List.getElem?_eq_getElem hl] at e
    exact hc (e ▸ List.getElem_mem hl)
section Beg
variable {F L d : Nat} {m : Mem} {xs : Nat → Int32} {c : Int} {cs : List Int}
theorem BgI_s (B : BgI m cs) (h5 : cs.length < 6) : BgI (tA m c) (cs ++ [c]) := by
  obtain ⟨b1, b2, b3⟩ := B
  have hl : (cs ++ [c]).length = cs.length + 1 := by rw [List.length_append]; rfl
  have e4 : (m 57 4).toNat = cs.length := by omega
  refine ⟨?_, ?_, fun i hi => ?_⟩
  · rw [hl]
    show m 57 4 + 1 = _
    omega
  · rw [hl]
    show m 57 6 + 1 = _
    omega
  · unfold tA
    rw [e4]
    by_cases hi2 : i = cs.length
    · subst hi2
      refine ⟨?_, ?_, ?_, ?_⟩
      · simp (disch := omega) only [put_ss, Nat.reduceEqDiff, if_true, if_false]
        rw [List.getD_eq_getElem?_getD, List.getElem?_append_right (Nat.le_refl _), Nat.sub_self]
        rfl
      · simp (disch := omega) only [put_ss, Nat.reduceEqDiff, if_true, if_false]
      · simp (disch := omega) only [put_ss, Nat.reduceEqDiff, if_true, if_false]
        omega
      · simp (disch := omega) only [put_ss, Nat.reduceEqDiff, if_true, if_false]
    · have hi3 : i < cs.length := by omega
      obtain ⟨d1, d2, d3, d4⟩ := b3 i hi3
      refine ⟨?_, ?_, ?_, ?_⟩
      · simp (disch := omega) only [put_ss, Nat.reduceEqDiff, if_true, if_false, hi2]
        rw [d1, List.getD_eq_getElem?_getD, List.getD_eq_getElem?_getD, List.getElem?_append_left hi3]
      · simp (disch := omega) only [put_ss, Nat.reduceEqDiff, if_true, if_false, hi2, d2]
      · simp (disch := omega) only [put_ss, Nat.reduceEqDiff, if_true, if_false, hi2, d3]
      · simp (disch := omega) only [put_ss, Nat.reduceEqDiff, if_true, if_false, hi2, d4]
theorem C_147 {a : Int} (hF : 100000 ≤ F) (hS : ∀ m, Cx F (d + 6) 145 [a] (Hp L xs m) = some ([c], Hp L xs m)) (B : BgI m cs) (h5 : cs.length < 6) (hc : c ∉ cs) : Cx F (d + 7) 147 [57, a] (Hp L xs m) = some ([], Hp L xs (tA m c)) := by
  obtain ⟨b1, b2, b3⟩ := B
  have e0 : (m 57 4).toNat = cs.length := by omega
  have e1 : fst1 (m 58) c 0 (m 57 4).toNat = -1 := by rw [e0]; exact fst1_no (fun i hi => (b3 i hi).1) hc
  have c1 := C_148 (F := F) (L := L) (xs := xs) (d := d + 5) (m := m) (c := c) hF (by omega) (by omega)
  have c2 := hS m
  unfold idv idM at c1
  rw [if_pos e1, if_pos e1] at c1
  unfold tA
  simp (disch := first | omega | assumption) only [c_147, tr_147, ev_0, ev_1, ev_16, ev_17, ev_18, ev_2, ev_3, ev_4, ev_5, ev_6, ev_7, ev_8, ev_9, ev_20, ev_21, ev_22, ev_23, ev_24, ev_25, ev_27, ev_28, ev_30, ev_31, ev_32, ev_33, ev_34, ev_35, ev_36, ev_37, ev_38, ev_39, ev_40, ev_41, ev_42, ev_43, ev_45, ev_46, ev_47, ev_48, ev_49, ev_50, ev_51, ev_52, ev_54, ev_55, ev_57, ev_58, ev_59, k2_0, k2_1, k2_2, k3a, k3b, k4, o1_s, xbin_0, xbin_1, xbin_2, xbin_3, xbin_4, xbin_5, xbin_6, xbin_7, xbin_8, xbin_9, xbin_11, xbin_12, xun_0, xun_1, xun_2, xun_3, xun_4, xun_5, k6a, k8, k8b, k9, k20, k20b_0, k20b_1, k20b_2, k20b_3, k20b_4, k20b_5, k21_0, k21_1, k21_2, k21_3, k21_4, k21_5, k23, k24, k25, k27, k28, k40, nz_1, nz_2, nz_3, k31_0, k31_1, k31_2, k31_3, k32u, k33, k34, k35, k35b, k36, k37, k38, k47, k49, k49b_0, k49b_1, k49b_2, k49b_3, k50_0, k50_s, k51_0, k51_s, k55, k58, k58b, rk_0, rk_1, rk_2, rk_9, rk_3, rk_4, rk_5, sw_n, sw_c, xtb_n, xtb_c, lset_0, lset_2, lset_1, lkm_0, lkm_2, lkm_9, lkm_1, lkm_n, if_some1, c_10, c_01, c_x0, c_1x, c_n0, c_nn, List.getElem?_cons_zero, List.getElem?_cons_succ, List.set_cons_zero, List.set_cons_succ, List.length_cons, List.length_nil, Int.reduceToNat, Nat.reduceDiv, Nat.reduceMod, Nat.reduceSub, Nat.reduceAdd, Nat.reduceMul, Nat.reduceLT, Nat.reduceLeDiff, Nat.reduceEqDiff, Int.reduceMod, Int.reduceSub, Int.reduceNeg, Int.reduceAdd, Int.reduceMul, Int.reduceLT, Int.reduceLE, Int.reduceEq, put_ss, if_true, if_false, ite_true, ite_false, reduceIte, eq_self, and_true, true_and, and_false, false_and, or_true, true_or, or_false, false_or, not_true_eq_false, not_false_eq_true, k5_57_1, k6_59, k35_59, n_59, k5_57_2, k6_60, k35_60, n_60, k5_57_6, k34_57_6, k54_57_6, k54b_57_6_0, c1, c2, w32_of]
def bg0 (m : Mem) : Mem := put (put (put (put (put (put (put (put m 57 4 0) 57 5 0) 57 6 0) 57 7 0) 57 8 0) 57 14 0) 57 15 3001) 57 16 0
def bgM (m : Mem) : Mem := tA (tA (tA (tA (tA (bg0 m) 33804981) 17582276) 295370117) 10051963) 10307774
theorem C_146 (hF : 100000 ≤ F) : Cx F (d + 8) 146 [57] (Hp L xs m) = some ([], Hp L xs (bgM m)) ∧ BgI (bgM m) fiveC := by
  have B0 : BgI (bg0 m) [] := ⟨rfl, rfl, fun i hi => absurd hi (Nat.not_lt_zero _)⟩
  have c1 := C_147 (F := F) (L := L) (xs := xs) (d := d) (a := 32) (c := 33804981) hF (fun m => S_145_32 (d := d) hF) B0 (by decide) (by decide)
  have B1 := BgI_s (c := 33804981) B0 (by decide)
  have c2 := C_147 (F := F) (L := L) (xs := xs) (d := d) (a := 34) (c := 17582276) hF (fun m => S_145_34 (d := d) hF) B1 (by decide) (by decide)
  have B2 := BgI_s (c := 17582276) B1 (by decide)
  have c3 := C_147 (F := F) (L := L) (xs := xs) (d := d) (a := 36) (c := 295370117) hF (fun m => S_145_36 (d := d) hF) B2 (by decide) (by decide)
  have B3 := BgI_s (c := 295370117) B2 (by decide)
  have c4 := C_147 (F := F) (L := L) (xs := xs) (d := d) (a := 38) (c := 10051963) hF (fun m => S_145_38 (d := d) hF) B3 (by decide) (by decide)
  have B4 := BgI_s (c := 10051963) B3 (by decide)
  have c5 := C_147 (F := F) (L := L) (xs := xs) (d := d) (a := 40) (c := 10307774) hF (fun m => S_145_40 (d := d) hF) B4 (by decide) (by decide)
  have B5 := BgI_s (c := 10307774) B4 (by decide)
  refine ⟨?_, B5⟩
  unfold bgM
  unfold bg0 at *
  simp (disch := first | omega | assumption) only [c_146, tr_146, ev_0, ev_1, ev_16, ev_17, ev_18, ev_2, ev_3, ev_4, ev_5, ev_6, ev_7, ev_8, ev_9, ev_20, ev_21, ev_22, ev_23, ev_24, ev_25, ev_27, ev_28, ev_30, ev_31, ev_32, ev_33, ev_34, ev_35, ev_36, ev_37, ev_38, ev_39, ev_40, ev_41, ev_42, ev_43, ev_45, ev_46, ev_47, ev_48, ev_49, ev_50, ev_51, ev_52, ev_54, ev_55, ev_57, ev_58, ev_59, k2_0, k2_1, k2_2, k3a, k3b, k4, o1_s, xbin_0, xbin_1, xbin_2, xbin_3, xbin_4, xbin_5, xbin_6, xbin_7, xbin_8, xbin_9, xbin_11, xbin_12, xun_0, xun_1, xun_2, xun_3, xun_4, xun_5, k6a, k8, k8b, k9, k20, k20b_0, k20b_1, k20b_2, k20b_3, k20b_4, k20b_5, k21_0, k21_1, k21_2, k21_3, k21_4, k21_5, k23, k24, k25, k27, k28, k40, nz_1, nz_2, nz_3, k31_0, k31_1, k31_2, k31_3, k32u, k33, k34, k35, k35b, k36, k37, k38, k47, k49, k49b_0, k49b_1, k49b_2, k49b_3, k50_0, k50_s, k51_0, k51_s, k55, k58, k58b, rk_0, rk_1, rk_2, rk_9, rk_3, rk_4, rk_5, sw_n, sw_c, xtb_n, xtb_c, lset_0, lset_2, lset_1, lkm_0, lkm_2, lkm_9, lkm_1, lkm_n, if_some1, c_10, c_01, c_x0, c_1x, c_n0, c_nn, List.getElem?_cons_zero, List.getElem?_cons_succ, List.set_cons_zero, List.set_cons_succ, List.length_cons, List.length_nil, Int.reduceToNat, Nat.reduceDiv, Nat.reduceMod, Nat.reduceSub, Nat.reduceAdd, Nat.reduceMul, Nat.reduceLT, Nat.reduceLeDiff, Nat.reduceEqDiff, Int.reduceMod, Int.reduceSub, Int.reduceNeg, Int.reduceAdd, Int.reduceMul, Int.reduceLT, Int.reduceLE, Int.reduceEq, put_ss, if_true, if_false, ite_true, ite_false, reduceIte, eq_self, and_true, true_and, and_false, false_and, or_true, true_or, or_false, false_or, not_true_eq_false, not_false_eq_true, k5_57_4, k34_57_4, k54_57_4, k54b_57_4_0, k5_57_5, k34_57_5, k54_57_5, k54b_57_5_0, k5_57_6, k34_57_6, k54_57_6, k54b_57_6_0, k5_57_7, k34_57_7, k54_57_7, k54b_57_7_0, k5_57_8, k34_57_8, k54_57_8, k54b_57_8_0, k5_57_14, k34_57_14, k54_57_14, k54b_57_14_0, k5_57_15, k34_57_15, k5_57_16, k34_57_16, k34i_57_16, c1, c2, c3, c4, c5]
theorem M_218 {k i : Int} (h0 : 0 ≤ m 158 17) (h1 : m 158 17 < 1600) : Cx F (d + 1) 218 [158, c, k, i] (Hp L xs m) = some ([], Hp L xs (jtl m c k i)) := by
  unfold jtl
  simp (disch := first | omega | assumption) only [c_218, tr_218, ev_0, ev_1, ev_16, ev_17, ev_18, ev_2, ev_3, ev_4, ev_5, ev_6, ev_7, ev_8, ev_9, ev_20, ev_21, ev_22, ev_23, ev_24, ev_25, ev_27, ev_28, ev_30, ev_31, ev_32, ev_33, ev_34, ev_35, ev_36, ev_37, ev_38, ev_39, ev_40, ev_41, ev_42, ev_43, ev_45, ev_46, ev_47, ev_48, ev_49, ev_50, ev_51, ev_52, ev_54, ev_55, ev_57, ev_58, ev_59, k2_0, k2_1, k2_2, k3a, k3b, k4, o1_s, xbin_0, xbin_1, xbin_2, xbin_3, xbin_4, xbin_5, xbin_6, xbin_7, xbin_8, xbin_9, xbin_11, xbin_12, xun_0, xun_1, xun_2, xun_3, xun_4, xun_5, k6a, k8, k8b, k9, k20, k20b_0, k20b_1, k20b_2, k20b_3, k20b_4, k20b_5, k21_0, k21_1, k21_2, k21_3, k21_4, k21_5, k23, k24, k25, k27, k28, k40, nz_1, nz_2, nz_3, k31_0, k31_1, k31_2, k31_3, k32u, k33, k34, k35, k35b, k36, k37, k38, k47, k49, k49b_0, k49b_1, k49b_2, k49b_3, k50_0, k50_s, k51_0, k51_s, k55, k58, k58b, rk_0, rk_1, rk_2, rk_9, rk_3, rk_4, rk_5, sw_n, sw_c, xtb_n, xtb_c, lset_0, lset_2, lset_1, lkm_0, lkm_2, lkm_9, lkm_1, lkm_n, if_some1, c_10, c_01, c_x0, c_1x, c_n0, c_nn, List.getElem?_cons_zero, List.getElem?_cons_succ, List.set_cons_zero, List.set_cons_succ, List.length_cons, List.length_nil, Int.reduceToNat, Nat.reduceDiv, Nat.reduceMod, Nat.reduceSub, Nat.reduceAdd, Nat.reduceMul, Nat.reduceLT, Nat.reduceLeDiff, Nat.reduceEqDiff, Int.reduceMod, Int.reduceSub, Int.reduceNeg, Int.reduceAdd, Int.reduceMul, Int.reduceLT, Int.reduceLE, Int.reduceEq, put_ss, if_true, if_false, ite_true, ite_false, reduceIte, eq_self, and_true, true_and, and_false, false_and, or_true, true_or, or_false, false_or, not_true_eq_false, not_false_eq_true, k5_158_18, k6_165, k35_165, n_165, k5_158_19, k6_166, k35_166, n_166, k5_158_20, k6_167, k35_167, n_167, k5_158_17, k34_158_17, k54_158_17, k54b_158_17_0, w32_of]
end Beg
