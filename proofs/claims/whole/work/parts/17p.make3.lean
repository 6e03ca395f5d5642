/-! THE MAKER: make, whole -/
/-- what make begins with -/
def m85 (cd : Nat) (m : Mem) : Mem := put (put (put m 68 2 (cd : Int)) 68 4 0) 68 15 0
def s85 (m : Mem) : xSt := ([], m 68 9, m 68 10, m 57 15, 3001)
def y85 (m : Mem) : yS := ([], m 68 7, (fun k => m 61 k), (fun k => m 69 k), m 68 8)
theorem in_85 {cd : Nat} (hc : cd = 83 ∨ cd = 93) {m : Mem} : put (put (put (put (put (put (put (put m 68 2 (cd : Int)) cd 0 0) 68 12 0) 68 3 0) 68 4 0) 68 13 (m 57 15)) 68 14 3001) 68 15 0 = mv cd 0 (s85 m) (sww (m 68 5) (y85 m) (m85 cd m)) := by
  funext a k
  simp only [mv, sww, s85, y85, m85, put_ss, List.length_nil, Nat.not_lt_zero, if_false]
  by_cases h : a = 68
  · subst h
    have n0 : ¬ 68 = cd := by omega
    have n1 : ¬ 68 = cd + 1 := by omega
    have n2 : ¬ 68 = cd + 2 := by omega
    have n3 : ¬ 68 = cd + 3 := by omega
    simp only [n0, n1, n2, n3, if_true, if_false]
    by_cases k3 : k = 3
    · subst k3; simp only [Nat.reduceEqDiff, if_true, if_false]
    by_cases k9 : k = 9
    · subst k9; simp only [Nat.reduceEqDiff, if_true, if_false]
    by_cases k10 : k = 10
    · subst k10; simp only [Nat.reduceEqDiff, if_true, if_false]
    by_cases k13 : k = 13
    · subst k13; simp only [Nat.reduceEqDiff, if_true, if_false]
    by_cases k14 : k = 14
    · subst k14; simp only [Nat.reduceEqDiff, if_true, if_false]
    by_cases k5 : k = 5
    · subst k5; simp only [Nat.reduceEqDiff, if_true, if_false]
    by_cases k7 : k = 7
    · subst k7; simp only [Nat.reduceEqDiff, if_true, if_false]
    by_cases k8 : k = 8
    · subst k8; simp only [Nat.reduceEqDiff, if_true, if_false]
    by_cases k12 : k = 12
    · subst k12
      simp only [Nat.reduceEqDiff, if_true, if_false]
      rfl
    simp only [k3, k9, k10, k13, k14, k5, k7, k8, k12, if_false]
  · simp only [h, if_false]
    by_cases h1 : a = cd
    · subst h1
      have n61 : ¬ a = 61 := by omega
      have n69 : ¬ a = 69 := by omega
      have n70 : ¬ a = 70 := by omega
      simp only [n61, n69, n70, if_true, if_false]
      by_cases h0 : k = 0
      · simp only [h0, if_true]
        rfl
      · simp only [h0, if_false]
    · simp only [h1, if_false, ite_self]
      by_cases h61 : a = 61
      · subst h61
        simp only [Nat.reduceEqDiff, if_true, if_false, ite_self]
      · by_cases h69 : a = 69
        · subst h69
          simp only [Nat.reduceEqDiff, if_true, if_false, ite_self]
        · simp only [h61, h69, if_false, ite_self]
/-- what make leaves -/
def r85 (cd : Nat) (t : xT) (m : Mem) : wS := xTo cd t (s85 m, y85 m, m 68 5, m85 cd m)
def e85 (cd : Nat) (t : xT) (m : Mem) : Mem := put (put (put (r85 cd t m).2.2.2 cd 5 (imin ((r85 cd t m).2.2.2 68 4) 40)) cd 10 (m 57 6)) cd 11 (m 57 8)
theorem mpc {cd k : Nat} {p v : Int} {s : xSt} {X : Mem} (hc : cd = 83 ∨ cd = 93) (hk : k ≠ 0) : put (mv cd p s X) cd k v = mv cd p s (put X cd k v) := by
  funext a' k'
  simp only [mv, put_ss]
  by_cases h9 : a' = cd
  · subst h9
    have n1 : ¬ a' = 68 := by omega
    by_cases hk' : k' = k
    · subst hk'
      simp only [n1, hk, if_true, if_false]
    · simp only [n1, hk', if_true, if_false]
  · simp only [h9, if_false]
theorem spc {cd k : Nat} {H v : Int} {y : yS} {m : Mem} (hc : cd = 83 ∨ cd = 93) : put (sww H y m) cd k v = sww H y (put m cd k v) := swput (by omega) (by omega) (by omega) (by omega)
theorem C_85 {L : Nat} {xs : Nat → Int32} {F d cd : Nat} {m : Mem} {e : Int} {t : xT} (hc : cd = 83 ∨ cd = 93) (hF : 100000 ≤ F) (hN : m 51 5 ≤ 3001) (h4 : m 57 4 ≤ 1510) (h7 : m 57 7 ≤ 300) (heN : e < m 51 5) (h0 : 0 ≤ e) (hP : PT (kd m) (VF (fun i => m 55 i)) t 0 e) (hd : 500 ≤ d) : Kp (m85 cd m) (r85 cd t m).2.2.2 ∧ Cx F (d + 14) 85 [68, (cd : Int)] (Hp L xs m) = some ([], Hp L xs (mv cd e ((r85 cd t m).1.1.map (lnk (r85 cd t m).2.1.1), (r85 cd t m).1.2) (sww (r85 cd t m).2.2.1 (r85 cd t m).2.1 (e85 cd t m)))) := by
  have hK0 : ∀ a k, a < 83 → a ≠ 68 → m85 cd m a k = m a k := fun a k h1 h2 => by
    unfold m85
    rw [put_ss, if_neg h2, put_ss, if_neg h2, put_ss, if_neg h2]
  have hM : MH cd (m85 cd m) e := ⟨rfl, by rw [hK0 51 5 (by decide) (by decide)]; exact hN, by rw [hK0 57 4 (by decide) (by decide)]; exact h4, by rw [hK0 57 7 (by decide) (by decide)]; exact h7, by rw [hK0 51 5 (by decide) (by decide)]; exact heN⟩
  have hkd : kd (m85 cd m) = kd m := by
    funext p
    unfold kd
    rw [hK0 51 5 (by decide) (by decide), hK0 53 _ (by decide) (by decide)]
  have h55 : (fun i => m85 cd m 55 i) = (fun i => m 55 i) := funext fun i => hK0 55 i (by decide) (by decide)
  have hl : (m 51 5) = (m85 cd m) 51 5 := (hK0 51 5 (by decide) (by decide)).symm
  obtain ⟨k1, k2, left', c1⟩ := L_85 hc hF (tsz t + 1) t (by omega) 0 (m85 cd m) hM (by rw [hkd, h55]; exact hP) (by omega) L xs d (m 68 5) (s85 m) (y85 m) (m 51 5) (cd : Int) F hd (Nat.zero_le _) (by omega) hN (by omega)
  have hq3 : Q3 (r85 cd t m).1 := Q3_xTo hc (tsz t + 1) t (by omega) _ _ 0 e _ hP (Nat.zero_le _)
  unfold e85
  unfold r85 at *
  generalize hz : xTo cd t (s85 m, y85 m, m 68 5, m85 cd m) = z at *
  obtain ⟨s1, y1, H1, m1⟩ := z
  simp only at k1 k2 c1 hq3 ⊢
  refine ⟨k2, ?_⟩
  have h2 : m1 68 2 = (cd : Int) := k2.2.trans rfl
  have g6 : m1 57 6 = m 57 6 := (k2.1 57 6 (by decide) (by decide)).trans (hK0 57 6 (by decide) (by decide))
  have g8 : m1 57 8 = m 57 8 := (k2.1 57 8 (by decide) (by decide)).trans (hK0 57 8 (by decide) (by decide))
  obtain ⟨i', c3⟩ := L_85_1 (L := L) (xs := xs) (F := F) (d := d) (p := e) (H := H1) (y := y1) (m := m1) (r := s1.2) (z := (cd : Int)) hc h2 k1 s1.1 [] F (by have : s1.1.length ≤ 3000 := hq3; show 0 + s1.1.length ≤ 3000; omega) (by have : s1.1.length ≤ 3000 := hq3; omega)
  have c3' : LF F (d + 13) la_85_1 lb_85_1 lc_85_1 F ([(2, 68), (2, (cd : Int)), (0, 0)], Hp L xs (mv cd e s1 (sww H1 y1 m1))) = some (0, [], ([(2, 68), (2, (cd : Int)), (0, i')], Hp L xs (mv cd e (s1.1.map (lnk y1.1), s1.2) (sww H1 y1 m1)))) := c3
  have hin := in_85 (m := m) hc
  have o57 : ∀ (ss : xSt) (X : Mem) (k : Nat), mv cd e ss X 57 k = X 57 k := fun ss X k => mv_o hc (by decide) (by decide)
  rcases hc with hc' | hc' <;> subst hc'
  · have h2' : m1 68 2 = 83 := h2
    have e5 : ∀ (ss : xSt) (v : Int), put (mv 83 e ss (sww H1 y1 m1)) 83 5 v = mv 83 e ss (sww H1 y1 (put m1 83 5 v)) := fun ss v => by rw [mpc (Or.inl rfl) (by decide), spc (Or.inl rfl)]
    have e10 : ∀ (ss : xSt) (v : Int) (M : Mem), put (mv 83 e ss (sww H1 y1 M)) 83 10 v = mv 83 e ss (sww H1 y1 (put M 83 10 v)) := fun ss v M => by rw [mpc (Or.inl rfl) (by decide), spc (Or.inl rfl)]
    have e11 : ∀ (ss : xSt) (v : Int) (M : Mem), put (mv 83 e ss (sww H1 y1 M)) 83 11 v = mv 83 e ss (sww H1 y1 (put M 83 11 v)) := fun ss v M => by rw [mpc (Or.inl rfl) (by decide), spc (Or.inl rfl)]
    show Cx F (d + 14) 85 [68, 83] (Hp L xs m) = _
    have hin' : put (put (put (put (put (put (put (put m 68 2 83) 83 0 0) 68 12 0) 68 3 0) 68 4 0) 68 13 (m 57 15)) 68 14 3001) 68 15 0 = mv 83 0 (s85 m) (sww (m 68 5) (y85 m) (m85 83 m)) := hin
    have o51 : mv 83 0 (s85 m) (sww (m 68 5) (y85 m) (m85 83 m)) 51 5 = m 51 5 := by rw [mv_o (Or.inl rfl) (by decide) (by decide)]; exact hl.symm
    have c1' : LF F (d + 13) la_85_0 lb_85_0 lc_85_0 F ([(2, 68), (2, 83), (0, m 51 5)], Hp L xs (mv 83 0 (s85 m) (sww (m 68 5) (y85 m) (m85 83 m)))) = some (0, [], ([(2, 68), (2, 83), (0, left')], Hp L xs (mv 83 e s1 (sww H1 y1 m1)))) := c1
    have c3'' : LF F (d + 13) la_85_1 lb_85_1 lc_85_1 F ([(2, 68), (2, 83), (0, 0)], Hp L xs (mv 83 e s1 (sww H1 y1 m1))) = some (0, [], ([(2, 68), (2, 83), (0, i')], Hp L xs (mv 83 e (s1.1.map (lnk y1.1), s1.2) (sww H1 y1 m1)))) := c3'
    simp (disch := first | omega | assumption) only [c_85, tx_85, ev_0, ev_1, ev_16, ev_17, ev_18, ev_2, ev_3, ev_4, ev_5, ev_6, ev_7, ev_8, ev_9, ev_20, ev_21, ev_22, ev_23, ev_24, ev_25, ev_27, ev_28, ev_30, ev_31, ev_32, ev_33, ev_34, ev_35, ev_36, ev_37, ev_38, ev_39, ev_40, ev_41, ev_42, ev_43, ev_45, ev_46, ev_47, ev_48, ev_49, ev_50, ev_51, ev_52, ev_54, ev_55, ev_57, ev_58, ev_59, k2_0, k2_1, k2_2, k3a, k3b, k4, o1_s, xbin_0, xbin_1, xbin_2, xbin_3, xbin_4, xbin_5, xbin_6, xbin_7, xbin_8, xbin_9, xbin_11, xbin_12, xun_0, xun_1, xun_2, xun_3, xun_4, xun_5, k6a, k8, k8b, k9, k20, k20b_0, k20b_1, k20b_2, k20b_3, k20b_4, k20b_5, k21_0, k21_1, k21_2, k21_3, k21_4, k21_5, k23, k24, k25, k27, k28, k40, nz_1, nz_2, nz_3, k31_0, k31_1, k31_2, k31_3, k32u, k33, k34, k35, k35b, k36, k37, k38, k47, k49, k49b_0, k49b_1, k49b_2, k49b_3, k50_0, k50_s, k51_0, k51_s, k55, k58, k58b, rk_0, rk_1, rk_2, rk_9, rk_3, rk_4, rk_5, sw_n, sw_c, xtb_n, xtb_c, lset_0, lset_2, lset_1, lkm_0, lkm_2, lkm_9, lkm_1, lkm_n, if_some1, c_10, c_01, c_x0, c_1x, c_n0, c_nn, List.getElem?_cons_zero, List.getElem?_cons_succ, List.set_cons_zero, List.set_cons_succ, List.length_cons, List.length_nil, Int.reduceToNat, Nat.reduceDiv, Nat.reduceMod, Nat.reduceSub, Nat.reduceAdd, Nat.reduceMul, Nat.reduceLT, Nat.reduceLeDiff, Nat.reduceEqDiff, Int.reduceMod, Int.reduceSub, Int.reduceNeg, Int.reduceAdd, Int.reduceMul, Int.reduceLT, Int.reduceLE, Int.reduceEq, put_ss, if_true, if_false, ite_true, ite_false, reduceIte, eq_self, and_true, true_and, and_false, false_and, or_true, true_or, or_false, false_or, not_true_eq_false, not_false_eq_true, k5_68_2, k34_68_2, k5_68_12, k34_68_12, k54_68_12, k54b_68_12_0, k5_68_3, k34_68_3, k54_68_3, k54b_68_3_0, k5_68_4, k34_68_4, k54_68_4, k54b_68_4_0, k5_68_13, k34_68_13, k5_68_14, k34_68_14, k5_68_15, k34_68_15, k34i_68_15, k5_68_1, k5_68_0, k5_83_0, k34_83_0, k54_83_0, k54b_83_0_0, k5_83_5, k34_83_5, k5_83_10, k34_83_10, k5_83_11, k34_83_11, k5_57_15, k34_57_15, k5_57_6, k34_57_6, k54_57_6, k54b_57_6_0, k5_57_8, k34_57_8, k54_57_8, k54b_57_8_0, k5_51_5, k34_51_5, k54_51_5, k54b_51_5_0, put_ss, hin', o51, c1', c3'', mv_2, sw_2, h2', mv_4, sw_4, C_344, o57, sw_57, g6, g8, e5, e10, e11]
  · have h2' : m1 68 2 = 93 := h2
    have e5 : ∀ (ss : xSt) (v : Int), put (mv 93 e ss (sww H1 y1 m1)) 93 5 v = mv 93 e ss (sww H1 y1 (put m1 93 5 v)) := fun ss v => by rw [mpc (Or.inr rfl) (by decide), spc (Or.inr rfl)]
    have e10 : ∀ (ss : xSt) (v : Int) (M : Mem), put (mv 93 e ss (sww H1 y1 M)) 93 10 v = mv 93 e ss (sww H1 y1 (put M 93 10 v)) := fun ss v M => by rw [mpc (Or.inr rfl) (by decide), spc (Or.inr rfl)]
    have e11 : ∀ (ss : xSt) (v : Int) (M : Mem), put (mv 93 e ss (sww H1 y1 M)) 93 11 v = mv 93 e ss (sww H1 y1 (put M 93 11 v)) := fun ss v M => by rw [mpc (Or.inr rfl) (by decide), spc (Or.inr rfl)]
    show Cx F (d + 14) 85 [68, 93] (Hp L xs m) = _
    have hin' : put (put (put (put (put (put (put (put m 68 2 93) 93 0 0) 68 12 0) 68 3 0) 68 4 0) 68 13 (m 57 15)) 68 14 3001) 68 15 0 = mv 93 0 (s85 m) (sww (m 68 5) (y85 m) (m85 93 m)) := hin
    have o51 : mv 93 0 (s85 m) (sww (m 68 5) (y85 m) (m85 93 m)) 51 5 = m 51 5 := by rw [mv_o (Or.inr rfl) (by decide) (by decide)]; exact hl.symm
    have c1' : LF F (d + 13) la_85_0 lb_85_0 lc_85_0 F ([(2, 68), (2, 93), (0, m 51 5)], Hp L xs (mv 93 0 (s85 m) (sww (m 68 5) (y85 m) (m85 93 m)))) = some (0, [], ([(2, 68), (2, 93), (0, left')], Hp L xs (mv 93 e s1 (sww H1 y1 m1)))) := c1
    have c3'' : LF F (d + 13) la_85_1 lb_85_1 lc_85_1 F ([(2, 68), (2, 93), (0, 0)], Hp L xs (mv 93 e s1 (sww H1 y1 m1))) = some (0, [], ([(2, 68), (2, 93), (0, i')], Hp L xs (mv 93 e (s1.1.map (lnk y1.1), s1.2) (sww H1 y1 m1)))) := c3'
    simp (disch := first | omega | assumption) only [c_85, tx_85, ev_0, ev_1, ev_16, ev_17, ev_18, ev_2, ev_3, ev_4, ev_5, ev_6, ev_7, ev_8, ev_9, ev_20, ev_21, ev_22, ev_23, ev_24, ev_25, ev_27, ev_28, ev_30, ev_31, ev_32, ev_33, ev_34, ev_35, ev_36, ev_37, ev_38, ev_39, ev_40, ev_41, ev_42, ev_43, ev_45, ev_46, ev_47, ev_48, ev_49, ev_50, ev_51, ev_52, ev_54, ev_55, ev_57, ev_58, ev_59, k2_0, k2_1, k2_2, k3a, k3b, k4, o1_s, xbin_0, xbin_1, xbin_2, xbin_3, xbin_4, xbin_5, xbin_6, xbin_7, xbin_8, xbin_9, xbin_11, xbin_12, xun_0, xun_1, xun_2, xun_3, xun_4, xun_5, k6a, k8, k8b, k9, k20, k20b_0, k20b_1, k20b_2, k20b_3, k20b_4, k20b_5, k21_0, k21_1, k21_2, k21_3, k21_4, k21_5, k23, k24, k25, k27, k28, k40, nz_1, nz_2, nz_3, k31_0, k31_1, k31_2, k31_3, k32u, k33, k34, k35, k35b, k36, k37, k38, k47, k49, k49b_0, k49b_1, k49b_2, k49b_3, k50_0, k50_s, k51_0, k51_s, k55, k58, k58b, rk_0, rk_1, rk_2, rk_9, rk_3, rk_4, rk_5, sw_n, sw_c, xtb_n, xtb_c, lset_0, lset_2, lset_1, lkm_0, lkm_2, lkm_9, lkm_1, lkm_n, if_some1, c_10, c_01, c_x0, c_1x, c_n0, c_nn, List.getElem?_cons_zero, List.getElem?_cons_succ, List.set_cons_zero, List.set_cons_succ, List.length_cons, List.length_nil, Int.reduceToNat, Nat.reduceDiv, Nat.reduceMod, Nat.reduceSub, Nat.reduceAdd, Nat.reduceMul, Nat.reduceLT, Nat.reduceLeDiff, Nat.reduceEqDiff, Int.reduceMod, Int.reduceSub, Int.reduceNeg, Int.reduceAdd, Int.reduceMul, Int.reduceLT, Int.reduceLE, Int.reduceEq, put_ss, if_true, if_false, ite_true, ite_false, reduceIte, eq_self, and_true, true_and, and_false, false_and, or_true, true_or, or_false, false_or, not_true_eq_false, not_false_eq_true, k5_68_2, k34_68_2, k5_68_12, k34_68_12, k54_68_12, k54b_68_12_0, k5_68_3, k34_68_3, k54_68_3, k54b_68_3_0, k5_68_4, k34_68_4, k54_68_4, k54b_68_4_0, k5_68_13, k34_68_13, k5_68_14, k34_68_14, k5_68_15, k34_68_15, k34i_68_15, k5_68_1, k5_68_0, k5_93_0, k34_93_0, k54_93_0, k54b_93_0_0, k5_93_5, k34_93_5, k5_93_10, k34_93_10, k5_93_11, k34_93_11, k5_57_15, k34_57_15, k5_57_6, k34_57_6, k54_57_6, k54b_57_6_0, k5_57_8, k34_57_8, k54_57_8, k54b_57_8_0, k5_51_5, k34_51_5, k54_51_5, k54b_51_5_0, put_ss, hin', o51, c1', c3'', mv_2, sw_2, h2', mv_4, sw_4, C_344, o57, sw_57, g6, g8, e5, e10, e11]
