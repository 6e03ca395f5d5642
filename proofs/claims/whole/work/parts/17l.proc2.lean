/-! THE MAKER over procs: makeProcedure -/
theorem inv_H {K V : Int → Int} : ∀ {t : xT} {p q : Int}, PH K V t p q → ∃ i pa i2 ra bk, t = nd 47 i pa (nd 48 i2 ra bk) ∧ ∃ r s, ((i = 0 ∧ K p = 41 ∧ r = p) ∨ (i = 1 ∧ K p ≠ 41 ∧ PN K pa p r)) ∧ K r = 41 ∧ ((i2 = 0 ∧ K (r + 1) ≠ 7 ∧ s = r + 1) ∨ (i2 = 1 ∧ K (r + 1) = 7 ∧ PN K ra (r + 2) s)) ∧ P K V bk 8 0 s q
  | .tag k (.nest i (.append pa (.tag k2 (.nest i2 (.append ra bk))))), p, q, h => by
    obtain ⟨h1, h2, r, s, u, h3, h4, h5, h6, h7⟩ := h
    subst h1
    subst h2
    subst h6
    exact ⟨i, pa, i2, ra, bk, rfl, r, _, h3, h4, h5, h7⟩
  | .nil, _, _, h => h.elim
  | .line, _, _, h => h.elim
  | .align _, _, _, h => h.elim
  | .text _, _, _, h => h.elim
  | .append _ _, _, _, h => h.elim
  | .group _ _, _, _, h => h.elim
  | .nest _ _, _, _, h => h.elim
  | .tag _ .nil, _, _, h => h.elim
  | .tag _ .line, _, _, h => h.elim
  | .tag _ (.align _), _, _, h => h.elim
  | .tag _ (.text _), _, _, h => h.elim
  | .tag _ (.append _ _), _, _, h => h.elim
  | .tag _ (.group _ _), _, _, h => h.elim
  | .tag _ (.tag _ _), _, _, h => h.elim
  | .tag _ (.nest _ .nil), _, _, h => h.elim
  | .tag _ (.nest _ .line), _, _, h => h.elim
  | .tag _ (.nest _ (.align _)), _, _, h => h.elim
  | .tag _ (.nest _ (.text _)), _, _, h => h.elim
  | .tag _ (.nest _ (.nest _ _)), _, _, h => h.elim
  | .tag _ (.nest _ (.group _ _)), _, _, h => h.elim
  | .tag _ (.nest _ (.tag _ _)), _, _, h => h.elim
  | .tag _ (.nest _ (.append _ (.nil))), _, _, h => h.elim
  | .tag _ (.nest _ (.append _ (.line))), _, _, h => h.elim
  | .tag _ (.nest _ (.append _ (.align _))), _, _, h => h.elim
  | .tag _ (.nest _ (.append _ (.text _))), _, _, h => h.elim
  | .tag _ (.nest _ (.append _ (.append _ _))), _, _, h => h.elim
  | .tag _ (.nest _ (.append _ (.group _ _))), _, _, h => h.elim
  | .tag _ (.nest _ (.append _ (.nest _ _))), _, _, h => h.elim
  | .tag _ (.nest _ (.append _ (.tag _ .nil))), _, _, h => h.elim
  | .tag _ (.nest _ (.append _ (.tag _ .line))), _, _, h => h.elim
  | .tag _ (.nest _ (.append _ (.tag _ (.align _)))), _, _, h => h.elim
  | .tag _ (.nest _ (.append _ (.tag _ (.text _)))), _, _, h => h.elim
  | .tag _ (.nest _ (.append _ (.tag _ (.append _ _)))), _, _, h => h.elim
  | .tag _ (.nest _ (.append _ (.tag _ (.group _ _)))), _, _, h => h.elim
  | .tag _ (.nest _ (.append _ (.tag _ (.tag _ _)))), _, _, h => h.elim
  | .tag _ (.nest _ (.append _ (.tag _ (.nest _ .nil)))), _, _, h => h.elim
  | .tag _ (.nest _ (.append _ (.tag _ (.nest _ .line)))), _, _, h => h.elim
  | .tag _ (.nest _ (.append _ (.tag _ (.nest _ (.align _))))), _, _, h => h.elim
  | .tag _ (.nest _ (.append _ (.tag _ (.nest _ (.text _))))), _, _, h => h.elim
  | .tag _ (.nest _ (.append _ (.tag _ (.nest _ (.nest _ _))))), _, _, h => h.elim
  | .tag _ (.nest _ (.append _ (.tag _ (.nest _ (.group _ _))))), _, _, h => h.elim
  | .tag _ (.nest _ (.append _ (.tag _ (.nest _ (.tag _ _))))), _, _, h => h.elim
section MakPr
variable {F cd : Nat} {m : Mem} {e : Int}
theorem mv_83c {p H : Int} {s : xSt} {y : yS} : K5 1 0 (some (0, [83], (([] : xL), Hp 0 (fun _ => 0) (mv 83 p s (sww H y m))))) = some (0, [(s.1.length : Int)], (([] : xL), Hp 0 (fun _ => 0) (mv 83 p s (sww H y m)))) := k5_83_0
theorem k5_cd {L : Nat} {xs : Nat → Int32} {Lo : xL} {p : Int} {s : xSt} {X : Mem} (hc : cd = 83 ∨ cd = 93) : K5 1 0 (some (0, [(cd : Int)], (Lo, Hp L xs (mv cd p s X)))) = some (0, [(s.1.length : Int)], (Lo, Hp L xs (mv cd p s X))) := by
  rcases hc with hc' | hc' <;> subst hc'
  · exact k5_83_0
  · exact k5_93_0
theorem C_95 (hc : cd = 83 ∨ cd = 93) (h2 : m 68 2 = (cd : Int)) (hN : m 51 5 ≤ 3001) (h4 : m 57 4 ≤ 1510) (h7 : m 57 7 ≤ 300) (heN : e < m 51 5) (hF : 100000 ≤ F) {a : xT} {p q : Int} (k1 : kd m (p + 1) = 2) (k2 : kd m (p + 2) = 40) (h : PH (kd m) (VF (fun i => m 55 i)) a (p + 3) q) (h0 : 0 ≤ p) (hq : q ≤ e) (L : Nat) (xs : Nat → Int32) (d : Nat) (H : Int) (s : xSt) (y : yS) (hd : 500 ≤ d) (hyl : y.1.length ≤ 3000) : (xPr cd m a s y).2.1.1.length ≤ 3000 ∧ Cx F (d + 12) 95 [68] (Hp L xs (mv cd p s (sww H y m))) = some ([], Hp L xs (mv cd q (xPr cd m a s y).1 (sww (xPr cd m a s y).2.2.1 (xPr cd m a s y).2.1 (xPr cd m a s y).2.2.2))) := by
  obtain ⟨i, pa, i2, ra, bk, rfl, r, u, hP, hr, hR, hbk⟩ := inv_H h
  have lb := P_le bk hbk
  have k123 : kd m u = 123 := by
    obtain ⟨j, b1, b2, rfl, g, -⟩ := inv_8 hbk
    exact g
  have hru : r + 1 ≤ u := by
    rcases hR with ⟨-, -, g⟩ | ⟨-, -, g⟩
    · omega
    · have := PN_n ra g; omega
  have hpr : p + 3 ≤ r := by
    rcases hP with ⟨-, -, g⟩ | ⟨-, -, g⟩
    · omega
    · have := PN_n pa g; omega
  have x2 : p + 2 < m 51 5 := by omega
  have x3 : p + 3 < m 51 5 := by omega
  obtain ⟨n9, hn9⟩ : ∃ n, F = n + 2 := ⟨F - 2, by omega⟩
  have c9 : ∀ s h, LF F (d + 11) la_95_0 lb_95_0 lc_95_0 F (s, h) = LF F (d + 11) la_95_0 lb_95_0 lc_95_0 (n9 + 1 + 1) (s, h) := fun s h => by rw [← hn9]
  have hY0 : YI ((y.1, 0, y.2.2.1, y.2.2.2.1, 0) : yS) := ⟨Int.le_refl 0, by show (0 : Int) ≤ 1510; decide, hyl⟩
  have hcP : YI (p1 m i pa s y).2 ∧ (∀ f, LF F (d + 11) la_95_0 lb_95_0 lc_95_0 F ([(2, 68), (0, f), (9, 0)], Hp L xs (mv cd (p + 2) (s.1, 0, 0, s.2.2.2.1, s.2.2.2.2) (sww H (y.1, 0, y.2.2.1, y.2.2.2.1, 0) m))) = some (0, [], ([(2, 68), (0, f), (9, 0)], Hp L xs (mv cd r (p1 m i pa s y).1 (sww H (p1 m i pa s y).2 m))))) := by
    rcases hP with ⟨hi, g1, g2⟩ | ⟨hi, g1, g2⟩
    · subst hi
      subst g2
      refine ⟨hY0, fun f => ?_⟩
      show _ = some (0, [], ([(2, 68), (0, f), (9, 0)], Hp L xs (mv cd (p + 3) (s.1, 0, 0, s.2.2.2.1, s.2.2.2.2) (sww H (y.1, 0, y.2.2.1, y.2.2.2.1, 0) m))))
      simp (disch := first | omega | assumption) only [c9, lf_s, ea_95_0, eb_95_0, ec_95_0, l1_i, l1_1, l1_0, l2_0, l2_1, l2_2, l2_3, l3_0, w2_0, w2_1, w2_2, w2_3, d1_0, d1_1, d1_2, d1_3, d2_i, d2_1, d2_0, ev_0, ev_1, ev_16, ev_17, ev_18, ev_2, ev_3, ev_4, ev_5, ev_6, ev_7, ev_8, ev_9, ev_20, ev_21, ev_22, ev_23, ev_24, ev_25, ev_27, ev_28, ev_30, ev_31, ev_32, ev_33, ev_34, ev_35, ev_36, ev_37, ev_38, ev_39, ev_40, ev_41, ev_42, ev_43, ev_45, ev_46, ev_47, ev_48, ev_49, ev_50, ev_51, ev_52, ev_54, ev_55, ev_57, ev_58, ev_59, k2_0, k2_1, k2_2, k3a, k3b, k4, o1_s, xbin_0, xbin_1, xbin_2, xbin_3, xbin_4, xbin_5, xbin_6, xbin_7, xbin_8, xbin_9, xbin_11, xbin_12, xun_0, xun_1, xun_2, xun_3, xun_4, xun_5, k6a, k8, k8b, k9, k20, k20b_0, k20b_1, k20b_2, k20b_3, k20b_4, k20b_5, k21_0, k21_1, k21_2, k21_3, k21_4, k21_5, k23, k24, k25, k27, k28, k40, nz_1, nz_2, nz_3, k31_0, k31_1, k31_2, k31_3, k32u, k33, k34, k35, k35b, k36, k37, k38, k47, k49, k49b_0, k49b_1, k49b_2, k49b_3, k50_0, k50_s, k51_0, k51_s, k55, k58, k58b, rk_0, rk_1, rk_2, rk_9, rk_3, rk_4, rk_5, sw_n, sw_c, xtb_n, xtb_c, lset_0, lset_2, lset_1, lkm_0, lkm_2, lkm_9, lkm_1, lkm_n, if_some1, c_10, c_01, c_x0, c_1x, c_n0, c_nn, List.getElem?_cons_zero, List.getElem?_cons_succ, List.set_cons_zero, List.set_cons_succ, List.length_cons, List.length_nil, Int.reduceToNat, Nat.reduceDiv, Nat.reduceMod, Nat.reduceSub, Nat.reduceAdd, Nat.reduceMul, Nat.reduceLT, Nat.reduceLeDiff, Nat.reduceEqDiff, Int.reduceMod, Int.reduceSub, Int.reduceNeg, Int.reduceAdd, Int.reduceMul, Int.reduceLT, Int.reduceLE, Int.reduceEq, put_ss, if_true, if_false, ite_true, ite_false, reduceIte, eq_self, and_true, true_and, and_false, false_and, or_true, true_or, or_false, false_or, not_true_eq_false, not_false_eq_true, k5_68_3, k34_68_3, k54_68_3, k54b_68_3_0, k5_68_0, k5_68_1, k5_68_5, k34_68_5, k5_68_7, k34_68_7, k54_68_7, k54b_68_7_0, k54b_68_7_1, k5_68_8, k34_68_8, k5_68_9, k34_68_9, k54_68_9, k54b_68_9_0, k54b_68_9_1, k5_68_10, k34_68_10, k5_68_4, k34_68_4, k54_68_4, k54b_68_4_0, k5_68_15, k34_68_15, k34i_68_15, k5_68_2, k34_68_2, k5_51_5, k34_51_5, k54_51_5, k54b_51_5_0, s_86, s_90, C_87, mv_p, mv_h, sw_5, mv_4, sw_4, mp_p, s_51, mm_5, sp_5, mm_7, sp_7, mm_8, sp_8, mp_u, mp_x, mv_7, sw_7, mv_8, sw_8, mm_15, ss_15, mm_4, ss_4, mv_x, x2, x3, k2, g1, w32_of, ad3]
    · subst hi
      have hh := fun f => L_95 hc h2 hN h4 h7 heN hF (tsz pa + 1) pa (by omega) (p + 3) r g2 hr (by omega) (by omega) L xs (d + 1) H (s.1, 0, 0, s.2.2.2.1, s.2.2.2.2) (y.1, 0, y.2.2.1, y.2.2.2.1, 0) f (n9 + 1) hY0 (by omega)
      refine ⟨(hh 0).1, fun f => ?_⟩
      have c1 : LF F (d + 11) la_95_0 lb_95_0 lc_95_0 (n9 + 1) ([(2, 68), (0, f), (9, 0)], Hp L xs (mv cd (p + 3) (s.1, 0, 0, s.2.2.2.1, s.2.2.2.2) (sww H (y.1, 0, y.2.2.1, y.2.2.2.1, 0) m))) = some (0, [], ([(2, 68), (0, f), (9, 0)], Hp L xs (mv cd r (p1 m 1 pa s y).1 (sww H (p1 m 1 pa s y).2 m)))) := (hh f).2.2
      simp (disch := first | omega | assumption) only [c9, lf_s (n := n9 + 1), ea_95_0, eb_95_0, ec_95_0, l1_i, l1_1, l1_0, l2_0, l2_1, l2_2, l2_3, l3_0, w2_0, w2_1, w2_2, w2_3, d1_0, d1_1, d1_2, d1_3, d2_i, d2_1, d2_0, ev_0, ev_1, ev_16, ev_17, ev_18, ev_2, ev_3, ev_4, ev_5, ev_6, ev_7, ev_8, ev_9, ev_20, ev_21, ev_22, ev_23, ev_24, ev_25, ev_27, ev_28, ev_30, ev_31, ev_32, ev_33, ev_34, ev_35, ev_36, ev_37, ev_38, ev_39, ev_40, ev_41, ev_42, ev_43, ev_45, ev_46, ev_47, ev_48, ev_49, ev_50, ev_51, ev_52, ev_54, ev_55, ev_57, ev_58, ev_59, k2_0, k2_1, k2_2, k3a, k3b, k4, o1_s, xbin_0, xbin_1, xbin_2, xbin_3, xbin_4, xbin_5, xbin_6, xbin_7, xbin_8, xbin_9, xbin_11, xbin_12, xun_0, xun_1, xun_2, xun_3, xun_4, xun_5, k6a, k8, k8b, k9, k20, k20b_0, k20b_1, k20b_2, k20b_3, k20b_4, k20b_5, k21_0, k21_1, k21_2, k21_3, k21_4, k21_5, k23, k24, k25, k27, k28, k40, nz_1, nz_2, nz_3, k31_0, k31_1, k31_2, k31_3, k32u, k33, k34, k35, k35b, k36, k37, k38, k47, k49, k49b_0, k49b_1, k49b_2, k49b_3, k50_0, k50_s, k51_0, k51_s, k55, k58, k58b, rk_0, rk_1, rk_2, rk_9, rk_3, rk_4, rk_5, sw_n, sw_c, xtb_n, xtb_c, lset_0, lset_2, lset_1, lkm_0, lkm_2, lkm_9, lkm_1, lkm_n, if_some1, c_10, c_01, c_x0, c_1x, c_n0, c_nn, List.getElem?_cons_zero, List.getElem?_cons_succ, List.set_cons_zero, List.set_cons_succ, List.length_cons, List.length_nil, Int.reduceToNat, Nat.reduceDiv, Nat.reduceMod, Nat.reduceSub, Nat.reduceAdd, Nat.reduceMul, Nat.reduceLT, Nat.reduceLeDiff, Nat.reduceEqDiff, Int.reduceMod, Int.reduceSub, Int.reduceNeg, Int.reduceAdd, Int.reduceMul, Int.reduceLT, Int.reduceLE, Int.reduceEq, put_ss, if_true, if_false, ite_true, ite_false, reduceIte, eq_self, and_true, true_and, and_false, false_and, or_true, true_or, or_false, false_or, not_true_eq_false, not_false_eq_true, k5_68_3, k34_68_3, k54_68_3, k54b_68_3_0, k5_68_0, k5_68_1, k5_68_5, k34_68_5, k5_68_7, k34_68_7, k54_68_7, k54b_68_7_0, k54b_68_7_1, k5_68_8, k34_68_8, k5_68_9, k34_68_9, k54_68_9, k54b_68_9_0, k54b_68_9_1, k5_68_10, k34_68_10, k5_68_4, k34_68_4, k54_68_4, k54b_68_4_0, k5_68_15, k34_68_15, k34i_68_15, k5_68_2, k34_68_2, k5_51_5, k34_51_5, k54_51_5, k54b_51_5_0, s_86, s_90, C_87, mv_p, mv_h, sw_5, mv_4, sw_4, mp_p, s_51, mm_5, sp_5, mm_7, sp_7, mm_8, sp_8, mp_u, mp_x, mv_7, sw_7, mv_8, sw_8, mm_15, ss_15, mm_4, ss_4, mv_x, x2, x3, k2, c1, w32_of, ad3]
  obtain ⟨hY1, cP⟩ := hcP
  have e1 : xPr cd m (nd 47 i pa (nd 48 i2 ra bk)) s y = ((p6 m (nln (p1 m i pa s y).2) (p5 m bk (p2 m i2 ra (p1 m i pa s y).1) (p1 m i pa s y).2)).1, p7 m (p6 m (nln (p1 m i pa s y).2) (p5 m bk (p2 m i2 ra (p1 m i pa s y).1) (p1 m i pa s y).2)).2, nln (p1 m i pa s y).2, p8 cd (p1 m i pa s y).2.2.1 (s.1.length : Int) (p7 m (p6 m (nln (p1 m i pa s y).2) (p5 m bk (p2 m i2 ra (p1 m i pa s y).1) (p1 m i pa s y).2)).2).2.2.2.2 (p6 m (nln (p1 m i pa s y).2) (p5 m bk (p2 m i2 ra (p1 m i pa s y).1) (p1 m i pa s y).2)).1.2.2.1 m) := rfl
  rw [e1]
  generalize hz1 : p1 m i pa s y = z1 at *
  obtain ⟨s1, y1⟩ := z1
  simp only at hY1 cP ⊢
  have cR : Cx F (d + 11) 97 [68] (Hp L xs (mv cd (r + 1) s1 (sww H y1 m))) = some ([], Hp L xs (mv cd u (p2 m i2 ra s1) (sww H y1 m))) := by
    rcases hR with ⟨hi, g1, g2⟩ | ⟨hi, g1, g2⟩
    · subst hi
      subst g2
      exact C_97n hc h2 hN h4 h7 heN hF k123 (by omega) (by omega)
    · subst hi
      have hf : frt ra = r + 1 + 1 := by
        rcases inv_N g2 with ⟨a1, b1, rfl, -⟩ | ⟨a1, b1, rfl, -⟩
        · show r + 2 = r + 1 + 1; omega
        · show r + 2 = r + 1 + 1; omega
      show _ = some ([], Hp L xs (mv cd u (rsF m (frt ra) ra 0 s1) (sww H y1 m)))
      rw [hf]
      exact C_97y hc h2 hN h4 h7 heN hF g1 (by rw [show r + 1 + 1 = r + 2 by omega]; exact g2) k123 (by omega) (by omega)
  generalize hz2 : p2 m i2 ra s1 = s2 at *
  obtain ⟨k5, k6, c5⟩ := (MakB_ok hc h2 hN h4 h7 heN hF (tsz bk + 1) bk (by omega)).1 0 u q hbk (by omega) (by omega) (by omega) hq L xs (d + 1) (em 0 (m 68 4) (-1) s2) (nlb y1) (nln y1) (by omega) (YI_nlb hY1)
  have e5 : stS m bk (nln y1) 0 0 (em 0 (m 68 4) (-1) s2, nlb y1) = p5 m bk s2 y1 := rfl
  rw [e5] at k5 k6 c5
  generalize hz5 : p5 m bk s2 y1 = z5 at *
  obtain ⟨s5, y5⟩ := z5
  simp only at k5 k6 c5
  have c5' : Cx F (d + 11) 98 [68, 0] (Hp L xs (mv cd u (em 0 (m 68 4) (-1) s2) (sww (nln y1) (nlb y1) m))) = some ([], Hp L xs (mv cd q s5 (sww (nln y1) y5 m))) := c5
  have c6 := fun (D : Nat) => C_88 (L := L) (xs := xs) (F := F) (d := D) (p := q) (H := nln y1) (m := m) (a1 := nln y1) (s := em 22 (m 68 4) (-1) (em 1 0 (-1) s5)) (y := y5) hc h2 k5.2.2
  have e6 : p6 m (nln y1) (s5, y5) = (em 26 (m 68 4) (-1) (em 22 (m 68 4) (-1) (em 1 0 (-1) s5)), slb (nln y1) ((em 22 (m 68 4) (-1) (em 1 0 (-1) s5)).1.length : Int) y5) := rfl
  rw [e6]
  have hY6 : YI (slb (nln y1) ((em 22 (m 68 4) (-1) (em 1 0 (-1) s5)).1.length : Int) y5) := YI_slb k5
  generalize hz6 : slb (nln y1) ((em 22 (m 68 4) (-1) (em 1 0 (-1) s5)).1.length : Int) y5 = y6 at *
  simp only
  generalize hs7 : em 26 (m 68 4) (-1) (em 22 (m 68 4) (-1) (em 1 0 (-1) s5)) = s7 at *
  have c7 := C_93 (L := L) (xs := xs) (F := F) (d := d + 9) (p := q) (s := s7) (y := y6) (H := nln y1) (m := m) (a1 := 0) hc h4 hF (Int.le_refl 0) hY6.1 hY6.2.1
  have e7 : fgN m (y6.2.1 - 0).toNat y6 = p7 m y6 := by rw [Int.sub_zero]; rfl
  rw [e7] at c7
  have h7l : (p7 m y6).1.length ≤ 3000 := by
    have := (fgN_n (m := m) y6.2.1.toNat y6).1
    show (fgN m y6.2.1.toNat y6).1.length ≤ 3000
    rw [this]
    exact hY6.2.2
  refine ⟨h7l, ?_⟩
  generalize hz7 : p7 m y6 = y7 at *
  unfold p8
  have hcd : mv cd p s (sww H y m) 68 2 = (cd : Int) := h2
  by_cases hlg : 16 < w32 (y7.2.2.2.2 - y1.2.1)
  · have c8 := fun (D : Nat) => C_96 (L := L) (xs := xs) (F := F) (d := D) (p := q) (s := s7) (y := y7) (H := nln y1) (m := put m 68 15 1) (told := y1.2.1) (first := (s.1.length : Int)) hc h2
    have k4 : kpP cd y1.2.1 (s.1.length : Int) y7.2.2.2.2 s7.2.2.1 (put m 68 15 1) 68 4 = m 68 4 := kp4 hc
    rw [if_pos hlg]
    simp (disch := first | omega | assumption) only [c_95, tx_95, ev_0, ev_1, ev_16, ev_17, ev_18, ev_2, ev_3, ev_4, ev_5, ev_6, ev_7, ev_8, ev_9, ev_20, ev_21, ev_22, ev_23, ev_24, ev_25, ev_27, ev_28, ev_30, ev_31, ev_32, ev_33, ev_34, ev_35, ev_36, ev_37, ev_38, ev_39, ev_40, ev_41, ev_42, ev_43, ev_45, ev_46, ev_47, ev_48, ev_49, ev_50, ev_51, ev_52, ev_54, ev_55, ev_57, ev_58, ev_59, k2_0, k2_1, k2_2, k3a, k3b, k4, o1_s, xbin_0, xbin_1, xbin_2, xbin_3, xbin_4, xbin_5, xbin_6, xbin_7, xbin_8, xbin_9, xbin_11, xbin_12, xun_0, xun_1, xun_2, xun_3, xun_4, xun_5, k6a, k8, k8b, k9, k20, k20b_0, k20b_1, k20b_2, k20b_3, k20b_4, k20b_5, k21_0, k21_1, k21_2, k21_3, k21_4, k21_5, k23, k24, k25, k27, k28, k40, nz_1, nz_2, nz_3, k31_0, k31_1, k31_2, k31_3, k32u, k33, k34, k35, k35b, k36, k37, k38, k47, k49, k49b_0, k49b_1, k49b_2, k49b_3, k50_0, k50_s, k51_0, k51_s, k55, k58, k58b, rk_0, rk_1, rk_2, rk_9, rk_3, rk_4, rk_5, sw_n, sw_c, xtb_n, xtb_c, lset_0, lset_2, lset_1, lkm_0, lkm_2, lkm_9, lkm_1, lkm_n, if_some1, c_10, c_01, c_x0, c_1x, c_n0, c_nn, List.getElem?_cons_zero, List.getElem?_cons_succ, List.set_cons_zero, List.set_cons_succ, List.length_cons, List.length_nil, Int.reduceToNat, Nat.reduceDiv, Nat.reduceMod, Nat.reduceSub, Nat.reduceAdd, Nat.reduceMul, Nat.reduceLT, Nat.reduceLeDiff, Nat.reduceEqDiff, Int.reduceMod, Int.reduceSub, Int.reduceNeg, Int.reduceAdd, Int.reduceMul, Int.reduceLT, Int.reduceLE, Int.reduceEq, put_ss, if_true, if_false, ite_true, ite_false, reduceIte, eq_self, and_true, true_and, and_false, false_and, or_true, true_or, or_false, false_or, not_true_eq_false, not_false_eq_true, k5_68_3, k34_68_3, k54_68_3, k54b_68_3_0, k5_68_0, k5_68_1, k5_68_5, k34_68_5, k5_68_7, k34_68_7, k54_68_7, k54b_68_7_0, k54b_68_7_1, k5_68_8, k34_68_8, k5_68_9, k34_68_9, k54_68_9, k54b_68_9_0, k54b_68_9_1, k5_68_10, k34_68_10, k5_68_4, k34_68_4, k54_68_4, k54b_68_4_0, k5_68_15, k34_68_15, k34i_68_15, k5_68_2, k34_68_2, k5_51_5, k34_51_5, k54_51_5, k54b_51_5_0, s_86, s_90, C_87, mv_p, mv_h, sw_5, mv_4, sw_4, mp_p, s_51, mm_5, sp_5, mm_7, sp_7, mm_8, sp_8, mp_u, mp_x, mv_7, sw_7, mv_8, sw_8, mm_15, ss_15, mm_4, ss_4, mv_x, mv_2, sw_2, h2, k5_cd, cP, cR, c5', c6, hz6, hs7, c7, hlg, c8, k4, w32_of (x := p + 2), w32_of (x := r + 1)]
  · have c8 := fun (D : Nat) => C_96 (L := L) (xs := xs) (F := F) (d := D) (p := q) (s := s7) (y := y7) (H := nln y1) (m := m) (told := y1.2.1) (first := (s.1.length : Int)) hc h2
    have k4 : kpP cd y1.2.1 (s.1.length : Int) y7.2.2.2.2 s7.2.2.1 m 68 4 = m 68 4 := kp4 hc
    rw [if_neg hlg]
    simp (disch := first | omega | assumption) only [c_95, tx_95, ev_0, ev_1, ev_16, ev_17, ev_18, ev_2, ev_3, ev_4, ev_5, ev_6, ev_7, ev_8, ev_9, ev_20, ev_21, ev_22, ev_23, ev_24, ev_25, ev_27, ev_28, ev_30, ev_31, ev_32, ev_33, ev_34, ev_35, ev_36, ev_37, ev_38, ev_39, ev_40, ev_41, ev_42, ev_43, ev_45, ev_46, ev_47, ev_48, ev_49, ev_50, ev_51, ev_52, ev_54, ev_55, ev_57, ev_58, ev_59, k2_0, k2_1, k2_2, k3a, k3b, k4, o1_s, xbin_0, xbin_1, xbin_2, xbin_3, xbin_4, xbin_5, xbin_6, xbin_7, xbin_8, xbin_9, xbin_11, xbin_12, xun_0, xun_1, xun_2, xun_3, xun_4, xun_5, k6a, k8, k8b, k9, k20, k20b_0, k20b_1, k20b_2, k20b_3, k20b_4, k20b_5, k21_0, k21_1, k21_2, k21_3, k21_4, k21_5, k23, k24, k25, k27, k28, k40, nz_1, nz_2, nz_3, k31_0, k31_1, k31_2, k31_3, k32u, k33, k34, k35, k35b, k36, k37, k38, k47, k49, k49b_0, k49b_1, k49b_2, k49b_3, k50_0, k50_s, k51_0, k51_s, k55, k58, k58b, rk_0, rk_1, rk_2, rk_9, rk_3, rk_4, rk_5, sw_n, sw_c, xtb_n, xtb_c, lset_0, lset_2, lset_1, lkm_0, lkm_2, lkm_9, lkm_1, lkm_n, if_some1, c_10, c_01, c_x0, c_1x, c_n0, c_nn, List.getElem?_cons_zero, List.getElem?_cons_succ, List.set_cons_zero, List.set_cons_succ, List.length_cons, List.length_nil, Int.reduceToNat, Nat.reduceDiv, Nat.reduceMod, Nat.reduceSub, Nat.reduceAdd, Nat.reduceMul, Nat.reduceLT, Nat.reduceLeDiff, Nat.reduceEqDiff, Int.reduceMod, Int.reduceSub, Int.reduceNeg, Int.reduceAdd, Int.reduceMul, Int.reduceLT, Int.reduceLE, Int.reduceEq, put_ss, if_true, if_false, ite_true, ite_false, reduceIte, eq_self, and_true, true_and, and_false, false_and, or_true, true_or, or_false, false_or, not_true_eq_false, not_false_eq_true, k5_68_3, k34_68_3, k54_68_3, k54b_68_3_0, k5_68_0, k5_68_1, k5_68_5, k34_68_5, k5_68_7, k34_68_7, k54_68_7, k54b_68_7_0, k54b_68_7_1, k5_68_8, k34_68_8, k5_68_9, k34_68_9, k54_68_9, k54b_68_9_0, k54b_68_9_1, k5_68_10, k34_68_10, k5_68_4, k34_68_4, k54_68_4, k54b_68_4_0, k5_68_15, k34_68_15, k34i_68_15, k5_68_2, k34_68_2, k5_51_5, k34_51_5, k54_51_5, k54b_51_5_0, s_86, s_90, C_87, mv_p, mv_h, sw_5, mv_4, sw_4, mp_p, s_51, mm_5, sp_5, mm_7, sp_7, mm_8, sp_8, mp_u, mp_x, mv_7, sw_7, mv_8, sw_8, mm_15, ss_15, mm_4, ss_4, mv_x, mv_2, sw_2, h2, k5_cd, cP, cR, c5', c6, hz6, hs7, c7, hlg, c8, k4, w32_of (x := p + 2), w32_of (x := r + 1)]
end MakPr
