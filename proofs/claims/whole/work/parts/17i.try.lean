/-! THE MAKER over statements: try -/
section MakT2
variable {F cd : Nat} {m : Mem} {e : Int}
/-- whens ahead, from u to w: l their names' tokens -/
def Ch (m : Mem) : List Int → Int → Int → Prop
  | [], u, w => u = w
  | x :: l, u, w => x = u + 1 ∧ u < w ∧ kd m (u + 2) = 123 ∧ 0 ≤ m 55 (u + 2).toNat ∧ m 55 (u + 2).toNat ≤ 3000 ∧ u < m 55 (u + 2).toNat + 1 ∧ Ch m l (m 55 (u + 2).toNat + 1) w
theorem Ch_le {m : Mem} : ∀ (l : List Int) (u w : Int), Ch m l u w → u ≤ w
  | [], u, w, h => by have h' : u = w := h; omega
  | x :: l, u, w, h => by
    obtain ⟨h1, h2, -⟩ := h
    omega
theorem Ch_app {m : Mem} : ∀ (l : List Int) (u w : Int), Ch m l u w → kd m (w + 2) = 123 → 0 ≤ m 55 (w + 2).toNat → m 55 (w + 2).toNat ≤ 3000 → w < m 55 (w + 2).toNat + 1 → Ch m (l ++ [w + 1]) u (m 55 (w + 2).toNat + 1)
  | [], u, w, h, h1, h2, h3, h4 => by
    have h' : u = w := h
    subst h'
    exact ⟨rfl, h4, h1, h2, h3, h4, rfl⟩
  | x :: l, u, w, h, h1, h2, h3, h4 => by
    obtain ⟨g1, g2, g3, g4, g5, g6, g7⟩ := h
    exact ⟨g1, by omega, g3, g4, g5, g6, Ch_app l _ w g7 h1 h2 h3 h4⟩
theorem s_132 {L : Nat} {xs : Nat → Int32} {d : Nat} {p H a1 : Int} {s : xSt} {y : yS} (hc : cd = 83 ∨ cd = 93) (hN : m 51 5 ≤ 3001) (h0 : 0 ≤ a1) (h1 : a1 < m 51 5) (hk : kd m a1 = 123) (hv : 0 ≤ m 55 a1.toNat ∧ m 55 a1.toNat ≤ 3001) : Cx F (d + 2) 132 [51, a1] (Hp L xs (mv cd p s (sww H y m))) = some ([m 55 a1.toNat + 1], Hp L xs (mv cd p s (sww H y m))) := by
  have hk' : m 53 a1.toNat = 123 := by
    have := hk
    unfold kd at this
    rwa [if_neg (by omega)] at this
  have e1 : ∀ k, mv cd p s (sww H y m) 55 k = m 55 k := fun k => mv_o hc (by decide) (by decide)
  have e2 : ∀ k, mv cd p s (sww H y m) 53 k = m 53 k := fun k => mv_o hc (by decide) (by decide)
  have c := C_132 (L := L) (xs := xs) (F := F) (d := d) (a1 := a1) (m := mv cd p s (sww H y m)) (by rw [s_51 hc]; exact hN) h0 (by rw [s_51 hc]; exact h1) (by rw [e2]; exact hk') (by rw [e1]; exact hv)
  rw [e1] at c
  exact c
theorem L_104_1 (hc : cd = 83 ∨ cd = 93) (h2 : m 68 2 = (cd : Int)) (hN : m 51 5 ≤ 3001) (h4 : m 57 4 ≤ 1510) (h7 : m 57 7 ≤ 300) (heN : e < m 51 5) (hF : 100000 ≤ F) : ∀ (l : List Int) (L : Nat) (xs : Nat → Int32) (d : Nat) (p H : Int) (s : xSt) (y : yS) (u w left x : Int) (n : Nat), Ch m l u w → 0 ≤ u → w + 1 < m 51 5 → w < left + u → left ≤ 3001 → w - u < n → ∃ u' left', LF F (d + 10) la_104_1 lb_104_1 lc_104_1 n ([(2, 68), (0, w), (0, x), (0, u), (0, left)], Hp L xs (mv cd p s (sww H y m))) = some (0, [], ([(2, 68), (0, w), (0, x), (0, u'), (0, left')], Hp L xs (mv cd p (dupB m (w + 1) l s) (sww H y m)))) := by
  intro l
  induction l with
  | nil =>
    intro L xs d p H s y u w left x n h h0 hw hl1 hl2 hn
    have hle0 := Ch_le _ u w h
    obtain ⟨n, rfl⟩ : ∃ n', n = n' + 1 := ⟨n - 1, by omega⟩
    have h' : u = w := h
    have hx : ¬ u < w := by omega
    refine ⟨u, left, ?_⟩
    rw [lf_s]
    simp (disch := first | omega | assumption) only [ea_104_1, eb_104_1, ec_104_1, l1_i, l1_1, l1_0, l2_0, l2_1, l2_2, l2_3, l3_0, w2_0, w2_1, w2_2, w2_3, d1_0, d1_1, d1_2, d1_3, d2_i, d2_1, d2_0, ev_0, ev_1, ev_16, ev_17, ev_18, ev_2, ev_3, ev_4, ev_5, ev_6, ev_7, ev_8, ev_9, ev_20, ev_21, ev_22, ev_23, ev_24, ev_25, ev_27, ev_28, ev_30, ev_31, ev_32, ev_33, ev_34, ev_35, ev_36, ev_37, ev_38, ev_39, ev_40, ev_41, ev_42, ev_43, ev_45, ev_46, ev_47, ev_48, ev_49, ev_50, ev_51, ev_52, ev_54, ev_55, ev_57, ev_58, ev_59, k2_0, k2_1, k2_2, k3a, k3b, k4, o1_s, xbin_0, xbin_1, xbin_2, xbin_3, xbin_4, xbin_5, xbin_6, xbin_7, xbin_8, xbin_9, xbin_11, xbin_12, xun_0, xun_1, xun_2, xun_3, xun_4, xun_5, k6a, k8, k8b, k9, k20, k20b_0, k20b_1, k20b_2, k20b_3, k20b_4, k20b_5, k21_0, k21_1, k21_2, k21_3, k21_4, k21_5, k23, k24, k25, k27, k28, k40, nz_1, nz_2, nz_3, k31_0, k31_1, k31_2, k31_3, k32u, k33, k34, k35, k35b, k36, k37, k38, k47, k49, k49b_0, k49b_1, k49b_2, k49b_3, k50_0, k50_s, k51_0, k51_s, k55, k58, k58b, rk_0, rk_1, rk_2, rk_9, rk_3, rk_4, rk_5, sw_n, sw_c, xtb_n, xtb_c, lset_0, lset_2, lset_1, lkm_0, lkm_2, lkm_9, lkm_1, lkm_n, if_some1, c_10, c_01, c_x0, c_1x, c_n0, c_nn, List.getElem?_cons_zero, List.getElem?_cons_succ, List.set_cons_zero, List.set_cons_succ, List.length_cons, List.length_nil, Int.reduceToNat, Nat.reduceDiv, Nat.reduceMod, Nat.reduceSub, Nat.reduceAdd, Nat.reduceMul, Nat.reduceLT, Nat.reduceLeDiff, Nat.reduceEqDiff, Int.reduceMod, Int.reduceSub, Int.reduceNeg, Int.reduceAdd, Int.reduceMul, Int.reduceLT, Int.reduceLE, Int.reduceEq, put_ss, if_true, if_false, ite_true, ite_false, reduceIte, eq_self, and_true, true_and, and_false, false_and, or_true, true_or, or_false, false_or, not_true_eq_false, not_false_eq_true, k5_68_3, k34_68_3, k54_68_3, k54b_68_3_0, k5_68_0, k5_68_1, k5_68_5, k34_68_5, k5_68_7, k34_68_7, k54_68_7, k54b_68_7_0, k54b_68_7_1, k5_68_4, k34_68_4, k54_68_4, k54b_68_4_0, k5_68_12, k34_68_12, k54_68_12, k54b_68_12_0, k5_51_5, k34_51_5, k54_51_5, k54b_51_5_0, s_86, s_90, s_94, s_130, s_128, s_91, C_87, mv_p, mv_h, sw_5, mv_4, sw_4, mv_12, sw_12, mp_p, s_51, w32_of, ad2, ad3, mm_5, sp_5, hx, dupB, ite_self]
  | cons j l ih =>
    intro L xs d p H s y u w left x n h h0 hw hl1 hl2 hn
    have hle0 := Ch_le _ u w h
    obtain ⟨n, rfl⟩ : ∃ n', n = n' + 1 := ⟨n - 1, by omega⟩
    obtain ⟨g1, g2, g3, g4, g5, g6, g7⟩ := h
    have hleft : 0 < left := by omega
    have e1 : left + -1 = left - 1 := by omega
    have hle := Ch_le l _ _ g7
    subst g1
    have c4 := fun (D : Nat) (ss : xSt) => s_132 (L := L) (xs := xs) (F := F) (d := D) (p := p) (H := H) (s := ss) (y := y) (m := m) (a1 := u + 2) hc hN (by omega) (by omega) g3 (by omega)
    by_cases hd : idT m (u + 1) = idT m (w + 1)
    · obtain ⟨u', left', c5⟩ := ih L xs d p H (bl m (w + 1) s) y (m 55 (u + 2).toNat + 1) w (left - 1) x n g7 (by omega) hw (by omega) (by omega) (by omega)
      refine ⟨u', left', ?_⟩
      rw [lf_s]
      have e2 : dupB m (w + 1) ((u + 1) :: l) s = dupB m (w + 1) l (bl m (w + 1) s) := by
        show dupB m (w + 1) l (if idT m (u + 1) = idT m (w + 1) then bl m (w + 1) s else s) = _
        rw [if_pos hd]
      rw [e2]
      simp (disch := first | omega | assumption) only [ea_104_1, eb_104_1, ec_104_1, l1_i, l1_1, l1_0, l2_0, l2_1, l2_2, l2_3, l3_0, w2_0, w2_1, w2_2, w2_3, d1_0, d1_1, d1_2, d1_3, d2_i, d2_1, d2_0, ev_0, ev_1, ev_16, ev_17, ev_18, ev_2, ev_3, ev_4, ev_5, ev_6, ev_7, ev_8, ev_9, ev_20, ev_21, ev_22, ev_23, ev_24, ev_25, ev_27, ev_28, ev_30, ev_31, ev_32, ev_33, ev_34, ev_35, ev_36, ev_37, ev_38, ev_39, ev_40, ev_41, ev_42, ev_43, ev_45, ev_46, ev_47, ev_48, ev_49, ev_50, ev_51, ev_52, ev_54, ev_55, ev_57, ev_58, ev_59, k2_0, k2_1, k2_2, k3a, k3b, k4, o1_s, xbin_0, xbin_1, xbin_2, xbin_3, xbin_4, xbin_5, xbin_6, xbin_7, xbin_8, xbin_9, xbin_11, xbin_12, xun_0, xun_1, xun_2, xun_3, xun_4, xun_5, k6a, k8, k8b, k9, k20, k20b_0, k20b_1, k20b_2, k20b_3, k20b_4, k20b_5, k21_0, k21_1, k21_2, k21_3, k21_4, k21_5, k23, k24, k25, k27, k28, k40, nz_1, nz_2, nz_3, k31_0, k31_1, k31_2, k31_3, k32u, k33, k34, k35, k35b, k36, k37, k38, k47, k49, k49b_0, k49b_1, k49b_2, k49b_3, k50_0, k50_s, k51_0, k51_s, k55, k58, k58b, rk_0, rk_1, rk_2, rk_9, rk_3, rk_4, rk_5, sw_n, sw_c, xtb_n, xtb_c, lset_0, lset_2, lset_1, lkm_0, lkm_2, lkm_9, lkm_1, lkm_n, if_some1, c_10, c_01, c_x0, c_1x, c_n0, c_nn, List.getElem?_cons_zero, List.getElem?_cons_succ, List.set_cons_zero, List.set_cons_succ, List.length_cons, List.length_nil, Int.reduceToNat, Nat.reduceDiv, Nat.reduceMod, Nat.reduceSub, Nat.reduceAdd, Nat.reduceMul, Nat.reduceLT, Nat.reduceLeDiff, Nat.reduceEqDiff, Int.reduceMod, Int.reduceSub, Int.reduceNeg, Int.reduceAdd, Int.reduceMul, Int.reduceLT, Int.reduceLE, Int.reduceEq, put_ss, if_true, if_false, ite_true, ite_false, reduceIte, eq_self, and_true, true_and, and_false, false_and, or_true, true_or, or_false, false_or, not_true_eq_false, not_false_eq_true, k5_68_3, k34_68_3, k54_68_3, k54b_68_3_0, k5_68_0, k5_68_1, k5_68_5, k34_68_5, k5_68_7, k34_68_7, k54_68_7, k54b_68_7_0, k54b_68_7_1, k5_68_4, k34_68_4, k54_68_4, k54b_68_4_0, k5_68_12, k34_68_12, k54_68_12, k54b_68_12_0, k5_51_5, k34_51_5, k54_51_5, k54b_51_5_0, s_86, s_90, s_94, s_130, s_128, s_91, C_87, mv_p, mv_h, sw_5, mv_4, sw_4, mv_12, sw_12, mp_p, s_51, w32_of, ad2, ad3, mm_5, sp_5, hleft, g2, hd, c4, c5, e1]
    · obtain ⟨u', left', c5⟩ := ih L xs d p H s y (m 55 (u + 2).toNat + 1) w (left - 1) x n g7 (by omega) hw (by omega) (by omega) (by omega)
      refine ⟨u', left', ?_⟩
      rw [lf_s]
      have e2 : dupB m (w + 1) ((u + 1) :: l) s = dupB m (w + 1) l s := by
        show dupB m (w + 1) l (if idT m (u + 1) = idT m (w + 1) then bl m (w + 1) s else s) = _
        rw [if_neg hd]
      rw [e2]
      simp (disch := first | omega | assumption) only [ea_104_1, eb_104_1, ec_104_1, l1_i, l1_1, l1_0, l2_0, l2_1, l2_2, l2_3, l3_0, w2_0, w2_1, w2_2, w2_3, d1_0, d1_1, d1_2, d1_3, d2_i, d2_1, d2_0, ev_0, ev_1, ev_16, ev_17, ev_18, ev_2, ev_3, ev_4, ev_5, ev_6, ev_7, ev_8, ev_9, ev_20, ev_21, ev_22, ev_23, ev_24, ev_25, ev_27, ev_28, ev_30, ev_31, ev_32, ev_33, ev_34, ev_35, ev_36, ev_37, ev_38, ev_39, ev_40, ev_41, ev_42, ev_43, ev_45, ev_46, ev_47, ev_48, ev_49, ev_50, ev_51, ev_52, ev_54, ev_55, ev_57, ev_58, ev_59, k2_0, k2_1, k2_2, k3a, k3b, k4, o1_s, xbin_0, xbin_1, xbin_2, xbin_3, xbin_4, xbin_5, xbin_6, xbin_7, xbin_8, xbin_9, xbin_11, xbin_12, xun_0, xun_1, xun_2, xun_3, xun_4, xun_5, k6a, k8, k8b, k9, k20, k20b_0, k20b_1, k20b_2, k20b_3, k20b_4, k20b_5, k21_0, k21_1, k21_2, k21_3, k21_4, k21_5, k23, k24, k25, k27, k28, k40, nz_1, nz_2, nz_3, k31_0, k31_1, k31_2, k31_3, k32u, k33, k34, k35, k35b, k36, k37, k38, k47, k49, k49b_0, k49b_1, k49b_2, k49b_3, k50_0, k50_s, k51_0, k51_s, k55, k58, k58b, rk_0, rk_1, rk_2, rk_9, rk_3, rk_4, rk_5, sw_n, sw_c, xtb_n, xtb_c, lset_0, lset_2, lset_1, lkm_0, lkm_2, lkm_9, lkm_1, lkm_n, if_some1, c_10, c_01, c_x0, c_1x, c_n0, c_nn, List.getElem?_cons_zero, List.getElem?_cons_succ, List.set_cons_zero, List.set_cons_succ, List.length_cons, List.length_nil, Int.reduceToNat, Nat.reduceDiv, Nat.reduceMod, Nat.reduceSub, Nat.reduceAdd, Nat.reduceMul, Nat.reduceLT, Nat.reduceLeDiff, Nat.reduceEqDiff, Int.reduceMod, Int.reduceSub, Int.reduceNeg, Int.reduceAdd, Int.reduceMul, Int.reduceLT, Int.reduceLE, Int.reduceEq, put_ss, if_true, if_false, ite_true, ite_false, reduceIte, eq_self, and_true, true_and, and_false, false_and, or_true, true_or, or_false, false_or, not_true_eq_false, not_false_eq_true, k5_68_3, k34_68_3, k54_68_3, k54b_68_3_0, k5_68_0, k5_68_1, k5_68_5, k34_68_5, k5_68_7, k34_68_7, k54_68_7, k54b_68_7_0, k54b_68_7_1, k5_68_4, k34_68_4, k54_68_4, k54b_68_4_0, k5_68_12, k34_68_12, k54_68_12, k54b_68_12_0, k5_51_5, k34_51_5, k54_51_5, k54b_51_5_0, s_86, s_90, s_94, s_130, s_128, s_91, C_87, mv_p, mv_h, sw_5, mv_4, sw_4, mv_12, sw_12, mp_p, s_51, w32_of, ad2, ad3, mm_5, sp_5, hleft, g2, hd, c4, c5, e1]
theorem wW_YI {m : Mem} : ∀ (t : xT) (w : List Int) (c : zS), YI c.2 → YI (wW m t w c).2 ∧ (wW m t w c).2.2 = c.2.2
  | .tag k (.nest i (.append a b)), w, c, h => by
    by_cases hk : k = 31
    · subst hk
      have g := wW_YI (m := m) b (w ++ [i + 1]) (dupB m (i + 1) w (em 24 (nmI m (idT m (i + 1))) (nln c.2) (us m (i + 1) 3 c.1)), nlb c.2) (YI_nlb h)
      exact ⟨g.1, g.2.trans nlb_n⟩
    · have e1 : wW m (.tag k (.nest i (.append a b))) w c = c := by
        rw [wW]
        split
        · exact absurd rfl hk
        · rfl
      rw [e1]
      exact ⟨h, rfl⟩
  | .nil, _, _, h => ⟨h, rfl⟩
  | .line, _, _, h => ⟨h, rfl⟩
  | .align _, _, _, h => ⟨h, rfl⟩
  | .text _, _, _, h => ⟨h, rfl⟩
  | .append _ _, _, _, h => ⟨h, rfl⟩
  | .group _ _, _, _, h => ⟨h, rfl⟩
  | .nest _ _, _, _, h => ⟨h, rfl⟩
  | .tag _ .nil, _, _, h => ⟨h, rfl⟩
  | .tag _ .line, _, _, h => ⟨h, rfl⟩
  | .tag _ (.align _), _, _, h => ⟨h, rfl⟩
  | .tag _ (.text _), _, _, h => ⟨h, rfl⟩
  | .tag _ (.append _ _), _, _, h => ⟨h, rfl⟩
  | .tag _ (.group _ _), _, _, h => ⟨h, rfl⟩
  | .tag _ (.tag _ _), _, _, h => ⟨h, rfl⟩
  | .tag _ (.nest _ .nil), _, _, h => ⟨h, rfl⟩
  | .tag _ (.nest _ .line), _, _, h => ⟨h, rfl⟩
  | .tag _ (.nest _ (.align _)), _, _, h => ⟨h, rfl⟩
  | .tag _ (.nest _ (.text _)), _, _, h => ⟨h, rfl⟩
  | .tag _ (.nest _ (.nest _ _)), _, _, h => ⟨h, rfl⟩
  | .tag _ (.nest _ (.group _ _)), _, _, h => ⟨h, rfl⟩
  | .tag _ (.nest _ (.tag _ _)), _, _, h => ⟨h, rfl⟩
theorem L_104_0 (hc : cd = 83 ∨ cd = 93) (h2 : m 68 2 = (cd : Int)) (hN : m 51 5 ≤ 3001) (h4 : m 57 4 ≤ 1510) (h7 : m 57 7 ≤ 300) (heN : e < m 51 5) (hF : 100000 ≤ F) : ∀ (k : Nat) (t : xT), tsz t < k → ∀ (dep w q u : Int) (l : List Int), P (kd m) (VF (fun i => m 55 i)) t 11 dep w q → Ch m l u w → 0 ≤ u → q ≤ e → ∀ (L : Nat) (xs : Nat → Int32) (d : Nat) (H : Int) (s : xSt) (y : yS) (left : Int) (z1 z2 : Nat × Int) (n : Nat), e < left + w → left ≤ 3001 → e - w < n → ∃ left' z1' z2', LF F (d + 10) la_104_0 lb_104_0 lc_104_0 n ([(2, 68), (0, w), (0, left), z1, z2], Hp L xs (mv cd u s (sww H y m))) = some (0, [], ([(2, 68), (0, q), (0, left'), z1', z2'], Hp L xs (mv cd u (wW m t l (s, y)).1 (sww H (wW m t l (s, y)).2 m)))) := by
  intro k
  induction k with
  | zero => intro t ht; exact absurd ht (Nat.not_lt_zero _)
  | succ k ih =>
    intro t ht dep w q u l h hch h0 hq L xs d H s y left z1 z2 n hl1 hl2 hn
    have hle := Ch_le l u w hch
    have l0 := P_le _ h
    obtain ⟨n, rfl⟩ : ∃ n', n = n' + 1 := ⟨n - 1, by omega⟩
    have hleft : 0 < left := by omega
    have e1 : left + -1 = left - 1 := by omega
    rcases inv_11 h with ⟨i, a, b, rfl, g1, g2, g3, r, g4, g5⟩ | ⟨i, a, b, rfl, hpq, ho⟩
    · rw [tsz_nd] at ht
      subst g3
      have l1 := P_le a g4
      have l2 := P_le b g5
      obtain ⟨j2, a2, b2, rfl, k1, k2, k3, r2, k4, k5, k6⟩ := inv_8 g4
      have l3 := P_le a2 k4
      have hv : m 55 (i + 2).toNat = r - 1 := k3
      obtain ⟨u', lf', c3⟩ := L_104_1 hc h2 hN h4 h7 heN hF l L xs d u H (em 24 (nmI m (idT m (i + 1))) (nln y) (us m (i + 1) 3 s)) (nlb y) u i (m 51 5) left F hch h0 (by omega) (by omega) hN (by omega)
      have hch2 := Ch_app l u i hch k1 (by omega) (by omega) (by omega)
      have er : m 55 (i + 2).toNat + 1 = r := by omega
      rw [er] at hch2
      have c4 := fun (D : Nat) (ss : xSt) (yy : yS) => s_132 (L := L) (xs := xs) (F := F) (d := D) (p := u) (H := H) (s := ss) (y := yy) (m := m) (a1 := i + 2) hc hN (by omega) (by omega) k1 (by omega)
      rw [er] at c4
      obtain ⟨left', w1, w2, c5⟩ := ih b (by omega) dep r q u (l ++ [i + 1]) g5 hch2 h0 hq L xs d H (dupB m (i + 1) l (em 24 (nmI m (idT m (i + 1))) (nln y) (us m (i + 1) 3 s))) (nlb y) (left - 1) (0, u') (0, lf') n (by omega) (by omega) (by omega)
      refine ⟨left', w1, w2, ?_⟩
      rw [lf_s]
      have e2 : wW m (nd 31 i (nd 20 j2 a2 b2) b) l (s, y) = wW m b (l ++ [i + 1]) (dupB m (i + 1) l (em 24 (nmI m (idT m (i + 1))) (nln y) (us m (i + 1) 3 s)), nlb y) := rfl
      rw [e2]
      simp (disch := first | omega | assumption) only [ea_104_0, eb_104_0, ec_104_0, l1_i, l1_1, l1_0, l2_0, l2_1, l2_2, l2_3, l3_0, w2_0, w2_1, w2_2, w2_3, d1_0, d1_1, d1_2, d1_3, d2_i, d2_1, d2_0, ev_0, ev_1, ev_16, ev_17, ev_18, ev_2, ev_3, ev_4, ev_5, ev_6, ev_7, ev_8, ev_9, ev_20, ev_21, ev_22, ev_23, ev_24, ev_25, ev_27, ev_28, ev_30, ev_31, ev_32, ev_33, ev_34, ev_35, ev_36, ev_37, ev_38, ev_39, ev_40, ev_41, ev_42, ev_43, ev_45, ev_46, ev_47, ev_48, ev_49, ev_50, ev_51, ev_52, ev_54, ev_55, ev_57, ev_58, ev_59, k2_0, k2_1, k2_2, k3a, k3b, k4, o1_s, xbin_0, xbin_1, xbin_2, xbin_3, xbin_4, xbin_5, xbin_6, xbin_7, xbin_8, xbin_9, xbin_11, xbin_12, xun_0, xun_1, xun_2, xun_3, xun_4, xun_5, k6a, k8, k8b, k9, k20, k20b_0, k20b_1, k20b_2, k20b_3, k20b_4, k20b_5, k21_0, k21_1, k21_2, k21_3, k21_4, k21_5, k23, k24, k25, k27, k28, k40, nz_1, nz_2, nz_3, k31_0, k31_1, k31_2, k31_3, k32u, k33, k34, k35, k35b, k36, k37, k38, k47, k49, k49b_0, k49b_1, k49b_2, k49b_3, k50_0, k50_s, k51_0, k51_s, k55, k58, k58b, rk_0, rk_1, rk_2, rk_9, rk_3, rk_4, rk_5, sw_n, sw_c, xtb_n, xtb_c, lset_0, lset_2, lset_1, lkm_0, lkm_2, lkm_9, lkm_1, lkm_n, if_some1, c_10, c_01, c_x0, c_1x, c_n0, c_nn, List.getElem?_cons_zero, List.getElem?_cons_succ, List.set_cons_zero, List.set_cons_succ, List.length_cons, List.length_nil, Int.reduceToNat, Nat.reduceDiv, Nat.reduceMod, Nat.reduceSub, Nat.reduceAdd, Nat.reduceMul, Nat.reduceLT, Nat.reduceLeDiff, Nat.reduceEqDiff, Int.reduceMod, Int.reduceSub, Int.reduceNeg, Int.reduceAdd, Int.reduceMul, Int.reduceLT, Int.reduceLE, Int.reduceEq, put_ss, if_true, if_false, ite_true, ite_false, reduceIte, eq_self, and_true, true_and, and_false, false_and, or_true, true_or, or_false, false_or, not_true_eq_false, not_false_eq_true, k5_68_3, k34_68_3, k54_68_3, k54b_68_3_0, k5_68_0, k5_68_1, k5_68_5, k34_68_5, k5_68_7, k34_68_7, k54_68_7, k54b_68_7_0, k54b_68_7_1, k5_68_4, k34_68_4, k54_68_4, k54b_68_4_0, k5_68_12, k34_68_12, k54_68_12, k54b_68_12_0, k5_51_5, k34_51_5, k54_51_5, k54b_51_5_0, s_86, s_90, s_94, s_130, s_128, s_91, C_87, mv_p, mv_h, sw_5, mv_4, sw_4, mv_12, sw_12, mp_p, s_51, w32_of, ad2, ad3, mm_5, sp_5, g1, hleft, c3, c4, c5, e1]
    · subst hpq
      refine ⟨left, z1, z2, ?_⟩
      rw [lf_s]
      have e2 : wW m (nd 32 i a b) l (s, y) = (s, y) := rfl
      rw [e2]
      simp (disch := first | omega | assumption) only [ea_104_0, eb_104_0, ec_104_0, l1_i, l1_1, l1_0, l2_0, l2_1, l2_2, l2_3, l3_0, w2_0, w2_1, w2_2, w2_3, d1_0, d1_1, d1_2, d1_3, d2_i, d2_1, d2_0, ev_0, ev_1, ev_16, ev_17, ev_18, ev_2, ev_3, ev_4, ev_5, ev_6, ev_7, ev_8, ev_9, ev_20, ev_21, ev_22, ev_23, ev_24, ev_25, ev_27, ev_28, ev_30, ev_31, ev_32, ev_33, ev_34, ev_35, ev_36, ev_37, ev_38, ev_39, ev_40, ev_41, ev_42, ev_43, ev_45, ev_46, ev_47, ev_48, ev_49, ev_50, ev_51, ev_52, ev_54, ev_55, ev_57, ev_58, ev_59, k2_0, k2_1, k2_2, k3a, k3b, k4, o1_s, xbin_0, xbin_1, xbin_2, xbin_3, xbin_4, xbin_5, xbin_6, xbin_7, xbin_8, xbin_9, xbin_11, xbin_12, xun_0, xun_1, xun_2, xun_3, xun_4, xun_5, k6a, k8, k8b, k9, k20, k20b_0, k20b_1, k20b_2, k20b_3, k20b_4, k20b_5, k21_0, k21_1, k21_2, k21_3, k21_4, k21_5, k23, k24, k25, k27, k28, k40, nz_1, nz_2, nz_3, k31_0, k31_1, k31_2, k31_3, k32u, k33, k34, k35, k35b, k36, k37, k38, k47, k49, k49b_0, k49b_1, k49b_2, k49b_3, k50_0, k50_s, k51_0, k51_s, k55, k58, k58b, rk_0, rk_1, rk_2, rk_9, rk_3, rk_4, rk_5, sw_n, sw_c, xtb_n, xtb_c, lset_0, lset_2, lset_1, lkm_0, lkm_2, lkm_9, lkm_1, lkm_n, if_some1, c_10, c_01, c_x0, c_1x, c_n0, c_nn, List.getElem?_cons_zero, List.getElem?_cons_succ, List.set_cons_zero, List.set_cons_succ, List.length_cons, List.length_nil, Int.reduceToNat, Nat.reduceDiv, Nat.reduceMod, Nat.reduceSub, Nat.reduceAdd, Nat.reduceMul, Nat.reduceLT, Nat.reduceLeDiff, Nat.reduceEqDiff, Int.reduceMod, Int.reduceSub, Int.reduceNeg, Int.reduceAdd, Int.reduceMul, Int.reduceLT, Int.reduceLE, Int.reduceEq, put_ss, if_true, if_false, ite_true, ite_false, reduceIte, eq_self, and_true, true_and, and_false, false_and, or_true, true_or, or_false, false_or, not_true_eq_false, not_false_eq_true, k5_68_3, k34_68_3, k54_68_3, k54b_68_3_0, k5_68_0, k5_68_1, k5_68_5, k34_68_5, k5_68_7, k34_68_7, k54_68_7, k54b_68_7_0, k54b_68_7_1, k5_68_4, k34_68_4, k54_68_4, k54b_68_4_0, k5_68_12, k34_68_12, k54_68_12, k54b_68_12_0, k5_51_5, k34_51_5, k54_51_5, k54b_51_5_0, s_86, s_90, s_94, s_130, s_128, s_91, C_87, mv_p, mv_h, sw_5, mv_4, sw_4, mv_12, sw_12, mp_p, s_51, w32_of, ad2, ad3, mm_5, sp_5, ho, hleft]
theorem L_103 (hc : cd = 83 ∨ cd = 93) (h2 : m 68 2 = (cd : Int)) (hN : m 51 5 ≤ 3001) (h4 : m 57 4 ≤ 1510) (h7 : m 57 7 ≤ 300) (heN : e < m 51 5) (hF : 100000 ≤ F) : ∀ (k : Nat) (t : xT), tsz t < k → (∀ a, tsz a < tsz t → RB F cd m e a) → ∀ (dep p q : Int), P (kd m) (VF (fun i => m 55 i)) t 11 dep p q → 0 ≤ dep → dep ≤ 30 → 0 ≤ p → q ≤ e → ∀ (L : Nat) (xs : Nat → Int32) (d : Nat) (H : Int) (s : xSt) (y : yS) (lb o1 o2 lab left : Int) (n : Nat), 300 + 4 * (31 - dep).toNat ≤ d → YI y → e < left + p → left ≤ 3001 → e - p < n → YI (stS m t H lb lab (s, y)).2 ∧ (stS m t H lb lab (s, y)).2.2.1 = y.2.1 ∧ ∃ lab' left', LF F (d + 10) la_103_0 lb_103_0 lc_103_0 n ([(2, 68), (0, dep), (0, o1), (0, lb), (0, o2), (0, lab), (0, left)], Hp L xs (mv cd p s (sww H y m))) = some (0, [], ([(2, 68), (0, dep), (0, o1), (0, lb), (0, o2), (0, lab'), (0, left')], Hp L xs (mv cd q (stS m t H lb lab (s, y)).1 (sww H (stS m t H lb lab (s, y)).2 m)))) := by
  intro k
  induction k with
  | zero => intro t ht; exact absurd ht (Nat.not_lt_zero _)
  | succ k ih =>
    intro t ht hB dep p q h hd0 hd1 hp hq L xs d H s y lb o1 o2 lab left n hd hY hl1 hl2 hn
    have l0 := P_le _ h
    obtain ⟨n, rfl⟩ : ∃ n', n = n' + 1 := ⟨n - 1, by omega⟩
    have hleft : 0 < left := by omega
    have e1 : left + -1 = left - 1 := by omega
    rcases inv_11 h with ⟨i, a, b, rfl, g1, g2, g3, r, g4, g5⟩ | ⟨i, a, b, rfl, hpq, ho⟩
    · have sa : tsz a < tsz (nd 31 i a b) := by rw [tsz_nd]; omega
      have sb : tsz b < tsz (nd 31 i a b) := by rw [tsz_nd]; omega
      have l1 := P_le a g4
      have l2 := P_le b g5
      have c1 := fun (D : Nat) => C_88 (L := L) (xs := xs) (F := F) (d := D) (p := p + 2) (H := H) (m := m) (a1 := lab) (s := s) (y := y) hc h2 hY.2.2
      obtain ⟨k1, k2, c3⟩ := hB a sa dep (p + 2) r g4 hd0 hd1 (by omega) (by omega) L xs d s (slb lab (s.1.length : Int) y) H hd (YI_slb hY)
      obtain ⟨k3, k4, lab', left', c5⟩ := ih b (by omega) (fun a2 h2 => hB a2 (by omega)) dep r q g5 hd0 hd1 (by omega) hq L xs d H (em 15 0 lb (stS m a H 0 0 (s, slb lab (s.1.length : Int) y)).1) (stS m a H 0 0 (s, slb lab (s.1.length : Int) y)).2 lb o1 o2 (w32 (lab + 1)) (left - 1) n hd k1 (by omega) (by omega) (by omega)
      rw [y_31]
      refine ⟨k3, ?_, lab', left', ?_⟩
      · simp only
        rw [k4, k2, slb_n]
      · rw [lf_s]
        simp (disch := first | omega | assumption) only [ea_103_0, eb_103_0, ec_103_0, l1_i, l1_1, l1_0, l2_0, l2_1, l2_2, l2_3, l3_0, w2_0, w2_1, w2_2, w2_3, d1_0, d1_1, d1_2, d1_3, d2_i, d2_1, d2_0, ev_0, ev_1, ev_16, ev_17, ev_18, ev_2, ev_3, ev_4, ev_5, ev_6, ev_7, ev_8, ev_9, ev_20, ev_21, ev_22, ev_23, ev_24, ev_25, ev_27, ev_28, ev_30, ev_31, ev_32, ev_33, ev_34, ev_35, ev_36, ev_37, ev_38, ev_39, ev_40, ev_41, ev_42, ev_43, ev_45, ev_46, ev_47, ev_48, ev_49, ev_50, ev_51, ev_52, ev_54, ev_55, ev_57, ev_58, ev_59, k2_0, k2_1, k2_2, k3a, k3b, k4, o1_s, xbin_0, xbin_1, xbin_2, xbin_3, xbin_4, xbin_5, xbin_6, xbin_7, xbin_8, xbin_9, xbin_11, xbin_12, xun_0, xun_1, xun_2, xun_3, xun_4, xun_5, k6a, k8, k8b, k9, k20, k20b_0, k20b_1, k20b_2, k20b_3, k20b_4, k20b_5, k21_0, k21_1, k21_2, k21_3, k21_4, k21_5, k23, k24, k25, k27, k28, k40, nz_1, nz_2, nz_3, k31_0, k31_1, k31_2, k31_3, k32u, k33, k34, k35, k35b, k36, k37, k38, k47, k49, k49b_0, k49b_1, k49b_2, k49b_3, k50_0, k50_s, k51_0, k51_s, k55, k58, k58b, rk_0, rk_1, rk_2, rk_9, rk_3, rk_4, rk_5, sw_n, sw_c, xtb_n, xtb_c, lset_0, lset_2, lset_1, lkm_0, lkm_2, lkm_9, lkm_1, lkm_n, if_some1, c_10, c_01, c_x0, c_1x, c_n0, c_nn, List.getElem?_cons_zero, List.getElem?_cons_succ, List.set_cons_zero, List.set_cons_succ, List.length_cons, List.length_nil, Int.reduceToNat, Nat.reduceDiv, Nat.reduceMod, Nat.reduceSub, Nat.reduceAdd, Nat.reduceMul, Nat.reduceLT, Nat.reduceLeDiff, Nat.reduceEqDiff, Int.reduceMod, Int.reduceSub, Int.reduceNeg, Int.reduceAdd, Int.reduceMul, Int.reduceLT, Int.reduceLE, Int.reduceEq, put_ss, if_true, if_false, ite_true, ite_false, reduceIte, eq_self, and_true, true_and, and_false, false_and, or_true, true_or, or_false, false_or, not_true_eq_false, not_false_eq_true, k5_68_3, k34_68_3, k54_68_3, k54b_68_3_0, k5_68_0, k5_68_1, k5_68_5, k34_68_5, k5_68_7, k34_68_7, k54_68_7, k54b_68_7_0, k54b_68_7_1, k5_68_4, k34_68_4, k54_68_4, k54b_68_4_0, k5_68_12, k34_68_12, k54_68_12, k54b_68_12_0, k5_51_5, k34_51_5, k54_51_5, k54b_51_5_0, s_86, s_90, mv_p, mp_p, e1, g1, hleft, c1, c3, c5, w32_of (x := p + 2), w32_of (x := left - 1)]
    · subst hpq
      rw [y_32]
      refine ⟨hY, rfl, lab, left, ?_⟩
      rw [lf_s]
      simp (disch := first | omega | assumption) only [ea_103_0, eb_103_0, ec_103_0, l1_i, l1_1, l1_0, l2_0, l2_1, l2_2, l2_3, l3_0, w2_0, w2_1, w2_2, w2_3, d1_0, d1_1, d1_2, d1_3, d2_i, d2_1, d2_0, ev_0, ev_1, ev_16, ev_17, ev_18, ev_2, ev_3, ev_4, ev_5, ev_6, ev_7, ev_8, ev_9, ev_20, ev_21, ev_22, ev_23, ev_24, ev_25, ev_27, ev_28, ev_30, ev_31, ev_32, ev_33, ev_34, ev_35, ev_36, ev_37, ev_38, ev_39, ev_40, ev_41, ev_42, ev_43, ev_45, ev_46, ev_47, ev_48, ev_49, ev_50, ev_51, ev_52, ev_54, ev_55, ev_57, ev_58, ev_59, k2_0, k2_1, k2_2, k3a, k3b, k4, o1_s, xbin_0, xbin_1, xbin_2, xbin_3, xbin_4, xbin_5, xbin_6, xbin_7, xbin_8, xbin_9, xbin_11, xbin_12, xun_0, xun_1, xun_2, xun_3, xun_4, xun_5, k6a, k8, k8b, k9, k20, k20b_0, k20b_1, k20b_2, k20b_3, k20b_4, k20b_5, k21_0, k21_1, k21_2, k21_3, k21_4, k21_5, k23, k24, k25, k27, k28, k40, nz_1, nz_2, nz_3, k31_0, k31_1, k31_2, k31_3, k32u, k33, k34, k35, k35b, k36, k37, k38, k47, k49, k49b_0, k49b_1, k49b_2, k49b_3, k50_0, k50_s, k51_0, k51_s, k55, k58, k58b, rk_0, rk_1, rk_2, rk_9, rk_3, rk_4, rk_5, sw_n, sw_c, xtb_n, xtb_c, lset_0, lset_2, lset_1, lkm_0, lkm_2, lkm_9, lkm_1, lkm_n, if_some1, c_10, c_01, c_x0, c_1x, c_n0, c_nn, List.getElem?_cons_zero, List.getElem?_cons_succ, List.set_cons_zero, List.set_cons_succ, List.length_cons, List.length_nil, Int.reduceToNat, Nat.reduceDiv, Nat.reduceMod, Nat.reduceSub, Nat.reduceAdd, Nat.reduceMul, Nat.reduceLT, Nat.reduceLeDiff, Nat.reduceEqDiff, Int.reduceMod, Int.reduceSub, Int.reduceNeg, Int.reduceAdd, Int.reduceMul, Int.reduceLT, Int.reduceLE, Int.reduceEq, put_ss, if_true, if_false, ite_true, ite_false, reduceIte, eq_self, and_true, true_and, and_false, false_and, or_true, true_or, or_false, false_or, not_true_eq_false, not_false_eq_true, k5_68_3, k34_68_3, k54_68_3, k54b_68_3_0, k5_68_0, k5_68_1, k5_68_5, k34_68_5, k5_68_7, k34_68_7, k54_68_7, k54b_68_7_0, k54b_68_7_1, k5_68_4, k34_68_4, k54_68_4, k54b_68_4_0, k5_68_12, k34_68_12, k54_68_12, k54b_68_12_0, k5_51_5, k34_51_5, k54_51_5, k54b_51_5_0, s_86, s_90, s_94, s_130, s_128, s_91, C_87, mv_p, mv_h, sw_5, mv_4, sw_4, mv_12, sw_12, mp_p, s_51, w32_of, ad2, ad3, mm_5, sp_5, ho, hleft]
theorem RS_try {i : Int} {a b : xT} (hc : cd = 83 ∨ cd = 93) (h2 : m 68 2 = (cd : Int)) (hN : m 51 5 ≤ 3001) (h4 : m 57 4 ≤ 1510) (h7 : m 57 7 ≤ 300) (heN : e < m 51 5) (hF : 100000 ≤ F) (hB : ∀ a2, tsz a2 < tsz (nd 30 i a b) → RB F cd m e a2) : RS F cd m e (nd 30 i a b) := by
  intro dep p q h hd0 hd1 hp hq L xs d s y H hd hY
  have l0 := P_lt10 h
  obtain ⟨d, rfl⟩ : ∃ d', d = d' + 2 := ⟨d - 2, by omega⟩
  obtain ⟨e0, h1, r, h8, h9, h10⟩ : (10 : Nat) = 10 ∧ kd m p = 11 ∧ ∃ r, P (kd m) (VF (fun i => m 55 i)) a 8 dep (p + 1) r ∧ kd m r = 12 ∧ P (kd m) (VF (fun i => m 55 i)) b 11 dep r q := by
    have := h
    rwa [p_30] at this
  have sa : tsz a < tsz (nd 30 i a b) := by rw [tsz_nd]; omega
  have sb : tsz b < tsz (nd 30 i a b) := by rw [tsz_nd]; omega
  have l1 := P_le a h8
  have l2 := P_le b h10
  obtain ⟨k1, k2, c3⟩ := hB a sa dep (p + 1) r h8 hd0 hd1 (by omega) (by omega) L xs d s (nlb (nlb y)) (nln (nlb y)) (by omega) (YI_nlb (YI_nlb hY))
  rw [y_30]
  simp only
  generalize hz1 : stS m a (nln (nlb y)) 0 0 (s, nlb (nlb y)) = z1 at *
  obtain ⟨s1, y1⟩ := z1
  simp only at c3 k1 k2
  have c4 := fun (D : Nat) => C_88 (L := L) (xs := xs) (F := F) (d := D) (p := r) (H := H) (m := m) (a1 := nln (nlb y)) (s := em 15 0 (nln y) s1) (y := y1) hc h2 k1.2.2
  generalize hy3 : slb (nln (nlb y)) ((em 15 0 (nln y) s1).1.length : Int) y1 = y3 at *
  have hY3 : YI y3 := by rw [← hy3]; exact YI_slb k1
  have hy3n : y3.2 = y1.2 := by rw [← hy3]; exact slb_n
  obtain ⟨lf1, z3, z4, c5⟩ := L_104_0 hc h2 hN h4 h7 heN hF (tsz b + 1) b (by omega) dep r q r [] h10 rfl (by omega) hq L xs (d - 1) H (em 23 (m 68 4) (-1) (em 15 0 (nln y) s1)) y3 (m 51 5) (9, 0) (9, 0) F (by omega) hN (by omega)
  have e9 : d - 1 + 10 = d + 9 := by omega
  rw [e9] at c5
  have hw := wW_YI (m := m) b [] (em 23 (m 68 4) (-1) (em 15 0 (nln y) s1), y3) hY3
  generalize hc4 : wW m b [] (em 23 (m 68 4) (-1) (em 15 0 (nln y) s1), y3) = z4' at *
  obtain ⟨s4, y4⟩ := z4'
  simp only at c5 hw
  obtain ⟨k5, k6, lab', left', c7⟩ := L_103 hc h2 hN h4 h7 heN hF (tsz b + 1) b (by omega) (fun a2 h2 => hB a2 (by omega)) dep r q h10 hd0 hd1 (by omega) hq L xs d H (em 25 0 H s4) y4 (nln y) H (nln (nlb y)) (y3.1.length : Int) (m 51 5) F (by omega) hw.1 (by omega) hN (by omega)
  generalize hc6 : stS m b H (nln y) (y3.1.length : Int) (em 25 0 H s4, y4) = z6 at *
  obtain ⟨s6, y6⟩ := z6
  simp only at c7 k5 k6
  have c9 := fun (D : Nat) => C_88 (L := L) (xs := xs) (F := F) (d := D) (p := q) (H := H) (m := m) (a1 := nln y) (s := s6) (y := y6) hc h2 k5.2.2
  refine ⟨YI_slb k5, ?_, ?_⟩
  · rw [slb_n, k6, hw.2, hy3n, k2, nlb_n, nlb_n]
    exact Int.le_refl _
  · simp (disch := first | omega | assumption) only [c_99, tr_99, c_103, tx_103, c_104, tx_104, ev_0, ev_1, ev_16, ev_17, ev_18, ev_2, ev_3, ev_4, ev_5, ev_6, ev_7, ev_8, ev_9, ev_20, ev_21, ev_22, ev_23, ev_24, ev_25, ev_27, ev_28, ev_30, ev_31, ev_32, ev_33, ev_34, ev_35, ev_36, ev_37, ev_38, ev_39, ev_40, ev_41, ev_42, ev_43, ev_45, ev_46, ev_47, ev_48, ev_49, ev_50, ev_51, ev_52, ev_54, ev_55, ev_57, ev_58, ev_59, k2_0, k2_1, k2_2, k3a, k3b, k4, o1_s, xbin_0, xbin_1, xbin_2, xbin_3, xbin_4, xbin_5, xbin_6, xbin_7, xbin_8, xbin_9, xbin_11, xbin_12, xun_0, xun_1, xun_2, xun_3, xun_4, xun_5, k6a, k8, k8b, k9, k20, k20b_0, k20b_1, k20b_2, k20b_3, k20b_4, k20b_5, k21_0, k21_1, k21_2, k21_3, k21_4, k21_5, k23, k24, k25, k27, k28, k40, nz_1, nz_2, nz_3, k31_0, k31_1, k31_2, k31_3, k32u, k33, k34, k35, k35b, k36, k37, k38, k47, k49, k49b_0, k49b_1, k49b_2, k49b_3, k50_0, k50_s, k51_0, k51_s, k55, k58, k58b, rk_0, rk_1, rk_2, rk_9, rk_3, rk_4, rk_5, sw_n, sw_c, xtb_n, xtb_c, lset_0, lset_2, lset_1, lkm_0, lkm_2, lkm_9, lkm_1, lkm_n, if_some1, c_10, c_01, c_x0, c_1x, c_n0, c_nn, List.getElem?_cons_zero, List.getElem?_cons_succ, List.set_cons_zero, List.set_cons_succ, List.length_cons, List.length_nil, Int.reduceToNat, Nat.reduceDiv, Nat.reduceMod, Nat.reduceSub, Nat.reduceAdd, Nat.reduceMul, Nat.reduceLT, Nat.reduceLeDiff, Nat.reduceEqDiff, Int.reduceMod, Int.reduceSub, Int.reduceNeg, Int.reduceAdd, Int.reduceMul, Int.reduceLT, Int.reduceLE, Int.reduceEq, put_ss, if_true, if_false, ite_true, ite_false, reduceIte, eq_self, and_true, true_and, and_false, false_and, or_true, true_or, or_false, false_or, not_true_eq_false, not_false_eq_true, k5_68_3, k34_68_3, k54_68_3, k54b_68_3_0, k5_68_0, k5_68_1, k5_68_5, k34_68_5, k5_68_7, k34_68_7, k54_68_7, k54b_68_7_0, k54b_68_7_1, k5_68_4, k34_68_4, k54_68_4, k54b_68_4_0, k5_68_12, k34_68_12, k54_68_12, k54b_68_12_0, k5_51_5, k34_51_5, k54_51_5, k54b_51_5_0, s_86, s_90, s_94, s_130, s_128, s_91, C_87, mv_p, mv_h, sw_5, mv_4, sw_4, mv_12, sw_12, mp_p, s_51, w32_of, ad2, ad3, mm_5, sp_5, h1, c3, c4, c5, c7, c9, hy3]
theorem MakB_ok (hc : cd = 83 ∨ cd = 93) (h2 : m 68 2 = (cd : Int)) (hN : m 51 5 ≤ 3001) (h4 : m 57 4 ≤ 1510) (h7 : m 57 7 ≤ 300) (heN : e < m 51 5) (hF : 100000 ≤ F) : ∀ (n : Nat) (t : xT), tsz t < n → RB F cd m e t ∧ RS F cd m e t ∧ RL F cd m e t
  | 0, _, h => absurd h (Nat.not_lt_zero _)
  | n + 1, t, hn => by
    have ih : ∀ a, tsz a < tsz t → _ := fun a ha => MakB_ok hc h2 hN h4 h7 heN hF n a (by omega)
    exact ⟨RB_ok hc h2 hN h4 h7 heN hF (fun a ha => (ih a ha).2.2), RS_ok hc h2 hN h4 h7 heN hF (fun a ha => (ih a ha).1) (fun i a b ht => by subst ht; exact RS_try hc h2 hN h4 h7 heN hF (fun a2 h2 => (ih a2 h2).1)), RL_ok hc h2 hN h4 h7 heN hF (fun a ha => (ih a ha).2.1) (fun a ha => (ih a ha).2.2)⟩
end MakT2
