/-! THE MAKER: make -/
theorem PN_tok {K : Int → Int} : ∀ (k : Nat) (t : xT), tsz t < k → ∀ (p q : Int), PN K t p q → ∀ i, p ≤ i → i < q → K i = 2 ∨ K i = 44
  | 0, _, h => absurd h (Nat.not_lt_zero _)
  | k + 1, t, ht => by
    intro p q h i h1 h2
    rcases inv_N h with ⟨a, b, rfl, g1, g2, g3⟩ | ⟨a, b, rfl, g1, g2, g3⟩
    · have : i = p := by omega
      subst this
      exact Or.inl g1
    · rw [tsz_nd] at ht
      by_cases e1 : i = p
      · subst e1; exact Or.inl g1
      by_cases e2 : i = p + 1
      · subst e2; exact Or.inr g2
      exact PN_tok k b (by omega) _ _ g3 i (by omega) h2
theorem inv_T {K V : Int → Int} : ∀ {t : xT} {p q : Int}, PT K V t p q → (∃ i a b, t = nd 40 i a b ∧ p = q ∧ K p = 0) ∨ (∃ a b, t = nd 41 p a b ∧ K p = 4 ∧ K (p + 1) = 2 ∧ K (p + 2) = 59 ∧ PT K V b (p + 3) q) ∨ (∃ a b, t = nd 42 p a b ∧ K p = 4 ∧ K (p + 1) = 2 ∧ K (p + 2) = 91 ∧ K (p + 3) = 3 ∧ K (p + 4) = 93 ∧ K (p + 5) = 59 ∧ PT K V b (p + 6) q) ∨ (∃ a b, t = nd 43 p a b ∧ K p = 5 ∧ ∃ r, PN K a (p + 1) r ∧ K r = 59 ∧ PT K V b (r + 1) q) ∨ (∃ a b, t = nd 44 p a b ∧ K p = 6 ∧ K (p + 1) = 2 ∧ K (p + 2) = 40 ∧ ∃ r, PH K V a (p + 3) r ∧ PT K V b r q)
  | .tag k (.nest i (.append a b)), p, q, h => by
    have h2 := h
    unfold PT at h2
    split at h2
    · exact Or.inl ⟨i, a, b, rfl, h2⟩
    · obtain ⟨g1, g2⟩ := h2
      subst g1
      exact Or.inr (Or.inl ⟨a, b, rfl, g2⟩)
    · obtain ⟨g1, g2⟩ := h2
      subst g1
      exact Or.inr (Or.inr (Or.inl ⟨a, b, rfl, g2⟩))
    · obtain ⟨g1, g2⟩ := h2
      subst g1
      exact Or.inr (Or.inr (Or.inr (Or.inl ⟨a, b, rfl, g2⟩)))
    · obtain ⟨g1, g2⟩ := h2
      subst g1
      exact Or.inr (Or.inr (Or.inr (Or.inr ⟨a, b, rfl, g2⟩)))
    · exact h2.elim
  | .nil, _, _, h => h.elim
  | .line, _, _, h => h.elim
  | .align _, _, _, h => h.elim
  | .text _, _, _, h => h.elim
  | .append _ _, _, _, h => h.elim
  | .group _ _, _, _, h => h.elim
  | .nest _ _, _, _, h => h.elim
  | .tag _ .nil, _, _, h => h.elim
  | .tag _ .line, _, _, h => h.elim
  | .tag _ (.align _), _, _, h => h.elim
  | .tag _ (.text _), _, _, h => h.elim
  | .tag _ (.append _ _), _, _, h => h.elim
  | .tag _ (.group _ _), _, _, h => h.elim
  | .tag _ (.tag _ _), _, _, h => h.elim
  | .tag _ (.nest _ .nil), _, _, h => h.elim
  | .tag _ (.nest _ .line), _, _, h => h.elim
  | .tag _ (.nest _ (.align _)), _, _, h => h.elim
  | .tag _ (.nest _ (.text _)), _, _, h => h.elim
  | .tag _ (.nest _ (.nest _ _)), _, _, h => h.elim
  | .tag _ (.nest _ (.group _ _)), _, _, h => h.elim
  | .tag _ (.nest _ (.tag _ _)), _, _, h => h.elim
theorem PH_lt {K V : Int → Int} {t : xT} {p q : Int} (h : PH K V t p q) : p + 1 < q := by
  obtain ⟨i, pa, i2, ra, bk, rfl, r, u, hP, hr, hR, hbk⟩ := inv_H h
  have l1 := P_le bk hbk
  have : u < q := by
    obtain ⟨j, b1, b2, rfl, g1, g2, g3, r2, g4, g5, g6⟩ := inv_8 hbk
    have := P_le b1 g4
    omega
  rcases hP with ⟨-, -, g⟩ | ⟨-, -, g⟩
  · rcases hR with ⟨-, -, g2⟩ | ⟨-, -, g2⟩
    · omega
    · have := PN_n ra g2; omega
  · have := PN_n pa g
    rcases hR with ⟨-, -, g2⟩ | ⟨-, -, g2⟩
    · omega
    · have := PN_n ra g2; omega
theorem PT_le {K V : Int → Int} : ∀ (k : Nat) (t : xT), tsz t < k → ∀ (p q : Int), PT K V t p q → p ≤ q
  | 0, _, h => absurd h (Nat.not_lt_zero _)
  | k + 1, t, ht => by
    intro p q h
    rcases inv_T h with ⟨i, a, b, rfl, g1, g2⟩ | ⟨a, b, rfl, g1, g2, g3, g4⟩ | ⟨a, b, rfl, g1, g2, g3, g4, g5, g6, g7⟩ | ⟨a, b, rfl, g1, r, g2, g3, g4⟩ | ⟨a, b, rfl, g1, g2, g3, r, g4, g5⟩
    · omega
    · rw [tsz_nd] at ht
      have := PT_le k b (by omega) _ _ g4
      omega
    · rw [tsz_nd] at ht
      have := PT_le k b (by omega) _ _ g7
      omega
    · rw [tsz_nd] at ht
      have := PT_le k b (by omega) _ _ g4
      have := PN_n a g2
      omega
    · rw [tsz_nd] at ht
      have := PT_le k b (by omega) _ _ g5
      have := PH_lt g4
      omega
/-- the class's state behind each part of a text: orders, labels and locals, handler, what is kept -/
abbrev wS : Type := xSt × yS × Int × Mem
def xTo (cd : Nat) : xT → wS → wS
  | .tag k (.nest _ (.append a b)) => fun c => match k with
    | 41 => xTo cd b c
    | 42 => xTo cd b c
    | 43 => xTo cd b c
    | 44 => xTo cd b (xPr cd c.2.2.2 a c.1 c.2.1)
    | _ => c
  | _ => fun c => c
def MH (cd : Nat) (m : Mem) (e : Int) : Prop := m 68 2 = (cd : Int) ∧ m 51 5 ≤ 3001 ∧ m 57 4 ≤ 1510 ∧ m 57 7 ≤ 300 ∧ e < m 51 5
/-- what making leaves as it was -/
def Kp (m m' : Mem) : Prop := (∀ a k, a < 83 → a ≠ 68 → m' a k = m a k) ∧ m' 68 2 = m 68 2
theorem Kp_rf {m : Mem} : Kp m m := ⟨fun _ _ _ _ => rfl, rfl⟩
theorem Kp_tr {m m1 m2 : Mem} (h1 : Kp m m1) (h2 : Kp m1 m2) : Kp m m2 := ⟨fun a k g1 g2 => (h2.1 a k g1 g2).trans (h1.1 a k g1 g2), h2.2.trans h1.2⟩
theorem Kp_kd {m m' : Mem} (h : Kp m m') : kd m' = kd m := by
  funext p
  unfold kd
  rw [h.1 51 5 (by decide) (by decide), h.1 53 _ (by decide) (by decide)]
theorem Kp_55 {m m' : Mem} (h : Kp m m') : (fun i => m' 55 i) = (fun i => m 55 i) := by
  funext i
  exact h.1 55 i (by decide) (by decide)
theorem Kp_MH {cd : Nat} {m m' : Mem} {e : Int} (h : Kp m m') (g : MH cd m e) : MH cd m' e := by
  obtain ⟨g1, g2, g3, g4, g5⟩ := g
  exact ⟨h.2.trans g1, by rw [h.1 51 5 (by decide) (by decide)]; exact g2, by rw [h.1 57 4 (by decide) (by decide)]; exact g3, by rw [h.1 57 7 (by decide) (by decide)]; exact g4, by rw [h.1 51 5 (by decide) (by decide)]; exact g5⟩
theorem Kp_p8 {cd : Nat} (hc : cd = 83 ∨ cd = 93) {told first ml mx : Int} {m : Mem} : Kp m (p8 cd told first ml mx m) := by
  have k1 : ∀ (m : Mem), Kp m (kpP cd told first ml mx m) := fun m => by
    unfold kpP
    split
    · exact Kp_rf
    · refine ⟨fun a k h1 h2 => ?_, ?_⟩
      · simp only [put_ss]
        have n5 : ¬ a = cd + 5 := by omega
        have n6 : ¬ a = cd + 6 := by omega
        have n7 : ¬ a = cd + 7 := by omega
        have n8 : ¬ a = cd + 8 := by omega
        simp only [n5, n6, n7, n8, if_false]
      · simp only [put_ss]
        have n5 : ¬ 68 = cd + 5 := by omega
        have n6 : ¬ 68 = cd + 6 := by omega
        have n7 : ¬ 68 = cd + 7 := by omega
        have n8 : ¬ 68 = cd + 8 := by omega
        simp only [n5, n6, n7, n8, if_false]
  have k2 : ∀ (m : Mem) (k : Nat) (v : Int), k ≠ 2 → Kp m (put m 68 k v) := fun m k v hk => ⟨fun a k' _ h2 => by rw [put_ss, if_neg h2], by rw [put_ss, if_pos rfl, if_neg (fun z => hk z.symm)]⟩
  unfold p8
  refine Kp_tr ?_ (k2 _ 4 _ (by decide))
  split
  · exact Kp_tr (k2 m 15 1 (by decide)) (k1 _)
  · exact k1 _
theorem Kp_xPr {cd : Nat} (hc : cd = 83 ∨ cd = 93) {m : Mem} {K V : Int → Int} {a : xT} {p q : Int} {s : xSt} {y : yS} (h : PH K V a p q) : Kp m (xPr cd m a s y).2.2.2 := by
  obtain ⟨i, pa, i2, ra, bk, rfl, -⟩ := inv_H h
  exact Kp_p8 hc
section Make
variable {F cd : Nat} {m : Mem} {e : Int}
theorem L_85s (hc : cd = 83 ∨ cd = 93) (hN : m 51 5 ≤ 3001) : ∀ (k : Nat) (L : Nat) (xs : Nat → Int32) (d n : Nat) (p left H z : Int) (s : xSt) (y : yS), 0 ≤ p → p + k ≤ 3001 → (k : Int) ≤ left → left ≤ 3001 → (∀ i, p ≤ i → i < p + k → kd m i ≠ 0 ∧ kd m i ≠ 6) → LF F (d + 13) la_85_0 lb_85_0 lc_85_0 (n + k) ([(2, 68), (2, z), (0, left)], Hp L xs (mv cd p s (sww H y m))) = LF F (d + 13) la_85_0 lb_85_0 lc_85_0 n ([(2, 68), (2, z), (0, left - k)], Hp L xs (mv cd (p + k) s (sww H y m))) := by
  intro k
  induction k with
  | zero =>
    intro L xs d n p left H z s y h0 h1 h2 h3 h
    rw [show left - ((0 : Nat) : Int) = left by omega, show p + ((0 : Nat) : Int) = p by omega]
    rfl
  | succ k ih =>
    intro L xs d n p left H z s y h0 h1 h2 h3 h
    have n0 : ¬ kd m p = 0 := (h p (by omega) (by omega)).1
    have n6 : ¬ kd m p = 6 := (h p (by omega) (by omega)).2
    have hleft : 0 < left := by omega
    have e1 : left + -1 = left - 1 := by omega
    have IH := ih L xs d n (p + 1) (left - 1) H z s y (by omega) (by omega) (by omega) (by omega) (fun i g1 g2 => h i (by omega) (by omega))
    rw [show left - 1 - (k : Int) = left - ((k + 1 : Nat) : Int) by omega, show p + 1 + (k : Int) = p + ((k + 1 : Nat) : Int) by omega] at IH
    rw [← IH, show n + (k + 1) = n + k + 1 by omega, lf_s]
    simp (disch := first | omega | assumption) only [ea_85_0, eb_85_0, ec_85_0, l1_i, l1_1, l1_0, l2_0, l2_1, l2_2, l2_3, l3_0, w2_0, w2_1, w2_2, w2_3, d1_0, d1_1, d1_2, d1_3, d2_i, d2_1, d2_0, ev_0, ev_1, ev_16, ev_17, ev_18, ev_2, ev_3, ev_4, ev_5, ev_6, ev_7, ev_8, ev_9, ev_20, ev_21, ev_22, ev_23, ev_24, ev_25, ev_27, ev_28, ev_30, ev_31, ev_32, ev_33, ev_34, ev_35, ev_36, ev_37, ev_38, ev_39, ev_40, ev_41, ev_42, ev_43, ev_45, ev_46, ev_47, ev_48, ev_49, ev_50, ev_51, ev_52, ev_54, ev_55, ev_57, ev_58, ev_59, k2_0, k2_1, k2_2, k3a, k3b, k4, o1_s, xbin_0, xbin_1, xbin_2, xbin_3, xbin_4, xbin_5, xbin_6, xbin_7, xbin_8, xbin_9, xbin_11, xbin_12, xun_0, xun_1, xun_2, xun_3, xun_4, xun_5, k6a, k8, k8b, k9, k20, k20b_0, k20b_1, k20b_2, k20b_3, k20b_4, k20b_5, k21_0, k21_1, k21_2, k21_3, k21_4, k21_5, k23, k24, k25, k27, k28, k40, nz_1, nz_2, nz_3, k31_0, k31_1, k31_2, k31_3, k32u, k33, k34, k35, k35b, k36, k37, k38, k47, k49, k49b_0, k49b_1, k49b_2, k49b_3, k50_0, k50_s, k51_0, k51_s, k55, k58, k58b, rk_0, rk_1, rk_2, rk_9, rk_3, rk_4, rk_5, sw_n, sw_c, xtb_n, xtb_c, lset_0, lset_2, lset_1, lkm_0, lkm_2, lkm_9, lkm_1, lkm_n, if_some1, c_10, c_01, c_x0, c_1x, c_n0, c_nn, List.getElem?_cons_zero, List.getElem?_cons_succ, List.set_cons_zero, List.set_cons_succ, List.length_cons, List.length_nil, Int.reduceToNat, Nat.reduceDiv, Nat.reduceMod, Nat.reduceSub, Nat.reduceAdd, Nat.reduceMul, Nat.reduceLT, Nat.reduceLeDiff, Nat.reduceEqDiff, Int.reduceMod, Int.reduceSub, Int.reduceNeg, Int.reduceAdd, Int.reduceMul, Int.reduceLT, Int.reduceLE, Int.reduceEq, put_ss, if_true, if_false, ite_true, ite_false, reduceIte, eq_self, and_true, true_and, and_false, false_and, or_true, true_or, or_false, false_or, not_true_eq_false, not_false_eq_true, k5_68_3, k34_68_3, k54_68_3, k54b_68_3_0, k5_68_0, k5_51_5, k34_51_5, k54_51_5, k54b_51_5_0, s_86, mv_p, mp_p, w32_of, n0, n6, hleft, e1]
theorem L_85 (hc : cd = 83 ∨ cd = 93) (hF : 100000 ≤ F) : ∀ (k : Nat) (t : xT), tsz t < k → ∀ (p : Int) (m : Mem), MH cd m e → PT (kd m) (VF (fun i => m 55 i)) t p e → 0 ≤ p → ∀ (L : Nat) (xs : Nat → Int32) (d : Nat) (H : Int) (s : xSt) (y : yS) (left z : Int) (n : Nat), 500 ≤ d → y.1.length ≤ 3000 → e < left + p → left ≤ 3001 → e - p < n → (xTo cd t (s, y, H, m)).2.1.1.length ≤ 3000 ∧ Kp m (xTo cd t (s, y, H, m)).2.2.2 ∧ ∃ left', LF F (d + 13) la_85_0 lb_85_0 lc_85_0 n ([(2, 68), (2, z), (0, left)], Hp L xs (mv cd p s (sww H y m))) = some (0, [], ([(2, 68), (2, z), (0, left')], Hp L xs (mv cd e (xTo cd t (s, y, H, m)).1 (sww (xTo cd t (s, y, H, m)).2.2.1 (xTo cd t (s, y, H, m)).2.1 (xTo cd t (s, y, H, m)).2.2.2)))) := by
  intro k
  induction k with
  | zero => intro t ht; exact absurd ht (Nat.not_lt_zero _)
  | succ k ih =>
    intro t ht p m hM h h0 L xs d H s y left z n hd hyl hl1 hl2 hn
    obtain ⟨h2, hN, h4, h7, heN⟩ := id hM
    rcases inv_T h with ⟨i, a, b, rfl, g1, g2⟩ | ⟨a, b, rfl, g1, g2, g3, g4⟩ | ⟨a, b, rfl, g1, g2, g3, g4, g5, g6, g7⟩ | ⟨a, b, rfl, g1, r, g2, g3, g4⟩ | ⟨a, b, rfl, g1, g2, g3, r, g4, g5⟩
    · subst g1
      refine ⟨hyl, Kp_rf, left, ?_⟩
      obtain ⟨n, rfl⟩ : ∃ n', n = n' + 1 := ⟨n - 1, by omega⟩
      have hleft : 0 < left := by omega
      have e1 : xTo cd (nd 40 i a b) (s, y, H, m) = (s, y, H, m) := rfl
      rw [e1, lf_s]
      simp (disch := first | omega | assumption) only [ea_85_0, eb_85_0, ec_85_0, l1_i, l1_1, l1_0, l2_0, l2_1, l2_2, l2_3, l3_0, w2_0, w2_1, w2_2, w2_3, d1_0, d1_1, d1_2, d1_3, d2_i, d2_1, d2_0, ev_0, ev_1, ev_16, ev_17, ev_18, ev_2, ev_3, ev_4, ev_5, ev_6, ev_7, ev_8, ev_9, ev_20, ev_21, ev_22, ev_23, ev_24, ev_25, ev_27, ev_28, ev_30, ev_31, ev_32, ev_33, ev_34, ev_35, ev_36, ev_37, ev_38, ev_39, ev_40, ev_41, ev_42, ev_43, ev_45, ev_46, ev_47, ev_48, ev_49, ev_50, ev_51, ev_52, ev_54, ev_55, ev_57, ev_58, ev_59, k2_0, k2_1, k2_2, k3a, k3b, k4, o1_s, xbin_0, xbin_1, xbin_2, xbin_3, xbin_4, xbin_5, xbin_6, xbin_7, xbin_8, xbin_9, xbin_11, xbin_12, xun_0, xun_1, xun_2, xun_3, xun_4, xun_5, k6a, k8, k8b, k9, k20, k20b_0, k20b_1, k20b_2, k20b_3, k20b_4, k20b_5, k21_0, k21_1, k21_2, k21_3, k21_4, k21_5, k23, k24, k25, k27, k28, k40, nz_1, nz_2, nz_3, k31_0, k31_1, k31_2, k31_3, k32u, k33, k34, k35, k35b, k36, k37, k38, k47, k49, k49b_0, k49b_1, k49b_2, k49b_3, k50_0, k50_s, k51_0, k51_s, k55, k58, k58b, rk_0, rk_1, rk_2, rk_9, rk_3, rk_4, rk_5, sw_n, sw_c, xtb_n, xtb_c, lset_0, lset_2, lset_1, lkm_0, lkm_2, lkm_9, lkm_1, lkm_n, if_some1, c_10, c_01, c_x0, c_1x, c_n0, c_nn, List.getElem?_cons_zero, List.getElem?_cons_succ, List.set_cons_zero, List.set_cons_succ, List.length_cons, List.length_nil, Int.reduceToNat, Nat.reduceDiv, Nat.reduceMod, Nat.reduceSub, Nat.reduceAdd, Nat.reduceMul, Nat.reduceLT, Nat.reduceLeDiff, Nat.reduceEqDiff, Int.reduceMod, Int.reduceSub, Int.reduceNeg, Int.reduceAdd, Int.reduceMul, Int.reduceLT, Int.reduceLE, Int.reduceEq, put_ss, if_true, if_false, ite_true, ite_false, reduceIte, eq_self, and_true, true_and, and_false, false_and, or_true, true_or, or_false, false_or, not_true_eq_false, not_false_eq_true, k5_68_3, k34_68_3, k54_68_3, k54b_68_3_0, k5_68_0, k5_51_5, k34_51_5, k54_51_5, k54b_51_5_0, s_86, mv_p, mp_p, w32_of, g2, hleft]
    · rw [tsz_nd] at ht
      have l1 := PT_le (tsz b + 1) b (by omega) _ _ g4
      obtain ⟨n, rfl⟩ : ∃ n', n = n' + 3 := ⟨n - 3, by omega⟩
      rw [L_85s hc hN 3 L xs d n p left H z s y h0 (by omega) (by omega) hl2 (fun i h1 h2 => by
        rcases (by omega : i = p ∨ i = p + 1 ∨ i = p + 2) with z | z | z <;> subst z <;> omega)]
      exact ih b (by omega) (p + 3) m hM g4 (by omega) L xs d H s y (left - 3) z n hd hyl (by omega) (by omega) (by omega)
    · rw [tsz_nd] at ht
      have l1 := PT_le (tsz b + 1) b (by omega) _ _ g7
      obtain ⟨n, rfl⟩ : ∃ n', n = n' + 6 := ⟨n - 6, by omega⟩
      rw [L_85s hc hN 6 L xs d n p left H z s y h0 (by omega) (by omega) hl2 (fun i h1 h2 => by
        rcases (by omega : i = p ∨ i = p + 1 ∨ i = p + 2 ∨ i = p + 3 ∨ i = p + 4 ∨ i = p + 5) with z | z | z | z | z | z <;> subst z <;> omega)]
      exact ih b (by omega) (p + 6) m hM g7 (by omega) L xs d H s y (left - 6) z n hd hyl (by omega) (by omega) (by omega)
    · rw [tsz_nd] at ht
      have l1 := PT_le (tsz b + 1) b (by omega) _ _ g4
      have l2 := PN_n a g2
      obtain ⟨j, hj⟩ : ∃ j : Nat, p + j = r + 1 := ⟨(r + 1 - p).toNat, by omega⟩
      obtain ⟨n, rfl⟩ : ∃ n', n = n' + j := ⟨n - j, by omega⟩
      rw [L_85s hc hN j L xs d n p left H z s y h0 (by omega) (by omega) hl2 (fun i h1 h2 => by
        by_cases e1 : i = p
        · subst e1; omega
        by_cases e2 : i = r
        · subst e2; omega
        have := PN_tok (tsz a + 1) a (by omega) _ _ g2 i (by omega) (by omega)
        omega), hj]
      exact ih b (by omega) (r + 1) m hM g4 (by omega) L xs d H s y (left - j) z n hd hyl (by omega) (by omega) (by omega)
    · rw [tsz_nd] at ht
      have l1 := PT_le (tsz b + 1) b (by omega) _ _ g5
      have l2 := PH_lt g4
      obtain ⟨n, rfl⟩ : ∃ n', n = n' + 1 := ⟨n - 1, by omega⟩
      have hleft : 0 < left := by omega
      have e1 : left + -1 = left - 1 := by omega
      obtain ⟨k1, c1⟩ := C_95 hc h2 hN h4 h7 heN hF g2 g3 g4 h0 l1 L xs (d + 1) H s y (by omega) hyl
      have hK := Kp_xPr (cd := cd) hc (m := m) (s := s) (y := y) g4
      have e3 : xTo cd (nd 44 p a b) (s, y, H, m) = xTo cd b (xPr cd m a s y) := rfl
      rw [e3]
      generalize hz : xPr cd m a s y = z1 at *
      obtain ⟨s1, y1, H1, m1⟩ := z1
      simp only at k1 c1 hK
      have c1' : Cx F (d + 13) 95 [68] (Hp L xs (mv cd p s (sww H y m))) = some ([], Hp L xs (mv cd r s1 (sww H1 y1 m1))) := c1
      obtain ⟨k3, k4, left', c3⟩ := ih b (by omega) r m1 (Kp_MH hK hM) (by rw [Kp_kd hK, Kp_55 hK]; exact g5) (by omega) L xs d H1 s1 y1 (left - 1) z n hd k1 (by omega) (by omega) (by omega)
      refine ⟨k3, Kp_tr hK k4, left', ?_⟩
      rw [lf_s]
      simp (disch := first | omega | assumption) only [ea_85_0, eb_85_0, ec_85_0, l1_i, l1_1, l1_0, l2_0, l2_1, l2_2, l2_3, l3_0, w2_0, w2_1, w2_2, w2_3, d1_0, d1_1, d1_2, d1_3, d2_i, d2_1, d2_0, ev_0, ev_1, ev_16, ev_17, ev_18, ev_2, ev_3, ev_4, ev_5, ev_6, ev_7, ev_8, ev_9, ev_20, ev_21, ev_22, ev_23, ev_24, ev_25, ev_27, ev_28, ev_30, ev_31, ev_32, ev_33, ev_34, ev_35, ev_36, ev_37, ev_38, ev_39, ev_40, ev_41, ev_42, ev_43, ev_45, ev_46, ev_47, ev_48, ev_49, ev_50, ev_51, ev_52, ev_54, ev_55, ev_57, ev_58, ev_59, k2_0, k2_1, k2_2, k3a, k3b, k4, o1_s, xbin_0, xbin_1, xbin_2, xbin_3, xbin_4, xbin_5, xbin_6, xbin_7, xbin_8, xbin_9, xbin_11, xbin_12, xun_0, xun_1, xun_2, xun_3, xun_4, xun_5, k6a, k8, k8b, k9, k20, k20b_0, k20b_1, k20b_2, k20b_3, k20b_4, k20b_5, k21_0, k21_1, k21_2, k21_3, k21_4, k21_5, k23, k24, k25, k27, k28, k40, nz_1, nz_2, nz_3, k31_0, k31_1, k31_2, k31_3, k32u, k33, k34, k35, k35b, k36, k37, k38, k47, k49, k49b_0, k49b_1, k49b_2, k49b_3, k50_0, k50_s, k51_0, k51_s, k55, k58, k58b, rk_0, rk_1, rk_2, rk_9, rk_3, rk_4, rk_5, sw_n, sw_c, xtb_n, xtb_c, lset_0, lset_2, lset_1, lkm_0, lkm_2, lkm_9, lkm_1, lkm_n, if_some1, c_10, c_01, c_x0, c_1x, c_n0, c_nn, List.getElem?_cons_zero, List.getElem?_cons_succ, List.set_cons_zero, List.set_cons_succ, List.length_cons, List.length_nil, Int.reduceToNat, Nat.reduceDiv, Nat.reduceMod, Nat.reduceSub, Nat.reduceAdd, Nat.reduceMul, Nat.reduceLT, Nat.reduceLeDiff, Nat.reduceEqDiff, Int.reduceMod, Int.reduceSub, Int.reduceNeg, Int.reduceAdd, Int.reduceMul, Int.reduceLT, Int.reduceLE, Int.reduceEq, put_ss, if_true, if_false, ite_true, ite_false, reduceIte, eq_self, and_true, true_and, and_false, false_and, or_true, true_or, or_false, false_or, not_true_eq_false, not_false_eq_true, k5_68_3, k34_68_3, k54_68_3, k54b_68_3_0, k5_68_0, k5_51_5, k34_51_5, k54_51_5, k54b_51_5_0, s_86, mv_p, mp_p, w32_of, g1, hleft, c1', c3, e1]
end Make
