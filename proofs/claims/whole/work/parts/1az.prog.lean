/-! CLASS AND MODEL, THE SECOND WALK: a whole text -/
/-- how many conditions are told -/
def kT : xT → Int
  | .tag k (.nest _ (.append a b)) => match k with
    | 41 => kT b
    | 42 => kT b
    | 43 => nN a + kT b
    | 44 => kT b
    | _ => 0
  | _ => 0
def E7 (m m' : Mem) (k : Int) : Prop := (∀ j, m' 170 j = m 170 j) ∧ m' 158 24 = m 158 24 + k ∧ m' 158 28 = m 158 28
section Prg
variable {F L d : Nat} {xs : Nat → Int32} {cd : Nat} {v V : Int → Int} {e D : Int} {G : Prop}
theorem L_220b {m : Mem} {p : Int} (hb : m 158 15 = 1) {n : Nat} (hn : 0 < n) : LF F (d + 13) la_220_0 lb_220_0 lc_220_0 n ([(2, 158)], Hp L xs (rv p 0 m)) = some (0, [], ([(2, 158)], Hp L xs (rv p 0 m))) := by
  obtain ⟨n, rfl⟩ : ∃ n', n = n' + 1 := ⟨n - 1, by omega⟩
  rw [lf_s]
  simp (disch := first | omega | assumption) only [ea_220_0, eb_220_0, ec_220_0, ev_0, ev_1, ev_16, ev_17, ev_18, ev_2, ev_3, ev_4, ev_5, ev_6, ev_7, ev_8, ev_9, ev_20, ev_21, ev_22, ev_23, ev_24, ev_25, ev_27, ev_28, ev_30, ev_31, ev_32, ev_33, ev_34, ev_35, ev_36, ev_37, ev_38, ev_39, ev_40, ev_41, ev_42, ev_43, ev_45, ev_46, ev_47, ev_48, ev_49, ev_50, ev_51, ev_52, ev_54, ev_55, ev_57, ev_58, ev_59, k2_0, k2_1, k2_2, k3a, k3b, k4, o1_s, xbin_0, xbin_1, xbin_2, xbin_3, xbin_4, xbin_5, xbin_6, xbin_7, xbin_8, xbin_9, xbin_11, xbin_12, xun_0, xun_1, xun_2, xun_3, xun_4, xun_5, k6a, k8, k8b, k9, k20, k20b_0, k20b_1, k20b_2, k20b_3, k20b_4, k20b_5, k21_0, k21_1, k21_2, k21_3, k21_4, k21_5, k23, k24, k25, k27, k28, k40, nz_1, nz_2, nz_3, k31_0, k31_1, k31_2, k31_3, k32u, k33, k34, k35, k35b, k36, k37, k38, k47, k49, k49b_0, k49b_1, k49b_2, k49b_3, k50_0, k50_s, k51_0, k51_s, k55, k58, k58b, rk_0, rk_1, rk_2, rk_9, rk_3, rk_4, rk_5, sw_n, sw_c, xtb_n, xtb_c, lset_0, lset_2, lset_1, lkm_0, lkm_2, lkm_9, lkm_1, lkm_n, if_some1, c_10, c_01, c_x0, c_1x, c_n0, c_nn, List.getElem?_cons_zero, List.getElem?_cons_succ, List.set_cons_zero, List.set_cons_succ, List.length_cons, List.length_nil, Int.reduceToNat, Nat.reduceDiv, Nat.reduceMod, Nat.reduceSub, Nat.reduceAdd, Nat.reduceMul, Nat.reduceLT, Nat.reduceLeDiff, Nat.reduceEqDiff, Int.reduceMod, Int.reduceSub, Int.reduceNeg, Int.reduceAdd, Int.reduceMul, Int.reduceLT, Int.reduceLE, Int.reduceEq, put_ss, if_true, if_false, ite_true, ite_false, reduceIte, eq_self, and_true, true_and, and_false, false_and, or_true, true_or, or_false, false_or, not_true_eq_false, not_false_eq_true, k5_158_14, k34_158_14, k34i_158_14, k5_158_15, k34_158_15, k34i_158_15, k5_158_13, k34_158_13, k54_158_13, k54b_158_13_0, k54b_158_13_1, k5_158_5, k6_161, k35_161, n_161, k5_158_7, k6_163, k35_163, n_163, k5_158_12, k34_158_12, k54_158_12, k54b_158_12_0, rv_t, rv_d, rv_x, rv_y, rp_t, rp_d, rp_x, rp_y, w32_of, l1_i, l1_1, l1_0, l2_0, l2_1, l2_2, l2_3, l3_0, w2_0, w2_1, w2_2, w2_3, d1_0, d1_1, d1_2, d1_3, d2_i, d2_1, d2_0, hb]
theorem Br_tell {mc m m' : Mem} {s : xSt} {p q j : Int} (S : SE mc m e) (h1 : m' 158 15 = 1) (h2 : m' 158 9 = 2) (h3 : m' 158 10 = plT m j) (hj0 : 0 ≤ j) (hp : p ≤ j) (hq : j < q) (hqe : q ≤ e) (hs : s.2.2.2.1 = mc 54 j.toNat) : Br mc m' s p q := ⟨h1, h2, j, hp, hq, by rw [h3]; exact (S.pl j hj0 (by omega)).1.symm, hs⟩
theorem Br_Kp {mc mc' m : Mem} {s : xSt} {p q : Int} (K : Kp mc mc') (B : Br mc' m s p q) : Br mc m s p q := by
  obtain ⟨b1, b2, j, b3, b4, b5, b6⟩ := B
  rw [K.1 54 _ (by decide) (by decide)] at b5 b6
  exact ⟨b1, b2, j, b3, b4, b5, b6⟩
theorem Pg_ok (hF : 100000 ≤ F) (hc : cd = 83 ∨ cd = 93) (hd : 700 ≤ d) : ∀ (k : Nat) (t : xT), tsz t < k → ∀ (p : Int) (c : wS) (l : List Int) (rl : xLL) (ws : List Int) (m : Mem) (σ : Int → Int) (n : Nat), PT (kd c.2.2.2) V t p e → 0 ≤ p → TT cd v e t p c l rl ws m σ D G → e - p + 1 < n → ∃ p' m', LF F (d + 13) la_220_0 lb_220_0 lc_220_0 n ([(2, 158)], Hp L xs (rv p 0 m)) = some (0, [], ([(2, 158)], Hp L xs (rv p' 0 m'))) ∧ FT m m' ∧ ((∃ σ', TT cd v e (nd 40 0 xz xz) e (xTo cd t c) (l ++ cT v t) (rl ++ rT t) (ws ++ vwT v t) m' σ' D G ∧ E7 m m' (kT t)) ∨ Br c.2.2.2 m' (xTo cd t c).1 p e) := by
  intro k
  induction k with
  | zero => intro t ht; exact absurd ht (Nat.not_lt_zero _)
  | succ k ih =>
    intro t ht p c l rl ws m σ n h hp T hn
    have S := T.se
    have el := S.el
    have hle0 := PT_le (tsz t + 1) t (by omega) _ _ h
    obtain ⟨n, rfl⟩ : ∃ n', n = n' + 1 := ⟨n - 1, by omega⟩
    have hb := T.b0
    have W : WT m := ⟨S.tp.1, S.tp.2, trivial, trivial, S.fu, hb⟩
    have hTp := S.tr p hp (by omega)
    have t29 := T.t29
    have v21 := T.v21
    have c24 := T.c24
    have nf0 := T.sr.rx.nf
    have hDd := T.dd
    rcases inv_T h with ⟨i, a, b, rfl, g1, g2⟩ | ⟨a, b, rfl, g1, g2, g3, g4⟩ | ⟨a, b, rfl, g1, g2, g3, g4, g5, g6, g7⟩ | ⟨a, b, rfl, g1, r, g2, g3, g4⟩ | ⟨a, b, rfl, g1, g2, g3, r, g4, g5⟩
    · subst g1
      have kz : m 161 p.toNat = 0 := by rw [g2] at hTp; unfold TR at hTp; omega
      refine ⟨p, m, ?_, FT_rf, Or.inl ⟨σ, ?_, ⟨fun _ => rfl, by show m 158 24 = m 158 24 + 0; omega, rfl⟩⟩⟩
      · rw [lf_s]
        simp (disch := first | omega | assumption) only [ea_220_0, eb_220_0, ec_220_0, ev_0, ev_1, ev_16, ev_17, ev_18, ev_2, ev_3, ev_4, ev_5, ev_6, ev_7, ev_8, ev_9, ev_20, ev_21, ev_22, ev_23, ev_24, ev_25, ev_27, ev_28, ev_30, ev_31, ev_32, ev_33, ev_34, ev_35, ev_36, ev_37, ev_38, ev_39, ev_40, ev_41, ev_42, ev_43, ev_45, ev_46, ev_47, ev_48, ev_49, ev_50, ev_51, ev_52, ev_54, ev_55, ev_57, ev_58, ev_59, k2_0, k2_1, k2_2, k3a, k3b, k4, o1_s, xbin_0, xbin_1, xbin_2, xbin_3, xbin_4, xbin_5, xbin_6, xbin_7, xbin_8, xbin_9, xbin_11, xbin_12, xun_0, xun_1, xun_2, xun_3, xun_4, xun_5, k6a, k8, k8b, k9, k20, k20b_0, k20b_1, k20b_2, k20b_3, k20b_4, k20b_5, k21_0, k21_1, k21_2, k21_3, k21_4, k21_5, k23, k24, k25, k27, k28, k40, nz_1, nz_2, nz_3, k31_0, k31_1, k31_2, k31_3, k32u, k33, k34, k35, k35b, k36, k37, k38, k47, k49, k49b_0, k49b_1, k49b_2, k49b_3, k50_0, k50_s, k51_0, k51_s, k55, k58, k58b, rk_0, rk_1, rk_2, rk_9, rk_3, rk_4, rk_5, sw_n, sw_c, xtb_n, xtb_c, lset_0, lset_2, lset_1, lkm_0, lkm_2, lkm_9, lkm_1, lkm_n, if_some1, c_10, c_01, c_x0, c_1x, c_n0, c_nn, List.getElem?_cons_zero, List.getElem?_cons_succ, List.set_cons_zero, List.set_cons_succ, List.length_cons, List.length_nil, Int.reduceToNat, Nat.reduceDiv, Nat.reduceMod, Nat.reduceSub, Nat.reduceAdd, Nat.reduceMul, Nat.reduceLT, Nat.reduceLeDiff, Nat.reduceEqDiff, Int.reduceMod, Int.reduceSub, Int.reduceNeg, Int.reduceAdd, Int.reduceMul, Int.reduceLT, Int.reduceLE, Int.reduceEq, put_ss, if_true, if_false, ite_true, ite_false, reduceIte, eq_self, and_true, true_and, and_false, false_and, or_true, true_or, or_false, false_or, not_true_eq_false, not_false_eq_true, k5_158_14, k34_158_14, k34i_158_14, k5_158_15, k34_158_15, k34i_158_15, k5_158_13, k34_158_13, k54_158_13, k54b_158_13_0, k54b_158_13_1, k5_158_5, k6_161, k35_161, n_161, k5_158_7, k6_163, k35_163, n_163, k5_158_12, k34_158_12, k54_158_12, k54b_158_12_0, rv_t, rv_d, rv_x, rv_y, rp_t, rp_d, rp_x, rp_y, w32_of, l1_i, l1_1, l1_0, l2_0, l2_1, l2_2, l2_3, l3_0, w2_0, w2_1, w2_2, w2_3, d1_0, d1_1, d1_2, d1_3, d2_i, d2_1, d2_0, hb, kz]
      · show TT cd v p (nd 40 0 xz xz) p c (l ++ []) (rl ++ []) (ws ++ []) m σ D G
        rw [List.append_nil, List.append_nil, List.append_nil]
        exact T
    · rw [tsz_nd] at ht
      have hle := PT_le (tsz b + 1) b (by omega) _ _ g4
      rw [g1] at hTp
      have kz : m 161 p.toNat = 3 := by unfold TR at hTp; omega
      have y_p := fun (s : Int) (D : Nat) (hs : 0 ≤ s ∧ s ≤ 12) => N_210 (L := L) (xs := xs) (F := F) (d := D) (dep := 0) (a1 := s) (m := m) hb (by omega) hTp hs
      have c1 := V_41 (F := F) (L := L) (xs := xs) (d := d + 3) (dep := 0) hF S W (by omega) (by omega) hp (by omega) g1 g2 g3
      have htop := tb_top (l := l) (rest := cT v b) (c := v (p + 1)) T.tb t29.1
      rw [← T.vv (p + 1)] at htop
      have eX : xTo cd (nd 41 p a b) c = xTo cd b c := rfl
      rw [eX]
      by_cases hg : v (p + 1) ∈ l
      · have hgk : ¬ topK m (vlT m (p + 1)) = m 158 29 := fun z => by have := htop.1 z; rw [T.vv] at this; exact this hg
        rw [if_neg hgk] at c1
        have et : ttM (put m 168 (m 158 21).toNat 1) (p + 1) = put (bkF (put m 168 (m 158 21).toNat 1) (plT m (p + 1))) 158 29 (m 158 29 + 1) := if_neg hgk
        rw [et] at c1
        generalize hm' : put (put (bkF (put m 168 (m 158 21).toNat 1) (plT m (p + 1))) 158 29 (m 158 29 + 1)) 158 21 (m 158 21 + 1) = m' at *
        have b1 : m' 158 15 = 1 := by rw [← hm']; rfl
        have c2 := L_220b (F := F) (L := L) (xs := xs) (d := d) (p := p + 2) b1 (n := n) (by omega)
        have ed : dT v (nd 41 p a b) l = p + 1 := if_pos hg
        rw [ed, if_neg (by omega)] at hDd
        refine ⟨p + 2, m', ?_, by rw [← hm']; exact FT_put (FT_put (FT_tr (FT_put FT_rf rfl) (FT_FS FS_bkF (fun z => z))) rfl) rfl, Or.inr (Br_tell (j := p + 1) S b1 (by rw [← hm']; rfl) (by rw [← hm']; rfl) (by omega) (by omega) (by omega) (by omega) ?_)⟩
        · rw [lf_s]
          simp (disch := first | omega | assumption) only [ea_220_0, eb_220_0, ec_220_0, ev_0, ev_1, ev_16, ev_17, ev_18, ev_2, ev_3, ev_4, ev_5, ev_6, ev_7, ev_8, ev_9, ev_20, ev_21, ev_22, ev_23, ev_24, ev_25, ev_27, ev_28, ev_30, ev_31, ev_32, ev_33, ev_34, ev_35, ev_36, ev_37, ev_38, ev_39, ev_40, ev_41, ev_42, ev_43, ev_45, ev_46, ev_47, ev_48, ev_49, ev_50, ev_51, ev_52, ev_54, ev_55, ev_57, ev_58, ev_59, k2_0, k2_1, k2_2, k3a, k3b, k4, o1_s, xbin_0, xbin_1, xbin_2, xbin_3, xbin_4, xbin_5, xbin_6, xbin_7, xbin_8, xbin_9, xbin_11, xbin_12, xun_0, xun_1, xun_2, xun_3, xun_4, xun_5, k6a, k8, k8b, k9, k20, k20b_0, k20b_1, k20b_2, k20b_3, k20b_4, k20b_5, k21_0, k21_1, k21_2, k21_3, k21_4, k21_5, k23, k24, k25, k27, k28, k40, nz_1, nz_2, nz_3, k31_0, k31_1, k31_2, k31_3, k32u, k33, k34, k35, k35b, k36, k37, k38, k47, k49, k49b_0, k49b_1, k49b_2, k49b_3, k50_0, k50_s, k51_0, k51_s, k55, k58, k58b, rk_0, rk_1, rk_2, rk_9, rk_3, rk_4, rk_5, sw_n, sw_c, xtb_n, xtb_c, lset_0, lset_2, lset_1, lkm_0, lkm_2, lkm_9, lkm_1, lkm_n, if_some1, c_10, c_01, c_x0, c_1x, c_n0, c_nn, List.getElem?_cons_zero, List.getElem?_cons_succ, List.set_cons_zero, List.set_cons_succ, List.length_cons, List.length_nil, Int.reduceToNat, Nat.reduceDiv, Nat.reduceMod, Nat.reduceSub, Nat.reduceAdd, Nat.reduceMul, Nat.reduceLT, Nat.reduceLeDiff, Nat.reduceEqDiff, Int.reduceMod, Int.reduceSub, Int.reduceNeg, Int.reduceAdd, Int.reduceMul, Int.reduceLT, Int.reduceLE, Int.reduceEq, put_ss, if_true, if_false, ite_true, ite_false, reduceIte, eq_self, and_true, true_and, and_false, false_and, or_true, true_or, or_false, false_or, not_true_eq_false, not_false_eq_true, k5_158_14, k34_158_14, k34i_158_14, k5_158_15, k34_158_15, k34i_158_15, k5_158_13, k34_158_13, k54_158_13, k54b_158_13_0, k54b_158_13_1, k5_158_5, k6_161, k35_161, n_161, k5_158_7, k6_163, k35_163, n_163, k5_158_12, k34_158_12, k54_158_12, k54b_158_12_0, rv_t, rv_d, rv_x, rv_y, rp_t, rp_d, rp_x, rp_y, w32_of, l1_i, l1_1, l1_0, l2_0, l2_1, l2_2, l2_3, l3_0, w2_0, w2_1, w2_2, w2_3, d1_0, d1_1, d1_2, d1_3, d2_i, d2_1, d2_0, hb, kz, y_p, c1, c2]
        · rw [← hDd]
          exact xTo_nf (V := V) (e := e) hc (tsz b + 1) b (by omega) (p + 3) c g4 (fun j j1 j2 => by rw [hDd]; exact S.mo _ _ (by omega) (by omega) (by omega)) nf0
      · have hgk : topK m (vlT m (p + 1)) = m 158 29 := htop.2 (by rw [T.vv]; exact hg)
        rw [if_pos hgk] at c1
        have et : ttM (put m 168 (m 158 21).toNat 1) (p + 1) = put (put m 168 (m 158 21).toNat 1) 158 29 (m 158 29 + 1) := if_pos hgk
        rw [et] at c1
        generalize hm' : put (put (put m 168 (m 158 21).toNat 1) 158 29 (m 158 29 + 1)) 158 21 (m 158 21 + 1) = m' at *
        have f : ∀ a k, a ≠ 168 → ¬ (a = 158 ∧ (k = 21 ∨ k = 24 ∨ k = 29)) → m' a k = m a k := fun a k n1 n2 => by
          rw [← hm']
          simp only [put_ss]
          by_cases h158 : a = 158
          · have k1 : ¬ k = 21 := fun z => n2 ⟨h158, by omega⟩
            have k2 : ¬ k = 29 := fun z => n2 ⟨h158, by omega⟩
            simp only [k1, k2, n1, if_false, ite_self]
          · simp only [h158, n1, if_false]
        have w21 : m' 158 21 = m 158 21 + 1 := by rw [← hm']; rfl
        have w29 : m' 158 29 = m 158 29 + 1 := by rw [← hm']; rfl
        have w24 : m' 158 24 = m 158 24 := by rw [← hm']; rfl
        have w168 : ∀ k, m' 168 k = if k = (m 158 21).toNat then 1 else m 168 k := fun k => by rw [← hm']; rfl
        have T1 : TT cd v e b (p + 3) c (l ++ [v (p + 1)]) rl (ws ++ [1]) m' σ D G := by
          refine TT_fr T f (by omega) (by rw [List.append_assoc]; rfl) (by rw [List.length_append, List.length_singleton]; omega) (by omega) (by omega) rfl (fun z => z) ?_ ?_
          · exact (if_neg hg : dT v (nd 41 p a b) l = _).symm
          · obtain ⟨q1, q2⟩ := T.vw
            refine ⟨by rw [List.length_append, List.length_singleton]; omega, fun k hk => ?_⟩
            rw [List.length_append, List.length_singleton] at hk
            rw [w168, List.getD_eq_getElem?_getD]
            by_cases hk2 : k < ws.length
            · rw [if_neg (by omega), List.getElem?_append_left hk2, ← List.getD_eq_getElem?_getD]
              exact q2 k hk2
            · have : k = ws.length := by omega
              subst this
              rw [if_pos (by omega), List.getElem?_append_right (Nat.le_refl _), Nat.sub_self]
              rfl
        obtain ⟨p2, m2, c2, F2, Y⟩ := ih b (by omega) (p + 3) c _ _ _ m' σ n g4 (by omega) T1 (by omega)
        refine ⟨p2, m2, ?_, FT_tr (by rw [← hm']; exact FT_put (FT_put (FT_put FT_rf rfl) rfl) rfl) F2, ?_⟩
        · rw [lf_s]
          simp (disch := first | omega | assumption) only [ea_220_0, eb_220_0, ec_220_0, ev_0, ev_1, ev_16, ev_17, ev_18, ev_2, ev_3, ev_4, ev_5, ev_6, ev_7, ev_8, ev_9, ev_20, ev_21, ev_22, ev_23, ev_24, ev_25, ev_27, ev_28, ev_30, ev_31, ev_32, ev_33, ev_34, ev_35, ev_36, ev_37, ev_38, ev_39, ev_40, ev_41, ev_42, ev_43, ev_45, ev_46, ev_47, ev_48, ev_49, ev_50, ev_51, ev_52, ev_54, ev_55, ev_57, ev_58, ev_59, k2_0, k2_1, k2_2, k3a, k3b, k4, o1_s, xbin_0, xbin_1, xbin_2, xbin_3, xbin_4, xbin_5, xbin_6, xbin_7, xbin_8, xbin_9, xbin_11, xbin_12, xun_0, xun_1, xun_2, xun_3, xun_4, xun_5, k6a, k8, k8b, k9, k20, k20b_0, k20b_1, k20b_2, k20b_3, k20b_4, k20b_5, k21_0, k21_1, k21_2, k21_3, k21_4, k21_5, k23, k24, k25, k27, k28, k40, nz_1, nz_2, nz_3, k31_0, k31_1, k31_2, k31_3, k32u, k33, k34, k35, k35b, k36, k37, k38, k47, k49, k49b_0, k49b_1, k49b_2, k49b_3, k50_0, k50_s, k51_0, k51_s, k55, k58, k58b, rk_0, rk_1, rk_2, rk_9, rk_3, rk_4, rk_5, sw_n, sw_c, xtb_n, xtb_c, lset_0, lset_2, lset_1, lkm_0, lkm_2, lkm_9, lkm_1, lkm_n, if_some1, c_10, c_01, c_x0, c_1x, c_n0, c_nn, List.getElem?_cons_zero, List.getElem?_cons_succ, List.set_cons_zero, List.set_cons_succ, List.length_cons, List.length_nil, Int.reduceToNat, Nat.reduceDiv, Nat.reduceMod, Nat.reduceSub, Nat.reduceAdd, Nat.reduceMul, Nat.reduceLT, Nat.reduceLeDiff, Nat.reduceEqDiff, Int.reduceMod, Int.reduceSub, Int.reduceNeg, Int.reduceAdd, Int.reduceMul, Int.reduceLT, Int.reduceLE, Int.reduceEq, put_ss, if_true, if_false, ite_true, ite_false, reduceIte, eq_self, and_true, true_and, and_false, false_and, or_true, true_or, or_false, false_or, not_true_eq_false, not_false_eq_true, k5_158_14, k34_158_14, k34i_158_14, k5_158_15, k34_158_15, k34i_158_15, k5_158_13, k34_158_13, k54_158_13, k54b_158_13_0, k54b_158_13_1, k5_158_5, k6_161, k35_161, n_161, k5_158_7, k6_163, k35_163, n_163, k5_158_12, k34_158_12, k54_158_12, k54b_158_12_0, rv_t, rv_d, rv_x, rv_y, rp_t, rp_d, rp_x, rp_y, w32_of, l1_i, l1_1, l1_0, l2_0, l2_1, l2_2, l2_3, l3_0, w2_0, w2_1, w2_2, w2_3, d1_0, d1_1, d1_2, d1_3, d2_i, d2_1, d2_0, hb, kz, y_p, c1, c2]
        · rcases Y with ⟨σ2, Y, X1, X2, X3⟩ | Y
          · left
            refine ⟨σ2, ?_, ⟨fun j => (X1 j).trans (f 170 j (by decide) (by omega)), by show m2 158 24 = m 158 24 + kT b; omega, X3.trans (f 158 28 (by decide) (by omega))⟩⟩
            have e1 : l ++ cT v (nd 41 p a b) = l ++ [v (p + 1)] ++ cT v b := by rw [List.append_assoc]; rfl
            have e2 : ws ++ vwT v (nd 41 p a b) = ws ++ [1] ++ vwT v b := by rw [List.append_assoc]; rfl
            rw [e1, e2]
            exact Y
          · exact Or.inr (Br_le Y (by omega) (Int.le_refl _))
    · rw [tsz_nd] at ht
      have hle := PT_le (tsz b + 1) b (by omega) _ _ g7
      rw [g1] at hTp
      have kz : m 161 p.toNat = 3 := by unfold TR at hTp; omega
      have y_p := fun (s : Int) (D : Nat) (hs : 0 ≤ s ∧ s ≤ 12) => N_210 (L := L) (xs := xs) (F := F) (d := D) (dep := 0) (a1 := s) (m := m) hb (by omega) hTp hs
      have c1 := V_42 (F := F) (L := L) (xs := xs) (d := d + 3) (dep := 0) hF S W (by omega) (by omega) T.lg.1 (fun z => T.lg.2 (Or.inl (by rw [T.vv] at z; exact z))) hp (by omega) g1 g2 g3 g4 g5 g6
      have htop := tb_top (l := l) (rest := cT v b) (c := v (p + 1)) T.tb t29.1
      rw [← T.vv (p + 1)] at htop
      have eX : xTo cd (nd 42 p a b) c = xTo cd b c := rfl
      rw [eX]
      have ev3 : vlT m (p + 3) = v (p + 3) := T.vv _
      rw [ev3] at c1
      by_cases hg : v (p + 1) ∈ l
      · have hgk : ¬ topK m (vlT m (p + 1)) = m 158 29 := fun z => by have := htop.1 z; rw [T.vv] at this; exact this hg
        rw [if_neg hgk] at c1
        have et : ttM (put m 168 (m 158 21).toNat (v (p + 3))) (p + 1) = put (bkF (put m 168 (m 158 21).toNat (v (p + 3))) (plT m (p + 1))) 158 29 (m 158 29 + 1) := if_neg hgk
        rw [et] at c1
        generalize hm' : put (put (bkF (put m 168 (m 158 21).toNat (v (p + 3))) (plT m (p + 1))) 158 29 (m 158 29 + 1)) 158 21 (m 158 21 + 1) = m' at *
        have b1 : m' 158 15 = 1 := by rw [← hm']; rfl
        have c2 := L_220b (F := F) (L := L) (xs := xs) (d := d) (p := p + 5) b1 (n := n) (by omega)
        have ed : dT v (nd 42 p a b) l = p + 1 := if_pos hg
        rw [ed, if_neg (by omega)] at hDd
        refine ⟨p + 5, m', ?_, by rw [← hm']; exact FT_put (FT_put (FT_tr (FT_put FT_rf rfl) (FT_FS FS_bkF (fun z => z))) rfl) rfl, Or.inr (Br_tell (j := p + 1) S b1 (by rw [← hm']; rfl) (by rw [← hm']; rfl) (by omega) (by omega) (by omega) (by omega) ?_)⟩
        · rw [lf_s]
          simp (disch := first | omega | assumption) only [ea_220_0, eb_220_0, ec_220_0, ev_0, ev_1, ev_16, ev_17, ev_18, ev_2, ev_3, ev_4, ev_5, ev_6, ev_7, ev_8, ev_9, ev_20, ev_21, ev_22, ev_23, ev_24, ev_25, ev_27, ev_28, ev_30, ev_31, ev_32, ev_33, ev_34, ev_35, ev_36, ev_37, ev_38, ev_39, ev_40, ev_41, ev_42, ev_43, ev_45, ev_46, ev_47, ev_48, ev_49, ev_50, ev_51, ev_52, ev_54, ev_55, ev_57, ev_58, ev_59, k2_0, k2_1, k2_2, k3a, k3b, k4, o1_s, xbin_0, xbin_1, xbin_2, xbin_3, xbin_4, xbin_5, xbin_6, xbin_7, xbin_8, xbin_9, xbin_11, xbin_12, xun_0, xun_1, xun_2, xun_3, xun_4, xun_5, k6a, k8, k8b, k9, k20, k20b_0, k20b_1, k20b_2, k20b_3, k20b_4, k20b_5, k21_0, k21_1, k21_2, k21_3, k21_4, k21_5, k23, k24, k25, k27, k28, k40, nz_1, nz_2, nz_3, k31_0, k31_1, k31_2, k31_3, k32u, k33, k34, k35, k35b, k36, k37, k38, k47, k49, k49b_0, k49b_1, k49b_2, k49b_3, k50_0, k50_s, k51_0, k51_s, k55, k58, k58b, rk_0, rk_1, rk_2, rk_9, rk_3, rk_4, rk_5, sw_n, sw_c, xtb_n, xtb_c, lset_0, lset_2, lset_1, lkm_0, lkm_2, lkm_9, lkm_1, lkm_n, if_some1, c_10, c_01, c_x0, c_1x, c_n0, c_nn, List.getElem?_cons_zero, List.getElem?_cons_succ, List.set_cons_zero, List.set_cons_succ, List.length_cons, List.length_nil, Int.reduceToNat, Nat.reduceDiv, Nat.reduceMod, Nat.reduceSub, Nat.reduceAdd, Nat.reduceMul, Nat.reduceLT, Nat.reduceLeDiff, Nat.reduceEqDiff, Int.reduceMod, Int.reduceSub, Int.reduceNeg, Int.reduceAdd, Int.reduceMul, Int.reduceLT, Int.reduceLE, Int.reduceEq, put_ss, if_true, if_false, ite_true, ite_false, reduceIte, eq_self, and_true, true_and, and_false, false_and, or_true, true_or, or_false, false_or, not_true_eq_false, not_false_eq_true, k5_158_14, k34_158_14, k34i_158_14, k5_158_15, k34_158_15, k34i_158_15, k5_158_13, k34_158_13, k54_158_13, k54b_158_13_0, k54b_158_13_1, k5_158_5, k6_161, k35_161, n_161, k5_158_7, k6_163, k35_163, n_163, k5_158_12, k34_158_12, k54_158_12, k54b_158_12_0, rv_t, rv_d, rv_x, rv_y, rp_t, rp_d, rp_x, rp_y, w32_of, l1_i, l1_1, l1_0, l2_0, l2_1, l2_2, l2_3, l3_0, w2_0, w2_1, w2_2, w2_3, d1_0, d1_1, d1_2, d1_3, d2_i, d2_1, d2_0, hb, kz, y_p, c1, c2]
        · rw [← hDd]
          exact xTo_nf (V := V) (e := e) hc (tsz b + 1) b (by omega) (p + 6) c g7 (fun j j1 j2 => by rw [hDd]; exact S.mo _ _ (by omega) (by omega) (by omega)) nf0
      · have hgk : topK m (vlT m (p + 1)) = m 158 29 := htop.2 (by rw [T.vv]; exact hg)
        rw [if_pos hgk] at c1
        have et : ttM (put m 168 (m 158 21).toNat (v (p + 3))) (p + 1) = put (put m 168 (m 158 21).toNat (v (p + 3))) 158 29 (m 158 29 + 1) := if_pos hgk
        rw [et] at c1
        generalize hm' : put (put (put m 168 (m 158 21).toNat (v (p + 3))) 158 29 (m 158 29 + 1)) 158 21 (m 158 21 + 1) = m' at *
        have f : ∀ a k, a ≠ 168 → ¬ (a = 158 ∧ (k = 21 ∨ k = 24 ∨ k = 29)) → m' a k = m a k := fun a k n1 n2 => by
          rw [← hm']
          simp only [put_ss]
          by_cases h158 : a = 158
          · have k1 : ¬ k = 21 := fun z => n2 ⟨h158, by omega⟩
            have k2 : ¬ k = 29 := fun z => n2 ⟨h158, by omega⟩
            simp only [k1, k2, n1, if_false, ite_self]
          · simp only [h158, n1, if_false]
        have w21 : m' 158 21 = m 158 21 + 1 := by rw [← hm']; rfl
        have w29 : m' 158 29 = m 158 29 + 1 := by rw [← hm']; rfl
        have w24 : m' 158 24 = m 158 24 := by rw [← hm']; rfl
        have w168 : ∀ k, m' 168 k = if k = (m 158 21).toNat then v (p + 3) else m 168 k := fun k => by rw [← hm']; rfl
        have T1 : TT cd v e b (p + 6) c (l ++ [v (p + 1)]) rl (ws ++ [v (p + 3)]) m' σ D G := by
          refine TT_fr T f (by omega) (by rw [List.append_assoc]; rfl) (by rw [List.length_append, List.length_singleton]; omega) (by omega) (by omega) rfl (fun z => Or.inr z) ?_ ?_
          · exact (if_neg hg : dT v (nd 42 p a b) l = _).symm
          · obtain ⟨q1, q2⟩ := T.vw
            refine ⟨by rw [List.length_append, List.length_singleton]; omega, fun k hk => ?_⟩
            rw [List.length_append, List.length_singleton] at hk
            rw [w168, List.getD_eq_getElem?_getD]
            by_cases hk2 : k < ws.length
            · rw [if_neg (by omega), List.getElem?_append_left hk2, ← List.getD_eq_getElem?_getD]
              exact q2 k hk2
            · have : k = ws.length := by omega
              subst this
              rw [if_pos (by omega), List.getElem?_append_right (Nat.le_refl _), Nat.sub_self]
              rfl
        obtain ⟨p2, m2, c2, F2, Y⟩ := ih b (by omega) (p + 6) c _ _ _ m' σ n g7 (by omega) T1 (by omega)
        refine ⟨p2, m2, ?_, FT_tr (by rw [← hm']; exact FT_put (FT_put (FT_put FT_rf rfl) rfl) rfl) F2, ?_⟩
        · rw [lf_s]
          simp (disch := first | omega | assumption) only [ea_220_0, eb_220_0, ec_220_0, ev_0, ev_1, ev_16, ev_17, ev_18, ev_2, ev_3, ev_4, ev_5, ev_6, ev_7, ev_8, ev_9, ev_20, ev_21, ev_22, ev_23, ev_24, ev_25, ev_27, ev_28, ev_30, ev_31, ev_32, ev_33, ev_34, ev_35, ev_36, ev_37, ev_38, ev_39, ev_40, ev_41, ev_42, ev_43, ev_45, ev_46, ev_47, ev_48, ev_49, ev_50, ev_51, ev_52, ev_54, ev_55, ev_57, ev_58, ev_59, k2_0, k2_1, k2_2, k3a, k3b, k4, o1_s, xbin_0, xbin_1, xbin_2, xbin_3, xbin_4, xbin_5, xbin_6, xbin_7, xbin_8, xbin_9, xbin_11, xbin_12, xun_0, xun_1, xun_2, xun_3, xun_4, xun_5, k6a, k8, k8b, k9, k20, k20b_0, k20b_1, k20b_2, k20b_3, k20b_4, k20b_5, k21_0, k21_1, k21_2, k21_3, k21_4, k21_5, k23, k24, k25, k27, k28, k40, nz_1, nz_2, nz_3, k31_0, k31_1, k31_2, k31_3, k32u, k33, k34, k35, k35b, k36, k37, k38, k47, k49, k49b_0, k49b_1, k49b_2, k49b_3, k50_0, k50_s, k51_0, k51_s, k55, k58, k58b, rk_0, rk_1, rk_2, rk_9, rk_3, rk_4, rk_5, sw_n, sw_c, xtb_n, xtb_c, lset_0, lset_2, lset_1, lkm_0, lkm_2, lkm_9, lkm_1, lkm_n, if_some1, c_10, c_01, c_x0, c_1x, c_n0, c_nn, List.getElem?_cons_zero, List.getElem?_cons_succ, List.set_cons_zero, List.set_cons_succ, List.length_cons, List.length_nil, Int.reduceToNat, Nat.reduceDiv, Nat.reduceMod, Nat.reduceSub, Nat.reduceAdd, Nat.reduceMul, Nat.reduceLT, Nat.reduceLeDiff, Nat.reduceEqDiff, Int.reduceMod, Int.reduceSub, Int.reduceNeg, Int.reduceAdd, Int.reduceMul, Int.reduceLT, Int.reduceLE, Int.reduceEq, put_ss, if_true, if_false, ite_true, ite_false, reduceIte, eq_self, and_true, true_and, and_false, false_and, or_true, true_or, or_false, false_or, not_true_eq_false, not_false_eq_true, k5_158_14, k34_158_14, k34i_158_14, k5_158_15, k34_158_15, k34i_158_15, k5_158_13, k34_158_13, k54_158_13, k54b_158_13_0, k54b_158_13_1, k5_158_5, k6_161, k35_161, n_161, k5_158_7, k6_163, k35_163, n_163, k5_158_12, k34_158_12, k54_158_12, k54b_158_12_0, rv_t, rv_d, rv_x, rv_y, rp_t, rp_d, rp_x, rp_y, w32_of, l1_i, l1_1, l1_0, l2_0, l2_1, l2_2, l2_3, l3_0, w2_0, w2_1, w2_2, w2_3, d1_0, d1_1, d1_2, d1_3, d2_i, d2_1, d2_0, hb, kz, y_p, c1, c2]
        · rcases Y with ⟨σ2, Y, X1, X2, X3⟩ | Y
          · left
            refine ⟨σ2, ?_, ⟨fun j => (X1 j).trans (f 170 j (by decide) (by omega)), by show m2 158 24 = m 158 24 + kT b; omega, X3.trans (f 158 28 (by decide) (by omega))⟩⟩
            have e1 : l ++ cT v (nd 42 p a b) = l ++ [v (p + 1)] ++ cT v b := by rw [List.append_assoc]; rfl
            have e2 : ws ++ vwT v (nd 42 p a b) = ws ++ [v (p + 3)] ++ vwT v b := by rw [List.append_assoc]; rfl
            rw [e1, e2]
            exact Y
          · exact Or.inr (Br_le Y (by omega) (Int.le_refl _))
    · rw [tsz_nd] at ht
      have hle := PT_le (tsz b + 1) b (by omega) _ _ g4
      have hnn := PN_n a g2
      rw [g1] at hTp
      have kz : m 161 p.toNat = 3 := by unfold TR at hTp; omega
      have y_p := fun (s : Int) (D : Nat) (hs : 0 ≤ s ∧ s ≤ 12) => N_210 (L := L) (xs := xs) (F := F) (d := D) (dep := 0) (a1 := s) (m := m) hb (by omega) hTp hs
      have x1 := fun D => N_212 (F := F) (L := L) (xs := xs) (d := D) (m := m) (p := p) (dep := 0) hb (by omega)
      have Tb : TBL m (l ++ (cN v a ++ cT v b)) := T.tb
      obtain ⟨m1, c1, p2, m2, c2, q0, q1, Y⟩ := Cn_ok (F := F) (L := L) (xs := xs) (d := d + 3) (mc := c.2.2.2) (e := e) (v := v) hF (tsz a + 1) a (by omega) (p + 1) r g2 (by omega) (by omega) m l (cT v b) F S W T.vv Tb t29.1 (by omega) c24.1 (by omega) (by omega)
      have eX : xTo cd (nd 43 p a b) c = xTo cd b c := rfl
      have ed : dT v (nd 43 p a b) l = if dN v a l = -1 then dT v b (l ++ cN v a) else dN v a l := rfl
      rw [eX]
      rcases Y with ⟨y1, y2, y3, y4, y5, y6, y7⟩ | ⟨y1, y2, y3, y4, y5, y6⟩
      · subst y3
        have hT2 : TR 59 (m2 161 p2.toNat) (m2 163 p2.toNat) := by
          rw [y4 _ _ (by omega), y4 _ _ (by omega)]
          have := S.tr p2 q0 q1
          rw [g3] at this
          exact this
        have x3 := fun D => N_213 (F := F) (L := L) (xs := xs) (d := D) (m := m2) (p := p2) (dep := 0) (a1 := 59) y2 (by omega) hT2 (by omega) rfl
        have T1 : TT cd v e b (p2 + 1) c (l ++ cN v a) rl ws m2 σ D G := by
          refine TT_fr T (fun a k n1 n2 => y4 a k (fun z => n2 ⟨z.1, by omega⟩)) (by omega) (by rw [List.append_assoc]; rfl) (by rw [List.length_append]; omega) (by rw [y4 _ _ (by omega)]; omega) (by omega) rfl (fun z => z) ?_ ?_
          · rw [ed, if_pos y1]
          · obtain ⟨z1, z2⟩ := T.vw
            exact ⟨by rw [y4 _ _ (by omega)]; exact z1, fun k hk => by rw [y4 _ _ (by omega)]; exact z2 k hk⟩
        obtain ⟨p3, m3, c3, F3, Y⟩ := ih b (by omega) (p2 + 1) c _ _ _ m2 σ n g4 (by omega) T1 (by omega)
        have F2 : FT m m2 := ⟨fun a k hk => y4 a k (fun z => by
          obtain ⟨rfl, z⟩ := z
          rcases z with rfl | rfl <;> exact absurd hk (by decide)), fun z => by rw [y4 158 30 (by omega)]; exact z⟩
        refine ⟨p3, m3, ?_, FT_tr F2 F3, ?_⟩
        · rw [lf_s]
          simp (disch := first | omega | assumption) only [ea_220_0, eb_220_0, ec_220_0, ev_0, ev_1, ev_16, ev_17, ev_18, ev_2, ev_3, ev_4, ev_5, ev_6, ev_7, ev_8, ev_9, ev_20, ev_21, ev_22, ev_23, ev_24, ev_25, ev_27, ev_28, ev_30, ev_31, ev_32, ev_33, ev_34, ev_35, ev_36, ev_37, ev_38, ev_39, ev_40, ev_41, ev_42, ev_43, ev_45, ev_46, ev_47, ev_48, ev_49, ev_50, ev_51, ev_52, ev_54, ev_55, ev_57, ev_58, ev_59, k2_0, k2_1, k2_2, k3a, k3b, k4, o1_s, xbin_0, xbin_1, xbin_2, xbin_3, xbin_4, xbin_5, xbin_6, xbin_7, xbin_8, xbin_9, xbin_11, xbin_12, xun_0, xun_1, xun_2, xun_3, xun_4, xun_5, k6a, k8, k8b, k9, k20, k20b_0, k20b_1, k20b_2, k20b_3, k20b_4, k20b_5, k21_0, k21_1, k21_2, k21_3, k21_4, k21_5, k23, k24, k25, k27, k28, k40, nz_1, nz_2, nz_3, k31_0, k31_1, k31_2, k31_3, k32u, k33, k34, k35, k35b, k36, k37, k38, k47, k49, k49b_0, k49b_1, k49b_2, k49b_3, k50_0, k50_s, k51_0, k51_s, k55, k58, k58b, rk_0, rk_1, rk_2, rk_9, rk_3, rk_4, rk_5, sw_n, sw_c, xtb_n, xtb_c, lset_0, lset_2, lset_1, lkm_0, lkm_2, lkm_9, lkm_1, lkm_n, if_some1, c_10, c_01, c_x0, c_1x, c_n0, c_nn, List.getElem?_cons_zero, List.getElem?_cons_succ, List.set_cons_zero, List.set_cons_succ, List.length_cons, List.length_nil, Int.reduceToNat, Nat.reduceDiv, Nat.reduceMod, Nat.reduceSub, Nat.reduceAdd, Nat.reduceMul, Nat.reduceLT, Nat.reduceLeDiff, Nat.reduceEqDiff, Int.reduceMod, Int.reduceSub, Int.reduceNeg, Int.reduceAdd, Int.reduceMul, Int.reduceLT, Int.reduceLE, Int.reduceEq, put_ss, if_true, if_false, ite_true, ite_false, reduceIte, eq_self, and_true, true_and, and_false, false_and, or_true, true_or, or_false, false_or, not_true_eq_false, not_false_eq_true, k5_158_14, k34_158_14, k34i_158_14, k5_158_15, k34_158_15, k34i_158_15, k5_158_13, k34_158_13, k54_158_13, k54b_158_13_0, k54b_158_13_1, k5_158_5, k6_161, k35_161, n_161, k5_158_7, k6_163, k35_163, n_163, k5_158_12, k34_158_12, k54_158_12, k54b_158_12_0, rv_t, rv_d, rv_x, rv_y, rp_t, rp_d, rp_x, rp_y, w32_of, l1_i, l1_1, l1_0, l2_0, l2_1, l2_2, l2_3, l3_0, w2_0, w2_1, w2_2, w2_3, d1_0, d1_1, d1_2, d1_3, d2_i, d2_1, d2_0, hb, kz, y_p, x1, c1, c2, x3, c3]
        · rcases Y with ⟨σ2, Y, X1, X2, X3⟩ | Y
          · left
            refine ⟨σ2, ?_, ⟨fun j => (X1 j).trans (y4 170 j (by omega)), by show m3 158 24 = m 158 24 + (nN a + kT b); omega, X3.trans (y4 158 28 (by omega))⟩⟩
            have e1 : l ++ cT v (nd 43 p a b) = l ++ cN v a ++ cT v b := by rw [List.append_assoc]; rfl
            rw [e1]
            exact Y
          · exact Or.inr (Br_le Y (by omega) (Int.le_refl _))
      · have x3 := fun D => B_213 (F := F) (L := L) (xs := xs) (d := D) (m := rv p2 0 m2) (a1 := 59) y3 ⟨q0, by show p2 < 3001; omega⟩
        have c3 := L_220b (F := F) (L := L) (xs := xs) (d := d) (p := p2) y3 (n := n) (by omega)
        rw [ed, if_neg (by omega), if_neg (by omega)] at hDd
        refine ⟨p2, m2, ?_, y6, Or.inr (Br_tell (j := dN v a l) S y3 y4 y5 (by omega) (by omega) (by omega) (by omega) ?_)⟩
        · rw [lf_s]
          simp (disch := first | omega | assumption) only [ea_220_0, eb_220_0, ec_220_0, ev_0, ev_1, ev_16, ev_17, ev_18, ev_2, ev_3, ev_4, ev_5, ev_6, ev_7, ev_8, ev_9, ev_20, ev_21, ev_22, ev_23, ev_24, ev_25, ev_27, ev_28, ev_30, ev_31, ev_32, ev_33, ev_34, ev_35, ev_36, ev_37, ev_38, ev_39, ev_40, ev_41, ev_42, ev_43, ev_45, ev_46, ev_47, ev_48, ev_49, ev_50, ev_51, ev_52, ev_54, ev_55, ev_57, ev_58, ev_59, k2_0, k2_1, k2_2, k3a, k3b, k4, o1_s, xbin_0, xbin_1, xbin_2, xbin_3, xbin_4, xbin_5, xbin_6, xbin_7, xbin_8, xbin_9, xbin_11, xbin_12, xun_0, xun_1, xun_2, xun_3, xun_4, xun_5, k6a, k8, k8b, k9, k20, k20b_0, k20b_1, k20b_2, k20b_3, k20b_4, k20b_5, k21_0, k21_1, k21_2, k21_3, k21_4, k21_5, k23, k24, k25, k27, k28, k40, nz_1, nz_2, nz_3, k31_0, k31_1, k31_2, k31_3, k32u, k33, k34, k35, k35b, k36, k37, k38, k47, k49, k49b_0, k49b_1, k49b_2, k49b_3, k50_0, k50_s, k51_0, k51_s, k55, k58, k58b, rk_0, rk_1, rk_2, rk_9, rk_3, rk_4, rk_5, sw_n, sw_c, xtb_n, xtb_c, lset_0, lset_2, lset_1, lkm_0, lkm_2, lkm_9, lkm_1, lkm_n, if_some1, c_10, c_01, c_x0, c_1x, c_n0, c_nn, List.getElem?_cons_zero, List.getElem?_cons_succ, List.set_cons_zero, List.set_cons_succ, List.length_cons, List.length_nil, Int.reduceToNat, Nat.reduceDiv, Nat.reduceMod, Nat.reduceSub, Nat.reduceAdd, Nat.reduceMul, Nat.reduceLT, Nat.reduceLeDiff, Nat.reduceEqDiff, Int.reduceMod, Int.reduceSub, Int.reduceNeg, Int.reduceAdd, Int.reduceMul, Int.reduceLT, Int.reduceLE, Int.reduceEq, put_ss, if_true, if_false, ite_true, ite_false, reduceIte, eq_self, and_true, true_and, and_false, false_and, or_true, true_or, or_false, false_or, not_true_eq_false, not_false_eq_true, k5_158_14, k34_158_14, k34i_158_14, k5_158_15, k34_158_15, k34i_158_15, k5_158_13, k34_158_13, k54_158_13, k54b_158_13_0, k54b_158_13_1, k5_158_5, k6_161, k35_161, n_161, k5_158_7, k6_163, k35_163, n_163, k5_158_12, k34_158_12, k54_158_12, k54b_158_12_0, rv_t, rv_d, rv_x, rv_y, rp_t, rp_d, rp_x, rp_y, w32_of, l1_i, l1_1, l1_0, l2_0, l2_1, l2_2, l2_3, l3_0, w2_0, w2_1, w2_2, w2_3, d1_0, d1_1, d1_2, d1_3, d2_i, d2_1, d2_0, hb, kz, y_p, x1, c1, c2, x3, c3]
        · rw [← hDd]
          exact xTo_nf (V := V) (e := e) hc (tsz b + 1) b (by omega) (r + 1) c g4 (fun j j1 j2 => by rw [hDd]; exact S.mo _ _ (by omega) (by omega) (by omega)) nf0
    · rw [tsz_nd] at ht
      have hle := PT_le (tsz b + 1) b (by omega) _ _ g5
      have hph := PH_lt g4
      rw [g1] at hTp
      have kz : m 161 p.toNat = 3 := by unfold TR at hTp; omega
      have y_p := fun (s : Int) (D : Nat) (hs : 0 ≤ s ∧ s ≤ 12) => N_210 (L := L) (xs := xs) (F := F) (d := D) (dep := 0) (a1 := s) (m := m) hb (by omega) hTp hs
      have htop := tb_top (l := l) (rest := cT v b) (c := v (p + 1)) T.tb t29.1
      rw [← T.vv (p + 1)] at htop
      have hgi : topK m (vlT m (p + 1)) = m 158 29 ↔ v (p + 1) ∉ l := by
        have := htop
        rw [T.vv] at this ⊢
        exact this
      have h170 : m 170 (m 158 25).toNat = hN a := by
        have := T.pm 0 (by show 0 < (hN a :: hnT b).length; rw [List.length_cons]; omega)
        have e1 : (hnT (nd 44 p a b)).getD 0 0 = hN a := rfl
        rw [e1] at this
        rw [← this]
        congr 1
        omega
      have ed : dT v (nd 44 p a b) l = if v (p + 1) ∈ l then p + 1 else dT v b (l ++ [v (p + 1)]) := rfl
      have hdr := dT_r (v := v) (V := V) (e := e) (tsz b + 1) b (by omega) (l ++ [v (p + 1)]) r g5
      obtain ⟨p1, m1, c1, F1, q0, q1, Y⟩ := Pr_ok (F := F) (L := L) (xs := xs) (d := d) (mc := c.2.2.2) (e := e) hF hc (D := D) (G := G) g4 g1 g2 g3 hp (by omega) S T.sr hb T.o41 T.lc T.r36 T.n25 (by omega) h170 (fun z j j0 j1 => by
        have hv := hgi.1 z
        rw [ed, if_neg hv] at hDd
        rcases hdr with z2 | z2
        · rw [if_pos z2] at hDd
          rw [hDd]
          exact (S.pl j j0 (by omega)).2.2
        · rw [if_neg (by omega)] at hDd
          rw [hDd]
          exact S.ms _ _ j0 (by omega) (by omega)) (fun z => by
        have hv : v (p + 1) ∈ l := by
          by_cases hv : v (p + 1) ∈ l
          · exact hv
          · exact absurd (hgi.2 hv) z
        rw [ed, if_pos hv, if_neg (by omega)] at hDd
        exact hDd) hd
      have eX : xTo cd (nd 44 p a b) c = xTo cd b (xPr cd c.2.2.2 a c.1 c.2.1) := rfl
      have K := Kp_xPr (cd := cd) hc (m := c.2.2.2) (s := c.1) (y := c.2.1) g4
      rw [eX]
      rcases Y with ⟨y1, σ1, y2, y3⟩ | B
      · subst y1
        have hv : v (p + 1) ∉ l := hgi.1 y3.tk
        have T1 := TT_pr hc T g4 hp (by omega) hv F1 y3
        obtain ⟨p3, m3, c3, F3, Y⟩ := ih b (by omega) p1 (xPr cd c.2.2.2 a c.1 c.2.1) _ _ _ m1 σ1 n (by rw [Kp_kd K]; exact g5) (by omega) T1 (by omega)
        refine ⟨p3, m3, ?_, FT_tr F1 F3, ?_⟩
        · rw [lf_s]
          simp (disch := first | omega | assumption) only [ea_220_0, eb_220_0, ec_220_0, ev_0, ev_1, ev_16, ev_17, ev_18, ev_2, ev_3, ev_4, ev_5, ev_6, ev_7, ev_8, ev_9, ev_20, ev_21, ev_22, ev_23, ev_24, ev_25, ev_27, ev_28, ev_30, ev_31, ev_32, ev_33, ev_34, ev_35, ev_36, ev_37, ev_38, ev_39, ev_40, ev_41, ev_42, ev_43, ev_45, ev_46, ev_47, ev_48, ev_49, ev_50, ev_51, ev_52, ev_54, ev_55, ev_57, ev_58, ev_59, k2_0, k2_1, k2_2, k3a, k3b, k4, o1_s, xbin_0, xbin_1, xbin_2, xbin_3, xbin_4, xbin_5, xbin_6, xbin_7, xbin_8, xbin_9, xbin_11, xbin_12, xun_0, xun_1, xun_2, xun_3, xun_4, xun_5, k6a, k8, k8b, k9, k20, k20b_0, k20b_1, k20b_2, k20b_3, k20b_4, k20b_5, k21_0, k21_1, k21_2, k21_3, k21_4, k21_5, k23, k24, k25, k27, k28, k40, nz_1, nz_2, nz_3, k31_0, k31_1, k31_2, k31_3, k32u, k33, k34, k35, k35b, k36, k37, k38, k47, k49, k49b_0, k49b_1, k49b_2, k49b_3, k50_0, k50_s, k51_0, k51_s, k55, k58, k58b, rk_0, rk_1, rk_2, rk_9, rk_3, rk_4, rk_5, sw_n, sw_c, xtb_n, xtb_c, lset_0, lset_2, lset_1, lkm_0, lkm_2, lkm_9, lkm_1, lkm_n, if_some1, c_10, c_01, c_x0, c_1x, c_n0, c_nn, List.getElem?_cons_zero, List.getElem?_cons_succ, List.set_cons_zero, List.set_cons_succ, List.length_cons, List.length_nil, Int.reduceToNat, Nat.reduceDiv, Nat.reduceMod, Nat.reduceSub, Nat.reduceAdd, Nat.reduceMul, Nat.reduceLT, Nat.reduceLeDiff, Nat.reduceEqDiff, Int.reduceMod, Int.reduceSub, Int.reduceNeg, Int.reduceAdd, Int.reduceMul, Int.reduceLT, Int.reduceLE, Int.reduceEq, put_ss, if_true, if_false, ite_true, ite_false, reduceIte, eq_self, and_true, true_and, and_false, false_and, or_true, true_or, or_false, false_or, not_true_eq_false, not_false_eq_true, k5_158_14, k34_158_14, k34i_158_14, k5_158_15, k34_158_15, k34i_158_15, k5_158_13, k34_158_13, k54_158_13, k54b_158_13_0, k54b_158_13_1, k5_158_5, k6_161, k35_161, n_161, k5_158_7, k6_163, k35_163, n_163, k5_158_12, k34_158_12, k54_158_12, k54b_158_12_0, rv_t, rv_d, rv_x, rv_y, rp_t, rp_d, rp_x, rp_y, w32_of, l1_i, l1_1, l1_0, l2_0, l2_1, l2_2, l2_3, l3_0, w2_0, w2_1, w2_2, w2_3, d1_0, d1_1, d1_2, d1_3, d2_i, d2_1, d2_0, hb, kz, y_p, c1, c3]
        · rcases Y with ⟨σ2, Y, X1, X2, X3⟩ | Y
          · left
            refine ⟨σ2, ?_, ⟨fun j => (X1 j).trans (y3.a170 j), by have := y3.f21.2.1; show m3 158 24 = m 158 24 + kT b; omega, X3.trans y3.f21.2.2.1⟩⟩
            have e1 : l ++ cT v (nd 44 p a b) = l ++ [v (p + 1)] ++ cT v b := by rw [List.append_assoc]; rfl
            have e2 : rl ++ rT (nd 44 p a b) = rl ++ [rsT a] ++ rT b := by rw [List.append_assoc]; rfl
            rw [e1, e2]
            exact Y
          · exact Or.inr (Br_le (Br_Kp K Y) (by omega) (Int.le_refl _))
      · have c2 := L_220b (F := F) (L := L) (xs := xs) (d := d) (p := p1) B.1 (n := n) (by omega)
        refine ⟨p1, m1, ?_, F1, Or.inr ?_⟩
        · rw [lf_s]
          simp (disch := first | omega | assumption) only [ea_220_0, eb_220_0, ec_220_0, ev_0, ev_1, ev_16, ev_17, ev_18, ev_2, ev_3, ev_4, ev_5, ev_6, ev_7, ev_8, ev_9, ev_20, ev_21, ev_22, ev_23, ev_24, ev_25, ev_27, ev_28, ev_30, ev_31, ev_32, ev_33, ev_34, ev_35, ev_36, ev_37, ev_38, ev_39, ev_40, ev_41, ev_42, ev_43, ev_45, ev_46, ev_47, ev_48, ev_49, ev_50, ev_51, ev_52, ev_54, ev_55, ev_57, ev_58, ev_59, k2_0, k2_1, k2_2, k3a, k3b, k4, o1_s, xbin_0, xbin_1, xbin_2, xbin_3, xbin_4, xbin_5, xbin_6, xbin_7, xbin_8, xbin_9, xbin_11, xbin_12, xun_0, xun_1, xun_2, xun_3, xun_4, xun_5, k6a, k8, k8b, k9, k20, k20b_0, k20b_1, k20b_2, k20b_3, k20b_4, k20b_5, k21_0, k21_1, k21_2, k21_3, k21_4, k21_5, k23, k24, k25, k27, k28, k40, nz_1, nz_2, nz_3, k31_0, k31_1, k31_2, k31_3, k32u, k33, k34, k35, k35b, k36, k37, k38, k47, k49, k49b_0, k49b_1, k49b_2, k49b_3, k50_0, k50_s, k51_0, k51_s, k55, k58, k58b, rk_0, rk_1, rk_2, rk_9, rk_3, rk_4, rk_5, sw_n, sw_c, xtb_n, xtb_c, lset_0, lset_2, lset_1, lkm_0, lkm_2, lkm_9, lkm_1, lkm_n, if_some1, c_10, c_01, c_x0, c_1x, c_n0, c_nn, List.getElem?_cons_zero, List.getElem?_cons_succ, List.set_cons_zero, List.set_cons_succ, List.length_cons, List.length_nil, Int.reduceToNat, Nat.reduceDiv, Nat.reduceMod, Nat.reduceSub, Nat.reduceAdd, Nat.reduceMul, Nat.reduceLT, Nat.reduceLeDiff, Nat.reduceEqDiff, Int.reduceMod, Int.reduceSub, Int.reduceNeg, Int.reduceAdd, Int.reduceMul, Int.reduceLT, Int.reduceLE, Int.reduceEq, put_ss, if_true, if_false, ite_true, ite_false, reduceIte, eq_self, and_true, true_and, and_false, false_and, or_true, true_or, or_false, false_or, not_true_eq_false, not_false_eq_true, k5_158_14, k34_158_14, k34i_158_14, k5_158_15, k34_158_15, k34i_158_15, k5_158_13, k34_158_13, k54_158_13, k54b_158_13_0, k54b_158_13_1, k5_158_5, k6_161, k35_161, n_161, k5_158_7, k6_163, k35_163, n_163, k5_158_12, k34_158_12, k54_158_12, k54b_158_12_0, rv_t, rv_d, rv_x, rv_y, rp_t, rp_d, rp_x, rp_y, w32_of, l1_i, l1_1, l1_0, l2_0, l2_1, l2_2, l2_3, l3_0, w2_0, w2_1, w2_2, w2_3, d1_0, d1_1, d1_2, d1_3, d2_i, d2_1, d2_0, hb, kz, y_p, c1, c2]
        · obtain ⟨b1, b2, j, b3, b4, b5, b6⟩ := B
          refine ⟨b1, b2, j, b3, by omega, b5, ?_⟩
          rw [← b6]
          exact xTo_nf (V := V) (e := e) hc (tsz b + 1) b (by omega) r _ (by rw [Kp_kd K]; exact g5) (fun i i1 i2 => by rw [K.1 54 _ (by decide) (by decide), b6]; exact S.mo _ _ (by omega) (by omega) (by omega)) rfl
end Prg
