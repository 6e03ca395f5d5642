/-! CLASS AND MODEL, THE SECOND WALK: if and while -/
section Ifw
variable {F : Nat} {mc : Mem} {e : Int}
theorem K210n {L d : Nat} {xs : Nat → Int32} {m : Mem} {p dep c a1 : Int} (h : m 158 15 = 1 ∨ (m 158 15 = 0 ∧ TR c (m 161 p.toNat) (m 163 p.toNat) ∧ ¬ c = a1 + 4)) (hp : 0 ≤ p ∧ p < 3001) (hs : 0 ≤ a1 ∧ a1 ≤ 12) : Cx F (d + 1) 210 [158, a1] (Hp L xs (rv p dep m)) = some ([0], Hp L xs (rv p dep m)) := by
  rcases h with h | ⟨h1, h2, h3⟩
  · exact B_210 (m := rv p dep m) h
  · exact N_210n h1 hp h2 hs h3
theorem st_29 (hF : 100000 ≤ F) {L d : Nat} {xs : Nat → Int32} {m : Mem} {s : xSt} {y : yS} {σ : Int → Int} {D H dep p q : Int} {G : Prop} {V : Int → Int} {i : Int} {a b : xT} (hd0 : 0 ≤ dep) (hd1 : dep ≤ 30) (hp : 0 ≤ p) (hq : q ≤ e) (S : SE mc m e) (R : SR mc s y m σ D G H p) (hs0 : s.2.1 = 0) (hb : m 158 15 = 0) (h41 : m 158 41 + 2 * (q - p) < 2900) (hlab : (y.1.length : Int) + 2 * (q - p) < 2900) (hD : ∀ j, 0 ≤ j → j < q → mc 54 j.toNat < D) (hd : 300 + 4 * (31 - dep).toNat + 2 ≤ d) (h1 : kd mc p = 10) {r : Int} (h8 : P (kd mc) V a 0 dep (p + 1) r) (h9 : P (kd mc) V b 8 dep r q) (hB : Qst 230 8 0 2 F mc e b) : ∃ p' m', Cx F (d + 10) 231 [158] (Hp L xs (rv p dep m)) = some ([], Hp L xs (rv p' dep m')) ∧ Pst mc e (stS mc (nd 29 i a b) H 0 0 (s, y)) y m m' σ D G H p q p' 0 0 := by
  have l1 := P_lt0 h8
  have l2 := P_le b h9
  have el := S.el
  have hT := S.tr p hp (by omega)
  rw [h1] at hT
  have N := SR_En S R (by omega) (Or.inl hb) (by omega)
  have hl := R.hl
  have y_p := fun (s : Int) (D : Nat) (hs : 0 ≤ s ∧ s ≤ 12) => N_210 (L := L) (xs := xs) (F := F) (d := D) (dep := dep) (a1 := s) (m := m) hb (by omega) hT hs
  have w_p := fun (D : Nat) => N_211 (L := L) (xs := xs) (F := F) (d := D) (dep := dep) (m := m) hb (by omega) hT
  have x1 := fun D => N_212 (F := F) (L := L) (xs := xs) (d := D) (m := m) (p := p) (dep := dep) hb (by omega)
  obtain ⟨d, rfl⟩ : ∃ d', d = d' + 1 := ⟨d - 1, by omega⟩
  have la := R.la
  have hl1 : y.1.length < 2999 := by omega
  have R1 := SR_st (SR_lab2 R hl1) (l := (y.1.length : Int)) (by omega) (by rw [nlb_2 hl1, List.length_append, List.length_replicate]; omega)
  rw [sx_g (Int.le_refl _)] at R1
  have en1 : nln y = (y.1.length : Int) := nln_1 (by omega)
  have en2 : nln (nlb y) = (y.1.length : Int) + 1 := nln_2 hl1
  have ec : stS mc (nd 29 i a b) H 0 0 (s, y) = (fun c4 : zS => (em 15 0 (nln y) c4.1, slb (nln (nlb y)) ((em 15 0 (nln y) c4.1).1.length : Int) c4.2)) (stS mc b H 0 0 (em 16 0 (nln (nlb y)) (xE (sww H (slb (nln y) (s.1.length : Int) (nlb (nlb y))) mc) a s), slb (nln y) (s.1.length : Int) (nlb (nlb y)))) := rfl
  rw [ec, en1, en2]
  have hy1 : (slb (y.1.length : Int) (s.1.length : Int) (nlb (nlb y))).1.length = y.1.length + 2 := by
    have : (nlb (nlb y)).1.length = y.1.length + 2 := by rw [nlb_2 hl1, List.length_append, List.length_replicate]
    unfold slb
    split
    · rw [List.length_set]; exact this
    · exact this
  have xa := fun D P1 => M_244 (F := F) (L := L) (xs := xs) (d := D) (m := m) (p := P1) (dep := dep) (by omega) (by omega)
  have xb := fun D P1 => M_244 (F := F) (L := L) (xs := xs) (d := D) (m := put m 158 46 (m 158 46 + 1)) (p := P1) (dep := dep) (by show 0 ≤ m 158 46 + 1; omega) (by show m 158 46 + 1 < 12000; omega)
  have eb : put m 158 46 (m 158 46 + 1) 158 46 = m 158 46 + 1 := rfl
  have eb2 : m 158 46 + 1 + 1 = m 158 46 + 2 := by omega
  rw [eb, pp30, eb2] at xb
  have xc := fun D P1 => M_245 (F := F) (L := L) (xs := xs) (d := D) (m := put m 158 46 (m 158 46 + 2)) (p := P1) (dep := dep) (l := m 158 46) (by omega) (by omega)
  have ec1 : put m 158 46 (m 158 46 + 2) 158 41 = m 158 41 := rfl
  rw [ec1] at xc R1
  rw [← la] at xa xb xc R1
  generalize hm1 : put (put m 158 46 ((y.1.length : Int) + 2)) 181 ((y.1.length : Int)).toNat (m 158 41) = m1 at *
  have F0 : FS m m1 := by rw [← hm1]; exact FS_put (FS_put FS_rf rfl) rfl
  have hb1 : m1 158 15 = 0 := by rw [← hm1]; exact hb
  have g41 : m1 158 41 = m 158 41 := by rw [← hm1]; rfl
  have g30 : m1 158 30 = m 158 30 := by rw [← hm1]; rfl
  have g39 : m1 158 39 = m 158 39 := by rw [← hm1]; rfl
  have g40 : m1 158 40 = m 158 40 := by rw [← hm1]; rfl
  have g176 : ∀ k, m1 176 k = m 176 k := by rw [← hm1]; exact fun _ => rfl
  have S1 := SE_FS S F0
  have hl := R.hl
  have x1 := fun D => N_212 (F := F) (L := L) (xs := xs) (d := D) (m := m1) (p := p) (dep := dep) hb1 (by omega)
  obtain ⟨⟨p1, k1, k2, k3, c1⟩, W2, S2, E2, F2, q41, q41b, B⟩ := Ex_ok (F := F) (L := L) (xs := xs) (d := d) hF S1 R1 hb1 (rng0 hs0) h8 hd0 hd1 (by omega) (by omega) (by omega) (by omega) (fun j j1 j2 => hD j j1 (by omega)) (by omega)
  have x5 := fun D P1 => R_246_16 (F := F) (L := L) (xs := xs) (d := D) (p := P1) (dep := dep) (a := 0) (l := (y.1.length : Int) + 1) W2
  have X3 := Pst_fin (e := e) (o := 16) (a := 0) (l := (y.1.length : Int) + 1) (lm := (y.1.length : Int) + 1) (u := -1) (z := false) (p := p) (q := r) (p' := p1) E2 F2 W2 (by omega) (by omega) (by
    rcases B with ⟨b1, R2, b2⟩ | B
    · left
      refine ⟨b1, R2, ?_⟩
      rw [b2, hs0]
      decide
    · exact Or.inr (Br_le B (by omega) (by omega))) rfl (sx_g (by omega)).symm (fun _ => by rw [hy1]; omega) ⟨k1, k2, k3⟩ (by omega) (v := 2) (by omega)
  obtain ⟨p4, m4, c4, X4⟩ := Bk_any (L := L) (xs := xs) (d := d) hF hB S1 X3 h9 hd0 hd1 hp (by omega) hq (by omega) (by rw [hy1]; omega) (by decide) (by decide) hD (by omega)
  have W4 := (Pst_WU S1 X4 hq (by omega) (by omega) (by decide)).1
  have x6 := fun D P1 => R_246_15 (F := F) (L := L) (xs := xs) (d := D) (p := P1) (dep := dep) (a := 0) (l := (y.1.length : Int)) W4
  have X5 := Pst_em2 (o := 15) (a := 0) (l := (y.1.length : Int)) (lm := (y.1.length : Int)) (z := true) X4 (by omega) (by omega) (by decide) rfl (sx_g (Int.le_refl _)).symm (by rw [hy1]; omega)
  have x7 := fun D P1 => M_245 (F := F) (L := L) (xs := xs) (d := D) (m := emG m4 15 0 (y.1.length : Int) 0 true) (p := P1) (dep := dep) (l := (y.1.length : Int) + 1) (by omega) (by omega)
  have X6 := Pst_stand (l := (y.1.length : Int) + 1) (lm := (y.1.length : Int) + 1) X5 (by omega) (sx_g (by omega)).symm (by rw [hy1]; omega)
  have X7 := Pst_base (y := y) (m := m) (σ := σ) (n := 2) X6 F0 (by decide) (by rw [hy1]; omega) (fun k hk => sx_l hk) g41 g30 g39 g40 g176
  refine ⟨p4, _, ?_, Pst_w X7 (by decide) (by decide)⟩
  simp (disch := first | omega | assumption) only [c_231, tr_231, ev_0, ev_1, ev_16, ev_17, ev_18, ev_2, ev_3, ev_4, ev_5, ev_6, ev_7, ev_8, ev_9, ev_20, ev_21, ev_22, ev_23, ev_24, ev_25, ev_27, ev_28, ev_30, ev_31, ev_32, ev_33, ev_34, ev_35, ev_36, ev_37, ev_38, ev_39, ev_40, ev_41, ev_42, ev_43, ev_45, ev_46, ev_47, ev_48, ev_49, ev_50, ev_51, ev_52, ev_54, ev_55, ev_57, ev_58, ev_59, k2_0, k2_1, k2_2, k3a, k3b, k4, o1_s, xbin_0, xbin_1, xbin_2, xbin_3, xbin_4, xbin_5, xbin_6, xbin_7, xbin_8, xbin_9, xbin_11, xbin_12, xun_0, xun_1, xun_2, xun_3, xun_4, xun_5, k6a, k8, k8b, k9, k20, k20b_0, k20b_1, k20b_2, k20b_3, k20b_4, k20b_5, k21_0, k21_1, k21_2, k21_3, k21_4, k21_5, k23, k24, k25, k27, k28, k40, nz_1, nz_2, nz_3, k31_0, k31_1, k31_2, k31_3, k32u, k33, k34, k35, k35b, k36, k37, k38, k47, k49, k49b_0, k49b_1, k49b_2, k49b_3, k50_0, k50_s, k51_0, k51_s, k55, k58, k58b, rk_0, rk_1, rk_2, rk_9, rk_3, rk_4, rk_5, sw_n, sw_c, xtb_n, xtb_c, lset_0, lset_2, lset_1, lkm_0, lkm_2, lkm_9, lkm_1, lkm_n, if_some1, c_10, c_01, c_x0, c_1x, c_n0, c_nn, List.getElem?_cons_zero, List.getElem?_cons_succ, List.set_cons_zero, List.set_cons_succ, List.length_cons, List.length_nil, Int.reduceToNat, Nat.reduceDiv, Nat.reduceMod, Nat.reduceSub, Nat.reduceAdd, Nat.reduceMul, Nat.reduceLT, Nat.reduceLeDiff, Nat.reduceEqDiff, Int.reduceMod, Int.reduceSub, Int.reduceNeg, Int.reduceAdd, Int.reduceMul, Int.reduceLT, Int.reduceLE, Int.reduceEq, put_ss, if_true, if_false, ite_true, ite_false, reduceIte, eq_self, and_true, true_and, and_false, false_and, or_true, true_or, or_false, false_or, not_true_eq_false, not_false_eq_true, k5_158_14, k34_158_14, k34i_158_14, k5_158_15, k34_158_15, k34i_158_15, k5_158_13, k34_158_13, k54_158_13, k54b_158_13_0, k54b_158_13_1, k5_158_48, k34_158_48, k5_158_5, k6_161, k35_161, n_161, k5_158_7, k6_163, k35_163, n_163, k5_158_12, k34_158_12, k54_158_12, k54b_158_12_0, k5_158_30, k34_158_30, k54_158_30, k54b_158_30_0, k5_158_33, k34_158_33, rv_t, rv_d, rv_x, rv_y, rp_t, rp_d, rp_x, rp_y, w32_of, y_p, w_p, xa, xb, xc, x1, c1, x5, c4, x6, x7, hb]
theorem st_27 (hF : 100000 ≤ F) {L d : Nat} {xs : Nat → Int32} {m : Mem} {s : xSt} {y : yS} {σ : Int → Int} {D H dep p q : Int} {G : Prop} {V : Int → Int} {i : Int} {a b : xT} (hd0 : 0 ≤ dep) (hd1 : dep ≤ 30) (hp : 0 ≤ p) (hq : q ≤ e) (S : SE mc m e) (R : SR mc s y m σ D G H p) (hs0 : s.2.1 = 0) (hb : m 158 15 = 0) (h41 : m 158 41 + 2 * (q - p) < 2900) (hlab : (y.1.length : Int) + 2 * (q - p) < 2900) (hD : ∀ j, 0 ≤ j → j < q → mc 54 j.toNat < D) (hd : 300 + 4 * (31 - dep).toNat + 2 ≤ d) (h1 : kd mc p = 8) {r : Int} (h8 : P (kd mc) V a 0 dep (p + 1) r) (h9 : P (kd mc) V b 8 dep r q) (h11 : kd mc q ≠ 9) (hB : Qst 230 8 0 2 F mc e b) : ∃ p' m', Cx F (d + 10) 231 [158] (Hp L xs (rv p dep m)) = some ([], Hp L xs (rv p' dep m')) ∧ Pst mc e (stS mc (nd 27 i a b) H 0 0 (s, y)) y m m' σ D G H p q p' 0 0 := by
  have l2 := P_le b h9
  have l1 := P_lt0 h8
  have el := S.el
  have hT := S.tr p hp (by omega)
  rw [h1] at hT
  have N := SR_En S R (by omega) (Or.inl hb) (by omega)
  have hl := R.hl
  have y_p := fun (s : Int) (D : Nat) (hs : 0 ≤ s ∧ s ≤ 12) => N_210 (L := L) (xs := xs) (F := F) (d := D) (dep := dep) (a1 := s) (m := m) hb (by omega) hT hs
  have w_p := fun (D : Nat) => N_211 (L := L) (xs := xs) (F := F) (d := D) (dep := dep) (m := m) hb (by omega) hT
  have x1 := fun D => N_212 (F := F) (L := L) (xs := xs) (d := D) (m := m) (p := p) (dep := dep) hb (by omega)
  obtain ⟨d, rfl⟩ : ∃ d', d = d' + 2 := ⟨d - 2, by omega⟩
  have la := R.la
  have hl1 : y.1.length < 3000 := by omega
  have R1 := SR_lab1 R hl1
  have en1 : nln y = (y.1.length : Int) := nln_1 hl1
  have hy1 : (nlb y).1.length = y.1.length + 1 := by rw [nlb_1 hl1, List.length_append, List.length_replicate]
  have xa := fun D P1 => M_244 (F := F) (L := L) (xs := xs) (d := D) (m := m) (p := P1) (dep := dep) (by omega) (by omega)
  rw [← la] at xa R1
  generalize hm1 : put m 158 46 ((y.1.length : Int) + 1) = m1 at *
  have F0 : FS m m1 := by rw [← hm1]; exact FS_put FS_rf rfl
  have hb1 : m1 158 15 = 0 := by rw [← hm1]; exact hb
  have g41 : m1 158 41 = m 158 41 := by rw [← hm1]; rfl
  have g30 : m1 158 30 = m 158 30 := by rw [← hm1]; rfl
  have g39 : m1 158 39 = m 158 39 := by rw [← hm1]; rfl
  have g40 : m1 158 40 = m 158 40 := by rw [← hm1]; rfl
  have g176 : ∀ k, m1 176 k = m 176 k := by rw [← hm1]; exact fun _ => rfl
  have S1 := SE_FS S F0
  obtain ⟨⟨p1, k1, k2, k3, c1⟩, W2, S2, E2, F2, q41, q41b, B⟩ := Ex_ok (F := F) (L := L) (xs := xs) (d := d) hF S1 R1 hb1 (rng0 hs0) h8 hd0 hd1 (by omega) (by omega) (by omega) (by omega) (fun j j1 j2 => hD j j1 (by omega)) (by omega)
  have x5 := fun D P1 => R_246_16 (F := F) (L := L) (xs := xs) (d := D) (p := P1) (dep := dep) (a := 0) (l := (y.1.length : Int)) W2
  have X3 := Pst_fin (e := e) (o := 16) (a := 0) (l := (y.1.length : Int)) (lm := (y.1.length : Int)) (u := -1) (z := false) (p := p) (q := r) (p' := p1) E2 F2 W2 (by omega) (by omega) (by
    rcases B with ⟨b1, R2, b2⟩ | B
    · left
      refine ⟨b1, R2, ?_⟩
      rw [b2, hs0]
      decide
    · exact Or.inr (Br_le B (by omega) (by omega))) rfl (sx_g (Int.le_refl _)).symm (fun _ => by rw [hy1]; omega) ⟨k1, k2, k3⟩ (by omega) (v := 2) (by omega)
  have ec : stS mc (nd 27 i a b) H 0 0 (s, y) = (fun c4 : zS => (c4.1, slb (nln y) (c4.1.1.length : Int) c4.2)) (stS mc b H 0 0 (em 16 0 (nln y) (xE (sww H (nlb y) mc) a s), nlb y)) := rfl
  rw [ec, en1]
  obtain ⟨p4, m4, c4, X4⟩ := Bk_any (L := L) (xs := xs) (d := d) hF hB S1 X3 h9 hd0 hd1 hp (by omega) hq (by omega) (by rw [hy1]; omega) (by decide) (by decide) hD (by omega)
  have S4 := (Pst_WU S1 X4 hq (by omega) (by omega) (by decide)).2
  have x6 := fun D => K210n (F := F) (L := L) (xs := xs) (d := D) (m := m4) (p := p4) (dep := dep) (c := kd mc q) (a1 := 5) (by
    rcases X4.2.2.2 with ⟨σ4, e4, ⟨Y, hp4⟩ | ⟨W, B⟩⟩
    · subst hp4
      exact Or.inr ⟨Y.b0, S4.tr p4 (by omega) hq, h11⟩
    · exact Or.inl B.1) ⟨X4.2.1, by have := X4.2.2.1; omega⟩ (by omega)
  have x7 := fun D P1 => M_245 (F := F) (L := L) (xs := xs) (d := D) (m := m4) (p := P1) (dep := dep) (l := (y.1.length : Int)) (by omega) (by omega)
  have X6 := Pst_stand (l := (y.1.length : Int)) (lm := (y.1.length : Int)) X4 (by omega) (sx_g (Int.le_refl _)).symm (by rw [hy1]; omega)
  have X7 := Pst_base (y := y) (m := m) (σ := σ) (n := 1) X6 F0 (by decide) (by rw [hy1]; omega) (fun k hk => sx_l hk) g41 g30 g39 g40 g176
  refine ⟨p4, _, ?_, Pst_w X7 (by decide) (by decide)⟩
  simp (disch := first | omega | assumption) only [c_231, tr_231, c_233, tr_233, ev_0, ev_1, ev_16, ev_17, ev_18, ev_2, ev_3, ev_4, ev_5, ev_6, ev_7, ev_8, ev_9, ev_20, ev_21, ev_22, ev_23, ev_24, ev_25, ev_27, ev_28, ev_30, ev_31, ev_32, ev_33, ev_34, ev_35, ev_36, ev_37, ev_38, ev_39, ev_40, ev_41, ev_42, ev_43, ev_45, ev_46, ev_47, ev_48, ev_49, ev_50, ev_51, ev_52, ev_54, ev_55, ev_57, ev_58, ev_59, k2_0, k2_1, k2_2, k3a, k3b, k4, o1_s, xbin_0, xbin_1, xbin_2, xbin_3, xbin_4, xbin_5, xbin_6, xbin_7, xbin_8, xbin_9, xbin_11, xbin_12, xun_0, xun_1, xun_2, xun_3, xun_4, xun_5, k6a, k8, k8b, k9, k20, k20b_0, k20b_1, k20b_2, k20b_3, k20b_4, k20b_5, k21_0, k21_1, k21_2, k21_3, k21_4, k21_5, k23, k24, k25, k27, k28, k40, nz_1, nz_2, nz_3, k31_0, k31_1, k31_2, k31_3, k32u, k33, k34, k35, k35b, k36, k37, k38, k47, k49, k49b_0, k49b_1, k49b_2, k49b_3, k50_0, k50_s, k51_0, k51_s, k55, k58, k58b, rk_0, rk_1, rk_2, rk_9, rk_3, rk_4, rk_5, sw_n, sw_c, xtb_n, xtb_c, lset_0, lset_2, lset_1, lkm_0, lkm_2, lkm_9, lkm_1, lkm_n, if_some1, c_10, c_01, c_x0, c_1x, c_n0, c_nn, List.getElem?_cons_zero, List.getElem?_cons_succ, List.set_cons_zero, List.set_cons_succ, List.length_cons, List.length_nil, Int.reduceToNat, Nat.reduceDiv, Nat.reduceMod, Nat.reduceSub, Nat.reduceAdd, Nat.reduceMul, Nat.reduceLT, Nat.reduceLeDiff, Nat.reduceEqDiff, Int.reduceMod, Int.reduceSub, Int.reduceNeg, Int.reduceAdd, Int.reduceMul, Int.reduceLT, Int.reduceLE, Int.reduceEq, put_ss, if_true, if_false, ite_true, ite_false, reduceIte, eq_self, and_true, true_and, and_false, false_and, or_true, true_or, or_false, false_or, not_true_eq_false, not_false_eq_true, k5_158_14, k34_158_14, k34i_158_14, k5_158_15, k34_158_15, k34i_158_15, k5_158_13, k34_158_13, k54_158_13, k54b_158_13_0, k54b_158_13_1, k5_158_48, k34_158_48, k5_158_5, k6_161, k35_161, n_161, k5_158_7, k6_163, k35_163, n_163, k5_158_12, k34_158_12, k54_158_12, k54b_158_12_0, k5_158_30, k34_158_30, k54_158_30, k54b_158_30_0, k5_158_33, k34_158_33, rv_t, rv_d, rv_x, rv_y, rp_t, rp_d, rp_x, rp_y, w32_of, y_p, w_p, x1, xa, c1, x5, c4, x6, x7, hb]
theorem st_28 (hF : 100000 ≤ F) {L d : Nat} {xs : Nat → Int32} {m : Mem} {s : xSt} {y : yS} {σ : Int → Int} {D H dep p q : Int} {G : Prop} {V : Int → Int} {i : Int} {a b : xT} (hd0 : 0 ≤ dep) (hd1 : dep ≤ 30) (hp : 0 ≤ p) (hq : q ≤ e) (S : SE mc m e) (R : SR mc s y m σ D G H p) (hs0 : s.2.1 = 0) (hb : m 158 15 = 0) (h41 : m 158 41 + 2 * (q - p) < 2900) (hlab : (y.1.length : Int) + 2 * (q - p) < 2900) (hD : ∀ j, 0 ≤ j → j < q → mc 54 j.toNat < D) (hd : 300 + 4 * (31 - dep).toNat + 2 ≤ d) {i2 : Int} {b1 b2 : xT} (h1 : kd mc p = 8) {r u : Int} (h8 : P (kd mc) V a 0 dep (p + 1) r) (h9 : P (kd mc) V b1 8 dep r u) (h11 : kd mc u = 9) (h12 : P (kd mc) V b2 8 dep (u + 1) q) (hbb : b = nd 36 i2 b1 b2) (hB : Qst 230 8 0 2 F mc e b1) (hB2 : Qst 230 8 0 2 F mc e b2) : ∃ p' m', Cx F (d + 10) 231 [158] (Hp L xs (rv p dep m)) = some ([], Hp L xs (rv p' dep m')) ∧ Pst mc e (stS mc (nd 28 i a b) H 0 0 (s, y)) y m m' σ D G H p q p' 0 0 := by
  have l2 := P_le b1 h9
  have l3 := P_le b2 h12
  have l1 := P_lt0 h8
  have el := S.el
  have hT := S.tr p hp (by omega)
  rw [h1] at hT
  have N := SR_En S R (by omega) (Or.inl hb) (by omega)
  have hl := R.hl
  have y_p := fun (s : Int) (D : Nat) (hs : 0 ≤ s ∧ s ≤ 12) => N_210 (L := L) (xs := xs) (F := F) (d := D) (dep := dep) (a1 := s) (m := m) hb (by omega) hT hs
  have w_p := fun (D : Nat) => N_211 (L := L) (xs := xs) (F := F) (d := D) (dep := dep) (m := m) hb (by omega) hT
  have x1 := fun D => N_212 (F := F) (L := L) (xs := xs) (d := D) (m := m) (p := p) (dep := dep) hb (by omega)
  obtain ⟨d, rfl⟩ : ∃ d', d = d' + 2 := ⟨d - 2, by omega⟩
  have la := R.la
  have hl1 : y.1.length < 3000 := by omega
  have R1 := SR_lab1 R hl1
  have en1 : nln y = (y.1.length : Int) := nln_1 hl1
  have hy1 : (nlb y).1.length = y.1.length + 1 := by rw [nlb_1 hl1, List.length_append, List.length_replicate]
  have xa := fun D P1 => M_244 (F := F) (L := L) (xs := xs) (d := D) (m := m) (p := P1) (dep := dep) (by omega) (by omega)
  rw [← la] at xa R1
  generalize hm1 : put m 158 46 ((y.1.length : Int) + 1) = m1 at *
  have F0 : FS m m1 := by rw [← hm1]; exact FS_put FS_rf rfl
  have hb1 : m1 158 15 = 0 := by rw [← hm1]; exact hb
  have g41 : m1 158 41 = m 158 41 := by rw [← hm1]; rfl
  have g30 : m1 158 30 = m 158 30 := by rw [← hm1]; rfl
  have g39 : m1 158 39 = m 158 39 := by rw [← hm1]; rfl
  have g40 : m1 158 40 = m 158 40 := by rw [← hm1]; rfl
  have g176 : ∀ k, m1 176 k = m 176 k := by rw [← hm1]; exact fun _ => rfl
  have S1 := SE_FS S F0
  obtain ⟨⟨p1, k1, k2, k3, c1⟩, W2, S2, E2, F2, q41, q41b, B⟩ := Ex_ok (F := F) (L := L) (xs := xs) (d := d) hF S1 R1 hb1 (rng0 hs0) h8 hd0 hd1 (by omega) (by omega) (by omega) (by omega) (fun j j1 j2 => hD j j1 (by omega)) (by omega)
  have x5 := fun D P1 => R_246_16 (F := F) (L := L) (xs := xs) (d := D) (p := P1) (dep := dep) (a := 0) (l := (y.1.length : Int)) W2
  have X3 := Pst_fin (e := e) (o := 16) (a := 0) (l := (y.1.length : Int)) (lm := (y.1.length : Int)) (u := -1) (z := false) (p := p) (q := r) (p' := p1) E2 F2 W2 (by omega) (by omega) (by
    rcases B with ⟨b1, R2, b2⟩ | B
    · left
      refine ⟨b1, R2, ?_⟩
      rw [b2, hs0]
      decide
    · exact Or.inr (Br_le B (by omega) (by omega))) rfl (sx_g (Int.le_refl _)).symm (fun _ => by rw [hy1]; omega) ⟨k1, k2, k3⟩ (by omega) (v := 2) (by omega)
  subst hbb
  have ec : stS mc (nd 28 i a (nd 36 i2 b1 b2)) H 0 0 (s, y) = (fun c4 : zS => (fun c8 : zS => (c8.1, slb (nln c4.2) (c8.1.1.length : Int) c8.2)) (stS mc b2 H 0 0 (em 15 0 (nln c4.2) c4.1, slb (nln y) ((em 15 0 (nln c4.2) c4.1).1.length : Int) (nlb c4.2)))) (stS mc b1 H 0 0 (em 16 0 (nln y) (xE (sww H (nlb y) mc) a s), nlb y)) := rfl
  rw [ec, en1]
  obtain ⟨p4, m4, c4, X4⟩ := Bk_any (L := L) (xs := xs) (d := d) hF hB S1 X3 h9 hd0 hd1 hp (by omega) (by omega) (by omega) (by rw [hy1]; omega) (by decide) (by decide) (fun j j1 j2 => hD j j1 (by omega)) (by omega)
  have S4 := (Pst_WU S1 X4 (by omega) (by omega) (by omega) (by decide)).2
  generalize hc4 : stS mc b1 H 0 0 (em 16 0 (y.1.length : Int) (xE (sww H (nlb y) mc) a s), nlb y) = z4 at *
  rcases X4 with ⟨F4, q0, q1, σ4, e4, ⟨Y, hp4⟩ | ⟨W, B⟩⟩
  · subst hp4
    have y41 := Y.o41
    have ylc := Y.lc
    have yly := Y.ly
    have hT4 := S4.tr p4 (by omega) (by omega)
    rw [h11] at hT4
    have x6 := fun D => N_210 (F := F) (L := L) (xs := xs) (d := D) (m := m4) (p := p4) (dep := dep) (a1 := 5) Y.b0 (by omega) hT4 (by omega)
    have la4 := Y.sr.la
    have hl4 : z4.2.1.length < 3000 := by omega
    have xd := fun D P1 => M_244 (F := F) (L := L) (xs := xs) (d := D) (m := m4) (p := P1) (dep := dep) (by omega) (by omega)
    have R5 := SR_lab1 Y.sr hl4
    rw [← la4] at xd R5
    have en4 : nln z4.2 = (z4.2.1.length : Int) := nln_1 hl4
    simp only [en4]
    have hy5 : (nlb z4.2).1.length = z4.2.1.length + 1 := by rw [nlb_1 hl4, List.length_append, List.length_replicate]
    generalize hm5 : put m4 158 46 ((z4.2.1.length : Int) + 1) = m5 at *
    have F5 : FS m4 m5 := by rw [← hm5]; exact FS_put FS_rf rfl
    have hb5 : m5 158 15 = 0 := by rw [← hm5]; exact Y.b0
    have f41 : m5 158 41 = m4 158 41 := by rw [← hm5]; rfl
    have f30 : m5 158 30 = m4 158 30 := by rw [← hm5]; rfl
    have f39 : m5 158 39 = m4 158 39 := by rw [← hm5]; rfl
    have f40 : m5 158 40 = m4 158 40 := by rw [← hm5]; rfl
    have f176 : ∀ k, m5 176 k = m4 176 k := by rw [← hm5]; exact fun _ => rfl
    have S5 := SE_FS S4 F5
    have W5 := SR_WU S5 R5 (by omega) (Or.inl hb5) (by omega)
    have x8 := fun D => N_212 (F := F) (L := L) (xs := xs) (d := D) (m := m5) (p := p4) (dep := dep) hb5 (by omega)
    have x9 := fun D P1 => R_246_15 (F := F) (L := L) (xs := xs) (d := D) (p := P1) (dep := dep) (a := 0) (l := (z4.2.1.length : Int)) W5
    have b2 : w32 (z4.1.2.1 + 0) = 0 := by rw [Y.pz]; decide
    have R6 := SR_emz (o := 15) (a := 0) (u := 0) (l := (z4.2.1.length : Int)) (lm := (z4.2.1.length : Int)) R5 hb5 (by omega) rfl b2 (sx_g (Int.le_refl _)).symm (by rw [hy5]; omega)
    have g6 := (Fm_emG (m := m5) (o := 15) (a := 0) (l := (z4.2.1.length : Int)) (u := 0) (z := true) (Or.inl hb5)).2.2.2.1
    have E6 := FE_emG (m := m5) (o := 15) (a := 0) (l := (z4.2.1.length : Int)) (u := 0) (z := true)
    have hb6 : emG m5 15 0 (z4.2.1.length : Int) 0 true 158 15 = 0 := emG_ok hb5
    have F6 : FS m5 (emG m5 15 0 (z4.2.1.length : Int) 0 true) := FS_emG
    have xe := fun D P1 => M_245 (F := F) (L := L) (xs := xs) (d := D) (m := emG m5 15 0 (z4.2.1.length : Int) 0 true) (p := P1) (dep := dep) (l := (y.1.length : Int)) (by omega) (by omega)
    have R7 := SR_st R6 (l := (y.1.length : Int)) (by omega) (by rw [hy5]; omega)
    have es : sx σ4 (z4.2.1.length : Int) (y.1.length : Int) = (y.1.length : Int) := by
      rw [sx_l (by omega), e4 _ (by rw [hy1]; omega), sx_g (Int.le_refl _)]
    rw [es] at R7
    have e158 : (em 15 0 (z4.2.1.length : Int) z4.1).2.1 = 0 := b2
    have hl6 : (em 15 0 (z4.2.1.length : Int) z4.1).1.length = ((em 15 0 (z4.2.1.length : Int) z4.1).1).length := rfl
    generalize hm6 : emG m5 15 0 (z4.2.1.length : Int) 0 true = m6 at *
    generalize hm7 : put m6 181 ((y.1.length : Int)).toNat (m6 158 41) = m7 at *
    have F7 : FS m6 m7 := by rw [← hm7]; exact FS_put FS_rf rfl
    have hy7 : (slb (y.1.length : Int) ((em 15 0 (z4.2.1.length : Int) z4.1).1.length : Int) (nlb z4.2)).1.length = z4.2.1.length + 1 := by
      unfold slb
      split
      · rw [List.length_set]; exact hy5
      · exact hy5
    have h741 : m7 158 41 = m6 158 41 := by rw [← hm7]; rfl
    have h730 : m7 158 30 = m6 158 30 := by rw [← hm7]; rfl
    have h739 : m7 158 39 = m6 158 39 := by rw [← hm7]; rfl
    have h740 : m7 158 40 = m6 158 40 := by rw [← hm7]; rfl
    have h715 : m7 158 15 = 0 := by rw [← hm7]; exact hb6
    have h7176 : ∀ k, m7 176 k = m6 176 k := by rw [← hm7]; exact fun _ => rfl
    have y30 := Y.l30
    have y39 := Y.w39
    have y40 := Y.w40
    have s30 : m7 158 30 = m4 158 30 := by rw [h730, E6 158 30 rfl, f30]
    have s39 : m7 158 39 = m4 158 39 := by rw [h739, E6 158 39 rfl, f39]
    have s40 : m7 158 40 = m4 158 40 := by rw [h740, E6 158 40 rfl, f40]
    have s176 : ∀ k, m7 176 k = m4 176 k := fun k => by rw [h7176, E6 176 k rfl, f176]
    have F47 := FS_tr F5 (FS_tr F6 F7)
    have S7 := SE_FS S4 F47
    obtain ⟨p8, m8, c8, X8⟩ := hB2 V dep (p4 + 1) q h12 hd0 hd1 (by omega) hq L xs d m7 _ _ (sx σ4 (z4.2.1.length : Int)) D H G S7 (SR_p R7 (by omega)) e158 h715 (by omega) (by rw [hy7]; omega) hD (by omega)
    have xf := fun D P1 => M_245 (F := F) (L := L) (xs := xs) (d := D) (m := m8) (p := P1) (dep := dep) (l := (z4.2.1.length : Int)) (by omega) (by omega)
    have X9 := Pst_stand (l := (z4.2.1.length : Int)) (lm := (z4.2.1.length : Int)) X8 (by omega) (sx_g (Int.le_refl _)).symm (by rw [hy7]; omega)
    have A7 : Pok mc (em 15 0 (z4.2.1.length : Int) z4.1, slb (y.1.length : Int) ((em 15 0 (z4.2.1.length : Int) z4.1).1.length : Int) (nlb z4.2)) (nlb y) m1 m7 (sx σ4 (z4.2.1.length : Int)) D G H p (p4 + 1) 2 4 := by
      refine ⟨h715, SR_p R7 (by omega), e158, by omega, ?_, ?_, by omega, by omega, by omega, fun k hk => (s176 k).trans (Y.c176 k hk)⟩
      · show ((slb (y.1.length : Int) ((em 15 0 (z4.2.1.length : Int) z4.1).1.length : Int) (nlb z4.2)).1.length : Int) ≤ _
        rw [hy7]
        omega
      · show _ ≤ ((slb (y.1.length : Int) ((em 15 0 (z4.2.1.length : Int) z4.1).1.length : Int) (nlb z4.2)).1.length : Int)
        rw [hy7]
        omega
    have X10 := Pst_tr (FS_tr F4 F47) (fun k hk => (sx_l (by omega)).trans (e4 k hk)) A7 (by omega) X9
    have X11 := Pst_base (y := y) (m := m) (σ := σ) (n := 1) X10 F0 (by decide) (by rw [hy1]; omega) (fun k hk => sx_l hk) g41 g30 g39 g40 g176
    refine ⟨p8, _, ?_, Pst_w X11 (by decide) (by decide)⟩
    simp (disch := first | omega | assumption) only [c_231, tr_231, c_233, tr_233, ev_0, ev_1, ev_16, ev_17, ev_18, ev_2, ev_3, ev_4, ev_5, ev_6, ev_7, ev_8, ev_9, ev_20, ev_21, ev_22, ev_23, ev_24, ev_25, ev_27, ev_28, ev_30, ev_31, ev_32, ev_33, ev_34, ev_35, ev_36, ev_37, ev_38, ev_39, ev_40, ev_41, ev_42, ev_43, ev_45, ev_46, ev_47, ev_48, ev_49, ev_50, ev_51, ev_52, ev_54, ev_55, ev_57, ev_58, ev_59, k2_0, k2_1, k2_2, k3a, k3b, k4, o1_s, xbin_0, xbin_1, xbin_2, xbin_3, xbin_4, xbin_5, xbin_6, xbin_7, xbin_8, xbin_9, xbin_11, xbin_12, xun_0, xun_1, xun_2, xun_3, xun_4, xun_5, k6a, k8, k8b, k9, k20, k20b_0, k20b_1, k20b_2, k20b_3, k20b_4, k20b_5, k21_0, k21_1, k21_2, k21_3, k21_4, k21_5, k23, k24, k25, k27, k28, k40, nz_1, nz_2, nz_3, k31_0, k31_1, k31_2, k31_3, k32u, k33, k34, k35, k35b, k36, k37, k38, k47, k49, k49b_0, k49b_1, k49b_2, k49b_3, k50_0, k50_s, k51_0, k51_s, k55, k58, k58b, rk_0, rk_1, rk_2, rk_9, rk_3, rk_4, rk_5, sw_n, sw_c, xtb_n, xtb_c, lset_0, lset_2, lset_1, lkm_0, lkm_2, lkm_9, lkm_1, lkm_n, if_some1, c_10, c_01, c_x0, c_1x, c_n0, c_nn, List.getElem?_cons_zero, List.getElem?_cons_succ, List.set_cons_zero, List.set_cons_succ, List.length_cons, List.length_nil, Int.reduceToNat, Nat.reduceDiv, Nat.reduceMod, Nat.reduceSub, Nat.reduceAdd, Nat.reduceMul, Nat.reduceLT, Nat.reduceLeDiff, Nat.reduceEqDiff, Int.reduceMod, Int.reduceSub, Int.reduceNeg, Int.reduceAdd, Int.reduceMul, Int.reduceLT, Int.reduceLE, Int.reduceEq, put_ss, if_true, if_false, ite_true, ite_false, reduceIte, eq_self, and_true, true_and, and_false, false_and, or_true, true_or, or_false, false_or, not_true_eq_false, not_false_eq_true, k5_158_14, k34_158_14, k34i_158_14, k5_158_15, k34_158_15, k34i_158_15, k5_158_13, k34_158_13, k54_158_13, k54b_158_13_0, k54b_158_13_1, k5_158_48, k34_158_48, k5_158_5, k6_161, k35_161, n_161, k5_158_7, k6_163, k35_163, n_163, k5_158_12, k34_158_12, k54_158_12, k54b_158_12_0, k5_158_30, k34_158_30, k54_158_30, k54b_158_30_0, k5_158_33, k34_158_33, rv_t, rv_d, rv_x, rv_y, rp_t, rp_d, rp_x, rp_y, w32_of, y_p, w_p, x1, xa, c1, x5, c4, x6, xd, x8, x9, xe, c8, xf, hb]
  · have x6 := fun D => B_210 (F := F) (L := L) (xs := xs) (d := D) (m := rv p4 dep m4) (a1 := 5) B.1
    have x7 := fun D P1 => M_245 (F := F) (L := L) (xs := xs) (d := D) (m := m4) (p := P1) (dep := dep) (l := (y.1.length : Int)) (by omega) (by omega)
    refine ⟨p4, put m4 181 ((y.1.length : Int)).toNat (m4 158 41), ?_, FS_put (FS_tr F0 F4) rfl, q0, q1, σ, fun _ _ => rfl, Or.inr ⟨W, ?_⟩⟩
    · simp (disch := first | omega | assumption) only [c_231, tr_231, c_233, tr_233, ev_0, ev_1, ev_16, ev_17, ev_18, ev_2, ev_3, ev_4, ev_5, ev_6, ev_7, ev_8, ev_9, ev_20, ev_21, ev_22, ev_23, ev_24, ev_25, ev_27, ev_28, ev_30, ev_31, ev_32, ev_33, ev_34, ev_35, ev_36, ev_37, ev_38, ev_39, ev_40, ev_41, ev_42, ev_43, ev_45, ev_46, ev_47, ev_48, ev_49, ev_50, ev_51, ev_52, ev_54, ev_55, ev_57, ev_58, ev_59, k2_0, k2_1, k2_2, k3a, k3b, k4, o1_s, xbin_0, xbin_1, xbin_2, xbin_3, xbin_4, xbin_5, xbin_6, xbin_7, xbin_8, xbin_9, xbin_11, xbin_12, xun_0, xun_1, xun_2, xun_3, xun_4, xun_5, k6a, k8, k8b, k9, k20, k20b_0, k20b_1, k20b_2, k20b_3, k20b_4, k20b_5, k21_0, k21_1, k21_2, k21_3, k21_4, k21_5, k23, k24, k25, k27, k28, k40, nz_1, nz_2, nz_3, k31_0, k31_1, k31_2, k31_3, k32u, k33, k34, k35, k35b, k36, k37, k38, k47, k49, k49b_0, k49b_1, k49b_2, k49b_3, k50_0, k50_s, k51_0, k51_s, k55, k58, k58b, rk_0, rk_1, rk_2, rk_9, rk_3, rk_4, rk_5, sw_n, sw_c, xtb_n, xtb_c, lset_0, lset_2, lset_1, lkm_0, lkm_2, lkm_9, lkm_1, lkm_n, if_some1, c_10, c_01, c_x0, c_1x, c_n0, c_nn, List.getElem?_cons_zero, List.getElem?_cons_succ, List.set_cons_zero, List.set_cons_succ, List.length_cons, List.length_nil, Int.reduceToNat, Nat.reduceDiv, Nat.reduceMod, Nat.reduceSub, Nat.reduceAdd, Nat.reduceMul, Nat.reduceLT, Nat.reduceLeDiff, Nat.reduceEqDiff, Int.reduceMod, Int.reduceSub, Int.reduceNeg, Int.reduceAdd, Int.reduceMul, Int.reduceLT, Int.reduceLE, Int.reduceEq, put_ss, if_true, if_false, ite_true, ite_false, reduceIte, eq_self, and_true, true_and, and_false, false_and, or_true, true_or, or_false, false_or, not_true_eq_false, not_false_eq_true, k5_158_14, k34_158_14, k34i_158_14, k5_158_15, k34_158_15, k34i_158_15, k5_158_13, k34_158_13, k54_158_13, k54b_158_13_0, k54b_158_13_1, k5_158_48, k34_158_48, k5_158_5, k6_161, k35_161, n_161, k5_158_7, k6_163, k35_163, n_163, k5_158_12, k34_158_12, k54_158_12, k54b_158_12_0, k5_158_30, k34_158_30, k54_158_30, k54b_158_30_0, k5_158_33, k34_158_33, rv_t, rv_d, rv_x, rv_y, rp_t, rp_d, rp_x, rp_y, w32_of, y_p, w_p, x1, xa, c1, x5, c4, x6, x7, hb]
    · exact Br_stS (s := em 15 0 (nln z4.2) z4.1) (y := slb (y.1.length : Int) ((em 15 0 (nln z4.2) z4.1).1.length : Int) (nlb z4.2)) S.mo B hp (by decide) (by decide) h12 (by omega) hq
end Ifw
