/-! CLASS AND MODEL, THE SECOND WALK: statements that begin with a name -/
section Siv
variable {F : Nat} {mc : Mem} {e : Int}
theorem st_24 (hF : 100000 ≤ F) {L d : Nat} {xs : Nat → Int32} {m : Mem} {s : xSt} {y : yS} {σ : Int → Int} {D H dep p q : Int} {G : Prop} {V : Int → Int} {i : Int} {a b : xT} (hd0 : 0 ≤ dep) (hd1 : dep ≤ 30) (hp : 0 ≤ p) (hq : q ≤ e) (S : SE mc m e) (R : SR mc s y m σ D G H p) (hs0 : s.2.1 = 0) (hb : m 158 15 = 0) (h41 : m 158 41 + 2 * (q - p) < 2900) (hlab : (y.1.length : Int) + 2 * (q - p) < 2900) (hD : ∀ j, 0 ≤ j → j < q → mc 54 j.toNat < D) (hd : 300 + 4 * (31 - dep).toNat + 2 ≤ d) (h1 : kd mc p = 2) (h6 : i = p) {r : Int} (h8 : P (kd mc) V a 6 dep (p + 1) r) (h9 : kd mc r = 59) (h10 : q = r + 1) : ∃ p' m', Cx F (d + 10) 231 [158] (Hp L xs (rv p dep m)) = some ([], Hp L xs (rv p' dep m')) ∧ Pst mc e (stS mc (nd 24 i a b) H 0 0 (s, y)) y m m' σ D G H p q p' 0 0 := by
  have l1 := P_le a h8
  have h3 : kd mc (p + 1) = 40 := by
    rcases inv_6 h8 with ⟨j, a1, b1, -, g, -⟩ | ⟨j, a1, b1, -, g, -⟩ <;> exact g
  have l2 : p + 1 < r := by
    rcases inv_6 h8 with ⟨j, a1, b1, -, g, g1, g2, g3⟩ | ⟨j, a1, b1, -, g, g1, g2, r2, g3, g4⟩
    · omega
    · have := P_le _ g3
      have := P_le _ g4
      omega
  have el := S.el
  have hT := S.tr p hp (by omega)
  rw [h1] at hT
  have N := SR_En S R (by omega) (Or.inl hb) (by omega)
  have hl := R.hl
  have y_p := fun (s : Int) (D : Nat) (hs : 0 ≤ s ∧ s ≤ 12) => N_210 (L := L) (xs := xs) (F := F) (d := D) (dep := dep) (a1 := s) (m := m) hb (by omega) hT hs
  have w_p := fun (D : Nat) => N_211 (L := L) (xs := xs) (F := F) (d := D) (dep := dep) (m := m) hb (by omega) hT
  have x1 := fun D => N_212 (F := F) (L := L) (xs := xs) (d := D) (m := m) (p := p) (dep := dep) hb (by omega)
  have hT1 := S.tr (p + 1) (by omega) (by omega)
  rw [h3] at hT1
  have x2 := fun D => N_215 (F := F) (L := L) (xs := xs) (d := D) (m := m) (p := p) (dep := dep) hb (by omega) hT rfl
  have i_p := fun (s : Int) (D : Nat) (hs : 33 ≤ s ∧ s ≤ 255 ∨ 300 ≤ s ∧ s ≤ 303) => N_209 (L := L) (xs := xs) (F := F) (d := D) (dep := dep) (p := p + 1) (a1 := s) (m := m) hb (by omega) hT1 hs
  have h15 : P (kd mc) V (nd 15 p a b) 5 dep p r := p_15.mpr ⟨rfl, h1, rfl, h8⟩
  obtain ⟨d, rfl⟩ : ∃ d', d = d' + 2 := ⟨d - 2, by omega⟩
  obtain ⟨p1, k1, k2, k3, c1⟩ := (QmAll (F := F) (K := kd mc) (e := e) (by omega) hF (tsz a + 1) a (by omega)).2.2.2.2.2.2.1 V dep (p + 1) r p h8 hd0 hd1 (by omega) (by omega) hp (by omega) L xs d m N (by omega) hb (by omega)
  have ee : eM (nd 15 p a b) m = caM p a m := rfl
  have f1 := Fm_eM (tsz (nd 15 p a b) + 1) (nd 15 p a b) (by omega) _ _ _ _ (by decide) h15 m (Or.inl hb)
  have B := RE (mc := sww H y mc) (σ := σ) (D := D) (e := e) (G := G) (V := V) (tsz (nd 15 p a b) + 1) (nd 15 p a b) (by omega) 5 dep p r (by decide) h15 hp (by omega) s m (SR_EE S R (by omega)) R.rx hb (by omega) (fun j j1 j2 => hD j j1 (by omega))
  have bp : (xE (sww H y mc) (nd 15 p a b) s).2.1 = w32 (s.2.1 + 1) := xE_pu (mc := sww H y mc) (tsz (nd 15 p a b) + 1) (nd 15 p a b) (by omega) 5 dep p r (by decide) h15 s (rng0 hs0)
  rw [ee] at f1 B
  have E1 : FE m (caM p a m) := FE_caM
  have F1 : FS m (caM p a m) := FS_caM
  have f41 := f1.2.2.2.1
  have W1 := WU_Fm N.1 f1 (by omega)
  have S1 := SE_FS S F1
  have x6 := fun D => R_213 (F := F) (L := L) (xs := xs) (d := D) (m := caM p a m) (p := p1) (dep := dep) (a1 := 59) W1 (by omega) (by omega) (fun z => by
    have hz := k3 z
    have T2 := S1.tr (p1) k1 k2
    rw [hz, h9] at T2
    rw [hz]
    exact T2)
  have x5 := fun D P1 => R_246_18 (F := F) (L := L) (xs := xs) (d := D) (p := P1) (dep := dep) (a := 0) (l := -1) W1
  subst h6
  have ec : stS mc (nd 24 i a b) H 0 0 (s, y) = (em 18 0 (-1) (xE (sww H y mc) (nd 15 i a b) s), y) := rfl
  rw [ec]
  have hp' := nxP_in (e := e) k1 k2 k3 (by omega)
  refine ⟨nxP (caM i a m) p1, emG (caM i a m) 18 0 (-1) (-1) false, ?_, ?_⟩
  · simp (disch := first | omega | assumption) only [c_231, tr_231, c_232, tr_232, ev_0, ev_1, ev_16, ev_17, ev_18, ev_2, ev_3, ev_4, ev_5, ev_6, ev_7, ev_8, ev_9, ev_20, ev_21, ev_22, ev_23, ev_24, ev_25, ev_27, ev_28, ev_30, ev_31, ev_32, ev_33, ev_34, ev_35, ev_36, ev_37, ev_38, ev_39, ev_40, ev_41, ev_42, ev_43, ev_45, ev_46, ev_47, ev_48, ev_49, ev_50, ev_51, ev_52, ev_54, ev_55, ev_57, ev_58, ev_59, k2_0, k2_1, k2_2, k3a, k3b, k4, o1_s, xbin_0, xbin_1, xbin_2, xbin_3, xbin_4, xbin_5, xbin_6, xbin_7, xbin_8, xbin_9, xbin_11, xbin_12, xun_0, xun_1, xun_2, xun_3, xun_4, xun_5, k6a, k8, k8b, k9, k20, k20b_0, k20b_1, k20b_2, k20b_3, k20b_4, k20b_5, k21_0, k21_1, k21_2, k21_3, k21_4, k21_5, k23, k24, k25, k27, k28, k40, nz_1, nz_2, nz_3, k31_0, k31_1, k31_2, k31_3, k32u, k33, k34, k35, k35b, k36, k37, k38, k47, k49, k49b_0, k49b_1, k49b_2, k49b_3, k50_0, k50_s, k51_0, k51_s, k55, k58, k58b, rk_0, rk_1, rk_2, rk_9, rk_3, rk_4, rk_5, sw_n, sw_c, xtb_n, xtb_c, lset_0, lset_2, lset_1, lkm_0, lkm_2, lkm_9, lkm_1, lkm_n, if_some1, c_10, c_01, c_x0, c_1x, c_n0, c_nn, List.getElem?_cons_zero, List.getElem?_cons_succ, List.set_cons_zero, List.set_cons_succ, List.length_cons, List.length_nil, Int.reduceToNat, Nat.reduceDiv, Nat.reduceMod, Nat.reduceSub, Nat.reduceAdd, Nat.reduceMul, Nat.reduceLT, Nat.reduceLeDiff, Nat.reduceEqDiff, Int.reduceMod, Int.reduceSub, Int.reduceNeg, Int.reduceAdd, Int.reduceMul, Int.reduceLT, Int.reduceLE, Int.reduceEq, put_ss, if_true, if_false, ite_true, ite_false, reduceIte, eq_self, and_true, true_and, and_false, false_and, or_true, true_or, or_false, false_or, not_true_eq_false, not_false_eq_true, k5_158_14, k34_158_14, k34i_158_14, k5_158_15, k34_158_15, k34i_158_15, k5_158_13, k34_158_13, k54_158_13, k54b_158_13_0, k54b_158_13_1, k5_158_48, k34_158_48, k5_158_5, k6_161, k35_161, n_161, k5_158_7, k6_163, k35_163, n_163, k5_158_12, k34_158_12, k54_158_12, k54b_158_12_0, k5_158_30, k34_158_30, k54_158_30, k54b_158_30_0, k5_158_33, k34_158_33, rv_t, rv_d, rv_x, rv_y, rp_t, rp_d, rp_x, rp_y, w32_of, y_p, w_p, x2, i_p, sgn, c1, x5, x6, hb]
  · refine Pst_fin E1 F1 W1 (by omega) (by omega) ?_ rfl R.s1.symm (fun _ => by omega) ⟨hp'.1, hp'.2.1, fun z => by rw [hp'.2.2 z]; omega⟩ (by omega) (by omega)
    rcases B with ⟨b1, X⟩ | B
    · left
      refine ⟨b1, SR_Fm R f1 (Int.le_refl _) X (LkB_xE (mc := sww H y mc) (n := (y.1.length : Int)) R.hl.2 (by omega) (nd 15 i a b) s R.lk), ?_⟩
      rw [bp, hs0]
      decide
    · exact Or.inr (Br_le B (by omega) (by omega))
theorem st_25 (hF : 100000 ≤ F) {L d : Nat} {xs : Nat → Int32} {m : Mem} {s : xSt} {y : yS} {σ : Int → Int} {D H dep p q : Int} {G : Prop} {V : Int → Int} {i : Int} {a b : xT} (hd0 : 0 ≤ dep) (hd1 : dep ≤ 30) (hp : 0 ≤ p) (hq : q ≤ e) (S : SE mc m e) (R : SR mc s y m σ D G H p) (hs0 : s.2.1 = 0) (hb : m 158 15 = 0) (h41 : m 158 41 + 2 * (q - p) < 2900) (hlab : (y.1.length : Int) + 2 * (q - p) < 2900) (hD : ∀ j, 0 ≤ j → j < q → mc 54 j.toNat < D) (hd : 300 + 4 * (31 - dep).toNat + 2 ≤ d) (h1 : kd mc p = 2) (h3 : kd mc (p + 1) = 61) (h6 : i = p) {r : Int} (h8 : P (kd mc) V a 0 dep (p + 2) r) (h9 : kd mc r = 59) (h10 : q = r + 1) : ∃ p' m', Cx F (d + 10) 231 [158] (Hp L xs (rv p dep m)) = some ([], Hp L xs (rv p' dep m')) ∧ Pst mc e (stS mc (nd 25 i a b) H 0 0 (s, y)) y m m' σ D G H p q p' 0 0 := by
  have l1 := P_le a h8
  have el := S.el
  have hT := S.tr p hp (by omega)
  rw [h1] at hT
  have N := SR_En S R (by omega) (Or.inl hb) (by omega)
  have hl := R.hl
  have y_p := fun (s : Int) (D : Nat) (hs : 0 ≤ s ∧ s ≤ 12) => N_210 (L := L) (xs := xs) (F := F) (d := D) (dep := dep) (a1 := s) (m := m) hb (by omega) hT hs
  have w_p := fun (D : Nat) => N_211 (L := L) (xs := xs) (F := F) (d := D) (dep := dep) (m := m) hb (by omega) hT
  have x1 := fun D => N_212 (F := F) (L := L) (xs := xs) (d := D) (m := m) (p := p) (dep := dep) hb (by omega)
  have hT1 := S.tr (p + 1) (by omega) (by omega)
  rw [h3] at hT1
  have x2 := fun D => N_215 (F := F) (L := L) (xs := xs) (d := D) (m := m) (p := p) (dep := dep) hb (by omega) hT rfl
  have i_p := fun (s : Int) (D : Nat) (hs : 33 ≤ s ∧ s ≤ 255 ∨ 300 ≤ s ∧ s ≤ 303) => N_209 (L := L) (xs := xs) (F := F) (d := D) (dep := dep) (p := p + 1) (a1 := s) (m := m) hb (by omega) hT1 hs
  have x3 := fun D P1 => R_242 (F := F) (L := L) (xs := xs) (d := D) (m := m) (p := P1) (dep := dep) (a := p) hF N.1 hp (by omega) (fun z => by have := N.2.1 _ z.1; omega)
  subst h6
  obtain ⟨d, rfl⟩ : ∃ d', d = d' + 2 := ⟨d - 2, by omega⟩
  have ec : stS mc (nd 25 i a b) H 0 0 (s, y) = (if lI (sww H y mc) (idT mc i) = -1 then em 5 (nmI mc (idT mc i)) (-1) (us mc i 1 (xE (sww H y mc) a s)) else em 3 (lI (sww H y mc) (idT mc i)) (-1) (xE (sww H y mc) a s), y) := rfl
  have E0 := SR_EE S R (by omega)
  have hN := E0.nm i hp (by omega) h1
  have hlI : lI (sww H y mc) (idT mc i) = lcK m (vlT m i) := hN.2.2.1
  rw [ec, hlI]
  by_cases hbad : ¬ 0 ≤ lcK m (vlT m i) ∧ ¬ isK m (vlT m i) 1
  · have e3 : plM m i = bkF m (plT m i) := by unfold plM; rw [if_pos hb, if_neg hbad.1, if_neg hbad.2]
    have e4 : plV m i = 0 := by unfold plV; rw [if_pos hb, if_neg hbad.1, if_neg hbad.2]
    rw [e3, e4] at x3
    have hl1 := lcK_n hbad.1
    rw [if_pos hl1]
    have W1 : WU (bkF m (plT m i)) := WU_bk N.1
    have hpl := S.pl i (by omega) (by omega)
    have ge : mc 54 i.toNat ≤ (xE (sww H y mc) a s).2.2.2.1 := xE_ge (mc := sww H y mc) (tsz a + 1) a (by omega) 0 dep (i + 2) r (by decide) h8 (fun j j1 j2 => S.mo _ _ (by omega) (by omega) (by omega)) s (by rw [R.rx.nf]; have := hD i (by omega) (by omega); omega)
    have u1 : us mc i 1 (xE (sww H y mc) a s) = bl mc i (xE (sww H y mc) a s) := if_neg (fun z => hbad.2 ((hN.1 1 (by decide)).1 z))
    have B : Br mc (bkF m (plT m i)) (em 5 (nmI mc (idT mc i)) (-1) (us mc i 1 (xE (sww H y mc) a s))) i q := by
      rw [u1]
      refine ⟨rfl, rfl, i, by omega, by omega, hpl.1.symm, ?_⟩
      show (if (0 ≤ i ∧ i < mc 51 5) ∧ mc 54 i.toNat < (xE (sww H y mc) a s).2.2.2.1 then mc 54 i.toNat else (xE (sww H y mc) a s).2.2.2.1) = _
      have := S.e5
      split <;> omega
    have x1 := fun D => B_212 (F := F) (L := L) (xs := xs) (d := D) (m := rv (i + 1) dep (bkF m (plT m i))) rfl
    have x4 := fun D o1 => B_213 (F := F) (L := L) (xs := xs) (d := D) (m := rv (i + 1) dep (bkF m (plT m i))) (a1 := o1) rfl ⟨by show 0 ≤ i + 1; omega, by show i + 1 < 3001; omega⟩
    have x6 := fun D => B_236 (F := F) (L := L) (xs := xs) (d := D) (m := rv (i + 1) dep (bkF m (plT m i))) rfl ⟨by show 0 ≤ i + 1; omega, by show i + 1 < 3001; omega⟩ hF
    have x5 := fun D o1 a1 l1 => B_246 (F := F) (L := L) (xs := xs) (d := D) (m := rv (i + 1) dep (bkF m (plT m i))) (a1 := o1) (a2 := a1) (a3 := l1) rfl
    refine ⟨i + 1, bkF m (plT m i), ?_, Pst_br FS_bkF W1 B (by omega) (by omega)⟩
    simp (disch := first | omega | assumption) only [c_231, tr_231, c_232, tr_232, ev_0, ev_1, ev_16, ev_17, ev_18, ev_2, ev_3, ev_4, ev_5, ev_6, ev_7, ev_8, ev_9, ev_20, ev_21, ev_22, ev_23, ev_24, ev_25, ev_27, ev_28, ev_30, ev_31, ev_32, ev_33, ev_34, ev_35, ev_36, ev_37, ev_38, ev_39, ev_40, ev_41, ev_42, ev_43, ev_45, ev_46, ev_47, ev_48, ev_49, ev_50, ev_51, ev_52, ev_54, ev_55, ev_57, ev_58, ev_59, k2_0, k2_1, k2_2, k3a, k3b, k4, o1_s, xbin_0, xbin_1, xbin_2, xbin_3, xbin_4, xbin_5, xbin_6, xbin_7, xbin_8, xbin_9, xbin_11, xbin_12, xun_0, xun_1, xun_2, xun_3, xun_4, xun_5, k6a, k8, k8b, k9, k20, k20b_0, k20b_1, k20b_2, k20b_3, k20b_4, k20b_5, k21_0, k21_1, k21_2, k21_3, k21_4, k21_5, k23, k24, k25, k27, k28, k40, nz_1, nz_2, nz_3, k31_0, k31_1, k31_2, k31_3, k32u, k33, k34, k35, k35b, k36, k37, k38, k47, k49, k49b_0, k49b_1, k49b_2, k49b_3, k50_0, k50_s, k51_0, k51_s, k55, k58, k58b, rk_0, rk_1, rk_2, rk_9, rk_3, rk_4, rk_5, sw_n, sw_c, xtb_n, xtb_c, lset_0, lset_2, lset_1, lkm_0, lkm_2, lkm_9, lkm_1, lkm_n, if_some1, c_10, c_01, c_x0, c_1x, c_n0, c_nn, List.getElem?_cons_zero, List.getElem?_cons_succ, List.set_cons_zero, List.set_cons_succ, List.length_cons, List.length_nil, Int.reduceToNat, Nat.reduceDiv, Nat.reduceMod, Nat.reduceSub, Nat.reduceAdd, Nat.reduceMul, Nat.reduceLT, Nat.reduceLeDiff, Nat.reduceEqDiff, Int.reduceMod, Int.reduceSub, Int.reduceNeg, Int.reduceAdd, Int.reduceMul, Int.reduceLT, Int.reduceLE, Int.reduceEq, put_ss, if_true, if_false, ite_true, ite_false, reduceIte, eq_self, and_true, true_and, and_false, false_and, or_true, true_or, or_false, false_or, not_true_eq_false, not_false_eq_true, k5_158_14, k34_158_14, k34i_158_14, k5_158_15, k34_158_15, k34i_158_15, k5_158_13, k34_158_13, k54_158_13, k54b_158_13_0, k54b_158_13_1, k5_158_48, k34_158_48, k5_158_5, k6_161, k35_161, n_161, k5_158_7, k6_163, k35_163, n_163, k5_158_12, k34_158_12, k54_158_12, k54b_158_12_0, k5_158_30, k34_158_30, k54_158_30, k54b_158_30_0, k5_158_33, k34_158_33, rv_t, rv_d, rv_x, rv_y, rp_t, rp_d, rp_x, rp_y, w32_of, y_p, w_p, x2, i_p, sgn, x3, x1, x4, x5, x6, hb, w32_of]
  · have x1 := fun D => N_212 (F := F) (L := L) (xs := xs) (d := D) (m := m) (p := i + 1) (dep := dep) hb (by omega)
    have e5 : i + 1 + 1 = i + 2 := by omega
    rw [e5] at x1
    obtain ⟨⟨p1, k1, k2, k3, c1⟩, W1, S1, E1, F1, g41, g41b, B⟩ := Ex_ok (F := F) (L := L) (xs := xs) (d := d) hF S R hb (rng0 hs0) h8 hd0 hd1 (by omega) (by omega) (by omega) (by omega) (fun j j1 j2 => hD j j1 (by omega)) (by omega)
    have x6 := fun D => R_213 (F := F) (L := L) (xs := xs) (d := D) (m := eM a m) (p := p1) (dep := dep) (a1 := 59) W1 (by omega) (by omega) (fun z => by
      have hz := k3 z
      have T2 := S1.tr (p1) k1 k2
      rw [hz, h9] at T2
      rw [hz]
      exact T2)
    have hp' := nxP_in (e := e) k1 k2 k3 (by omega)
    by_cases hl0 : 0 ≤ lcK m (vlT m i)
    · have e3 : plM m i = m := by unfold plM; rw [if_pos hb, if_pos hl0]
      have e4 : plV m i = lcK m (vlT m i) := by unfold plV; rw [if_pos hb, if_pos hl0]
      have h3k := (SR_nl R (by omega) hl0).2
      rw [e3, e4] at x3
      rw [if_neg (by omega)]
      have em : (lcK m (vlT m i)).tmod 1000 = lcK m (vlT m i) := by rw [Int.tmod_eq_emod_of_nonneg hl0, Int.emod_eq_of_lt hl0 (by omega)]
      have hq1 : ¬ 1000 ≤ lcK m (vlT m i) := by omega
      have x5 := fun D P1 => R_246_3 (F := F) (L := L) (xs := xs) (d := D) (p := P1) (dep := dep) (a := lcK m (vlT m i)) (l := -1) W1
      refine ⟨nxP (eM a m) p1, emG (eM a m) 3 (lcK m (vlT m i)) (-1) (-1) false, ?_, ?_⟩
      · generalize lcK m (vlT m i) = kl at *
        simp (disch := first | omega | assumption) only [c_231, tr_231, c_232, tr_232, ev_0, ev_1, ev_16, ev_17, ev_18, ev_2, ev_3, ev_4, ev_5, ev_6, ev_7, ev_8, ev_9, ev_20, ev_21, ev_22, ev_23, ev_24, ev_25, ev_27, ev_28, ev_30, ev_31, ev_32, ev_33, ev_34, ev_35, ev_36, ev_37, ev_38, ev_39, ev_40, ev_41, ev_42, ev_43, ev_45, ev_46, ev_47, ev_48, ev_49, ev_50, ev_51, ev_52, ev_54, ev_55, ev_57, ev_58, ev_59, k2_0, k2_1, k2_2, k3a, k3b, k4, o1_s, xbin_0, xbin_1, xbin_2, xbin_3, xbin_4, xbin_5, xbin_6, xbin_7, xbin_8, xbin_9, xbin_11, xbin_12, xun_0, xun_1, xun_2, xun_3, xun_4, xun_5, k6a, k8, k8b, k9, k20, k20b_0, k20b_1, k20b_2, k20b_3, k20b_4, k20b_5, k21_0, k21_1, k21_2, k21_3, k21_4, k21_5, k23, k24, k25, k27, k28, k40, nz_1, nz_2, nz_3, k31_0, k31_1, k31_2, k31_3, k32u, k33, k34, k35, k35b, k36, k37, k38, k47, k49, k49b_0, k49b_1, k49b_2, k49b_3, k50_0, k50_s, k51_0, k51_s, k55, k58, k58b, rk_0, rk_1, rk_2, rk_9, rk_3, rk_4, rk_5, sw_n, sw_c, xtb_n, xtb_c, lset_0, lset_2, lset_1, lkm_0, lkm_2, lkm_9, lkm_1, lkm_n, if_some1, c_10, c_01, c_x0, c_1x, c_n0, c_nn, List.getElem?_cons_zero, List.getElem?_cons_succ, List.set_cons_zero, List.set_cons_succ, List.length_cons, List.length_nil, Int.reduceToNat, Nat.reduceDiv, Nat.reduceMod, Nat.reduceSub, Nat.reduceAdd, Nat.reduceMul, Nat.reduceLT, Nat.reduceLeDiff, Nat.reduceEqDiff, Int.reduceMod, Int.reduceSub, Int.reduceNeg, Int.reduceAdd, Int.reduceMul, Int.reduceLT, Int.reduceLE, Int.reduceEq, put_ss, if_true, if_false, ite_true, ite_false, reduceIte, eq_self, and_true, true_and, and_false, false_and, or_true, true_or, or_false, false_or, not_true_eq_false, not_false_eq_true, k5_158_14, k34_158_14, k34i_158_14, k5_158_15, k34_158_15, k34i_158_15, k5_158_13, k34_158_13, k54_158_13, k54b_158_13_0, k54b_158_13_1, k5_158_48, k34_158_48, k5_158_5, k6_161, k35_161, n_161, k5_158_7, k6_163, k35_163, n_163, k5_158_12, k34_158_12, k54_158_12, k54b_158_12_0, k5_158_30, k34_158_30, k54_158_30, k54b_158_30_0, k5_158_33, k34_158_33, rv_t, rv_d, rv_x, rv_y, rp_t, rp_d, rp_x, rp_y, w32_of, y_p, w_p, x2, i_p, sgn, x3, x1, c1, x5, x6, hb, em, hq1]
      · refine Pst_fin E1 F1 W1 (by omega) (by omega) ?_ rfl R.s1.symm (fun _ => by omega) ⟨hp'.1, hp'.2.1, fun z => by rw [hp'.2.2 z]; omega⟩ (by omega) (by omega)
        rcases B with ⟨b1, R1, b2⟩ | B
        · left
          refine ⟨b1, R1, ?_⟩
          rw [b2, hs0]
          decide
        · exact Or.inr (Br_le B (by omega) (by omega))
    · have hk : isK m (vlT m i) 1 := by
        by_cases hk : isK m (vlT m i) 1
        · exact hk
        · exact absurd ⟨hl0, hk⟩ hbad
      have e3 : plM m i = m := by unfold plM; rw [if_pos hb, if_neg hl0, if_pos hk]
      have e4 : plV m i = 1000 + inX m (vlT m i) := by unfold plV; rw [if_pos hb, if_neg hl0, if_pos hk]
      have h3k := S.v1 _ hk
      rw [e3, e4] at x3
      rw [if_pos (lcK_n hl0)]
      obtain ⟨u1, u2⟩ := us_ok (s := xE (sww H y mc) a s) E0 hp (by omega) h1 (by decide) hk
      have u1 : us mc i 1 (xE (sww H y mc) a s) = xE (sww H y mc) a s := u1
      have u2 : nmI mc (idT mc i) = inX m (vlT m i) := u2
      rw [u1, u2]
      have em : (1000 + inX m (vlT m i)).tmod 1000 = inX m (vlT m i) := by rw [Int.tmod_eq_emod_of_nonneg (by omega)]; omega
      have hq1 : 1000 ≤ 1000 + inX m (vlT m i) := by omega
      have x5 := fun D P1 => R_246_5 (F := F) (L := L) (xs := xs) (d := D) (p := P1) (dep := dep) (a := inX m (vlT m i)) (l := -1) W1
      refine ⟨nxP (eM a m) p1, emG (eM a m) 5 (inX m (vlT m i)) (-1) (-1) false, ?_, ?_⟩
      · generalize inX m (vlT m i) = kl at *
        simp (disch := first | omega | assumption) only [c_231, tr_231, c_232, tr_232, ev_0, ev_1, ev_16, ev_17, ev_18, ev_2, ev_3, ev_4, ev_5, ev_6, ev_7, ev_8, ev_9, ev_20, ev_21, ev_22, ev_23, ev_24, ev_25, ev_27, ev_28, ev_30, ev_31, ev_32, ev_33, ev_34, ev_35, ev_36, ev_37, ev_38, ev_39, ev_40, ev_41, ev_42, ev_43, ev_45, ev_46, ev_47, ev_48, ev_49, ev_50, ev_51, ev_52, ev_54, ev_55, ev_57, ev_58, ev_59, k2_0, k2_1, k2_2, k3a, k3b, k4, o1_s, xbin_0, xbin_1, xbin_2, xbin_3, xbin_4, xbin_5, xbin_6, xbin_7, xbin_8, xbin_9, xbin_11, xbin_12, xun_0, xun_1, xun_2, xun_3, xun_4, xun_5, k6a, k8, k8b, k9, k20, k20b_0, k20b_1, k20b_2, k20b_3, k20b_4, k20b_5, k21_0, k21_1, k21_2, k21_3, k21_4, k21_5, k23, k24, k25, k27, k28, k40, nz_1, nz_2, nz_3, k31_0, k31_1, k31_2, k31_3, k32u, k33, k34, k35, k35b, k36, k37, k38, k47, k49, k49b_0, k49b_1, k49b_2, k49b_3, k50_0, k50_s, k51_0, k51_s, k55, k58, k58b, rk_0, rk_1, rk_2, rk_9, rk_3, rk_4, rk_5, sw_n, sw_c, xtb_n, xtb_c, lset_0, lset_2, lset_1, lkm_0, lkm_2, lkm_9, lkm_1, lkm_n, if_some1, c_10, c_01, c_x0, c_1x, c_n0, c_nn, List.getElem?_cons_zero, List.getElem?_cons_succ, List.set_cons_zero, List.set_cons_succ, List.length_cons, List.length_nil, Int.reduceToNat, Nat.reduceDiv, Nat.reduceMod, Nat.reduceSub, Nat.reduceAdd, Nat.reduceMul, Nat.reduceLT, Nat.reduceLeDiff, Nat.reduceEqDiff, Int.reduceMod, Int.reduceSub, Int.reduceNeg, Int.reduceAdd, Int.reduceMul, Int.reduceLT, Int.reduceLE, Int.reduceEq, put_ss, if_true, if_false, ite_true, ite_false, reduceIte, eq_self, and_true, true_and, and_false, false_and, or_true, true_or, or_false, false_or, not_true_eq_false, not_false_eq_true, k5_158_14, k34_158_14, k34i_158_14, k5_158_15, k34_158_15, k34i_158_15, k5_158_13, k34_158_13, k54_158_13, k54b_158_13_0, k54b_158_13_1, k5_158_48, k34_158_48, k5_158_5, k6_161, k35_161, n_161, k5_158_7, k6_163, k35_163, n_163, k5_158_12, k34_158_12, k54_158_12, k54b_158_12_0, k5_158_30, k34_158_30, k54_158_30, k54b_158_30_0, k5_158_33, k34_158_33, rv_t, rv_d, rv_x, rv_y, rp_t, rp_d, rp_x, rp_y, w32_of, y_p, w_p, x2, i_p, sgn, x3, x1, c1, x5, x6, hb, em, hq1]
      · refine Pst_fin E1 F1 W1 (by omega) (by omega) ?_ rfl R.s1.symm (fun _ => by omega) ⟨hp'.1, hp'.2.1, fun z => by rw [hp'.2.2 z]; omega⟩ (by omega) (by omega)
        rcases B with ⟨b1, R1, b2⟩ | B
        · left
          refine ⟨b1, R1, ?_⟩
          rw [b2, hs0]
          decide
        · exact Or.inr (Br_le B (by omega) (by omega))
theorem st_26 (hF : 100000 ≤ F) {L d : Nat} {xs : Nat → Int32} {m : Mem} {s : xSt} {y : yS} {σ : Int → Int} {D H dep p q : Int} {G : Prop} {V : Int → Int} {i : Int} {a b : xT} (hd0 : 0 ≤ dep) (hd1 : dep ≤ 30) (hp : 0 ≤ p) (hq : q ≤ e) (S : SE mc m e) (R : SR mc s y m σ D G H p) (hs0 : s.2.1 = 0) (hb : m 158 15 = 0) (h41 : m 158 41 + 2 * (q - p) < 2900) (hlab : (y.1.length : Int) + 2 * (q - p) < 2900) (hD : ∀ j, 0 ≤ j → j < q → mc 54 j.toNat < D) (hd : 300 + 4 * (31 - dep).toNat + 2 ≤ d) (h1 : kd mc p = 2) (h3 : kd mc (p + 1) = 91) (h30 : dep < 30) (h6 : i = p) {r u : Int} (h8 : P (kd mc) V a 0 (dep + 1) (p + 2) r) (h9 : kd mc r = 93) (h11 : kd mc (r + 1) = 61) (h12 : P (kd mc) V b 0 dep (r + 2) u) (h13 : kd mc u = 59) (h10 : q = u + 1) : ∃ p' m', Cx F (d + 10) 231 [158] (Hp L xs (rv p dep m)) = some ([], Hp L xs (rv p' dep m')) ∧ Pst mc e (stS mc (nd 26 i a b) H 0 0 (s, y)) y m m' σ D G H p q p' 0 0 := by
  have l1 := P_le a h8
  have l2 := P_le b h12
  have el := S.el
  have hT := S.tr p hp (by omega)
  rw [h1] at hT
  have N := SR_En S R (by omega) (Or.inl hb) (by omega)
  have hl := R.hl
  have y_p := fun (s : Int) (D : Nat) (hs : 0 ≤ s ∧ s ≤ 12) => N_210 (L := L) (xs := xs) (F := F) (d := D) (dep := dep) (a1 := s) (m := m) hb (by omega) hT hs
  have w_p := fun (D : Nat) => N_211 (L := L) (xs := xs) (F := F) (d := D) (dep := dep) (m := m) hb (by omega) hT
  have x1 := fun D => N_212 (F := F) (L := L) (xs := xs) (d := D) (m := m) (p := p) (dep := dep) hb (by omega)
  have hT1 := S.tr (p + 1) (by omega) (by omega)
  rw [h3] at hT1
  have x2 := fun D => N_215 (F := F) (L := L) (xs := xs) (d := D) (m := m) (p := p) (dep := dep) hb (by omega) hT rfl
  have i_p := fun (s : Int) (D : Nat) (hs : 33 ≤ s ∧ s ≤ 255 ∨ 300 ≤ s ∧ s ≤ 303) => N_209 (L := L) (xs := xs) (F := F) (d := D) (dep := dep) (p := p + 1) (a1 := s) (m := m) hb (by omega) hT1 hs
  have x3 := fun D P1 => R_243 (F := F) (L := L) (xs := xs) (d := D) (m := m) (p := P1) (dep := dep) (a := p) hF N.1 hp (by omega)
  subst h6
  obtain ⟨d, rfl⟩ : ∃ d', d = d' + 3 := ⟨d - 3, by omega⟩
  have ec : stS mc (nd 26 i a b) H 0 0 (s, y) = (em 7 (nmI mc (idT mc i)) H (xE (sww H y mc) b (xE (sww H y mc) a (us mc i 2 s))), y) := rfl
  have E0 := SR_EE S R (by omega)
  have hN := E0.nm i hp (by omega) h1
  rw [ec]
  have e1 : dep + 1 - 1 = dep := by omega
  by_cases hk : isK m (vlT m i) 2
  · have hl := nl_k E0 hk
    have e3 : arM m i = m := by unfold arM; rw [if_pos hb, if_pos ⟨hk, hl⟩]
    have e4 : arV m i = inX m (vlT m i) := by unfold arV; rw [if_pos hb, if_pos ⟨hk, hl⟩]
    rw [e3, e4] at x3
    obtain ⟨u1, u2⟩ := us_ok (s := s) E0 hp (by omega) h1 (by decide) hk
    have u1 : us mc i 2 s = s := u1
    have u2 : nmI mc (idT mc i) = inX m (vlT m i) := u2
    rw [u1, u2]
    have x7 := fun D => R_216 (F := F) (L := L) (xs := xs) (d := D) (p := i + 1) (dep := dep) N.1 ⟨hd0, h30⟩
    have x1 := fun D D1 => N_212 (F := F) (L := L) (xs := xs) (d := D) (m := m) (p := i + 1) (dep := D1) hb (by omega)
    have e5 : i + 1 + 1 = i + 2 := by omega
    rw [e5] at x1
    obtain ⟨⟨p1, k1, k2, k3, c1⟩, W1, S1, E1, F1, g41, g41b, B⟩ := Ex_ok (F := F) (L := L) (xs := xs) (d := d) hF S R hb (rng0 hs0) h8 (by omega) (by omega) (by omega) (by omega) (by omega) (by omega) (fun j j1 j2 => hD j j1 (by omega)) (by omega)
    have x6 := fun D => R_213 (F := F) (L := L) (xs := xs) (d := D) (m := eM a m) (p := p1) (dep := dep + 1) (a1 := 93) W1 (by omega) (by omega) (fun z => by
      have hz := k3 z
      have T2 := S1.tr p1 k1 k2
      rw [hz, h9] at T2
      rw [hz]
      exact T2)
    have hp1 := nxP_in (e := e) k1 k2 k3 (by omega)
    have x8 := fun D => R_213 (F := F) (L := L) (xs := xs) (d := D) (m := eM a m) (p := nxP (eM a m) p1) (dep := dep) (a1 := 61) W1 (by omega) (by omega) (fun z => by
      have hz := hp1.2.2 z
      have T2 := S1.tr (r + 1) (by omega) (by omega)
      rw [h11] at T2
      rw [hz]
      exact T2)
    have hp2 := nxP_in (e := e) hp1.1 hp1.2.1 hp1.2.2 (by omega)
    have f1 := Fm_eM (tsz a + 1) a (by omega) _ _ _ _ (by decide) h8 m (Or.inl hb)
    have N1 := En_Fm N f1 (by omega)
    obtain ⟨p2, j1, j2, j3, c2⟩ := (QmAll (F := F) (K := kd mc) (e := e) (by omega) hF (tsz b + 1) b (by omega)).1 V dep (r + 2) u h12 hd0 hd1 (by omega) (by omega) L xs (d + 1) (eM a m) (nxP (eM a m) (nxP (eM a m) p1)) N1 (by omega) hp2.1 hp2.2.1 (fun z => by rw [hp2.2.2 z]; omega) (by omega)
    have f2 := Fm_eM (tsz b + 1) b (by omega) _ _ _ _ (by decide) h12 (eM a m) (En_b N1)
    have f241 := f2.2.2.2.1
    have W2 := WU_Fm W1 f2 (by omega)
    have E2 := FE_tr E1 (FE_eM b (eM a m))
    have F2 := FS_tr F1 (FS_eM b (eM a m))
    have S2 := SE_FS S F2
    have x9 := fun D => R_213 (F := F) (L := L) (xs := xs) (d := D) (m := eM b (eM a m)) (p := p2) (dep := dep) (a1 := 59) W2 (by omega) (by omega) (fun z => by
      have hz := j3 z
      have T2 := S2.tr p2 j1 j2
      rw [hz, h13] at T2
      rw [hz]
      exact T2)
    have hp' := nxP_in (e := e) j1 j2 j3 (by omega)
    have x5 := fun D P1 => R_246_7 (F := F) (L := L) (xs := xs) (d := D) (p := P1) (dep := dep) (a := inX m (vlT m i)) (l := eM b (eM a m) 158 48) W2
    have e48 : eM b (eM a m) 158 48 = m 158 48 := E2 158 48 rfl
    refine ⟨nxP (eM b (eM a m)) p2, emG (eM b (eM a m)) 7 (inX m (vlT m i)) (m 158 48) (-2) false, ?_, ?_⟩
    · rw [e48] at x5
      simp (disch := first | omega | assumption) only [c_231, tr_231, c_232, tr_232, c_240, tr_240, ev_0, ev_1, ev_16, ev_17, ev_18, ev_2, ev_3, ev_4, ev_5, ev_6, ev_7, ev_8, ev_9, ev_20, ev_21, ev_22, ev_23, ev_24, ev_25, ev_27, ev_28, ev_30, ev_31, ev_32, ev_33, ev_34, ev_35, ev_36, ev_37, ev_38, ev_39, ev_40, ev_41, ev_42, ev_43, ev_45, ev_46, ev_47, ev_48, ev_49, ev_50, ev_51, ev_52, ev_54, ev_55, ev_57, ev_58, ev_59, k2_0, k2_1, k2_2, k3a, k3b, k4, o1_s, xbin_0, xbin_1, xbin_2, xbin_3, xbin_4, xbin_5, xbin_6, xbin_7, xbin_8, xbin_9, xbin_11, xbin_12, xun_0, xun_1, xun_2, xun_3, xun_4, xun_5, k6a, k8, k8b, k9, k20, k20b_0, k20b_1, k20b_2, k20b_3, k20b_4, k20b_5, k21_0, k21_1, k21_2, k21_3, k21_4, k21_5, k23, k24, k25, k27, k28, k40, nz_1, nz_2, nz_3, k31_0, k31_1, k31_2, k31_3, k32u, k33, k34, k35, k35b, k36, k37, k38, k47, k49, k49b_0, k49b_1, k49b_2, k49b_3, k50_0, k50_s, k51_0, k51_s, k55, k58, k58b, rk_0, rk_1, rk_2, rk_9, rk_3, rk_4, rk_5, sw_n, sw_c, xtb_n, xtb_c, lset_0, lset_2, lset_1, lkm_0, lkm_2, lkm_9, lkm_1, lkm_n, if_some1, c_10, c_01, c_x0, c_1x, c_n0, c_nn, List.getElem?_cons_zero, List.getElem?_cons_succ, List.set_cons_zero, List.set_cons_succ, List.length_cons, List.length_nil, Int.reduceToNat, Nat.reduceDiv, Nat.reduceMod, Nat.reduceSub, Nat.reduceAdd, Nat.reduceMul, Nat.reduceLT, Nat.reduceLeDiff, Nat.reduceEqDiff, Int.reduceMod, Int.reduceSub, Int.reduceNeg, Int.reduceAdd, Int.reduceMul, Int.reduceLT, Int.reduceLE, Int.reduceEq, put_ss, if_true, if_false, ite_true, ite_false, reduceIte, eq_self, and_true, true_and, and_false, false_and, or_true, true_or, or_false, false_or, not_true_eq_false, not_false_eq_true, k5_158_14, k34_158_14, k34i_158_14, k5_158_15, k34_158_15, k34i_158_15, k5_158_13, k34_158_13, k54_158_13, k54b_158_13_0, k54b_158_13_1, k5_158_48, k34_158_48, k5_158_5, k6_161, k35_161, n_161, k5_158_7, k6_163, k35_163, n_163, k5_158_12, k34_158_12, k54_158_12, k54b_158_12_0, k5_158_30, k34_158_30, k54_158_30, k54b_158_30_0, k5_158_33, k34_158_33, rv_t, rv_d, rv_x, rv_y, rp_t, rp_d, rp_x, rp_y, w32_of, y_p, w_p, x2, i_p, sgn, x3, x7, x1, c1, x6, e1, x8, c2, x9, x5, e48, hb]
    · refine Pst_fin E2 F2 W2 (by omega) (by omega) ?_ rfl R.hd (fun _ => by have := R.hl; omega) ⟨hp'.1, hp'.2.1, fun z => by rw [hp'.2.2 z]; omega⟩ (by omega) (by omega)
      rcases B with ⟨b1, R1, b2⟩ | B
      · rcases RE (mc := sww H y mc) (σ := σ) (D := D) (e := e) (G := G) (V := V) (tsz b + 1) b (by omega) 0 dep (r + 2) u (by decide) h12 (by omega) (by omega) _ _ (SR_EE S1 R1 (by omega)) R1.rx b1 (by omega) (fun j j1 j2 => hD j j1 (by omega)) with ⟨b3, X⟩ | B
        · left
          refine ⟨b3, SR_Fm R1 f2 (Int.le_refl _) X (LkB_xE (mc := sww H y mc) (n := (y.1.length : Int)) R.hl.2 (by have := R.hl; omega) b _ R1.lk), ?_⟩
          have bp : (xE (sww H y mc) b (xE (sww H y mc) a s)).2.1 = w32 ((xE (sww H y mc) a s).2.1 + 1) := xE_pu (mc := sww H y mc) (tsz b + 1) b (by omega) 0 dep (r + 2) u (by decide) h12 (xE (sww H y mc) a s) (by rw [b2]; exact w32_r _)
          rw [bp, b2, hs0]
          decide
        · exact Or.inr (Br_le B (by omega) (by omega))
      · exact Or.inr (Br_le (Br_xE (mc := sww H y mc) (V := V) (nt := 0) (dep := dep) S.mo B (by omega) (by decide) h12 (by omega) (by omega)) (by omega) (by omega))
  · have e3 : arM m i = bkF m (plT m i) := by unfold arM; rw [if_pos hb, if_neg (fun z => hk z.1)]
    have e4 : arV m i = 0 := by unfold arV; rw [if_pos hb, if_neg (fun z => hk z.1)]
    rw [e3, e4] at x3
    have W1 : WU (bkF m (plT m i)) := WU_bk N.1
    have B0 := us_nm (s := s) E0 R.rx hp (by omega) h1 (by decide) (hD i (by omega) (by omega)) hk
    have B1 := Br_xE (mc := sww H y mc) (V := V) (nt := 0) (dep := dep + 1) S.mo B0 hp (by decide) h8 (by omega) (by omega)
    have B2 := Br_xE (mc := sww H y mc) (V := V) (nt := 0) (dep := dep) S.mo B1 hp (by decide) h12 (by omega) (by omega)
    have bk1 : eM b (eM a (bkF m (plT m i))) = bkF m (plT m i) := by rw [eM_b a _ rfl, eM_b b _ rfl]
    rw [bk1] at B2
    have x7 := fun D => R_216 (F := F) (L := L) (xs := xs) (d := D) (p := i + 1) (dep := dep) W1 ⟨hd0, h30⟩
    have x1 := fun D D1 => B_212 (F := F) (L := L) (xs := xs) (d := D) (m := rv (i + 1) D1 (bkF m (plT m i))) rfl
    have x4 := fun D D1 o1 => B_213 (F := F) (L := L) (xs := xs) (d := D) (m := rv (i + 1) D1 (bkF m (plT m i))) (a1 := o1) rfl ⟨by show 0 ≤ i + 1; omega, by show i + 1 < 3001; omega⟩
    have x6 := fun D D1 => B_236 (F := F) (L := L) (xs := xs) (d := D) (m := rv (i + 1) D1 (bkF m (plT m i))) rfl ⟨by show 0 ≤ i + 1; omega, by show i + 1 < 3001; omega⟩ hF
    have x5 := fun D o1 a1 l1 => B_246 (F := F) (L := L) (xs := xs) (d := D) (m := rv (i + 1) dep (bkF m (plT m i))) (a1 := o1) (a2 := a1) (a3 := l1) rfl
    refine ⟨i + 1, bkF m (plT m i), ?_, Pst_br FS_bkF W1 (Br_le B2 (by omega) (by omega)) (by omega) (by omega)⟩
    simp (disch := first | omega | assumption) only [c_231, tr_231, c_232, tr_232, c_240, tr_240, ev_0, ev_1, ev_16, ev_17, ev_18, ev_2, ev_3, ev_4, ev_5, ev_6, ev_7, ev_8, ev_9, ev_20, ev_21, ev_22, ev_23, ev_24, ev_25, ev_27, ev_28, ev_30, ev_31, ev_32, ev_33, ev_34, ev_35, ev_36, ev_37, ev_38, ev_39, ev_40, ev_41, ev_42, ev_43, ev_45, ev_46, ev_47, ev_48, ev_49, ev_50, ev_51, ev_52, ev_54, ev_55, ev_57, ev_58, ev_59, k2_0, k2_1, k2_2, k3a, k3b, k4, o1_s, xbin_0, xbin_1, xbin_2, xbin_3, xbin_4, xbin_5, xbin_6, xbin_7, xbin_8, xbin_9, xbin_11, xbin_12, xun_0, xun_1, xun_2, xun_3, xun_4, xun_5, k6a, k8, k8b, k9, k20, k20b_0, k20b_1, k20b_2, k20b_3, k20b_4, k20b_5, k21_0, k21_1, k21_2, k21_3, k21_4, k21_5, k23, k24, k25, k27, k28, k40, nz_1, nz_2, nz_3, k31_0, k31_1, k31_2, k31_3, k32u, k33, k34, k35, k35b, k36, k37, k38, k47, k49, k49b_0, k49b_1, k49b_2, k49b_3, k50_0, k50_s, k51_0, k51_s, k55, k58, k58b, rk_0, rk_1, rk_2, rk_9, rk_3, rk_4, rk_5, sw_n, sw_c, xtb_n, xtb_c, lset_0, lset_2, lset_1, lkm_0, lkm_2, lkm_9, lkm_1, lkm_n, if_some1, c_10, c_01, c_x0, c_1x, c_n0, c_nn, List.getElem?_cons_zero, List.getElem?_cons_succ, List.set_cons_zero, List.set_cons_succ, List.length_cons, List.length_nil, Int.reduceToNat, Nat.reduceDiv, Nat.reduceMod, Nat.reduceSub, Nat.reduceAdd, Nat.reduceMul, Nat.reduceLT, Nat.reduceLeDiff, Nat.reduceEqDiff, Int.reduceMod, Int.reduceSub, Int.reduceNeg, Int.reduceAdd, Int.reduceMul, Int.reduceLT, Int.reduceLE, Int.reduceEq, put_ss, if_true, if_false, ite_true, ite_false, reduceIte, eq_self, and_true, true_and, and_false, false_and, or_true, true_or, or_false, false_or, not_true_eq_false, not_false_eq_true, k5_158_14, k34_158_14, k34i_158_14, k5_158_15, k34_158_15, k34i_158_15, k5_158_13, k34_158_13, k54_158_13, k54b_158_13_0, k54b_158_13_1, k5_158_48, k34_158_48, k5_158_5, k6_161, k35_161, n_161, k5_158_7, k6_163, k35_163, n_163, k5_158_12, k34_158_12, k54_158_12, k54b_158_12_0, k5_158_30, k34_158_30, k54_158_30, k54b_158_30_0, k5_158_33, k34_158_33, rv_t, rv_d, rv_x, rv_y, rp_t, rp_d, rp_x, rp_y, w32_of, y_p, w_p, x2, i_p, sgn, x3, x7, x1, x4, x6, e1, x5, hb]
end Siv
