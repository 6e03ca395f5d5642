/-! CLASS AND MODEL, THE SECOND WALK: simple statements, their names -/
/-- a condition's name -/
def cdV (m : Mem) (n : Int) : Int := if m 158 15 = 0 then (if isK m (vlT m n) 3 then inX m (vlT m n) else 0) else 0
def cdM (m : Mem) (n : Int) : Mem := if m 158 15 = 0 then (if isK m (vlT m n) 3 then m else bkF m (plT m n)) else m
/-- a new local's name -/
def ltM (m : Mem) (n : Int) : Mem := if m 158 15 = 0 ∧ (0 ≤ topK m (vlT m n) ∨ 0 ≤ lcK m (vlT m n)) then bkF m (plT m n) else m
def adM (m : Mem) (n : Int) : Mem := if m 158 15 = 0 then jadx m (m 163 n.toNat) else m
section Nms
variable {F L d : Nat} {m : Mem} {xs : Nat → Int32} {p dep a : Int}
theorem R_228 (hF : 100000 ≤ F) (U : WU m) (h0 : 0 ≤ a) (h1 : a < 3001) : Cx F (d + 2) 228 [158, a] (Hp L xs (rv p dep m)) = some ([cdV m a], Hp L xs (rv p dep (cdM m a))) := by
  unfold cdV cdM
  rcases U.2.2.2.2.2.1 with hb | hb
  · have W := WU_B U hb
    rw [if_pos hb, if_pos hb]
    by_cases q2 : isK m (vlT m a) 3
    · rw [if_pos q2, if_pos q2]
      exact M_228y hF W h0 h1 q2.1 q2.2
    · rw [if_neg q2, if_neg q2]
      exact M_228n hF W h0 h1 (by
        by_cases q3 : topK m (m 163 a.toNat) < 0
        · exact Or.inl q3
        · exact Or.inr (fun z => q2 ⟨by unfold vlT; omega, z⟩))
  · have hf := U.2.2.2.2.1
    have hn : ¬ m 158 15 = 0 := by omega
    rw [if_neg hn, if_neg hn]
    simp (disch := first | omega | assumption) only [c_228, tr_228, ev_0, ev_1, ev_16, ev_17, ev_18, ev_2, ev_3, ev_4, ev_5, ev_6, ev_7, ev_8, ev_9, ev_20, ev_21, ev_22, ev_23, ev_24, ev_25, ev_27, ev_28, ev_30, ev_31, ev_32, ev_33, ev_34, ev_35, ev_36, ev_37, ev_38, ev_39, ev_40, ev_41, ev_42, ev_43, ev_45, ev_46, ev_47, ev_48, ev_49, ev_50, ev_51, ev_52, ev_54, ev_55, ev_57, ev_58, ev_59, k2_0, k2_1, k2_2, k3a, k3b, k4, o1_s, xbin_0, xbin_1, xbin_2, xbin_3, xbin_4, xbin_5, xbin_6, xbin_7, xbin_8, xbin_9, xbin_11, xbin_12, xun_0, xun_1, xun_2, xun_3, xun_4, xun_5, k6a, k8, k8b, k9, k20, k20b_0, k20b_1, k20b_2, k20b_3, k20b_4, k20b_5, k21_0, k21_1, k21_2, k21_3, k21_4, k21_5, k23, k24, k25, k27, k28, k40, nz_1, nz_2, nz_3, k31_0, k31_1, k31_2, k31_3, k32u, k33, k34, k35, k35b, k36, k37, k38, k47, k49, k49b_0, k49b_1, k49b_2, k49b_3, k50_0, k50_s, k51_0, k51_s, k55, k58, k58b, rk_0, rk_1, rk_2, rk_9, rk_3, rk_4, rk_5, sw_n, sw_c, xtb_n, xtb_c, lset_0, lset_2, lset_1, lkm_0, lkm_2, lkm_9, lkm_1, lkm_n, if_some1, c_10, c_01, c_x0, c_1x, c_n0, c_nn, List.getElem?_cons_zero, List.getElem?_cons_succ, List.set_cons_zero, List.set_cons_succ, List.length_cons, List.length_nil, Int.reduceToNat, Nat.reduceDiv, Nat.reduceMod, Nat.reduceSub, Nat.reduceAdd, Nat.reduceMul, Nat.reduceLT, Nat.reduceLeDiff, Nat.reduceEqDiff, Int.reduceMod, Int.reduceSub, Int.reduceNeg, Int.reduceAdd, Int.reduceMul, Int.reduceLT, Int.reduceLE, Int.reduceEq, put_ss, if_true, if_false, ite_true, ite_false, reduceIte, eq_self, and_true, true_and, and_false, false_and, or_true, true_or, or_false, false_or, not_true_eq_false, not_false_eq_true, k5_158_14, k34_158_14, k34i_158_14, k5_158_15, k34_158_15, k34i_158_15, rv_x, rv_y, hf, hb]
theorem R_224 (hF : 100000 ≤ F) (U : WU m) (h0 : 0 ≤ a) (h1 : a < 3001) : Cx F (d + 2) 224 [158, a] (Hp L xs (rv p dep m)) = some ([], Hp L xs (rv p dep (ltM m a))) := by
  unfold ltM
  rcases U.2.2.2.2.2.1 with hb | hb
  · have W := WU_B U hb
    by_cases q2 : 0 ≤ topK m (vlT m a) ∨ 0 ≤ lcK m (vlT m a)
    · rw [if_pos ⟨hb, q2⟩]
      exact M_224n hF W h0 h1 q2
    · rw [if_neg (fun z => q2 z.2)]
      exact M_224y hF W h0 h1 (by unfold vlT at q2; omega) (by unfold vlT at q2; omega)
  · have hf := U.2.2.2.2.1
    rw [if_neg (fun z => by omega)]
    simp (disch := first | omega | assumption) only [c_224, tr_224, ev_0, ev_1, ev_16, ev_17, ev_18, ev_2, ev_3, ev_4, ev_5, ev_6, ev_7, ev_8, ev_9, ev_20, ev_21, ev_22, ev_23, ev_24, ev_25, ev_27, ev_28, ev_30, ev_31, ev_32, ev_33, ev_34, ev_35, ev_36, ev_37, ev_38, ev_39, ev_40, ev_41, ev_42, ev_43, ev_45, ev_46, ev_47, ev_48, ev_49, ev_50, ev_51, ev_52, ev_54, ev_55, ev_57, ev_58, ev_59, k2_0, k2_1, k2_2, k3a, k3b, k4, o1_s, xbin_0, xbin_1, xbin_2, xbin_3, xbin_4, xbin_5, xbin_6, xbin_7, xbin_8, xbin_9, xbin_11, xbin_12, xun_0, xun_1, xun_2, xun_3, xun_4, xun_5, k6a, k8, k8b, k9, k20, k20b_0, k20b_1, k20b_2, k20b_3, k20b_4, k20b_5, k21_0, k21_1, k21_2, k21_3, k21_4, k21_5, k23, k24, k25, k27, k28, k40, nz_1, nz_2, nz_3, k31_0, k31_1, k31_2, k31_3, k32u, k33, k34, k35, k35b, k36, k37, k38, k47, k49, k49b_0, k49b_1, k49b_2, k49b_3, k50_0, k50_s, k51_0, k51_s, k55, k58, k58b, rk_0, rk_1, rk_2, rk_9, rk_3, rk_4, rk_5, sw_n, sw_c, xtb_n, xtb_c, lset_0, lset_2, lset_1, lkm_0, lkm_2, lkm_9, lkm_1, lkm_n, if_some1, c_10, c_01, c_x0, c_1x, c_n0, c_nn, List.getElem?_cons_zero, List.getElem?_cons_succ, List.set_cons_zero, List.set_cons_succ, List.length_cons, List.length_nil, Int.reduceToNat, Nat.reduceDiv, Nat.reduceMod, Nat.reduceSub, Nat.reduceAdd, Nat.reduceMul, Nat.reduceLT, Nat.reduceLeDiff, Nat.reduceEqDiff, Int.reduceMod, Int.reduceSub, Int.reduceNeg, Int.reduceAdd, Int.reduceMul, Int.reduceLT, Int.reduceLE, Int.reduceEq, put_ss, if_true, if_false, ite_true, ite_false, reduceIte, eq_self, and_true, true_and, and_false, false_and, or_true, true_or, or_false, false_or, not_true_eq_false, not_false_eq_true, k5_158_14, k34_158_14, k34i_158_14, k5_158_15, k34_158_15, k34i_158_15, rv_x, rv_y, hf, hb]
theorem R_225 (U : WU m) (h31 : m 158 15 = 0 → 0 ≤ m 158 31 ∧ m 158 31 ≤ 1600) (h0 : 0 ≤ a) (h1 : a < 3001) : Cx F (d + 1) 225 [158, a] (Hp L xs (rv p dep m)) = some ([], Hp L xs (rv p dep (adM m a))) := by
  unfold adM
  rcases U.2.2.2.2.2.1 with hb | hb
  · rw [if_pos hb]
    exact M_225 (WU_B U hb) (h31 hb) h0 h1
  · have hf := U.2.2.2.2.1
    rw [if_neg (by omega)]
    simp (disch := first | omega | assumption) only [c_225, tr_225, ev_0, ev_1, ev_16, ev_17, ev_18, ev_2, ev_3, ev_4, ev_5, ev_6, ev_7, ev_8, ev_9, ev_20, ev_21, ev_22, ev_23, ev_24, ev_25, ev_27, ev_28, ev_30, ev_31, ev_32, ev_33, ev_34, ev_35, ev_36, ev_37, ev_38, ev_39, ev_40, ev_41, ev_42, ev_43, ev_45, ev_46, ev_47, ev_48, ev_49, ev_50, ev_51, ev_52, ev_54, ev_55, ev_57, ev_58, ev_59, k2_0, k2_1, k2_2, k3a, k3b, k4, o1_s, xbin_0, xbin_1, xbin_2, xbin_3, xbin_4, xbin_5, xbin_6, xbin_7, xbin_8, xbin_9, xbin_11, xbin_12, xun_0, xun_1, xun_2, xun_3, xun_4, xun_5, k6a, k8, k8b, k9, k20, k20b_0, k20b_1, k20b_2, k20b_3, k20b_4, k20b_5, k21_0, k21_1, k21_2, k21_3, k21_4, k21_5, k23, k24, k25, k27, k28, k40, nz_1, nz_2, nz_3, k31_0, k31_1, k31_2, k31_3, k32u, k33, k34, k35, k35b, k36, k37, k38, k47, k49, k49b_0, k49b_1, k49b_2, k49b_3, k50_0, k50_s, k51_0, k51_s, k55, k58, k58b, rk_0, rk_1, rk_2, rk_9, rk_3, rk_4, rk_5, sw_n, sw_c, xtb_n, xtb_c, lset_0, lset_2, lset_1, lkm_0, lkm_2, lkm_9, lkm_1, lkm_n, if_some1, c_10, c_01, c_x0, c_1x, c_n0, c_nn, List.getElem?_cons_zero, List.getElem?_cons_succ, List.set_cons_zero, List.set_cons_succ, List.length_cons, List.length_nil, Int.reduceToNat, Nat.reduceDiv, Nat.reduceMod, Nat.reduceSub, Nat.reduceAdd, Nat.reduceMul, Nat.reduceLT, Nat.reduceLeDiff, Nat.reduceEqDiff, Int.reduceMod, Int.reduceSub, Int.reduceNeg, Int.reduceAdd, Int.reduceMul, Int.reduceLT, Int.reduceLE, Int.reduceEq, put_ss, if_true, if_false, ite_true, ite_false, reduceIte, eq_self, and_true, true_and, and_false, false_and, or_true, true_or, or_false, false_or, not_true_eq_false, not_false_eq_true, k5_158_14, k34_158_14, k34i_158_14, k5_158_15, k34_158_15, k34i_158_15, rv_x, rv_y, hf, hb]
end Nms
theorem FE_FS {m m' : Mem} (f : FE m m') : FS m m' := fun a k h => f a k (by
  unfold fsB at h
  unfold feB
  simp only [Bool.or_eq_false_iff, Bool.and_eq_false_iff] at h ⊢
  obtain ⟨h1, h2⟩ := h
  refine ⟨⟨⟨h1.1.1.1.2, h1.1.1.2⟩, h1.1.2⟩, ?_⟩
  rcases h2 with h2 | h2
  · exact Or.inl h2
  · exact Or.inr (by simp only [h2, and_self]))
section Siu
variable {F : Nat} {mc : Mem} {e : Int}
theorem Pst_br {m m1 : Mem} {c : zS} {y : yS} {σ : Int → Int} {D H p q p' w v : Int} {G : Prop} (F1 : FS m m1) (W1 : WU m1) (B : Br mc m1 c.1 p q) (h0 : 0 ≤ p') (h1 : p' ≤ e) : Pst mc e c y m m1 σ D G H p q p' w v := ⟨F1, h0, h1, σ, fun _ _ => rfl, Or.inr ⟨W1, B⟩⟩
theorem WU_bk {m : Mem} {l : Int} (U : WU m) : WU (bkF m l) := WU_Fm U Fm_bkF (by have := U.2.2.2.2.2.2.2; omega)
theorem st_33 (hF : 100000 ≤ F) {L d : Nat} {xs : Nat → Int32} {m : Mem} {s : xSt} {y : yS} {σ : Int → Int} {D H dep p q : Int} {G : Prop} {V : Int → Int} {i : Int} {a b : xT} (hd0 : 0 ≤ dep) (hd1 : dep ≤ 30) (hp : 0 ≤ p) (hq : q ≤ e) (S : SE mc m e) (R : SR mc s y m σ D G H p) (hs0 : s.2.1 = 0) (hb : m 158 15 = 0) (h41 : m 158 41 + 2 * (q - p) < 2900) (hlab : (y.1.length : Int) + 2 * (q - p) < 2900) (hD : ∀ j, 0 ≤ j → j < q → mc 54 j.toNat < D) (hd : 300 + 4 * (31 - dep).toNat + 2 ≤ d) (h1 : kd mc p = 13) (h3 : kd mc (p + 1) = 2) (h5 : kd mc (p + 2) = 59) (h6 : i = p) (h8 : q = p + 3) : ∃ p' m', Cx F (d + 10) 231 [158] (Hp L xs (rv p dep m)) = some ([], Hp L xs (rv p' dep m')) ∧ Pst mc e (stS mc (nd 33 i a b) H 0 0 (s, y)) y m m' σ D G H p q p' 0 0 := by
  have el := S.el
  have hT := S.tr p hp (by omega)
  rw [h1] at hT
  have N := SR_En S R (by omega) (Or.inl hb) (by omega)
  have hl := R.hl
  have y_p := fun (s : Int) (D : Nat) (hs : 0 ≤ s ∧ s ≤ 12) => N_210 (L := L) (xs := xs) (F := F) (d := D) (dep := dep) (a1 := s) (m := m) hb (by omega) hT hs
  have w_p := fun (D : Nat) => N_211 (L := L) (xs := xs) (F := F) (d := D) (dep := dep) (m := m) hb (by omega) hT
  have x1 := fun D => N_212 (F := F) (L := L) (xs := xs) (d := D) (m := m) (p := p) (dep := dep) hb (by omega)
  have hT1 := S.tr (p + 1) (by omega) (by omega)
  have hT2 := S.tr (p + 2) (by omega) (by omega)
  rw [h3] at hT1
  rw [h5] at hT2
  have e2 : p + 1 + 1 = p + 2 := by omega
  have x2 := fun D => N_215 (F := F) (L := L) (xs := xs) (d := D) (m := m) (p := p + 1) (dep := dep) hb (by omega) hT1 rfl
  rw [e2] at x2
  have x3 := fun D P1 => R_228 (F := F) (L := L) (xs := xs) (d := D) (m := m) (p := P1) (dep := dep) (a := p + 1) hF N.1 (by omega) (by omega)
  subst h6
  subst h8
  have ec : stS mc (nd 33 i a b) H 0 0 (s, y) = (em 21 (nmI mc (idT mc (i + 1))) H (us mc (i + 1) 3 s), y) := rfl
  rw [ec]
  by_cases hk : isK m (vlT m (i + 1)) 3
  · have e3 : cdM m (i + 1) = m := by unfold cdM; rw [if_pos hb, if_pos hk]
    have e4 : cdV m (i + 1) = inX m (vlT m (i + 1)) := by unfold cdV; rw [if_pos hb, if_pos hk]
    rw [e3, e4] at x3
    obtain ⟨u1, u2⟩ := us_ok (s := s) (SR_EE S R (by omega)) (i := i + 1) (by omega) (by omega) h3 (by decide) hk
    have u1 : us mc (i + 1) 3 s = s := u1
    have u2 : nmI mc (idT mc (i + 1)) = inX m (vlT m (i + 1)) := u2
    rw [u1, u2]
    have x4 := fun D => N_213 (F := F) (L := L) (xs := xs) (d := D) (m := m) (p := i + 2) (dep := dep) (a1 := 59) hb (by omega) hT2 (by omega) rfl
    have e5 : i + 2 + 1 = i + 3 := by omega
    rw [e5] at x4
    have x5 := fun D P1 => R_246_21 (F := F) (L := L) (xs := xs) (d := D) (p := P1) (dep := dep) (a := inX m (vlT m (i + 1))) (l := m 158 48) N.1
    refine ⟨i + 3, emG m 21 (inX m (vlT m (i + 1))) (m 158 48) 0 true, ?_, ?_⟩
    · simp (disch := first | omega | assumption) only [c_231, tr_231, ev_0, ev_1, ev_16, ev_17, ev_18, ev_2, ev_3, ev_4, ev_5, ev_6, ev_7, ev_8, ev_9, ev_20, ev_21, ev_22, ev_23, ev_24, ev_25, ev_27, ev_28, ev_30, ev_31, ev_32, ev_33, ev_34, ev_35, ev_36, ev_37, ev_38, ev_39, ev_40, ev_41, ev_42, ev_43, ev_45, ev_46, ev_47, ev_48, ev_49, ev_50, ev_51, ev_52, ev_54, ev_55, ev_57, ev_58, ev_59, k2_0, k2_1, k2_2, k3a, k3b, k4, o1_s, xbin_0, xbin_1, xbin_2, xbin_3, xbin_4, xbin_5, xbin_6, xbin_7, xbin_8, xbin_9, xbin_11, xbin_12, xun_0, xun_1, xun_2, xun_3, xun_4, xun_5, k6a, k8, k8b, k9, k20, k20b_0, k20b_1, k20b_2, k20b_3, k20b_4, k20b_5, k21_0, k21_1, k21_2, k21_3, k21_4, k21_5, k23, k24, k25, k27, k28, k40, nz_1, nz_2, nz_3, k31_0, k31_1, k31_2, k31_3, k32u, k33, k34, k35, k35b, k36, k37, k38, k47, k49, k49b_0, k49b_1, k49b_2, k49b_3, k50_0, k50_s, k51_0, k51_s, k55, k58, k58b, rk_0, rk_1, rk_2, rk_9, rk_3, rk_4, rk_5, sw_n, sw_c, xtb_n, xtb_c, lset_0, lset_2, lset_1, lkm_0, lkm_2, lkm_9, lkm_1, lkm_n, if_some1, c_10, c_01, c_x0, c_1x, c_n0, c_nn, List.getElem?_cons_zero, List.getElem?_cons_succ, List.set_cons_zero, List.set_cons_succ, List.length_cons, List.length_nil, Int.reduceToNat, Nat.reduceDiv, Nat.reduceMod, Nat.reduceSub, Nat.reduceAdd, Nat.reduceMul, Nat.reduceLT, Nat.reduceLeDiff, Nat.reduceEqDiff, Int.reduceMod, Int.reduceSub, Int.reduceNeg, Int.reduceAdd, Int.reduceMul, Int.reduceLT, Int.reduceLE, Int.reduceEq, put_ss, if_true, if_false, ite_true, ite_false, reduceIte, eq_self, and_true, true_and, and_false, false_and, or_true, true_or, or_false, false_or, not_true_eq_false, not_false_eq_true, k5_158_14, k34_158_14, k34i_158_14, k5_158_15, k34_158_15, k34i_158_15, k5_158_13, k34_158_13, k54_158_13, k54b_158_13_0, k54b_158_13_1, k5_158_48, k34_158_48, k5_158_5, k6_161, k35_161, n_161, k5_158_7, k6_163, k35_163, n_163, k5_158_12, k34_158_12, k54_158_12, k54b_158_12_0, k5_158_30, k34_158_30, k54_158_30, k54b_158_30_0, k5_158_33, k34_158_33, rv_t, rv_d, rv_x, rv_y, rp_t, rp_d, rp_x, rp_y, w32_of, y_p, w_p, x1, x2, x3, x4, x5, hb]
    · exact Pst_fin FE_rf FS_rf N.1 (by omega) (by omega) (Or.inl ⟨hb, R, by rw [hs0]; decide⟩) rfl R.hd (fun _ => by omega) ⟨by omega, by omega, fun _ => rfl⟩ (by omega) (by omega)
  · have e3 : cdM m (i + 1) = bkF m (plT m (i + 1)) := by unfold cdM; rw [if_pos hb, if_neg hk]
    have e4 : cdV m (i + 1) = 0 := by unfold cdV; rw [if_pos hb, if_neg hk]
    rw [e3, e4] at x3
    have B := us_nm (s := s) (SR_EE S R (by omega)) R.rx (i := i + 1) (by omega) (by omega) h3 (by decide) (hD (i + 1) (by omega) (by omega)) hk
    have W1 : WU (bkF m (plT m (i + 1))) := WU_bk N.1
    have x4 := fun D => B_213 (F := F) (L := L) (xs := xs) (d := D) (m := rv (i + 2) dep (bkF m (plT m (i + 1)))) (a1 := 59) rfl ⟨by show 0 ≤ i + 2; omega, by show i + 2 < 3001; omega⟩
    have x5 := fun D o1 a1 l1 => B_246 (F := F) (L := L) (xs := xs) (d := D) (m := rv (i + 2) dep (bkF m (plT m (i + 1)))) (a1 := o1) (a2 := a1) (a3 := l1) rfl
    refine ⟨i + 2, bkF m (plT m (i + 1)), ?_, Pst_br FS_bkF W1 (Br_le B (by omega) (by omega)) (by omega) (by omega)⟩
    simp (disch := first | omega | assumption) only [c_231, tr_231, ev_0, ev_1, ev_16, ev_17, ev_18, ev_2, ev_3, ev_4, ev_5, ev_6, ev_7, ev_8, ev_9, ev_20, ev_21, ev_22, ev_23, ev_24, ev_25, ev_27, ev_28, ev_30, ev_31, ev_32, ev_33, ev_34, ev_35, ev_36, ev_37, ev_38, ev_39, ev_40, ev_41, ev_42, ev_43, ev_45, ev_46, ev_47, ev_48, ev_49, ev_50, ev_51, ev_52, ev_54, ev_55, ev_57, ev_58, ev_59, k2_0, k2_1, k2_2, k3a, k3b, k4, o1_s, xbin_0, xbin_1, xbin_2, xbin_3, xbin_4, xbin_5, xbin_6, xbin_7, xbin_8, xbin_9, xbin_11, xbin_12, xun_0, xun_1, xun_2, xun_3, xun_4, xun_5, k6a, k8, k8b, k9, k20, k20b_0, k20b_1, k20b_2, k20b_3, k20b_4, k20b_5, k21_0, k21_1, k21_2, k21_3, k21_4, k21_5, k23, k24, k25, k27, k28, k40, nz_1, nz_2, nz_3, k31_0, k31_1, k31_2, k31_3, k32u, k33, k34, k35, k35b, k36, k37, k38, k47, k49, k49b_0, k49b_1, k49b_2, k49b_3, k50_0, k50_s, k51_0, k51_s, k55, k58, k58b, rk_0, rk_1, rk_2, rk_9, rk_3, rk_4, rk_5, sw_n, sw_c, xtb_n, xtb_c, lset_0, lset_2, lset_1, lkm_0, lkm_2, lkm_9, lkm_1, lkm_n, if_some1, c_10, c_01, c_x0, c_1x, c_n0, c_nn, List.getElem?_cons_zero, List.getElem?_cons_succ, List.set_cons_zero, List.set_cons_succ, List.length_cons, List.length_nil, Int.reduceToNat, Nat.reduceDiv, Nat.reduceMod, Nat.reduceSub, Nat.reduceAdd, Nat.reduceMul, Nat.reduceLT, Nat.reduceLeDiff, Nat.reduceEqDiff, Int.reduceMod, Int.reduceSub, Int.reduceNeg, Int.reduceAdd, Int.reduceMul, Int.reduceLT, Int.reduceLE, Int.reduceEq, put_ss, if_true, if_false, ite_true, ite_false, reduceIte, eq_self, and_true, true_and, and_false, false_and, or_true, true_or, or_false, false_or, not_true_eq_false, not_false_eq_true, k5_158_14, k34_158_14, k34i_158_14, k5_158_15, k34_158_15, k34i_158_15, k5_158_13, k34_158_13, k54_158_13, k54b_158_13_0, k54b_158_13_1, k5_158_48, k34_158_48, k5_158_5, k6_161, k35_161, n_161, k5_158_7, k6_163, k35_163, n_163, k5_158_12, k34_158_12, k54_158_12, k54b_158_12_0, k5_158_30, k34_158_30, k54_158_30, k54b_158_30_0, k5_158_33, k34_158_33, rv_t, rv_d, rv_x, rv_y, rp_t, rp_d, rp_x, rp_y, w32_of, y_p, w_p, x1, x2, x3, x4, x5, hb]
theorem st_23 (hF : 100000 ≤ F) {L d : Nat} {xs : Nat → Int32} {m : Mem} {s : xSt} {y : yS} {σ : Int → Int} {D H dep p q : Int} {G : Prop} {V : Int → Int} {i : Int} {a b : xT} (hd0 : 0 ≤ dep) (hd1 : dep ≤ 30) (hp : 0 ≤ p) (hq : q ≤ e) (S : SE mc m e) (R : SR mc s y m σ D G H p) (hs0 : s.2.1 = 0) (hb : m 158 15 = 0) (h41 : m 158 41 + 2 * (q - p) < 2900) (hlab : (y.1.length : Int) + 2 * (q - p) < 2900) (hD : ∀ j, 0 ≤ j → j < q → mc 54 j.toNat < D) (hd : 300 + 4 * (31 - dep).toNat + 2 ≤ d) (h1 : kd mc p = 4) (h3 : kd mc (p + 1) = 2) (h5 : kd mc (p + 2) = 61) (h6 : i = p) {r : Int} (h8 : P (kd mc) V a 0 dep (p + 3) r) (h9 : kd mc r = 59) (h10 : q = r + 1) : ∃ p' m', Cx F (d + 10) 231 [158] (Hp L xs (rv p dep m)) = some ([], Hp L xs (rv p' dep m')) ∧ Pst mc e (stS mc (nd 23 i a b) H 0 0 (s, y)) y m m' σ D G H p q p' 0 0 := by
  have l1 := P_le a h8
  have el := S.el
  have hT := S.tr p hp (by omega)
  rw [h1] at hT
  have N := SR_En S R (by omega) (Or.inl hb) (by omega)
  have hl := R.hl
  have y_p := fun (s : Int) (D : Nat) (hs : 0 ≤ s ∧ s ≤ 12) => N_210 (L := L) (xs := xs) (F := F) (d := D) (dep := dep) (a1 := s) (m := m) hb (by omega) hT hs
  have w_p := fun (D : Nat) => N_211 (L := L) (xs := xs) (F := F) (d := D) (dep := dep) (m := m) hb (by omega) hT
  have x1 := fun D => N_212 (F := F) (L := L) (xs := xs) (d := D) (m := m) (p := p) (dep := dep) hb (by omega)
  have hT1 := S.tr (p + 1) (by omega) (by omega)
  have hT2 := S.tr (p + 2) (by omega) (by omega)
  rw [h3] at hT1
  rw [h5] at hT2
  have e2 : p + 1 + 1 = p + 2 := by omega
  have x2 := fun D => N_215 (F := F) (L := L) (xs := xs) (d := D) (m := m) (p := p + 1) (dep := dep) hb (by omega) hT1 rfl
  rw [e2] at x2
  have x3 := fun D P1 => R_224 (F := F) (L := L) (xs := xs) (d := D) (m := m) (p := P1) (dep := dep) (a := p + 1) hF N.1 (by omega) (by omega)
  subst h6
  have ec : stS mc (nd 23 i a b) H 0 0 (s, y) = (tlS mc (i + 1) y (em 3 y.2.1 (-1) (xE (sww H y mc) a s)), ymk mc (i + 1) y) := rfl
  rw [ec]
  obtain ⟨n1, n2, n3, n4, n5, n6, n7⟩ := S.nm (i + 1) (by omega) (by omega) h3
  have hlm := R.lm _ n5 n6
  rw [n7] at hlm
  have et : ∀ s1, tlS mc (i + 1) y s1 = if kI mc (idT mc (i + 1)) = 0 ∧ lcK m (vlT m (i + 1)) = -1 then s1 else bl mc (i + 1) s1 := fun s1 => by
    unfold tlS
    have e0 : (if idT mc (i + 1) < 0 ∨ mc 57 4 ≤ idT mc (i + 1) then -1 else y.2.2.1 (idT mc (i + 1)).toNat) = lcK m (vlT m (i + 1)) := by rw [if_neg (by omega), hlm]
    rw [e0]
  obtain ⟨d, rfl⟩ : ∃ d', d = d' + 1 := ⟨d - 1, by omega⟩
  by_cases hk : 0 ≤ topK m (vlT m (i + 1)) ∨ 0 ≤ lcK m (vlT m (i + 1))
  · have e3 : ltM m (i + 1) = bkF m (plT m (i + 1)) := if_pos ⟨hb, hk⟩
    rw [e3] at x3
    have et1 : tlS mc (i + 1) y (em 3 y.2.1 (-1) (xE (sww H y mc) a s)) = bl mc (i + 1) (em 3 y.2.1 (-1) (xE (sww H y mc) a s)) := by
      rw [et, if_neg (fun z => by have := n4.1 z.1; omega)]
    rw [et1]
    have W1 : WU (bkF m (plT m (i + 1))) := WU_bk N.1
    have hpl := S.pl (i + 1) (by omega) (by omega)
    have ge : mc 54 (i + 1).toNat ≤ (xE (sww H y mc) a s).2.2.2.1 := xE_ge (mc := sww H y mc) (tsz a + 1) a (by omega) 0 dep (i + 3) r (by decide) h8 (fun j j1 j2 => S.mo _ _ (by omega) (by omega) (by omega)) s (by rw [R.rx.nf]; have := hD (i + 1) (by omega) (by omega); omega)
    have B : Br mc (bkF m (plT m (i + 1))) (bl mc (i + 1) (em 3 y.2.1 (-1) (xE (sww H y mc) a s))) i q := by
      refine ⟨rfl, rfl, i + 1, by omega, by omega, hpl.1.symm, ?_⟩
      show (if (0 ≤ i + 1 ∧ i + 1 < mc 51 5) ∧ mc 54 (i + 1).toNat < (xE (sww H y mc) a s).2.2.2.1 then mc 54 (i + 1).toNat else (xE (sww H y mc) a s).2.2.2.1) = _
      have := S.e5
      split <;> omega
    have x4 := fun D o1 => B_213 (F := F) (L := L) (xs := xs) (d := D) (m := rv (i + 2) dep (bkF m (plT m (i + 1)))) (a1 := o1) rfl ⟨by show 0 ≤ i + 2; omega, by show i + 2 < 3001; omega⟩
    have x6 := fun D => B_236 (F := F) (L := L) (xs := xs) (d := D) (m := rv (i + 2) dep (bkF m (plT m (i + 1)))) rfl ⟨by show 0 ≤ i + 2; omega, by show i + 2 < 3001; omega⟩ hF
    have x5 := fun D o1 a1 l1 => B_246 (F := F) (L := L) (xs := xs) (d := D) (m := rv (i + 2) dep (bkF m (plT m (i + 1)))) (a1 := o1) (a2 := a1) (a3 := l1) rfl
    have x7 := fun D => R_225 (F := F) (L := L) (xs := xs) (d := D) (m := bkF m (plT m (i + 1))) (p := i + 2) (dep := dep) (a := i + 1) W1 (fun z => absurd z (by show ¬ (1 : Int) = 0; decide)) (by omega) (by omega)
    have e7 : adM (bkF m (plT m (i + 1))) (i + 1) = bkF m (plT m (i + 1)) := if_neg (by show ¬ (1 : Int) = 0; decide)
    rw [e7] at x7
    refine ⟨i + 2, bkF m (plT m (i + 1)), ?_, Pst_br FS_bkF W1 B (by omega) (by omega)⟩
    simp (disch := first | omega | assumption) only [c_231, tr_231, ev_0, ev_1, ev_16, ev_17, ev_18, ev_2, ev_3, ev_4, ev_5, ev_6, ev_7, ev_8, ev_9, ev_20, ev_21, ev_22, ev_23, ev_24, ev_25, ev_27, ev_28, ev_30, ev_31, ev_32, ev_33, ev_34, ev_35, ev_36, ev_37, ev_38, ev_39, ev_40, ev_41, ev_42, ev_43, ev_45, ev_46, ev_47, ev_48, ev_49, ev_50, ev_51, ev_52, ev_54, ev_55, ev_57, ev_58, ev_59, k2_0, k2_1, k2_2, k3a, k3b, k4, o1_s, xbin_0, xbin_1, xbin_2, xbin_3, xbin_4, xbin_5, xbin_6, xbin_7, xbin_8, xbin_9, xbin_11, xbin_12, xun_0, xun_1, xun_2, xun_3, xun_4, xun_5, k6a, k8, k8b, k9, k20, k20b_0, k20b_1, k20b_2, k20b_3, k20b_4, k20b_5, k21_0, k21_1, k21_2, k21_3, k21_4, k21_5, k23, k24, k25, k27, k28, k40, nz_1, nz_2, nz_3, k31_0, k31_1, k31_2, k31_3, k32u, k33, k34, k35, k35b, k36, k37, k38, k47, k49, k49b_0, k49b_1, k49b_2, k49b_3, k50_0, k50_s, k51_0, k51_s, k55, k58, k58b, rk_0, rk_1, rk_2, rk_9, rk_3, rk_4, rk_5, sw_n, sw_c, xtb_n, xtb_c, lset_0, lset_2, lset_1, lkm_0, lkm_2, lkm_9, lkm_1, lkm_n, if_some1, c_10, c_01, c_x0, c_1x, c_n0, c_nn, List.getElem?_cons_zero, List.getElem?_cons_succ, List.set_cons_zero, List.set_cons_succ, List.length_cons, List.length_nil, Int.reduceToNat, Nat.reduceDiv, Nat.reduceMod, Nat.reduceSub, Nat.reduceAdd, Nat.reduceMul, Nat.reduceLT, Nat.reduceLeDiff, Nat.reduceEqDiff, Int.reduceMod, Int.reduceSub, Int.reduceNeg, Int.reduceAdd, Int.reduceMul, Int.reduceLT, Int.reduceLE, Int.reduceEq, put_ss, if_true, if_false, ite_true, ite_false, reduceIte, eq_self, and_true, true_and, and_false, false_and, or_true, true_or, or_false, false_or, not_true_eq_false, not_false_eq_true, k5_158_14, k34_158_14, k34i_158_14, k5_158_15, k34_158_15, k34i_158_15, k5_158_13, k34_158_13, k54_158_13, k54b_158_13_0, k54b_158_13_1, k5_158_48, k34_158_48, k5_158_5, k6_161, k35_161, n_161, k5_158_7, k6_163, k35_163, n_163, k5_158_12, k34_158_12, k54_158_12, k54b_158_12_0, k5_158_30, k34_158_30, k54_158_30, k54b_158_30_0, k5_158_33, k34_158_33, rv_t, rv_d, rv_x, rv_y, rp_t, rp_d, rp_x, rp_y, w32_of, y_p, w_p, x1, x2, x3, x4, x5, x6, x7, hb]
  · have e3 : ltM m (i + 1) = m := if_neg (fun z => hk z.2)
    rw [e3] at x3
    have hk1 : kI mc (idT mc (i + 1)) = 0 := n4.2 (by omega)
    have hk2 : lcK m (vlT m (i + 1)) = -1 := lcK_n (by omega)
    have et1 : tlS mc (i + 1) y (em 3 y.2.1 (-1) (xE (sww H y mc) a s)) = em 3 y.2.1 (-1) (xE (sww H y mc) a s) := by
      rw [et, if_pos ⟨hk1, hk2⟩]
    rw [et1]
    have x4 := fun D => N_213 (F := F) (L := L) (xs := xs) (d := D) (m := m) (p := i + 2) (dep := dep) (a1 := 61) hb (by omega) hT2 (by omega) rfl
    have e5 : i + 2 + 1 = i + 3 := by omega
    rw [e5] at x4
    obtain ⟨⟨p1, k1, k2, k3, c1⟩, W1, S1, E1, F1, g41, g41b, B⟩ := Ex_ok (F := F) (L := L) (xs := xs) (d := d) hF S R hb (rng0 hs0) h8 hd0 hd1 (by omega) (by omega) (by omega) (by omega) (fun j j1 j2 => hD j j1 (by omega)) (by omega)
    have x6 := fun D => R_213 (F := F) (L := L) (xs := xs) (d := D) (m := eM a m) (p := p1) (dep := dep) (a1 := 59) W1 (by omega) (by omega) (fun z => by
      have hz := k3 z
      have T2 := S1.tr (p1) k1 k2
      rw [hz, h9] at T2
      rw [hz]
      exact T2)
    have x5 := fun D P1 => R_246_3 (F := F) (L := L) (xs := xs) (d := D) (p := P1) (dep := dep) (a := m 158 30) (l := -1) W1
    have e30 : eM a m 158 30 = m 158 30 := E1 158 30 rfl
    have e31 : eM a m 158 31 = m 158 31 := E1 158 31 rfl
    have lx := R.lx
    have l0 := R.l0
    have g2 := Fm_emG (m := eM a m) (o := 3) (a := m 158 30) (l := -1) (u := -1) (z := false) W1.2.2.2.2.2.1
    have g241 := g2.2.2.2.1
    have W2 := WU_Fm W1 g2 (by omega)
    have F2 := FE_tr E1 (FE_emG (m := eM a m) (o := 3) (a := m 158 30) (l := -1) (u := -1) (z := false))
    have x7 := fun D P1 => R_225 (F := F) (L := L) (xs := xs) (d := D) (m := emG (eM a m) 3 (m 158 30) (-1) (-1) false) (p := P1) (dep := dep) (a := i + 1) W2 (fun _ => by rw [F2 158 31 rfl]; omega) (by omega) (by omega)
    refine ⟨nxP (eM a m) p1, adM (emG (eM a m) 3 (m 158 30) (-1) (-1) false) (i + 1), ?_, ?_⟩
    · simp (disch := first | omega | assumption) only [c_231, tr_231, ev_0, ev_1, ev_16, ev_17, ev_18, ev_2, ev_3, ev_4, ev_5, ev_6, ev_7, ev_8, ev_9, ev_20, ev_21, ev_22, ev_23, ev_24, ev_25, ev_27, ev_28, ev_30, ev_31, ev_32, ev_33, ev_34, ev_35, ev_36, ev_37, ev_38, ev_39, ev_40, ev_41, ev_42, ev_43, ev_45, ev_46, ev_47, ev_48, ev_49, ev_50, ev_51, ev_52, ev_54, ev_55, ev_57, ev_58, ev_59, k2_0, k2_1, k2_2, k3a, k3b, k4, o1_s, xbin_0, xbin_1, xbin_2, xbin_3, xbin_4, xbin_5, xbin_6, xbin_7, xbin_8, xbin_9, xbin_11, xbin_12, xun_0, xun_1, xun_2, xun_3, xun_4, xun_5, k6a, k8, k8b, k9, k20, k20b_0, k20b_1, k20b_2, k20b_3, k20b_4, k20b_5, k21_0, k21_1, k21_2, k21_3, k21_4, k21_5, k23, k24, k25, k27, k28, k40, nz_1, nz_2, nz_3, k31_0, k31_1, k31_2, k31_3, k32u, k33, k34, k35, k35b, k36, k37, k38, k47, k49, k49b_0, k49b_1, k49b_2, k49b_3, k50_0, k50_s, k51_0, k51_s, k55, k58, k58b, rk_0, rk_1, rk_2, rk_9, rk_3, rk_4, rk_5, sw_n, sw_c, xtb_n, xtb_c, lset_0, lset_2, lset_1, lkm_0, lkm_2, lkm_9, lkm_1, lkm_n, if_some1, c_10, c_01, c_x0, c_1x, c_n0, c_nn, List.getElem?_cons_zero, List.getElem?_cons_succ, List.set_cons_zero, List.set_cons_succ, List.length_cons, List.length_nil, Int.reduceToNat, Nat.reduceDiv, Nat.reduceMod, Nat.reduceSub, Nat.reduceAdd, Nat.reduceMul, Nat.reduceLT, Nat.reduceLeDiff, Nat.reduceEqDiff, Int.reduceMod, Int.reduceSub, Int.reduceNeg, Int.reduceAdd, Int.reduceMul, Int.reduceLT, Int.reduceLE, Int.reduceEq, put_ss, if_true, if_false, ite_true, ite_false, reduceIte, eq_self, and_true, true_and, and_false, false_and, or_true, true_or, or_false, false_or, not_true_eq_false, not_false_eq_true, k5_158_14, k34_158_14, k34i_158_14, k5_158_15, k34_158_15, k34i_158_15, k5_158_13, k34_158_13, k54_158_13, k54b_158_13_0, k54b_158_13_1, k5_158_48, k34_158_48, k5_158_5, k6_161, k35_161, n_161, k5_158_7, k6_163, k35_163, n_163, k5_158_12, k34_158_12, k54_158_12, k54b_158_12_0, k5_158_30, k34_158_30, k54_158_30, k54b_158_30_0, k5_158_33, k34_158_33, rv_t, rv_d, rv_x, rv_y, rp_t, rp_d, rp_x, rp_y, w32_of, y_p, w_p, x1, x2, x3, x4, x5, x6, x7, c1, e30, hb]
    · have hp' := nxP_in (e := e) k1 k2 k3 (by omega)
      rcases B with ⟨b1, R1, b2⟩ | B
      · have b3 : emG (eM a m) 3 (m 158 30) (-1) (-1) false 158 15 = 0 := emG_ok b1
        have e8 : adM (emG (eM a m) 3 (m 158 30) (-1) (-1) false) (i + 1) = jadx (emG (eM a m) 3 (m 158 30) (-1) (-1) false) (emG (eM a m) 3 (m 158 30) (-1) (-1) false 163 (i + 1).toNat) := if_pos b3
        rw [e8, R.ln]
        have R2 := SR_em (o := 3) (a := m 158 30) (l := -1) (u := -1) (lm := -1) R1 b1 (by omega) rfl R.s1.symm (by omega)
        have S2 : SE mc (emG (eM a m) 3 (m 158 30) (-1) (-1) false) e := SE_FS S (FE_FS F2)
        have hlc : lcK (emG (eM a m) 3 (m 158 30) (-1) (-1) false) (vlT (emG (eM a m) 3 (m 158 30) (-1) (-1) false) (i + 1)) = -1 := by
          have z1 : vlT (emG (eM a m) 3 (m 158 30) (-1) (-1) false) (i + 1) = vlT m (i + 1) := F2 163 _ rfl
          rw [z1, lcK_eq (m := m) (fun k => F2 172 k rfl) (F2 158 30 rfl)]
          exact hk2
        have R3 := SR_ad (p' := q) S2 R2 (i := i + 1) (by omega) (by omega) h3 hk1 hlc (by omega) (by omega)
        refine ⟨?_, hp'.1, hp'.2.1, σ, fun _ _ => rfl, Or.inl ⟨⟨?_, R3, ?_, ?_, ?_, ?_, ?_, ?_, ?_, fun k _ => ?_⟩, by rw [hp'.2.2 b1]; omega⟩⟩
        · exact FS_tr (FE_FS F2) (FS_put (FS_put (FS_put FS_rf rfl) rfl) rfl)
        · exact b3
        · show w32 ((xE (sww H y mc) a s).2.1 + -1) = 0
          rw [b2, hs0]
          decide
        · show emG (eM a m) 3 (m 158 30) (-1) (-1) false 158 41 ≤ _
          omega
        · have ey : (ymk mc (i + 1) y).1 = y.1 := by unfold ymk; split <;> rfl
          show ((ymk mc (i + 1) y).1.length : Int) ≤ _
          rw [ey]
          omega
        · have ey : (ymk mc (i + 1) y).1 = y.1 := by unfold ymk; split <;> rfl
          show (y.1.length : Int) ≤ ((ymk mc (i + 1) y).1.length : Int)
          rw [ey]
          omega
        · show m 158 30 ≤ emG (eM a m) 3 (m 158 30) (-1) (-1) false 158 30 + 1
          rw [F2 158 30 rfl]
          omega
        · exact (F2 158 39 rfl).symm
        · exact (F2 158 40 rfl).symm
        · exact F2 176 k rfl
      · have e8 : adM (emG (eM a m) 3 (m 158 30) (-1) (-1) false) (i + 1) = eM a m := by
          rw [emG_b B.1]
          exact if_neg (by have := B.1; omega)
        rw [e8]
        exact Pst_br F1 W1 (Br_le B (by omega) (by omega)) hp'.1 hp'.2.1
end Siu
