/-! CLASS AND MODEL, THE SECOND WALK: a proc from its block to its end -/
def gm (m : Mem) : Mem := put (put (put m 158 48 (-1)) 158 30 0) 158 33 (m 158 25)
def gms (s : xSt) (y : yS) (m : Mem) : Mem := put (put (put (gm m) 158 52 s.2.1) 158 53 s.2.2.1) 158 31 y.2.2.2.2
theorem SR_gs {mc m : Mem} {s : xSt} {y : yS} {σ : Int → Int} {D H p : Int} {G : Prop} (R : SR mc s y m σ D G H p) : SR mc s y (put (put (put m 158 52 s.2.1) 158 53 s.2.2.1) 158 31 y.2.2.2.2) σ D G H p := by
  have X := R.rx
  have lx := R.lx
  exact ⟨⟨X.len, X.ops, fun _ _ => ⟨rfl, rfl⟩, X.nf, X.cf⟩, R.lk, R.la, R.lb, R.lj, R.ls, R.s1, R.hd, R.hl, R.ln, R.l0, R.lh, R.lm, R.ld, ⟨rfl, by show m 158 30 ≤ y.2.2.2.2; omega, by show y.2.2.2.2 ≤ 1600; omega⟩, R.pr, R.wh⟩
section Pro
variable {F L d : Nat} {xs : Nat → Int32} {mc : Mem} {e : Int}
theorem bpF_e {m : Mem} : bpF m = emF (bpB m) 0 (m 158 33) (-1) 0 false := rfl
/-- from behind the raises: the block and the end -/
theorem P15 (hF : 100000 ≤ F) {V : Int → Int} {bk : xT} {mR : Mem} {s : xSt} {y : yS} {σ : Int → Int} {D p q x many : Int} {G : Prop} (S : SE mc mR e) (R : SR mc s y (hg mR) σ D G (-1) p) (hs0 : s.2.1 = 0) (hs1 : s.2.2.1 = 0) (hb : mR 158 15 = 0) (h : P (kd mc) V bk 8 0 p q) (hp : 0 ≤ p) (hq : q ≤ e) (h41 : mR 158 41 + 2 * (q - p) < 2800) (hlab : (y.1.length : Int) + 2 * (q - p) < 2800) (h33 : 0 ≤ mR 158 33 ∧ mR 158 33 < 1600) (hm0 : 0 ≤ many ∧ many ≤ 1600) (h173 : 0 ≤ mR 158 36 ∧ mR 158 36 < 2000 ∧ 0 ≤ mR 173 (mR 158 33).toNat ∧ mR 173 (mR 158 33).toNat < 2000) (hD : ∀ j, 0 ≤ j → j < q → mc 54 j.toNat < D) (hd : 500 ≤ d) : ∃ p' m', rK 9 (Ev F (d + 10) pd15 0 ([(2, 158), (0, x), (0, many)], Hp L xs (rv p 0 mR))) = some ([], Hp L xs (rv p' 0 m')) ∧ FT mR m' ∧ 0 ≤ p' ∧ p' ≤ e ∧ ((m' 158 15 = 0 ∧ p' = q ∧ ∃ σ' : Int → Int, (∀ k : Int, k < (y.1.length : Int) → σ' k = σ k) ∧ SR mc (p6 mc (nln y) (p5 mc bk s y)).1 (p7 mc (p6 mc (nln y) (p5 mc bk s y)).2) (put (put m' 158 48 (-1)) 158 30 0) σ' D G (-1) q ∧ m' 158 41 ≤ mR 158 41 + (q - p) + 2 ∧ ((p7 mc (p6 mc (nln y) (p5 mc bk s y)).2).1.length : Int) ≤ (y.1.length : Int) + (q - p) ∧ (∀ a k, ¬ (a = 171 ∨ a = 172 ∨ a = 174 ∨ a = 176 ∨ a = 177 ∨ a = 178 ∨ a = 179 ∨ a = 181 ∨ a = 182 ∨ a = 183) → a ≠ 158 → m' a k = mR a k) ∧ (∀ k, k = 25 ∨ k = 29 ∨ k = 33 ∨ k = 36 ∨ k = 21 ∨ k = 24 ∨ k = 28 → m' 158 k = mR 158 k) ∧ (∀ k, m' 171 k = if k = (mR 158 33).toNat then (p7 mc (p6 mc (nln y) (p5 mc bk s y)).2).2.2.2.2 - many else mR 171 k) ∧ (∀ k, m' 174 k = if k = (mR 158 33).toNat then mR 158 36 - mR 173 (mR 158 33).toNat else mR 174 k) ∧ (∀ k, m' 182 k = if k = (mR 158 33).toNat then (s.1.length : Int) else mR 182 k) ∧ (∀ k, k ≠ (mR 158 33).toNat → m' 183 k = mR 183 k) ∧ (G → (p6 mc (nln y) (p5 mc bk s y)).1.2.2.2.2 = 3001 → m' 183 (mR 158 33).toNat = (p6 mc (nln y) (p5 mc bk s y)).1.2.2.1) ∧ 0 ≤ m' 158 30 ∧ m' 158 30 < 1600) ∨ Br mc m' (p6 mc (nln y) (p5 mc bk s y)).1 p q) := by
  have el := S.el
  have l0 := P_le bk h
  have la : (y.1.length : Int) = mR 158 46 := R.la
  have hl1 : y.1.length < 3000 := by omega
  have en1 : nln y = (y.1.length : Int) := nln_1 hl1
  have hyl : (nlb y).1.length = y.1.length + 1 := by rw [nlb_1 hl1, List.length_append, List.length_replicate]
  have l030 : 0 ≤ mR 158 30 ∧ 2 * mR 158 30 ≤ p := R.l0
  have len0 : (s.1.length : Int) = mR 158 41 := R.rx.len
  rw [pd15_e]
  have w174 : w32 (mR 158 36 - mR 173 (mR 158 33).toNat) = mR 158 36 - mR 173 (mR 158 33).toNat := w32_of (by omega) (by omega)
  generalize hmS : put mR 174 (mR 158 33).toNat (mR 158 36 - mR 173 (mR 158 33).toNat) = mS
  have e15 : mS 158 15 = 0 := by rw [← hmS]; exact hb
  have eX : ∀ a k, a ≠ 174 → mS a k = mR a k := fun a k hn => by rw [← hmS, put_ss, if_neg hn]
  have e174 : ∀ k, mS 174 k = if k = (mR 158 33).toNat then mR 158 36 - mR 173 (mR 158 33).toNat else mR 174 k := fun k => by rw [← hmS, put_ss, if_pos rfl]
  have FS0 : FT mR mS := by rw [← hmS]; exact FT_put FT_rf rfl
  have S1 : SE mc mS e := SE_FQ S (fun a k hk => eX a k (fun z => by subst z; exact absurd hk (by show ¬ (false = true); decide)))
  have W : WB mS := by
    refine ⟨S1.tp.1, S1.tp.2, ?_, ?_, S1.fu, e15⟩
    · rw [eX _ _ (by decide)]; omega
    · rw [eX _ _ (by decide)]; omega
  have c1 := fun D => M_247 (F := F) (L := L) (xs := xs) (d := D) (m := mS) (p := p) (dep := 0) W (by rw [eX _ _ (by decide)]; omega) (by rw [eX _ _ (by decide)]; omega) (by rw [eX _ _ (by decide)]; omega) (by rw [eX _ _ (by decide)]; omega) (by rw [eX _ _ (by decide)]; omega) (by rw [eX _ _ (by decide)]; omega)
  -- the relation behind the beginning
  have R1 := SR_H (H' := (y.1.length : Int)) (v := (y.1.length : Int)) (SR_lab1 R hl1) (by rw [hyl]; omega) (sx_g (Int.le_refl _)).symm
  have R2 : SR mc s (nlb y) (bpB mS) (sx σ (y.1.length : Int)) D G (y.1.length : Int) p := by
    refine SR_cg R1 (fun a k hk => ?_) (Int.le_refl _)
    have n174 : a ≠ 174 := fun z => by subst z; exact absurd hk (by show ¬ (false = true); decide)
    have n182 : a ≠ 182 := fun z => by subst z; exact absurd hk (by show ¬ (false = true); decide)
    have n49 : ¬ (a = 158 ∧ k = 49) := fun z => by obtain ⟨rfl, rfl⟩ := z; exact absurd hk (by decide)
    have hgla : hg mR 158 46 = mR 158 46 := rfl
    rw [hgla, la]
    unfold bpB hg
    simp only [put_ss]
    rw [eX a k n174, eX 158 46 (by decide)]
    by_cases h158 : a = 158
    · subst h158
      by_cases k46 : k = 46
      · subst k46; simp only [Nat.reduceEqDiff, if_true, if_false]
      · by_cases k48 : k = 48
        · subst k48; simp only [Nat.reduceEqDiff, if_true, if_false]
        · by_cases k52 : k = 52
          · subst k52; simp only [Nat.reduceEqDiff, if_true, if_false]
          · by_cases k53 : k = 53
            · subst k53; simp only [Nat.reduceEqDiff, if_true, if_false]
            · have k49 : ¬ k = 49 := fun z => n49 ⟨rfl, z⟩
              simp only [k46, k48, k49, k52, k53, Nat.reduceEqDiff, if_true, if_false]
    · simp only [h158, n182, if_false]
  have hb5 : bpB mS 158 15 = 0 := e15
  have R3 := SR_em (o := 0) (a := mR 158 33) (l := -1) (lm := -1) (u := 0) R2 hb5 (by show mS 158 41 < 3000; rw [eX _ _ (by decide)]; omega) rfl R2.s1.symm (by omega)
  have eb : emG (bpB mS) 0 (mR 158 33) (-1) 0 false = bpF mS := by
    have : emG (bpB mS) 0 (mR 158 33) (-1) 0 false = emF (bpB mS) 0 (mR 158 33) (-1) 0 false := if_pos hb5
    rw [this, bpF_e, eX 158 33 (by decide)]
  rw [eb] at R3
  have hpr : mc 68 4 = mR 158 33 := R.pr
  rw [← hpr] at R3
  have S3 : SE mc (bpF mS) e := SE_FQ S1 (fun a k hk => by
    rw [← eb]
    have f1 := (FE_emG (m := bpB mS) (o := 0) (a := mR 158 33) (l := -1) (u := 0) (z := false))
    have hz : feB a k = false := by
      cases hz : feB a k with
      | false => rfl
      | true =>
        exfalso
        unfold fqB at hk
        unfold feB at hz
        simp only [Bool.or_eq_true, Bool.and_eq_true, beq_iff_eq] at hz hk
        omega
    rw [f1 a k hz]
    unfold bpB
    simp only [put_ss]
    unfold fqB at hk
    simp only [Bool.or_eq_true, Bool.and_eq_true, beq_iff_eq] at hk
    have n182 : ¬ a = 182 := by omega
    by_cases h158 : a = 158
    · subst h158
      have hk2 : k = 17 ∨ k = 14 := by omega
      rcases hk2 with rfl | rfl <;> simp only [Nat.reduceEqDiff, if_true, if_false]
    · simp only [h158, n182, if_false])
  have hb3 : bpF mS 158 15 = 0 := by rw [← eb]; exact emG_ok hb5
  have g41 : bpF mS 158 41 = mR 158 41 + 1 := by
    rw [bpF_e, emF_41]
    show mS 158 41 + 1 = _
    rw [eX _ _ (by decide)]
  have z3 : (em 0 (mc 68 4) (-1) s).2.1 = 0 := by
    show w32 (s.2.1 + 0) = 0
    rw [hs0]; decide
  obtain ⟨p6', m6, c6, X6⟩ := (QsAll (F := F) (mc := mc) (e := e) hF (tsz bk + 1) bk (by omega)).2.1 V 0 p q h (by omega) (by omega) hp hq L xs d (bpF mS) (em 0 (mc 68 4) (-1) s) (nlb y) (sx σ (y.1.length : Int)) D (y.1.length : Int) G S3 R3 z3 hb3 (by omega) (by rw [hyl]; omega) hD (by omega)
  have e5 : p5 mc bk s y = stS mc bk (y.1.length : Int) 0 0 (em 0 (mc 68 4) (-1) s, nlb y) := by
    unfold p5
    rw [en1]
  rw [e5, en1]
  generalize hc5 : stS mc bk (y.1.length : Int) 0 0 (em 0 (mc 68 4) (-1) s, nlb y) = c5 at *
  have FB : FT mR (bpF mS) := FT_tr FS0 FT_bpF
  obtain ⟨F6, q0, q1, σ6, e6, Y⟩ := X6
  have fx : ∀ a k, feB a k = false → bpF mS a k = bpB mS a k := fun a k hk => by rw [← eb]; exact FE_emG a k hk
  have f33 : m6 158 33 = mR 158 33 := by rw [F6 158 33 rfl, fx 158 33 rfl]; show mS 158 33 = _; rw [eX _ _ (by decide)]
  have f49 : m6 158 49 = (y.1.length : Int) := by rw [F6 158 49 rfl, fx 158 49 rfl]; show mS 158 46 = _; rw [eX _ _ (by decide)]; omega
  have step1 : ∀ X, rK 9 (Ev F (d + 10) pd18 0 ([(2, 158), (0, x), (0, many)], Hp L xs (rv p6' 0 m6))) = X → rK 9 (Ev F (d + 10) pd15 0 ([(2, 158), (0, x), (0, many)], Hp L xs (rv p 0 mR))) = X := by
    intro X hX
    rw [pd15_e]
    refine rk_sq (s1 := ([(2, 158), (0, x), (0, many)], Hp L xs (rv p 0 mS))) ?_ (rk_sq (s1 := ([(2, 158), (0, x), (0, many)], Hp L xs (rv p 0 (bpF mS)))) ?_ (rk_sq (s1 := ([(2, 158), (0, x), (0, many)], Hp L xs (rv p6' 0 m6))) ?_ hX))
    · rw [← hmS]
      simp (disch := first | omega | assumption) only [ev_0, ev_1, ev_16, ev_17, ev_18, ev_2, ev_3, ev_4, ev_5, ev_6, ev_7, ev_8, ev_9, ev_20, ev_21, ev_22, ev_23, ev_24, ev_25, ev_27, ev_28, ev_30, ev_31, ev_32, ev_33, ev_34, ev_35, ev_36, ev_37, ev_38, ev_39, ev_40, ev_41, ev_42, ev_43, ev_45, ev_46, ev_47, ev_48, ev_49, ev_50, ev_51, ev_52, ev_54, ev_55, ev_57, ev_58, ev_59, k2_0, k2_1, k2_2, k3a, k3b, k4, o1_s, xbin_0, xbin_1, xbin_2, xbin_3, xbin_4, xbin_5, xbin_6, xbin_7, xbin_8, xbin_9, xbin_11, xbin_12, xun_0, xun_1, xun_2, xun_3, xun_4, xun_5, k6a, k8, k8b, k9, k20, k20b_0, k20b_1, k20b_2, k20b_3, k20b_4, k20b_5, k21_0, k21_1, k21_2, k21_3, k21_4, k21_5, k23, k24, k25, k27, k28, k40, nz_1, nz_2, nz_3, k31_0, k31_1, k31_2, k31_3, k32u, k33, k34, k35, k35b, k36, k37, k38, k47, k49, k49b_0, k49b_1, k49b_2, k49b_3, k50_0, k50_s, k51_0, k51_s, k55, k58, k58b, rk_0, rk_1, rk_2, rk_9, rk_3, rk_4, rk_5, sw_n, sw_c, xtb_n, xtb_c, lset_0, lset_2, lset_1, lkm_0, lkm_2, lkm_9, lkm_1, lkm_n, if_some1, c_10, c_01, c_x0, c_1x, c_n0, c_nn, List.getElem?_cons_zero, List.getElem?_cons_succ, List.set_cons_zero, List.set_cons_succ, List.length_cons, List.length_nil, Int.reduceToNat, Nat.reduceDiv, Nat.reduceMod, Nat.reduceSub, Nat.reduceAdd, Nat.reduceMul, Nat.reduceLT, Nat.reduceLeDiff, Nat.reduceEqDiff, Int.reduceMod, Int.reduceSub, Int.reduceNeg, Int.reduceAdd, Int.reduceMul, Int.reduceLT, Int.reduceLE, Int.reduceEq, put_ss, if_true, if_false, ite_true, ite_false, reduceIte, eq_self, and_true, true_and, and_false, false_and, or_true, true_or, or_false, false_or, not_true_eq_false, not_false_eq_true, k5_158_14, k34_158_14, k34i_158_14, k5_158_15, k34_158_15, k34i_158_15, k5_158_13, k34_158_13, k54_158_13, k54b_158_13_0, k54b_158_13_1, k5_158_5, k6_161, k35_161, n_161, k5_158_7, k6_163, k35_163, n_163, k5_158_12, k34_158_12, k54_158_12, k54b_158_12_0, k5_158_6, k6_162, k35_162, n_162, k5_158_36, k34_158_36, k54_158_36, k54b_158_36_0, k5_158_37, k6_175, k35_175, n_175, k5_158_34, k6_173, k35_173, n_173, k5_158_35, k6_174, k35_174, n_174, k5_158_33, k34_158_33, k5_158_25, k34_158_25, k54_158_25, k54b_158_25_0, k5_158_30, k34_158_30, k54_158_30, k54b_158_30_0, k5_158_31, k34_158_31, k5_158_26, k6_170, k35_170, n_170, k5_158_27, k6_171, k35_171, n_171, rv_t, rv_d, rv_x, rv_y, rp_t, rp_d, rp_x, rp_y, w32_of, w174]
    · simp (disch := first | omega | assumption) only [ev_0, ev_1, ev_16, ev_17, ev_18, ev_2, ev_3, ev_4, ev_5, ev_6, ev_7, ev_8, ev_9, ev_20, ev_21, ev_22, ev_23, ev_24, ev_25, ev_27, ev_28, ev_30, ev_31, ev_32, ev_33, ev_34, ev_35, ev_36, ev_37, ev_38, ev_39, ev_40, ev_41, ev_42, ev_43, ev_45, ev_46, ev_47, ev_48, ev_49, ev_50, ev_51, ev_52, ev_54, ev_55, ev_57, ev_58, ev_59, k2_0, k2_1, k2_2, k3a, k3b, k4, o1_s, xbin_0, xbin_1, xbin_2, xbin_3, xbin_4, xbin_5, xbin_6, xbin_7, xbin_8, xbin_9, xbin_11, xbin_12, xun_0, xun_1, xun_2, xun_3, xun_4, xun_5, k6a, k8, k8b, k9, k20, k20b_0, k20b_1, k20b_2, k20b_3, k20b_4, k20b_5, k21_0, k21_1, k21_2, k21_3, k21_4, k21_5, k23, k24, k25, k27, k28, k40, nz_1, nz_2, nz_3, k31_0, k31_1, k31_2, k31_3, k32u, k33, k34, k35, k35b, k36, k37, k38, k47, k49, k49b_0, k49b_1, k49b_2, k49b_3, k50_0, k50_s, k51_0, k51_s, k55, k58, k58b, rk_0, rk_1, rk_2, rk_9, rk_3, rk_4, rk_5, sw_n, sw_c, xtb_n, xtb_c, lset_0, lset_2, lset_1, lkm_0, lkm_2, lkm_9, lkm_1, lkm_n, if_some1, c_10, c_01, c_x0, c_1x, c_n0, c_nn, List.getElem?_cons_zero, List.getElem?_cons_succ, List.set_cons_zero, List.set_cons_succ, List.length_cons, List.length_nil, Int.reduceToNat, Nat.reduceDiv, Nat.reduceMod, Nat.reduceSub, Nat.reduceAdd, Nat.reduceMul, Nat.reduceLT, Nat.reduceLeDiff, Nat.reduceEqDiff, Int.reduceMod, Int.reduceSub, Int.reduceNeg, Int.reduceAdd, Int.reduceMul, Int.reduceLT, Int.reduceLE, Int.reduceEq, put_ss, if_true, if_false, ite_true, ite_false, reduceIte, eq_self, and_true, true_and, and_false, false_and, or_true, true_or, or_false, false_or, not_true_eq_false, not_false_eq_true, k5_158_14, k34_158_14, k34i_158_14, k5_158_15, k34_158_15, k34i_158_15, k5_158_13, k34_158_13, k54_158_13, k54b_158_13_0, k54b_158_13_1, k5_158_5, k6_161, k35_161, n_161, k5_158_7, k6_163, k35_163, n_163, k5_158_12, k34_158_12, k54_158_12, k54b_158_12_0, k5_158_6, k6_162, k35_162, n_162, k5_158_36, k34_158_36, k54_158_36, k54b_158_36_0, k5_158_37, k6_175, k35_175, n_175, k5_158_34, k6_173, k35_173, n_173, k5_158_35, k6_174, k35_174, n_174, k5_158_33, k34_158_33, k5_158_25, k34_158_25, k54_158_25, k54b_158_25_0, k5_158_30, k34_158_30, k54_158_30, k54b_158_30_0, k5_158_31, k34_158_31, k5_158_26, k6_170, k35_170, n_170, k5_158_27, k6_171, k35_171, n_171, rv_t, rv_d, rv_x, rv_y, rp_t, rp_d, rp_x, rp_y, w32_of, c1, c6]
    · simp (disch := first | omega | assumption) only [ev_0, ev_1, ev_16, ev_17, ev_18, ev_2, ev_3, ev_4, ev_5, ev_6, ev_7, ev_8, ev_9, ev_20, ev_21, ev_22, ev_23, ev_24, ev_25, ev_27, ev_28, ev_30, ev_31, ev_32, ev_33, ev_34, ev_35, ev_36, ev_37, ev_38, ev_39, ev_40, ev_41, ev_42, ev_43, ev_45, ev_46, ev_47, ev_48, ev_49, ev_50, ev_51, ev_52, ev_54, ev_55, ev_57, ev_58, ev_59, k2_0, k2_1, k2_2, k3a, k3b, k4, o1_s, xbin_0, xbin_1, xbin_2, xbin_3, xbin_4, xbin_5, xbin_6, xbin_7, xbin_8, xbin_9, xbin_11, xbin_12, xun_0, xun_1, xun_2, xun_3, xun_4, xun_5, k6a, k8, k8b, k9, k20, k20b_0, k20b_1, k20b_2, k20b_3, k20b_4, k20b_5, k21_0, k21_1, k21_2, k21_3, k21_4, k21_5, k23, k24, k25, k27, k28, k40, nz_1, nz_2, nz_3, k31_0, k31_1, k31_2, k31_3, k32u, k33, k34, k35, k35b, k36, k37, k38, k47, k49, k49b_0, k49b_1, k49b_2, k49b_3, k50_0, k50_s, k51_0, k51_s, k55, k58, k58b, rk_0, rk_1, rk_2, rk_9, rk_3, rk_4, rk_5, sw_n, sw_c, xtb_n, xtb_c, lset_0, lset_2, lset_1, lkm_0, lkm_2, lkm_9, lkm_1, lkm_n, if_some1, c_10, c_01, c_x0, c_1x, c_n0, c_nn, List.getElem?_cons_zero, List.getElem?_cons_succ, List.set_cons_zero, List.set_cons_succ, List.length_cons, List.length_nil, Int.reduceToNat, Nat.reduceDiv, Nat.reduceMod, Nat.reduceSub, Nat.reduceAdd, Nat.reduceMul, Nat.reduceLT, Nat.reduceLeDiff, Nat.reduceEqDiff, Int.reduceMod, Int.reduceSub, Int.reduceNeg, Int.reduceAdd, Int.reduceMul, Int.reduceLT, Int.reduceLE, Int.reduceEq, put_ss, if_true, if_false, ite_true, ite_false, reduceIte, eq_self, and_true, true_and, and_false, false_and, or_true, true_or, or_false, false_or, not_true_eq_false, not_false_eq_true, k5_158_14, k34_158_14, k34i_158_14, k5_158_15, k34_158_15, k34i_158_15, k5_158_13, k34_158_13, k54_158_13, k54b_158_13_0, k54b_158_13_1, k5_158_5, k6_161, k35_161, n_161, k5_158_7, k6_163, k35_163, n_163, k5_158_12, k34_158_12, k54_158_12, k54b_158_12_0, k5_158_6, k6_162, k35_162, n_162, k5_158_36, k34_158_36, k54_158_36, k54b_158_36_0, k5_158_37, k6_175, k35_175, n_175, k5_158_34, k6_173, k35_173, n_173, k5_158_35, k6_174, k35_174, n_174, k5_158_33, k34_158_33, k5_158_25, k34_158_25, k54_158_25, k54b_158_25_0, k5_158_30, k34_158_30, k54_158_30, k54b_158_30_0, k5_158_31, k34_158_31, k5_158_26, k6_170, k35_170, n_170, k5_158_27, k6_171, k35_171, n_171, rv_t, rv_d, rv_x, rv_y, rp_t, rp_d, rp_x, rp_y, w32_of, c1, c6]
  rcases Y with ⟨Y, hp6⟩ | ⟨W6, B6⟩
  · subst hp6
    have y41 := Y.o41
    have ylc := Y.lc
    have yly := Y.ly
    rw [hyl] at ylc yly
    have S6 := SE_FS S3 F6
    have R6 := Y.sr
    have W6 : WB m6 := by
      have := R6.l0
      exact ⟨S6.tp.1, S6.tp.2, this.1, by omega, S6.fu, Y.b0⟩
    have h41a : 0 ≤ m6 158 41 := by rw [← R6.rx.len]; omega
    have c8 := fun D => M_248 (F := F) (L := L) (xs := xs) (d := D) (m := m6) (p := p6') (dep := 0) W6 (by omega) (by omega) h41a (by omega) (by omega) (by omega)
    -- the end, in the relation
    have R7 := SR_em (o := 1) (a := 0) (l := -1) (lm := -1) (u := 1) R6 Y.b0 (by omega) rfl R6.s1.symm (by omega)
    have b7 : emG m6 1 0 (-1) 1 false 158 15 = 0 := emG_ok Y.b0
    have e7 : emG m6 1 0 (-1) 1 false = emF m6 1 0 (-1) 1 false := if_pos Y.b0
    have z7 : w32 ((em 1 0 (-1) c5.1).2.1 + -1) = 0 := by
      show w32 (w32 (c5.1.2.1 + 1) + -1) = 0
      rw [Y.pz]; decide
    have n7 : emF m6 1 0 (-1) 1 false 158 41 = m6 158 41 + 1 := emF_41
    rw [e7] at R7 b7
    have R8 := SR_emz (o := 22) (a := mc 68 4) (l := -1) (lm := -1) (u := -1) R7 b7 (by omega) rfl z7 R6.s1.symm (by omega)
    have e8 : emG (emF m6 1 0 (-1) 1 false) 22 (mc 68 4) (-1) (-1) true = ep1 m6 := by
      have : emG (emF m6 1 0 (-1) 1 false) 22 (mc 68 4) (-1) (-1) true = emF (emF m6 1 0 (-1) 1 false) 22 (mc 68 4) (-1) (-1) true := if_pos b7
      rw [this, hpr, ← f33]
      rfl
    rw [e8] at R8
    have n8 : ep1 m6 158 41 = m6 158 41 + 2 := by
      show emF (emF m6 1 0 (-1) 1 false) 22 (m6 158 33) (-1) (-1) true 158 41 = _
      rw [emF_41, n7]; omega
    have b8 : ep1 m6 158 15 = 0 := by
      show emF (emF m6 1 0 (-1) 1 false) 22 (m6 158 33) (-1) (-1) true 158 15 = _
      rw [emF_y 15 (by decide) (by decide) (by decide)]; exact b7
    have hσn : σ6 (y.1.length : Int) = (y.1.length : Int) := by rw [e6 _ (by rw [hyl]; omega), sx_g (Int.le_refl _)]
    have R9 := SR_st R8 (l := (y.1.length : Int)) (by omega) (by omega)
    rw [hσn, n8, ← f49] at R9
    generalize hm9 : put (ep1 m6) 181 (m6 158 49).toNat (m6 158 41 + 2) = m9 at R9
    have b9 : m9 158 15 = 0 := by rw [← hm9]; exact b8
    have n9 : m9 158 41 = m6 158 41 + 2 := by rw [← hm9]; exact n8
    have R10 := SR_em (o := 26) (a := mc 68 4) (l := -1) (lm := -1) (u := 0) R9 b9 (by omega) rfl R6.s1.symm (by
      have hz : (slb (m6 158 49) ((em 22 (mc 68 4) (-1) (em 1 0 (-1) c5.1)).1.length : Int) c5.2).1.length = c5.2.1.length := by
        unfold slb
        split
        · exact List.length_set
        · rfl
      rw [hz]; omega)
    have e10 : emG m9 26 (mc 68 4) (-1) 0 false = ep2 m6 := by
      have : emG m9 26 (mc 68 4) (-1) 0 false = emF m9 26 (mc 68 4) (-1) 0 false := if_pos b9
      rw [this, hpr, ← f33, ← hm9]
      rfl
    rw [e10, f49] at R10
    have eP6 : p6 mc (y.1.length : Int) c5 = (em 26 (mc 68 4) (-1) (em 22 (mc 68 4) (-1) (em 1 0 (-1) c5.1)), slb (y.1.length : Int) ((em 22 (mc 68 4) (-1) (em 1 0 (-1) c5.1)).1.length : Int) c5.2) := rfl
    rw [eP6]
    generalize hs10 : em 26 (mc 68 4) (-1) (em 22 (mc 68 4) (-1) (em 1 0 (-1) c5.1)) = s10 at *
    have hy10 : (slb (y.1.length : Int) ((em 22 (mc 68 4) (-1) (em 1 0 (-1) c5.1)).1.length : Int) c5.2).1.length = c5.2.1.length := by
      unfold slb
      split
      · exact List.length_set
      · rfl
    generalize hy10' : slb (y.1.length : Int) ((em 22 (mc 68 4) (-1) (em 1 0 (-1) c5.1)).1.length : Int) c5.2 = y10 at *
    have F10 : FE m9 (ep2 m6) := by rw [← e10]; exact FE_emG
    have F8 : FE m6 (ep1 m6) := by
      rw [← e8, ← e7]
      exact FE_tr FE_emG FE_emG
    have a10 : ∀ a k, feB a k = false → a ≠ 181 → ep2 m6 a k = m6 a k := fun a k h1 h2 => by
      rw [F10 a k h1, ← hm9, put_ss, if_neg h2, F8 a k h1]
    have S10 : SE mc (ep2 m6) e := SE_FQ S6 (fun a k hk => a10 a k (by
      cases hz : feB a k with
      | false => rfl
      | true =>
        exfalso
        unfold fqB at hk
        unfold feB at hz
        simp only [Bool.or_eq_true, Bool.and_eq_true, beq_iff_eq] at hz hk
        omega) (fun z => by subst z; exact absurd hk (by show ¬ (false = true); decide)))
    have R11 := SR_fg y10.2.1.toNat y10 (ep2 m6) S10 R10 (by rw [R10.ln]; have := R10.l0; omega)
    have ln10 := R10.ln
    have l010 := R10.l0
    have e30 : ep2 m6 158 30 - (y10.2.1.toNat : Int) = 0 := by omega
    rw [e30] at R11
    have fg1 := (fgN_n (m := mc) y10.2.1.toNat y10).1
    have eP7 : p7 mc y10 = fgN mc y10.2.1.toNat y10 := rfl
    rw [eP7]
    generalize hy11 : fgN mc y10.2.1.toNat y10 = y11 at *
    have i33 : epF m6 158 33 = mR 158 33 := by
      show ep2 m6 158 33 = _
      rw [a10 158 33 rfl (by decide), f33]
    have i31 : epF m6 158 31 = y11.2.2.2.2 := by
      show ep2 m6 158 31 = _
      exact R11.lx.1.symm
    have lx := R11.lx
    have lxa : y11.2.2.2.2 = ep2 m6 158 31 ∧ 0 ≤ ep2 m6 158 31 ∧ ep2 m6 158 31 ≤ 1600 := ⟨lx.1, by have : (0 : Int) ≤ ep2 m6 158 31 := lx.2.1; exact this, lx.2.2⟩
    have cT := T18 (F := F) (L := L) (xs := xs) (d := d) (p := p6') (x := x) (many := many) c8 (by omega) (by omega)
    have w171 : w32 (epF m6 158 31 - many) = y11.2.2.2.2 - many := by rw [i31]; exact w32_of (by omega) (by omega)
    rw [w171, i33] at cT
    have hF1 : FT mR (put (epF m6) 171 (mR 158 33).toNat (y11.2.2.2.2 - many)) := FT_put (FT_tr (FT_tr FB (FT_FS F6 (fun _ => ⟨W6.2.2.1, W6.2.2.2.1⟩))) FT_epF) rfl
    have fin : ∀ a k, ¬ (a = 171 ∨ a = 172 ∨ a = 174 ∨ a = 176 ∨ a = 177 ∨ a = 178 ∨ a = 179 ∨ a = 181 ∨ a = 183) → fsB a k = false → put (epF m6) 171 (mR 158 33).toNat (y11.2.2.2.2 - many) a k = bpB mS a k := fun a k hn hk => by
      have hfe : feB a k = false := by
        cases hz : feB a k with
        | false => rfl
        | true =>
          exfalso
          unfold fsB at hk
          unfold feB at hz
          simp only [Bool.or_eq_true, Bool.and_eq_true, beq_iff_eq] at hz
          simp only [Bool.or_eq_false_iff, Bool.and_eq_false_iff, beq_eq_false_iff_ne, ne_eq] at hk
          omega
      rw [put_ss, if_neg (by omega)]
      show put (ep2 m6) 183 (m6 158 33).toNat (ep2 m6 158 53) a k = _
      rw [put_ss, if_neg (by omega), a10 a k hfe (by omega), F6 a k hk, fx a k hfe]
    refine ⟨p6', put (epF m6) 171 (mR 158 33).toNat (y11.2.2.2.2 - many), step1 _ cT, hF1, q0, q1, Or.inl ⟨?_, rfl, σ6, fun k hk => ?_, ?_, ?_, ?_, ?_, ?_, ?_, ?_, ?_, ?_, ?_, ?_⟩⟩
    · show ep2 m6 158 15 = 0
      rw [← e10]; exact emG_ok b9
    · rw [e6 k (by rw [hyl]; omega), sx_l hk]
    · have R12 := SR_H (H' := -1) (v := -1) R11 (by omega) R6.s1.symm
      refine SR_cg R12 (fun a k hk => ?_) (Int.le_refl _)
      have n171 : ¬ a = 171 := fun z => by subst z; exact absurd hk (by show ¬ (false = true); decide)
      have n183 : ¬ a = 183 := fun z => by subst z; exact absurd hk (by show ¬ (false = true); decide)
      have eA : ∀ k, put (epF m6) 171 (mR 158 33).toNat (y11.2.2.2.2 - many) a k = ep2 m6 a k := fun k => by
        rw [put_ss, if_neg n171]
        show put (ep2 m6) 183 (m6 158 33).toNat (ep2 m6 158 53) a k = _
        rw [put_ss, if_neg n183]
      simp only [put_ss (a := 158)]
      by_cases h158 : a = 158
      · subst h158
        by_cases k30 : k = 30
        · have k48 : ¬ k = 48 := by omega
          simp only [k30, if_true, Nat.reduceEqDiff, if_false]
        · by_cases k48 : k = 48
          · simp only [k48, if_true, Nat.reduceEqDiff, if_false]
          · simp only [k30, k48, if_true, if_false]
            exact eA k
      · simp only [h158, if_false]
        exact eA k
    · show ep2 m6 158 41 ≤ _
      have : ep2 m6 158 41 = m6 158 41 + 3 := by
        show emF (put (ep1 m6) 181 (m6 158 49).toNat (m6 158 41 + 2)) 26 (m6 158 33) (-1) 0 false 158 41 = _
        rw [emF_41]
        show ep1 m6 158 41 + 1 = _
        omega
      omega
    · rw [fg1, hy10]
      omega
    · intro a k hn h158
      rw [fin a k (by omega) (by
        unfold fsB
        simp only [Bool.or_eq_false_iff, Bool.and_eq_false_iff, beq_eq_false_iff_ne, ne_eq]
        omega)]
      unfold bpB
      simp only [put_ss]
      have n182 : ¬ a = 182 := by omega
      simp only [h158, n182, if_false]
      exact eX a k (by omega)
    · intro k hk
      rw [fin 158 k (by omega) (by rcases hk with rfl | rfl | rfl | rfl | rfl | rfl | rfl <;> rfl)]
      rcases hk with rfl | rfl | rfl | rfl | rfl | rfl | rfl <;> exact eX _ _ (by decide)
    · intro k
      rw [put_ss, if_pos rfl]
      by_cases hk : k = (mR 158 33).toNat
      · rw [if_pos hk, if_pos hk]
      · rw [if_neg hk, if_neg hk]
        show ep2 m6 171 k = _
        rw [a10 171 k rfl (by decide), F6 171 k rfl, fx 171 k rfl]
        exact eX _ _ (by decide)
    · intro k
      show ep2 m6 174 k = _
      rw [a10 174 k rfl (by decide), F6 174 k rfl, fx 174 k rfl]
      exact e174 k
    · intro k
      show ep2 m6 182 k = _
      rw [a10 182 k rfl (by decide), F6 182 k rfl, fx 182 k rfl]
      show (if k = (mS 158 33).toNat then mS 158 41 else mS 182 k) = _
      rw [eX 158 33 (by decide), eX 158 41 (by decide), eX 182 k (by decide), len0]
    · intro k hk
      show put (ep2 m6) 183 (m6 158 33).toNat (ep2 m6 158 53) 183 k = _
      rw [put_ss, if_pos rfl, if_neg (by rw [f33]; exact hk), a10 183 k rfl (by decide), F6 183 k rfl, fx 183 k rfl]
      exact eX _ _ (by decide)
    · intro g hcf
      show put (ep2 m6) 183 (m6 158 33).toNat (ep2 m6 158 53) 183 (mR 158 33).toNat = _
      rw [put_ss, if_pos rfl, if_pos (by rw [f33])]
      exact (R10.rx.pus g hcf).2.symm
    · refine ⟨?_, ?_⟩
      · show 0 ≤ ep2 m6 158 30
        exact l010.1
      · show ep2 m6 158 30 < 1600
        omega
  · have c8 := fun D => B_248 (F := F) (L := L) (xs := xs) (d := D) (m := m6) (p := p6') (dep := 0) B6.1 (by omega) (by omega) (by omega) (by omega)
    have cT := T18 (F := F) (L := L) (xs := xs) (d := d) (p := p6') (x := x) (many := many) c8 (by show 0 ≤ m6 158 33; omega) (by show m6 158 33 < 1600; omega)
    refine ⟨p6', _, step1 _ cT, FT_put (FT_tr (FT_tr FB (FT_FS F6 (fun _ => ⟨W6.2.2.1, W6.2.2.2.1⟩))) FT_epB) rfl, q0, q1, Or.inr ?_⟩
    exact B6
end Pro
