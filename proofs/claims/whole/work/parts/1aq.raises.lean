/-! CLASS AND MODEL, THE SECOND WALK: a proc's raises -/
def fqB (a k : Nat) : Bool := (a == 161 || a == 162 || a == 163 || a == 165 || a == 166 || a == 167 || a == 170) || (a == 158 && (k == 17 || k == 14))
def FQ (m m' : Mem) : Prop := ∀ a k, fqB a k = true → m' a k = m a k
theorem FQ_tr {m m1 m2 : Mem} (h1 : FQ m m1) (h2 : FQ m1 m2) : FQ m m2 := fun a k h => (h2 a k h).trans (h1 a k h)
theorem topK_FQ {m m' : Mem} {c : Int} (f : FQ m m') : topK m' c = topK m c := by
  unfold topK
  have e1 : m' 165 = m 165 := funext fun k => f 165 k rfl
  rw [e1, f 158 17 rfl]
theorem inX_FQ {m m' : Mem} {c : Int} (f : FQ m m') : inX m' c = inX m c := by
  unfold inX
  rw [topK_FQ f, f 167 _ rfl]
theorem isK_FQ {m m' : Mem} {c k : Int} (f : FQ m m') : isK m' c k ↔ isK m c k := by
  unfold isK
  rw [topK_FQ f, f 166 _ rfl]
theorem vlT_FQ {m m' : Mem} {i : Int} (f : FQ m m') : vlT m' i = vlT m i := f 163 _ rfl
theorem plT_FQ {m m' : Mem} {i : Int} (f : FQ m m') : plT m' i = plT m i := f 162 _ rfl
theorem SE_FQ {mc m m' : Mem} {e : Int} (S : SE mc m e) (f : FQ m m') : SE mc m' e := by
  refine ⟨?nm, ?nb, ?pl, S.mo, S.e5, ?v1, S.ij, ?ci, ?tr, ?wx, ?tp, ?fu, S.el, S.ms⟩
  case nm =>
    intro i h0 h1 h2
    have := S.nm i h0 h1 h2
    rw [vlT_FQ f, topK_FQ f, inX_FQ f, f 170 _ rfl]
    refine ⟨fun k hk => (this.1 k hk).trans (isK_FQ f).symm, this.2.1, fun z => this.2.2.1 ((isK_FQ f).1 z), this.2.2.2⟩
  case nb =>
    intro i h0 h1 h2
    rw [vlT_FQ f]; exact S.nb i h0 h1 h2
  case pl =>
    intro i h0 h1
    rw [plT_FQ f]; exact S.pl i h0 h1
  case v1 =>
    intro c h
    rw [inX_FQ f]; exact S.v1 c ((isK_FQ f).1 h)
  case ci =>
    intro c c1 h h1 h2
    rw [inX_FQ f, inX_FQ f] at h2
    exact S.ci c c1 ((isK_FQ f).1 h) ((isK_FQ f).1 h1) h2
  case tr =>
    intro j h0 h1
    rw [f 161 _ rfl, f 163 _ rfl]
    exact S.tr j h0 h1
  case wx =>
    intro c h
    rw [topK_FQ f] at h
    rw [inX_FQ f]
    exact S.wx c h
  case tp =>
    rw [f 158 17 rfl]
    exact S.tp
  case fu =>
    rw [f 158 14 rfl]
    exact S.fu
theorem FQ_FS {m m' : Mem} (f : FS m m') : FQ m m' := fun a k h => f a k (by
  unfold fqB at h
  unfold fsB
  simp only [Bool.or_eq_true, Bool.and_eq_true, beq_iff_eq] at h
  rcases h with h | ⟨h, h2⟩
  · rcases h with (((((h | h) | h) | h) | h) | h) | h <;> (subst h; rfl)
  · subst h
    rcases h2 with h2 | h2 <;> (subst h2; rfl))
/-- raises alone changes -/
def FR (m m' : Mem) : Prop := ∀ a k, a ≠ 175 → ¬ (a = 158 ∧ k = 36) → m' a k = m a k
theorem FR_rf {m : Mem} : FR m m := fun _ _ _ _ => rfl
theorem FR_tr {m m1 m2 : Mem} (h1 : FR m m1) (h2 : FR m1 m2) : FR m m2 := fun a k g1 g2 => (h2 a k g1 g2).trans (h1 a k g1 g2)
theorem FR_FQ {m m' : Mem} (f : FR m m') : FQ m m' := fun a k h => by
  by_cases h1 : a = 175
  · subst h1
    exact absurd h (by show ¬ (false = true); decide)
  · by_cases h2 : a = 158 ∧ k = 36
    · obtain ⟨rfl, rfl⟩ := h2
      exact absurd h (by decide)
    · exact f a k h1 h2
theorem SR_FR {mc m m' : Mem} {s : xSt} {y : yS} {σ : Int → Int} {D H p p' : Int} {G : Prop} (R : SR mc s y m σ D G H p) (f : FR m m') (hp : p ≤ p') : SR mc s y m' σ D G H p' := by
  have X := R.rx
  refine SR_fr R hp ⟨?_, fun g k hk => ?_, fun g hc => ?_, X.nf, fun g => ?_⟩ R.lk (fun k => f _ _ (by omega) (by omega)) (fun k => f _ _ (by omega) (by omega)) (fun k => f _ _ (by omega) (by omega)) (fun k hk => f _ _ (by omega) (by omega))
  · rw [f _ _ (by omega) (by omega)]; exact X.len
  · rw [f _ _ (by omega) (by omega), f _ _ (by omega) (by omega), f _ _ (by omega) (by omega)]; exact X.ops g k hk
  · rw [f _ _ (by omega) (by omega), f _ _ (by omega) (by omega)]; exact X.pus g hc
  · rw [f _ _ (by omega) (by omega)]; exact X.cf g
def tkN : xT → List Int
  | .tag k (.nest i (.append _ b)) => match k with
    | 45 => [i]
    | _ => i :: tkN b
  | _ => []
theorem sq_s : ∀ (n : Nat) (f : Int), sq f (n + 1) = sq f n ++ [f + 2 * n]
  | 0, f => by
    show [f] = [] ++ [f + 2 * ((0 : Nat) : Int)]
    have : f + 2 * ((0 : Nat) : Int) = f := by omega
    rw [this]
    rfl
  | n + 1, f => by
    show f :: sq (f + 2) (n + 1) = f :: sq (f + 2) n ++ [f + 2 * ((n + 1 : Nat) : Int)]
    rw [sq_s n (f + 2)]
    have : f + 2 + 2 * (n : Int) = f + 2 * ((n + 1 : Nat) : Int) := by omega
    rw [this]
    rfl
/-- the names behind raises so far, in the model -/
def HRs (mc m : Mem) (e base : Int) (w : List Int) : Prop := m 158 36 = base + (w.length : Int) ∧ 0 ≤ base ∧ m 173 (m 158 33).toNat = base ∧ (∀ j ∈ w, 0 ≤ j ∧ j < e ∧ kd mc j = 2 ∧ isK m (vlT m j) 3) ∧ ∀ k : Nat, k < w.length → m 175 (base + (k : Int)).toNat = inX m (vlT m (w.getD k 0))
section Rai
variable {F L d : Nat} {xs : Nat → Int32} {mc : Mem} {e dep : Int}
theorem L_229b {x c p : Int} {m : Mem} (hb : m 158 15 = 1) (hf : m 158 14 = 1) (hx : 0 ≤ x ∧ x < 3001) (h36 : m 158 36 ≤ 1600) : ∀ (j : Nat) (k : Int) (n : Nat), 0 ≤ k → m 158 36 = k + j → j < n → LF F (d + 10) la_229_0 lb_229_0 lc_229_0 n ([(2, 158), (0, x), (0, c), (0, k)], Hp L xs (rv p dep m)) = some (0, [], ([(2, 158), (0, x), (0, c), (0, m 158 36)], Hp L xs (rv p dep m))) := by
  intro j
  induction j with
  | zero =>
    intro k n h0 hk hn
    obtain ⟨n, rfl⟩ : ∃ n', n = n' + 1 := ⟨n - 1, by omega⟩
    have e1 : m 158 36 = k := by omega
    have e3 : ¬ k < m 158 36 := by omega
    rw [lf_s]
    simp (disch := first | omega | assumption) only [ea_229_0, eb_229_0, ec_229_0, ev_0, ev_1, ev_16, ev_17, ev_18, ev_2, ev_3, ev_4, ev_5, ev_6, ev_7, ev_8, ev_9, ev_20, ev_21, ev_22, ev_23, ev_24, ev_25, ev_27, ev_28, ev_30, ev_31, ev_32, ev_33, ev_34, ev_35, ev_36, ev_37, ev_38, ev_39, ev_40, ev_41, ev_42, ev_43, ev_45, ev_46, ev_47, ev_48, ev_49, ev_50, ev_51, ev_52, ev_54, ev_55, ev_57, ev_58, ev_59, k2_0, k2_1, k2_2, k3a, k3b, k4, o1_s, xbin_0, xbin_1, xbin_2, xbin_3, xbin_4, xbin_5, xbin_6, xbin_7, xbin_8, xbin_9, xbin_11, xbin_12, xun_0, xun_1, xun_2, xun_3, xun_4, xun_5, k6a, k8, k8b, k9, k20, k20b_0, k20b_1, k20b_2, k20b_3, k20b_4, k20b_5, k21_0, k21_1, k21_2, k21_3, k21_4, k21_5, k23, k24, k25, k27, k28, k40, nz_1, nz_2, nz_3, k31_0, k31_1, k31_2, k31_3, k32u, k33, k34, k35, k35b, k36, k37, k38, k47, k49, k49b_0, k49b_1, k49b_2, k49b_3, k50_0, k50_s, k51_0, k51_s, k55, k58, k58b, rk_0, rk_1, rk_2, rk_9, rk_3, rk_4, rk_5, sw_n, sw_c, xtb_n, xtb_c, lset_0, lset_2, lset_1, lkm_0, lkm_2, lkm_9, lkm_1, lkm_n, if_some1, c_10, c_01, c_x0, c_1x, c_n0, c_nn, List.getElem?_cons_zero, List.getElem?_cons_succ, List.set_cons_zero, List.set_cons_succ, List.length_cons, List.length_nil, Int.reduceToNat, Nat.reduceDiv, Nat.reduceMod, Nat.reduceSub, Nat.reduceAdd, Nat.reduceMul, Nat.reduceLT, Nat.reduceLeDiff, Nat.reduceEqDiff, Int.reduceMod, Int.reduceSub, Int.reduceNeg, Int.reduceAdd, Int.reduceMul, Int.reduceLT, Int.reduceLE, Int.reduceEq, put_ss, if_true, if_false, ite_true, ite_false, reduceIte, eq_self, and_true, true_and, and_false, false_and, or_true, true_or, or_false, false_or, not_true_eq_false, not_false_eq_true, k5_158_14, k34_158_14, k34i_158_14, k5_158_15, k34_158_15, k34i_158_15, k5_158_13, k34_158_13, k54_158_13, k54b_158_13_0, k54b_158_13_1, k5_158_5, k6_161, k35_161, n_161, k5_158_7, k6_163, k35_163, n_163, k5_158_12, k34_158_12, k54_158_12, k54b_158_12_0, k5_158_6, k6_162, k35_162, n_162, k5_158_36, k34_158_36, k54_158_36, k54b_158_36_0, k5_158_37, k6_175, k35_175, n_175, k5_158_34, k6_173, k35_173, n_173, k5_158_33, k34_158_33, rv_t, rv_d, rv_x, rv_y, rp_t, rp_d, rp_x, rp_y, w32_of, l1_i, l1_1, l1_0, l2_0, l2_1, l2_2, l2_3, l3_0, w2_0, w2_1, w2_2, w2_3, d1_0, d1_1, d1_2, d1_3, d2_i, d2_1, d2_0, e3]
    rw [e1]
  | succ j ih =>
    intro k n h0 hk hn
    obtain ⟨n, rfl⟩ : ∃ n', n = n' + 1 := ⟨n - 1, by omega⟩
    have c2 := ih (k + 1) n (by omega) (by omega) (by omega)
    have c1 := fun D a1 => B_207 (F := F) (L := L) (xs := xs) (d := D) (m := rv p dep m) (a1 := 2) (a2 := a1) hb
    have e3 : k < m 158 36 := by omega
    rw [lf_s]
    by_cases hq : m 175 k.toNat = c
    · simp (disch := first | omega | assumption) only [ea_229_0, eb_229_0, ec_229_0, ev_0, ev_1, ev_16, ev_17, ev_18, ev_2, ev_3, ev_4, ev_5, ev_6, ev_7, ev_8, ev_9, ev_20, ev_21, ev_22, ev_23, ev_24, ev_25, ev_27, ev_28, ev_30, ev_31, ev_32, ev_33, ev_34, ev_35, ev_36, ev_37, ev_38, ev_39, ev_40, ev_41, ev_42, ev_43, ev_45, ev_46, ev_47, ev_48, ev_49, ev_50, ev_51, ev_52, ev_54, ev_55, ev_57, ev_58, ev_59, k2_0, k2_1, k2_2, k3a, k3b, k4, o1_s, xbin_0, xbin_1, xbin_2, xbin_3, xbin_4, xbin_5, xbin_6, xbin_7, xbin_8, xbin_9, xbin_11, xbin_12, xun_0, xun_1, xun_2, xun_3, xun_4, xun_5, k6a, k8, k8b, k9, k20, k20b_0, k20b_1, k20b_2, k20b_3, k20b_4, k20b_5, k21_0, k21_1, k21_2, k21_3, k21_4, k21_5, k23, k24, k25, k27, k28, k40, nz_1, nz_2, nz_3, k31_0, k31_1, k31_2, k31_3, k32u, k33, k34, k35, k35b, k36, k37, k38, k47, k49, k49b_0, k49b_1, k49b_2, k49b_3, k50_0, k50_s, k51_0, k51_s, k55, k58, k58b, rk_0, rk_1, rk_2, rk_9, rk_3, rk_4, rk_5, sw_n, sw_c, xtb_n, xtb_c, lset_0, lset_2, lset_1, lkm_0, lkm_2, lkm_9, lkm_1, lkm_n, if_some1, c_10, c_01, c_x0, c_1x, c_n0, c_nn, List.getElem?_cons_zero, List.getElem?_cons_succ, List.set_cons_zero, List.set_cons_succ, List.length_cons, List.length_nil, Int.reduceToNat, Nat.reduceDiv, Nat.reduceMod, Nat.reduceSub, Nat.reduceAdd, Nat.reduceMul, Nat.reduceLT, Nat.reduceLeDiff, Nat.reduceEqDiff, Int.reduceMod, Int.reduceSub, Int.reduceNeg, Int.reduceAdd, Int.reduceMul, Int.reduceLT, Int.reduceLE, Int.reduceEq, put_ss, if_true, if_false, ite_true, ite_false, reduceIte, eq_self, and_true, true_and, and_false, false_and, or_true, true_or, or_false, false_or, not_true_eq_false, not_false_eq_true, k5_158_14, k34_158_14, k34i_158_14, k5_158_15, k34_158_15, k34i_158_15, k5_158_13, k34_158_13, k54_158_13, k54b_158_13_0, k54b_158_13_1, k5_158_5, k6_161, k35_161, n_161, k5_158_7, k6_163, k35_163, n_163, k5_158_12, k34_158_12, k54_158_12, k54b_158_12_0, k5_158_6, k6_162, k35_162, n_162, k5_158_36, k34_158_36, k54_158_36, k54b_158_36_0, k5_158_37, k6_175, k35_175, n_175, k5_158_34, k6_173, k35_173, n_173, k5_158_33, k34_158_33, rv_t, rv_d, rv_x, rv_y, rp_t, rp_d, rp_x, rp_y, w32_of, l1_i, l1_1, l1_0, l2_0, l2_1, l2_2, l2_3, l3_0, w2_0, w2_1, w2_2, w2_3, d1_0, d1_1, d1_2, d1_3, d2_i, d2_1, d2_0, e3, hf, hq, c1, c2]
    · simp (disch := first | omega | assumption) only [ea_229_0, eb_229_0, ec_229_0, ev_0, ev_1, ev_16, ev_17, ev_18, ev_2, ev_3, ev_4, ev_5, ev_6, ev_7, ev_8, ev_9, ev_20, ev_21, ev_22, ev_23, ev_24, ev_25, ev_27, ev_28, ev_30, ev_31, ev_32, ev_33, ev_34, ev_35, ev_36, ev_37, ev_38, ev_39, ev_40, ev_41, ev_42, ev_43, ev_45, ev_46, ev_47, ev_48, ev_49, ev_50, ev_51, ev_52, ev_54, ev_55, ev_57, ev_58, ev_59, k2_0, k2_1, k2_2, k3a, k3b, k4, o1_s, xbin_0, xbin_1, xbin_2, xbin_3, xbin_4, xbin_5, xbin_6, xbin_7, xbin_8, xbin_9, xbin_11, xbin_12, xun_0, xun_1, xun_2, xun_3, xun_4, xun_5, k6a, k8, k8b, k9, k20, k20b_0, k20b_1, k20b_2, k20b_3, k20b_4, k20b_5, k21_0, k21_1, k21_2, k21_3, k21_4, k21_5, k23, k24, k25, k27, k28, k40, nz_1, nz_2, nz_3, k31_0, k31_1, k31_2, k31_3, k32u, k33, k34, k35, k35b, k36, k37, k38, k47, k49, k49b_0, k49b_1, k49b_2, k49b_3, k50_0, k50_s, k51_0, k51_s, k55, k58, k58b, rk_0, rk_1, rk_2, rk_9, rk_3, rk_4, rk_5, sw_n, sw_c, xtb_n, xtb_c, lset_0, lset_2, lset_1, lkm_0, lkm_2, lkm_9, lkm_1, lkm_n, if_some1, c_10, c_01, c_x0, c_1x, c_n0, c_nn, List.getElem?_cons_zero, List.getElem?_cons_succ, List.set_cons_zero, List.set_cons_succ, List.length_cons, List.length_nil, Int.reduceToNat, Nat.reduceDiv, Nat.reduceMod, Nat.reduceSub, Nat.reduceAdd, Nat.reduceMul, Nat.reduceLT, Nat.reduceLeDiff, Nat.reduceEqDiff, Int.reduceMod, Int.reduceSub, Int.reduceNeg, Int.reduceAdd, Int.reduceMul, Int.reduceLT, Int.reduceLE, Int.reduceEq, put_ss, if_true, if_false, ite_true, ite_false, reduceIte, eq_self, and_true, true_and, and_false, false_and, or_true, true_or, or_false, false_or, not_true_eq_false, not_false_eq_true, k5_158_14, k34_158_14, k34i_158_14, k5_158_15, k34_158_15, k34i_158_15, k5_158_13, k34_158_13, k54_158_13, k54b_158_13_0, k54b_158_13_1, k5_158_5, k6_161, k35_161, n_161, k5_158_7, k6_163, k35_163, n_163, k5_158_12, k34_158_12, k54_158_12, k54b_158_12_0, k5_158_6, k6_162, k35_162, n_162, k5_158_36, k34_158_36, k54_158_36, k54b_158_36_0, k5_158_37, k6_175, k35_175, n_175, k5_158_34, k6_173, k35_173, n_173, k5_158_33, k34_158_33, rv_t, rv_d, rv_x, rv_y, rp_t, rp_d, rp_x, rp_y, w32_of, l1_i, l1_1, l1_0, l2_0, l2_1, l2_2, l2_3, l3_0, w2_0, w2_1, w2_2, w2_3, d1_0, d1_1, d1_2, d1_3, d2_i, d2_1, d2_0, e3, hf, hq, c1, c2]
theorem L_229 {x c p : Int} {m : Mem} (hb : m 158 15 = 0) (hf : m 158 14 = 1) (hx : 0 ≤ x ∧ x < 3001) (h36 : m 158 36 ≤ 1600) : ∀ (j : Nat) (k : Int) (n : Nat), 0 ≤ k → m 158 36 = k + j → j < n → LF F (d + 10) la_229_0 lb_229_0 lc_229_0 n ([(2, 158), (0, x), (0, c), (0, k)], Hp L xs (rv p dep m)) = some (0, [], ([(2, 158), (0, x), (0, c), (0, m 158 36)], Hp L xs (rv p dep (if fst1 (m 175) c k j = -1 then m else bkF m (plT m x))))) := by
  intro j
  induction j with
  | zero =>
    intro k n h0 hk hn
    obtain ⟨n, rfl⟩ : ∃ n', n = n' + 1 := ⟨n - 1, by omega⟩
    have e1 : m 158 36 = k := by omega
    have e3 : ¬ k < m 158 36 := by omega
    have e4 : fst1 (m 175) c k 0 = -1 := rfl
    rw [e4, if_pos rfl, lf_s]
    simp (disch := first | omega | assumption) only [ea_229_0, eb_229_0, ec_229_0, ev_0, ev_1, ev_16, ev_17, ev_18, ev_2, ev_3, ev_4, ev_5, ev_6, ev_7, ev_8, ev_9, ev_20, ev_21, ev_22, ev_23, ev_24, ev_25, ev_27, ev_28, ev_30, ev_31, ev_32, ev_33, ev_34, ev_35, ev_36, ev_37, ev_38, ev_39, ev_40, ev_41, ev_42, ev_43, ev_45, ev_46, ev_47, ev_48, ev_49, ev_50, ev_51, ev_52, ev_54, ev_55, ev_57, ev_58, ev_59, k2_0, k2_1, k2_2, k3a, k3b, k4, o1_s, xbin_0, xbin_1, xbin_2, xbin_3, xbin_4, xbin_5, xbin_6, xbin_7, xbin_8, xbin_9, xbin_11, xbin_12, xun_0, xun_1, xun_2, xun_3, xun_4, xun_5, k6a, k8, k8b, k9, k20, k20b_0, k20b_1, k20b_2, k20b_3, k20b_4, k20b_5, k21_0, k21_1, k21_2, k21_3, k21_4, k21_5, k23, k24, k25, k27, k28, k40, nz_1, nz_2, nz_3, k31_0, k31_1, k31_2, k31_3, k32u, k33, k34, k35, k35b, k36, k37, k38, k47, k49, k49b_0, k49b_1, k49b_2, k49b_3, k50_0, k50_s, k51_0, k51_s, k55, k58, k58b, rk_0, rk_1, rk_2, rk_9, rk_3, rk_4, rk_5, sw_n, sw_c, xtb_n, xtb_c, lset_0, lset_2, lset_1, lkm_0, lkm_2, lkm_9, lkm_1, lkm_n, if_some1, c_10, c_01, c_x0, c_1x, c_n0, c_nn, List.getElem?_cons_zero, List.getElem?_cons_succ, List.set_cons_zero, List.set_cons_succ, List.length_cons, List.length_nil, Int.reduceToNat, Nat.reduceDiv, Nat.reduceMod, Nat.reduceSub, Nat.reduceAdd, Nat.reduceMul, Nat.reduceLT, Nat.reduceLeDiff, Nat.reduceEqDiff, Int.reduceMod, Int.reduceSub, Int.reduceNeg, Int.reduceAdd, Int.reduceMul, Int.reduceLT, Int.reduceLE, Int.reduceEq, put_ss, if_true, if_false, ite_true, ite_false, reduceIte, eq_self, and_true, true_and, and_false, false_and, or_true, true_or, or_false, false_or, not_true_eq_false, not_false_eq_true, k5_158_14, k34_158_14, k34i_158_14, k5_158_15, k34_158_15, k34i_158_15, k5_158_13, k34_158_13, k54_158_13, k54b_158_13_0, k54b_158_13_1, k5_158_5, k6_161, k35_161, n_161, k5_158_7, k6_163, k35_163, n_163, k5_158_12, k34_158_12, k54_158_12, k54b_158_12_0, k5_158_6, k6_162, k35_162, n_162, k5_158_36, k34_158_36, k54_158_36, k54b_158_36_0, k5_158_37, k6_175, k35_175, n_175, k5_158_34, k6_173, k35_173, n_173, k5_158_33, k34_158_33, rv_t, rv_d, rv_x, rv_y, rp_t, rp_d, rp_x, rp_y, w32_of, l1_i, l1_1, l1_0, l2_0, l2_1, l2_2, l2_3, l3_0, w2_0, w2_1, w2_2, w2_3, d1_0, d1_1, d1_2, d1_3, d2_i, d2_1, d2_0, e3]
    rw [e1]
  | succ j ih =>
    intro k n h0 hk hn
    obtain ⟨n, rfl⟩ : ∃ n', n = n' + 1 := ⟨n - 1, by omega⟩
    have e3 : k < m 158 36 := by omega
    have e4 : fst1 (m 175) c k (j + 1) = if m 175 k.toNat = c then k else fst1 (m 175) c (k + 1) j := rfl
    rw [e4, lf_s]
    by_cases hq : m 175 k.toNat = c
    · rw [if_pos hq, if_neg (by omega)]
      have c1 := fun D => M_207 (F := F) (L := L) (xs := xs) (p := p) (dep := dep) (d := D) (m := m) (l := m 162 x.toNat) hb
      have c2 := L_229b (F := F) (L := L) (xs := xs) (d := d) (dep := dep) (x := x) (c := c) (p := p) (m := bkF m (m 162 x.toNat)) rfl hf hx h36 j (k + 1) n (by omega) (by show m 158 36 = k + 1 + j; omega) (by omega)
      have e5 : bkF m (m 162 x.toNat) 158 36 = m 158 36 := rfl
      have e6 : plT m x = m 162 x.toNat := rfl
      rw [e5] at c2
      rw [e6]
      simp (disch := first | omega | assumption) only [ea_229_0, eb_229_0, ec_229_0, ev_0, ev_1, ev_16, ev_17, ev_18, ev_2, ev_3, ev_4, ev_5, ev_6, ev_7, ev_8, ev_9, ev_20, ev_21, ev_22, ev_23, ev_24, ev_25, ev_27, ev_28, ev_30, ev_31, ev_32, ev_33, ev_34, ev_35, ev_36, ev_37, ev_38, ev_39, ev_40, ev_41, ev_42, ev_43, ev_45, ev_46, ev_47, ev_48, ev_49, ev_50, ev_51, ev_52, ev_54, ev_55, ev_57, ev_58, ev_59, k2_0, k2_1, k2_2, k3a, k3b, k4, o1_s, xbin_0, xbin_1, xbin_2, xbin_3, xbin_4, xbin_5, xbin_6, xbin_7, xbin_8, xbin_9, xbin_11, xbin_12, xun_0, xun_1, xun_2, xun_3, xun_4, xun_5, k6a, k8, k8b, k9, k20, k20b_0, k20b_1, k20b_2, k20b_3, k20b_4, k20b_5, k21_0, k21_1, k21_2, k21_3, k21_4, k21_5, k23, k24, k25, k27, k28, k40, nz_1, nz_2, nz_3, k31_0, k31_1, k31_2, k31_3, k32u, k33, k34, k35, k35b, k36, k37, k38, k47, k49, k49b_0, k49b_1, k49b_2, k49b_3, k50_0, k50_s, k51_0, k51_s, k55, k58, k58b, rk_0, rk_1, rk_2, rk_9, rk_3, rk_4, rk_5, sw_n, sw_c, xtb_n, xtb_c, lset_0, lset_2, lset_1, lkm_0, lkm_2, lkm_9, lkm_1, lkm_n, if_some1, c_10, c_01, c_x0, c_1x, c_n0, c_nn, List.getElem?_cons_zero, List.getElem?_cons_succ, List.set_cons_zero, List.set_cons_succ, List.length_cons, List.length_nil, Int.reduceToNat, Nat.reduceDiv, Nat.reduceMod, Nat.reduceSub, Nat.reduceAdd, Nat.reduceMul, Nat.reduceLT, Nat.reduceLeDiff, Nat.reduceEqDiff, Int.reduceMod, Int.reduceSub, Int.reduceNeg, Int.reduceAdd, Int.reduceMul, Int.reduceLT, Int.reduceLE, Int.reduceEq, put_ss, if_true, if_false, ite_true, ite_false, reduceIte, eq_self, and_true, true_and, and_false, false_and, or_true, true_or, or_false, false_or, not_true_eq_false, not_false_eq_true, k5_158_14, k34_158_14, k34i_158_14, k5_158_15, k34_158_15, k34i_158_15, k5_158_13, k34_158_13, k54_158_13, k54b_158_13_0, k54b_158_13_1, k5_158_5, k6_161, k35_161, n_161, k5_158_7, k6_163, k35_163, n_163, k5_158_12, k34_158_12, k54_158_12, k54b_158_12_0, k5_158_6, k6_162, k35_162, n_162, k5_158_36, k34_158_36, k54_158_36, k54b_158_36_0, k5_158_37, k6_175, k35_175, n_175, k5_158_34, k6_173, k35_173, n_173, k5_158_33, k34_158_33, rv_t, rv_d, rv_x, rv_y, rp_t, rp_d, rp_x, rp_y, w32_of, l1_i, l1_1, l1_0, l2_0, l2_1, l2_2, l2_3, l3_0, w2_0, w2_1, w2_2, w2_3, d1_0, d1_1, d1_2, d1_3, d2_i, d2_1, d2_0, e3, hf, hq, c1, c2]
    · rw [if_neg hq]
      have c2 := ih (k + 1) n (by omega) (by omega) (by omega)
      simp (disch := first | omega | assumption) only [ea_229_0, eb_229_0, ec_229_0, ev_0, ev_1, ev_16, ev_17, ev_18, ev_2, ev_3, ev_4, ev_5, ev_6, ev_7, ev_8, ev_9, ev_20, ev_21, ev_22, ev_23, ev_24, ev_25, ev_27, ev_28, ev_30, ev_31, ev_32, ev_33, ev_34, ev_35, ev_36, ev_37, ev_38, ev_39, ev_40, ev_41, ev_42, ev_43, ev_45, ev_46, ev_47, ev_48, ev_49, ev_50, ev_51, ev_52, ev_54, ev_55, ev_57, ev_58, ev_59, k2_0, k2_1, k2_2, k3a, k3b, k4, o1_s, xbin_0, xbin_1, xbin_2, xbin_3, xbin_4, xbin_5, xbin_6, xbin_7, xbin_8, xbin_9, xbin_11, xbin_12, xun_0, xun_1, xun_2, xun_3, xun_4, xun_5, k6a, k8, k8b, k9, k20, k20b_0, k20b_1, k20b_2, k20b_3, k20b_4, k20b_5, k21_0, k21_1, k21_2, k21_3, k21_4, k21_5, k23, k24, k25, k27, k28, k40, nz_1, nz_2, nz_3, k31_0, k31_1, k31_2, k31_3, k32u, k33, k34, k35, k35b, k36, k37, k38, k47, k49, k49b_0, k49b_1, k49b_2, k49b_3, k50_0, k50_s, k51_0, k51_s, k55, k58, k58b, rk_0, rk_1, rk_2, rk_9, rk_3, rk_4, rk_5, sw_n, sw_c, xtb_n, xtb_c, lset_0, lset_2, lset_1, lkm_0, lkm_2, lkm_9, lkm_1, lkm_n, if_some1, c_10, c_01, c_x0, c_1x, c_n0, c_nn, List.getElem?_cons_zero, List.getElem?_cons_succ, List.set_cons_zero, List.set_cons_succ, List.length_cons, List.length_nil, Int.reduceToNat, Nat.reduceDiv, Nat.reduceMod, Nat.reduceSub, Nat.reduceAdd, Nat.reduceMul, Nat.reduceLT, Nat.reduceLeDiff, Nat.reduceEqDiff, Int.reduceMod, Int.reduceSub, Int.reduceNeg, Int.reduceAdd, Int.reduceMul, Int.reduceLT, Int.reduceLE, Int.reduceEq, put_ss, if_true, if_false, ite_true, ite_false, reduceIte, eq_self, and_true, true_and, and_false, false_and, or_true, true_or, or_false, false_or, not_true_eq_false, not_false_eq_true, k5_158_14, k34_158_14, k34i_158_14, k5_158_15, k34_158_15, k34i_158_15, k5_158_13, k34_158_13, k54_158_13, k54b_158_13_0, k54b_158_13_1, k5_158_5, k6_161, k35_161, n_161, k5_158_7, k6_163, k35_163, n_163, k5_158_12, k34_158_12, k54_158_12, k54b_158_12_0, k5_158_6, k6_162, k35_162, n_162, k5_158_36, k34_158_36, k54_158_36, k54b_158_36_0, k5_158_37, k6_175, k35_175, n_175, k5_158_34, k6_173, k35_173, n_173, k5_158_33, k34_158_33, rv_t, rv_d, rv_x, rv_y, rp_t, rp_d, rp_x, rp_y, w32_of, l1_i, l1_1, l1_0, l2_0, l2_1, l2_2, l2_3, l3_0, w2_0, w2_1, w2_2, w2_3, d1_0, d1_1, d1_2, d1_3, d2_i, d2_1, d2_0, e3, hf, hq, c2]
def rsM (m : Mem) (c : Int) : Mem := put (put m 175 (m 158 36).toNat c) 158 36 (m 158 36 + 1)
/-- one name behind raises -/
theorem Rs_one {m : Mem} {p base : Int} {w : List Int} (hF : 100000 ≤ F) (S : SE mc m e) (U : WU m) (hb : m 158 15 = 0) (HR : HRs mc m e base w) (h33 : 0 ≤ m 158 33 ∧ m 158 33 < 1600) (h36 : m 158 36 < 1500) (hp : 0 ≤ p) (hpe : p < e) (hk : kd mc p = 2) : Cx F (d + 12) 229 [158] (Hp L xs (rv p dep m)) = some ([], Hp L xs (rv (p + 1) dep (if isK m (vlT m p) 3 ∧ (∀ j ∈ w, idT mc j ≠ idT mc p) then rsM m (inX m (vlT m p)) else bkF m (plT m p)))) := by
  have el := S.el
  have hf := S.fu
  obtain ⟨w1, w2, w5, w3, w4⟩ := HR
  have hT := S.tr p hp (by omega)
  rw [hk] at hT
  have x1 := fun D => N_215 (F := F) (L := L) (xs := xs) (d := D) (m := m) (p := p) (dep := dep) hb (by omega) hT rfl
  have x2 := fun D => R_228 (F := F) (L := L) (xs := xs) (d := D) (m := m) (p := p + 1) (dep := dep) (a := p) hF U hp (by omega)
  by_cases h3 : isK m (vlT m p) 3
  · have q1 : cdM m p = m := by unfold cdM; rw [if_pos hb, if_pos h3]
    have q2 : cdV m p = inX m (vlT m p) := by unfold cdV; rw [if_pos hb, if_pos h3]
    rw [q1, q2] at x2
    have x3 := L_229 (F := F) (L := L) (xs := xs) (d := d + 1) (dep := dep) (x := p) (c := inX m (vlT m p)) (p := p + 1) (m := m) hb hf (by omega) (by omega) w.length base F w2 w1 (by omega)
    have hdup := dup_if (f := m 175) S w2 w3 w4 (i := p) hp hpe hk h3
    by_cases hd : ∀ j ∈ w, idT mc j ≠ idT mc p
    · rw [hdup.2 hd, if_pos rfl] at x3
      rw [if_pos ⟨h3, hd⟩]
      unfold rsM
      generalize inX m (vlT m p) = c at *
      simp (disch := first | omega | assumption) only [c_229, tx_229, ev_0, ev_1, ev_16, ev_17, ev_18, ev_2, ev_3, ev_4, ev_5, ev_6, ev_7, ev_8, ev_9, ev_20, ev_21, ev_22, ev_23, ev_24, ev_25, ev_27, ev_28, ev_30, ev_31, ev_32, ev_33, ev_34, ev_35, ev_36, ev_37, ev_38, ev_39, ev_40, ev_41, ev_42, ev_43, ev_45, ev_46, ev_47, ev_48, ev_49, ev_50, ev_51, ev_52, ev_54, ev_55, ev_57, ev_58, ev_59, k2_0, k2_1, k2_2, k3a, k3b, k4, o1_s, xbin_0, xbin_1, xbin_2, xbin_3, xbin_4, xbin_5, xbin_6, xbin_7, xbin_8, xbin_9, xbin_11, xbin_12, xun_0, xun_1, xun_2, xun_3, xun_4, xun_5, k6a, k8, k8b, k9, k20, k20b_0, k20b_1, k20b_2, k20b_3, k20b_4, k20b_5, k21_0, k21_1, k21_2, k21_3, k21_4, k21_5, k23, k24, k25, k27, k28, k40, nz_1, nz_2, nz_3, k31_0, k31_1, k31_2, k31_3, k32u, k33, k34, k35, k35b, k36, k37, k38, k47, k49, k49b_0, k49b_1, k49b_2, k49b_3, k50_0, k50_s, k51_0, k51_s, k55, k58, k58b, rk_0, rk_1, rk_2, rk_9, rk_3, rk_4, rk_5, sw_n, sw_c, xtb_n, xtb_c, lset_0, lset_2, lset_1, lkm_0, lkm_2, lkm_9, lkm_1, lkm_n, if_some1, c_10, c_01, c_x0, c_1x, c_n0, c_nn, List.getElem?_cons_zero, List.getElem?_cons_succ, List.set_cons_zero, List.set_cons_succ, List.length_cons, List.length_nil, Int.reduceToNat, Nat.reduceDiv, Nat.reduceMod, Nat.reduceSub, Nat.reduceAdd, Nat.reduceMul, Nat.reduceLT, Nat.reduceLeDiff, Nat.reduceEqDiff, Int.reduceMod, Int.reduceSub, Int.reduceNeg, Int.reduceAdd, Int.reduceMul, Int.reduceLT, Int.reduceLE, Int.reduceEq, put_ss, if_true, if_false, ite_true, ite_false, reduceIte, eq_self, and_true, true_and, and_false, false_and, or_true, true_or, or_false, false_or, not_true_eq_false, not_false_eq_true, k5_158_14, k34_158_14, k34i_158_14, k5_158_15, k34_158_15, k34i_158_15, k5_158_13, k34_158_13, k54_158_13, k54b_158_13_0, k54b_158_13_1, k5_158_5, k6_161, k35_161, n_161, k5_158_7, k6_163, k35_163, n_163, k5_158_12, k34_158_12, k54_158_12, k54b_158_12_0, k5_158_6, k6_162, k35_162, n_162, k5_158_36, k34_158_36, k54_158_36, k54b_158_36_0, k5_158_37, k6_175, k35_175, n_175, k5_158_34, k6_173, k35_173, n_173, k5_158_33, k34_158_33, rv_t, rv_d, rv_x, rv_y, rp_t, rp_d, rp_x, rp_y, w32_of, x1, x2, x3, w5, hb, hf]
    · have hnd : ¬ fst1 (m 175) (inX m (vlT m p)) base w.length = -1 := fun z => hd (hdup.1 z)
      rw [if_neg hnd] at x3
      rw [if_neg (fun z => hd z.2)]
      have b15 : bkF m (plT m p) 158 15 = 1 := rfl
      generalize inX m (vlT m p) = c at *
      simp (disch := first | omega | assumption) only [c_229, tx_229, ev_0, ev_1, ev_16, ev_17, ev_18, ev_2, ev_3, ev_4, ev_5, ev_6, ev_7, ev_8, ev_9, ev_20, ev_21, ev_22, ev_23, ev_24, ev_25, ev_27, ev_28, ev_30, ev_31, ev_32, ev_33, ev_34, ev_35, ev_36, ev_37, ev_38, ev_39, ev_40, ev_41, ev_42, ev_43, ev_45, ev_46, ev_47, ev_48, ev_49, ev_50, ev_51, ev_52, ev_54, ev_55, ev_57, ev_58, ev_59, k2_0, k2_1, k2_2, k3a, k3b, k4, o1_s, xbin_0, xbin_1, xbin_2, xbin_3, xbin_4, xbin_5, xbin_6, xbin_7, xbin_8, xbin_9, xbin_11, xbin_12, xun_0, xun_1, xun_2, xun_3, xun_4, xun_5, k6a, k8, k8b, k9, k20, k20b_0, k20b_1, k20b_2, k20b_3, k20b_4, k20b_5, k21_0, k21_1, k21_2, k21_3, k21_4, k21_5, k23, k24, k25, k27, k28, k40, nz_1, nz_2, nz_3, k31_0, k31_1, k31_2, k31_3, k32u, k33, k34, k35, k35b, k36, k37, k38, k47, k49, k49b_0, k49b_1, k49b_2, k49b_3, k50_0, k50_s, k51_0, k51_s, k55, k58, k58b, rk_0, rk_1, rk_2, rk_9, rk_3, rk_4, rk_5, sw_n, sw_c, xtb_n, xtb_c, lset_0, lset_2, lset_1, lkm_0, lkm_2, lkm_9, lkm_1, lkm_n, if_some1, c_10, c_01, c_x0, c_1x, c_n0, c_nn, List.getElem?_cons_zero, List.getElem?_cons_succ, List.set_cons_zero, List.set_cons_succ, List.length_cons, List.length_nil, Int.reduceToNat, Nat.reduceDiv, Nat.reduceMod, Nat.reduceSub, Nat.reduceAdd, Nat.reduceMul, Nat.reduceLT, Nat.reduceLeDiff, Nat.reduceEqDiff, Int.reduceMod, Int.reduceSub, Int.reduceNeg, Int.reduceAdd, Int.reduceMul, Int.reduceLT, Int.reduceLE, Int.reduceEq, put_ss, if_true, if_false, ite_true, ite_false, reduceIte, eq_self, and_true, true_and, and_false, false_and, or_true, true_or, or_false, false_or, not_true_eq_false, not_false_eq_true, k5_158_14, k34_158_14, k34i_158_14, k5_158_15, k34_158_15, k34i_158_15, k5_158_13, k34_158_13, k54_158_13, k54b_158_13_0, k54b_158_13_1, k5_158_5, k6_161, k35_161, n_161, k5_158_7, k6_163, k35_163, n_163, k5_158_12, k34_158_12, k54_158_12, k54b_158_12_0, k5_158_6, k6_162, k35_162, n_162, k5_158_36, k34_158_36, k54_158_36, k54b_158_36_0, k5_158_37, k6_175, k35_175, n_175, k5_158_34, k6_173, k35_173, n_173, k5_158_33, k34_158_33, rv_t, rv_d, rv_x, rv_y, rp_t, rp_d, rp_x, rp_y, w32_of, x1, x2, x3, w5, hb, hf, b15]
  · have q1 : cdM m p = bkF m (plT m p) := by unfold cdM; rw [if_pos hb, if_neg h3]
    have q2 : cdV m p = 0 := by unfold cdV; rw [if_pos hb, if_neg h3]
    rw [q1, q2] at x2
    have x3 := L_229b (F := F) (L := L) (xs := xs) (d := d + 1) (dep := dep) (x := p) (c := 0) (p := p + 1) (m := bkF m (plT m p)) rfl hf (by omega) (by show m 158 36 ≤ 1600; omega) w.length base F w2 w1 (by omega)
    have e36 : bkF m (plT m p) 158 36 = m 158 36 := rfl
    have e33 : bkF m (plT m p) 158 33 = m 158 33 := rfl
    have e173 : ∀ k, bkF m (plT m p) 173 k = m 173 k := fun _ => rfl
    rw [e36] at x3
    rw [if_neg (fun z => h3 z.1)]
    have b15 : bkF m (plT m p) 158 15 = 1 := rfl
    simp (disch := first | omega | assumption) only [c_229, tx_229, ev_0, ev_1, ev_16, ev_17, ev_18, ev_2, ev_3, ev_4, ev_5, ev_6, ev_7, ev_8, ev_9, ev_20, ev_21, ev_22, ev_23, ev_24, ev_25, ev_27, ev_28, ev_30, ev_31, ev_32, ev_33, ev_34, ev_35, ev_36, ev_37, ev_38, ev_39, ev_40, ev_41, ev_42, ev_43, ev_45, ev_46, ev_47, ev_48, ev_49, ev_50, ev_51, ev_52, ev_54, ev_55, ev_57, ev_58, ev_59, k2_0, k2_1, k2_2, k3a, k3b, k4, o1_s, xbin_0, xbin_1, xbin_2, xbin_3, xbin_4, xbin_5, xbin_6, xbin_7, xbin_8, xbin_9, xbin_11, xbin_12, xun_0, xun_1, xun_2, xun_3, xun_4, xun_5, k6a, k8, k8b, k9, k20, k20b_0, k20b_1, k20b_2, k20b_3, k20b_4, k20b_5, k21_0, k21_1, k21_2, k21_3, k21_4, k21_5, k23, k24, k25, k27, k28, k40, nz_1, nz_2, nz_3, k31_0, k31_1, k31_2, k31_3, k32u, k33, k34, k35, k35b, k36, k37, k38, k47, k49, k49b_0, k49b_1, k49b_2, k49b_3, k50_0, k50_s, k51_0, k51_s, k55, k58, k58b, rk_0, rk_1, rk_2, rk_9, rk_3, rk_4, rk_5, sw_n, sw_c, xtb_n, xtb_c, lset_0, lset_2, lset_1, lkm_0, lkm_2, lkm_9, lkm_1, lkm_n, if_some1, c_10, c_01, c_x0, c_1x, c_n0, c_nn, List.getElem?_cons_zero, List.getElem?_cons_succ, List.set_cons_zero, List.set_cons_succ, List.length_cons, List.length_nil, Int.reduceToNat, Nat.reduceDiv, Nat.reduceMod, Nat.reduceSub, Nat.reduceAdd, Nat.reduceMul, Nat.reduceLT, Nat.reduceLeDiff, Nat.reduceEqDiff, Int.reduceMod, Int.reduceSub, Int.reduceNeg, Int.reduceAdd, Int.reduceMul, Int.reduceLT, Int.reduceLE, Int.reduceEq, put_ss, if_true, if_false, ite_true, ite_false, reduceIte, eq_self, and_true, true_and, and_false, false_and, or_true, true_or, or_false, false_or, not_true_eq_false, not_false_eq_true, k5_158_14, k34_158_14, k34i_158_14, k5_158_15, k34_158_15, k34i_158_15, k5_158_13, k34_158_13, k54_158_13, k54b_158_13_0, k54b_158_13_1, k5_158_5, k6_161, k35_161, n_161, k5_158_7, k6_163, k35_163, n_163, k5_158_12, k34_158_12, k54_158_12, k54b_158_12_0, k5_158_6, k6_162, k35_162, n_162, k5_158_36, k34_158_36, k54_158_36, k54b_158_36_0, k5_158_37, k6_175, k35_175, n_175, k5_158_34, k6_173, k35_173, n_173, k5_158_33, k34_158_33, rv_t, rv_d, rv_x, rv_y, rp_t, rp_d, rp_x, rp_y, w32_of, x1, x2, x3, w5, e33, e173, hb, hf, b15]
theorem FR_rsM {m : Mem} {c : Int} : FR m (rsM m c) := fun a k g1 g2 => by
  unfold rsM
  rw [put_ss]
  by_cases h1 : a = 158
  · rw [if_pos h1, if_neg (fun z => g2 ⟨h1, z⟩), put_ss, if_neg g1]
  · rw [if_neg h1, put_ss, if_neg g1]
/-- the names behind raises -/
theorem Rs_ok (hF : 100000 ≤ F) : ∀ (k : Nat) (t : xT), tsz t < k → ∀ (p q : Int), PN (kd mc) t p q → 0 ≤ p → q < e → ∀ (m : Mem) (s : xSt) (D : Int) (x1 x2 f base : Int) (N n : Nat), SE mc m e → WU m → s.2.2.2.1 = D → m 158 15 = 0 → HRs mc m e base (sq f N) → p = f + 2 * N → 0 ≤ m 158 33 ∧ m 158 33 < 1600 → m 158 36 + (q - p) < 1500 → (∀ j, 0 ≤ j → j < q → mc 54 j.toNat < D) → q - p < n → ∃ m1, Cx F (d + 12) 229 [158] (Hp L xs (rv p dep m)) = some ([], Hp L xs (rv (p + 1) dep m1)) ∧ ∃ p' m', LF F (d + 12) la_226_1 lb_226_1 lc_226_1 n ([(2, 158), (0, x1), (0, x2)], Hp L xs (rv (p + 1) dep m1)) = some (0, [], ([(2, 158), (0, x1), (0, x2)], Hp L xs (rv p' dep m'))) ∧ 0 ≤ p' ∧ p' ≤ e ∧ ((m' 158 15 = 0 ∧ p' = q ∧ rsF mc f t N s = s ∧ FR m m' ∧ HRs mc m' e base (sq f N ++ tkN t) ∧ m' 158 36 ≤ m 158 36 + (q - p) ∧ ∀ k : Nat, (k : Int) < m 158 36 → m' 175 k = m 175 k) ∨ (WU m' ∧ Br mc m' (rsF mc f t N s) p q ∧ ∃ M pl, m' = bkF M pl ∧ FR m M)) := by
  intro k
  induction k with
  | zero => intro t ht; exact absurd ht (Nat.not_lt_zero _)
  | succ k ih =>
    intro t ht p q h hp hq m s D x1 x2 f base N n S U hs hb HR hpf h33 h36 hD hn
    have el := S.el
    have hnq := PN_n t h
    obtain ⟨n, rfl⟩ : ∃ n', n = n' + 1 := ⟨n - 1, by omega⟩
    have hk : kd mc p = 2 := by
      rcases inv_N h with ⟨a, b, rfl, g1, g2, g3⟩ | ⟨a, b, rfl, g1, g2, g3⟩ <;> exact g1
    have c1 := Rs_one (L := L) (xs := xs) (d := d) (dep := dep) hF S U hb HR h33 (by omega) hp (by omega) hk
    obtain ⟨n1, n2, n3, n4, n5, n6, n7⟩ := S.nm p hp (by omega) hk
    have k3 := n1 3 (by decide)
    have esq := sq_s N f
    rw [← hpf] at esq
    by_cases hg0 : isK m (vlT m p) 3 ∧ (∀ j ∈ sq f N, idT mc j ≠ idT mc p)
    · rw [if_pos hg0] at c1
      have es : dupB mc p (sq f N) (us mc p 3 s) = s := by
        have u1 : us mc p 3 s = s := if_pos (k3.2 hg0.1)
        rw [u1, dupB_eq, if_pos hg0.2]
      have f1 := FR_rsM (m := m) (c := inX m (vlT m p))
      have S1 : SE mc (rsM m (inX m (vlT m p))) e := SE_FQ S (FR_FQ f1)
      have hb1 : rsM m (inX m (vlT m p)) 158 15 = 0 := hb
      have U1 : WU (rsM m (inX m (vlT m p))) := U
      have HR1 : HRs mc (rsM m (inX m (vlT m p))) e base (sq f N ++ [p]) := by
        obtain ⟨w1, w2, w5, w3, w4⟩ := HR
        have f1q := FR_FQ f1
        refine ⟨?_, w2, ?_, fun j hj => ?_, fun k hk2 => ?_⟩
        · show m 158 36 + 1 = _
          rw [List.length_append, List.length_singleton]
          omega
        · exact w5
        · rcases List.mem_append.1 hj with hj | hj
          · obtain ⟨j0, j1, j2, j3⟩ := w3 j hj
            rw [vlT_FQ f1q]
            exact ⟨j0, j1, j2, (isK_FQ f1q).2 j3⟩
          · rw [List.mem_singleton.1 hj, vlT_FQ f1q]
            exact ⟨hp, by omega, hk, (isK_FQ f1q).2 hg0.1⟩
        · rw [List.length_append, List.length_singleton] at hk2
          have e175 : ∀ k, rsM m (inX m (vlT m p)) 175 k = if k = (m 158 36).toNat then inX m (vlT m p) else m 175 k := fun _ => rfl
          rw [e175, inX_FQ f1q, vlT_FQ f1q, List.getD_eq_getElem?_getD]
          by_cases hk3 : k < (sq f N).length
          · rw [if_neg (by omega), w4 k hk3, List.getElem?_append_left hk3, ← List.getD_eq_getElem?_getD]
          · have : k = (sq f N).length := by omega
            subst this
            rw [if_pos (by omega), List.getElem?_append_right (Nat.le_refl _), Nat.sub_self]
            rfl
      refine ⟨_, c1, ?_⟩
      rcases inv_N h with ⟨a, b, rfl, g1, g2, g3⟩ | ⟨a, b, rfl, g1, g2, g3⟩
      · subst g2
        have eF : rsF mc f (nd 45 p a b) N s = dupB mc p (sq f N) (us mc p 3 s) := rfl
        have eT : tkN (nd 45 p a b) = [p] := rfl
        rw [eF, es, eT]
        have hT1 := S1.tr (p + 1) (by omega) (by omega)
        have y2 := fun D => N_209n (F := F) (L := L) (xs := xs) (d := D) (m := rsM m (inX m (vlT m p))) (p := p + 1) (dep := dep) (a1 := 44) hb1 (by omega) hT1 (by omega) g3
        refine ⟨p + 1, rsM m (inX m (vlT m p)), ?_, by omega, by omega, Or.inl ⟨hb, rfl, rfl, f1, HR1, by show m 158 36 + 1 ≤ _; omega, fun k hk => if_neg (by omega)⟩⟩
        rw [lf_s]
        simp (disch := first | omega | assumption) only [ea_226_1, eb_226_1, ec_226_1, ev_0, ev_1, ev_16, ev_17, ev_18, ev_2, ev_3, ev_4, ev_5, ev_6, ev_7, ev_8, ev_9, ev_20, ev_21, ev_22, ev_23, ev_24, ev_25, ev_27, ev_28, ev_30, ev_31, ev_32, ev_33, ev_34, ev_35, ev_36, ev_37, ev_38, ev_39, ev_40, ev_41, ev_42, ev_43, ev_45, ev_46, ev_47, ev_48, ev_49, ev_50, ev_51, ev_52, ev_54, ev_55, ev_57, ev_58, ev_59, k2_0, k2_1, k2_2, k3a, k3b, k4, o1_s, xbin_0, xbin_1, xbin_2, xbin_3, xbin_4, xbin_5, xbin_6, xbin_7, xbin_8, xbin_9, xbin_11, xbin_12, xun_0, xun_1, xun_2, xun_3, xun_4, xun_5, k6a, k8, k8b, k9, k20, k20b_0, k20b_1, k20b_2, k20b_3, k20b_4, k20b_5, k21_0, k21_1, k21_2, k21_3, k21_4, k21_5, k23, k24, k25, k27, k28, k40, nz_1, nz_2, nz_3, k31_0, k31_1, k31_2, k31_3, k32u, k33, k34, k35, k35b, k36, k37, k38, k47, k49, k49b_0, k49b_1, k49b_2, k49b_3, k50_0, k50_s, k51_0, k51_s, k55, k58, k58b, rk_0, rk_1, rk_2, rk_9, rk_3, rk_4, rk_5, sw_n, sw_c, xtb_n, xtb_c, lset_0, lset_2, lset_1, lkm_0, lkm_2, lkm_9, lkm_1, lkm_n, if_some1, c_10, c_01, c_x0, c_1x, c_n0, c_nn, List.getElem?_cons_zero, List.getElem?_cons_succ, List.set_cons_zero, List.set_cons_succ, List.length_cons, List.length_nil, Int.reduceToNat, Nat.reduceDiv, Nat.reduceMod, Nat.reduceSub, Nat.reduceAdd, Nat.reduceMul, Nat.reduceLT, Nat.reduceLeDiff, Nat.reduceEqDiff, Int.reduceMod, Int.reduceSub, Int.reduceNeg, Int.reduceAdd, Int.reduceMul, Int.reduceLT, Int.reduceLE, Int.reduceEq, put_ss, if_true, if_false, ite_true, ite_false, reduceIte, eq_self, and_true, true_and, and_false, false_and, or_true, true_or, or_false, false_or, not_true_eq_false, not_false_eq_true, k5_158_14, k34_158_14, k34i_158_14, k5_158_15, k34_158_15, k34i_158_15, k5_158_13, k34_158_13, k54_158_13, k54b_158_13_0, k54b_158_13_1, k5_158_5, k6_161, k35_161, n_161, k5_158_7, k6_163, k35_163, n_163, k5_158_12, k34_158_12, k54_158_12, k54b_158_12_0, k5_158_6, k6_162, k35_162, n_162, k5_158_36, k34_158_36, k54_158_36, k54b_158_36_0, k5_158_37, k6_175, k35_175, n_175, k5_158_34, k6_173, k35_173, n_173, k5_158_33, k34_158_33, rv_t, rv_d, rv_x, rv_y, rp_t, rp_d, rp_x, rp_y, w32_of, l1_i, l1_1, l1_0, l2_0, l2_1, l2_2, l2_3, l3_0, w2_0, w2_1, w2_2, w2_3, d1_0, d1_1, d1_2, d1_3, d2_i, d2_1, d2_0, y2]
      · rw [tsz_nd] at ht
        have hnb := PN_n b g3
        have eF : rsF mc f (nd 46 p a b) N s = rsF mc f b (N + 1) (dupB mc p (sq f N) (us mc p 3 s)) := rfl
        have eT : tkN (nd 46 p a b) = p :: tkN b := rfl
        rw [eF, es, eT]
        have hT1 := S1.tr (p + 1) (by omega) (by omega)
        rw [g2] at hT1
        have y2 := fun D => N_209y (F := F) (L := L) (xs := xs) (d := D) (m := rsM m (inX m (vlT m p))) (p := p + 1) (dep := dep) (a1 := 44) hb1 (by omega) (by omega) hT1
        have y3 := fun D => N_212 (F := F) (L := L) (xs := xs) (d := D) (m := rsM m (inX m (vlT m p))) (p := p + 1) (dep := dep) hb1 (by omega)
        have e2 : p + 1 + 1 = p + 2 := by omega
        rw [e2] at y3
        rw [← esq] at HR1
        obtain ⟨m2, c2, p3, m3, c3, q0, q1, Y⟩ := ih b (by omega) (p + 2) q g3 (by omega) hq (rsM m (inX m (vlT m p))) s D x1 x2 f base (N + 1) n S1 U1 hs hb1 HR1 (by omega) h33 (by show m 158 36 + 1 + _ < _; omega) hD (by omega)
        refine ⟨p3, m3, ?_, q0, q1, ?_⟩
        · rw [lf_s]
          simp (disch := first | omega | assumption) only [ea_226_1, eb_226_1, ec_226_1, ev_0, ev_1, ev_16, ev_17, ev_18, ev_2, ev_3, ev_4, ev_5, ev_6, ev_7, ev_8, ev_9, ev_20, ev_21, ev_22, ev_23, ev_24, ev_25, ev_27, ev_28, ev_30, ev_31, ev_32, ev_33, ev_34, ev_35, ev_36, ev_37, ev_38, ev_39, ev_40, ev_41, ev_42, ev_43, ev_45, ev_46, ev_47, ev_48, ev_49, ev_50, ev_51, ev_52, ev_54, ev_55, ev_57, ev_58, ev_59, k2_0, k2_1, k2_2, k3a, k3b, k4, o1_s, xbin_0, xbin_1, xbin_2, xbin_3, xbin_4, xbin_5, xbin_6, xbin_7, xbin_8, xbin_9, xbin_11, xbin_12, xun_0, xun_1, xun_2, xun_3, xun_4, xun_5, k6a, k8, k8b, k9, k20, k20b_0, k20b_1, k20b_2, k20b_3, k20b_4, k20b_5, k21_0, k21_1, k21_2, k21_3, k21_4, k21_5, k23, k24, k25, k27, k28, k40, nz_1, nz_2, nz_3, k31_0, k31_1, k31_2, k31_3, k32u, k33, k34, k35, k35b, k36, k37, k38, k47, k49, k49b_0, k49b_1, k49b_2, k49b_3, k50_0, k50_s, k51_0, k51_s, k55, k58, k58b, rk_0, rk_1, rk_2, rk_9, rk_3, rk_4, rk_5, sw_n, sw_c, xtb_n, xtb_c, lset_0, lset_2, lset_1, lkm_0, lkm_2, lkm_9, lkm_1, lkm_n, if_some1, c_10, c_01, c_x0, c_1x, c_n0, c_nn, List.getElem?_cons_zero, List.getElem?_cons_succ, List.set_cons_zero, List.set_cons_succ, List.length_cons, List.length_nil, Int.reduceToNat, Nat.reduceDiv, Nat.reduceMod, Nat.reduceSub, Nat.reduceAdd, Nat.reduceMul, Nat.reduceLT, Nat.reduceLeDiff, Nat.reduceEqDiff, Int.reduceMod, Int.reduceSub, Int.reduceNeg, Int.reduceAdd, Int.reduceMul, Int.reduceLT, Int.reduceLE, Int.reduceEq, put_ss, if_true, if_false, ite_true, ite_false, reduceIte, eq_self, and_true, true_and, and_false, false_and, or_true, true_or, or_false, false_or, not_true_eq_false, not_false_eq_true, k5_158_14, k34_158_14, k34i_158_14, k5_158_15, k34_158_15, k34i_158_15, k5_158_13, k34_158_13, k54_158_13, k54b_158_13_0, k54b_158_13_1, k5_158_5, k6_161, k35_161, n_161, k5_158_7, k6_163, k35_163, n_163, k5_158_12, k34_158_12, k54_158_12, k54b_158_12_0, k5_158_6, k6_162, k35_162, n_162, k5_158_36, k34_158_36, k54_158_36, k54b_158_36_0, k5_158_37, k6_175, k35_175, n_175, k5_158_34, k6_173, k35_173, n_173, k5_158_33, k34_158_33, rv_t, rv_d, rv_x, rv_y, rp_t, rp_d, rp_x, rp_y, w32_of, l1_i, l1_1, l1_0, l2_0, l2_1, l2_2, l2_3, l3_0, w2_0, w2_1, w2_2, w2_3, d1_0, d1_1, d1_2, d1_3, d2_i, d2_1, d2_0, y2, y3, c2, c3]
        · rcases Y with ⟨y1, y2, y3, y4, y5, y6, y7⟩ | ⟨W, B, M, pl, z1, z2⟩
          · refine Or.inl ⟨y1, y2, y3, FR_tr f1 y4, ?_, ?_, fun k hk => (y7 k (by show (k : Int) < m 158 36 + 1; omega)).trans (if_neg (by omega))⟩
            · rw [esq, List.append_assoc] at y5
              exact y5
            · have : rsM m (inX m (vlT m p)) 158 36 = m 158 36 + 1 := rfl
              omega
          · exact Or.inr ⟨W, Br_le B (by omega) (Int.le_refl _), M, pl, z1, FR_tr f1 z2⟩
    · rw [if_neg hg0] at c1
      refine ⟨_, c1, p + 1, bkF m (plT m p), ?_, by omega, by omega, Or.inr ⟨WU_bk U, ⟨rfl, rfl, p, by omega, by omega, (S.pl p hp (by omega)).1.symm, ?_⟩, m, plT m p, rfl, FR_rf⟩⟩
      · have y2 := fun D => B_209 (F := F) (L := L) (xs := xs) (d := D) (m := rv (p + 1) dep (bkF m (plT m p))) (a1 := 44) rfl
        rw [lf_s]
        simp (disch := first | omega | assumption) only [ea_226_1, eb_226_1, ec_226_1, ev_0, ev_1, ev_16, ev_17, ev_18, ev_2, ev_3, ev_4, ev_5, ev_6, ev_7, ev_8, ev_9, ev_20, ev_21, ev_22, ev_23, ev_24, ev_25, ev_27, ev_28, ev_30, ev_31, ev_32, ev_33, ev_34, ev_35, ev_36, ev_37, ev_38, ev_39, ev_40, ev_41, ev_42, ev_43, ev_45, ev_46, ev_47, ev_48, ev_49, ev_50, ev_51, ev_52, ev_54, ev_55, ev_57, ev_58, ev_59, k2_0, k2_1, k2_2, k3a, k3b, k4, o1_s, xbin_0, xbin_1, xbin_2, xbin_3, xbin_4, xbin_5, xbin_6, xbin_7, xbin_8, xbin_9, xbin_11, xbin_12, xun_0, xun_1, xun_2, xun_3, xun_4, xun_5, k6a, k8, k8b, k9, k20, k20b_0, k20b_1, k20b_2, k20b_3, k20b_4, k20b_5, k21_0, k21_1, k21_2, k21_3, k21_4, k21_5, k23, k24, k25, k27, k28, k40, nz_1, nz_2, nz_3, k31_0, k31_1, k31_2, k31_3, k32u, k33, k34, k35, k35b, k36, k37, k38, k47, k49, k49b_0, k49b_1, k49b_2, k49b_3, k50_0, k50_s, k51_0, k51_s, k55, k58, k58b, rk_0, rk_1, rk_2, rk_9, rk_3, rk_4, rk_5, sw_n, sw_c, xtb_n, xtb_c, lset_0, lset_2, lset_1, lkm_0, lkm_2, lkm_9, lkm_1, lkm_n, if_some1, c_10, c_01, c_x0, c_1x, c_n0, c_nn, List.getElem?_cons_zero, List.getElem?_cons_succ, List.set_cons_zero, List.set_cons_succ, List.length_cons, List.length_nil, Int.reduceToNat, Nat.reduceDiv, Nat.reduceMod, Nat.reduceSub, Nat.reduceAdd, Nat.reduceMul, Nat.reduceLT, Nat.reduceLeDiff, Nat.reduceEqDiff, Int.reduceMod, Int.reduceSub, Int.reduceNeg, Int.reduceAdd, Int.reduceMul, Int.reduceLT, Int.reduceLE, Int.reduceEq, put_ss, if_true, if_false, ite_true, ite_false, reduceIte, eq_self, and_true, true_and, and_false, false_and, or_true, true_or, or_false, false_or, not_true_eq_false, not_false_eq_true, k5_158_14, k34_158_14, k34i_158_14, k5_158_15, k34_158_15, k34i_158_15, k5_158_13, k34_158_13, k54_158_13, k54b_158_13_0, k54b_158_13_1, k5_158_5, k6_161, k35_161, n_161, k5_158_7, k6_163, k35_163, n_163, k5_158_12, k34_158_12, k54_158_12, k54b_158_12_0, k5_158_6, k6_162, k35_162, n_162, k5_158_36, k34_158_36, k54_158_36, k54b_158_36_0, k5_158_37, k6_175, k35_175, n_175, k5_158_34, k6_173, k35_173, n_173, k5_158_33, k34_158_33, rv_t, rv_d, rv_x, rv_y, rp_t, rp_d, rp_x, rp_y, w32_of, l1_i, l1_1, l1_0, l2_0, l2_1, l2_2, l2_3, l3_0, w2_0, w2_1, w2_2, w2_3, d1_0, d1_1, d1_2, d1_3, d2_i, d2_1, d2_0, y2]
      · have hDp := hD p hp (by omega)
        have he5 := S.e5
        have hbl : (dupB mc p (sq f N) (us mc p 3 s)).2.2.2.1 = mc 54 p.toNat := by
          by_cases hkk : kI mc (idT mc p) = 3
          · have u1 : us mc p 3 s = s := if_pos hkk
            rw [u1, dupB_eq, if_neg (fun z => hg0 ⟨k3.1 hkk, z⟩)]
            exact bl_hit (m := m) (D := D) hp (by omega) hs hDp
          · have u1 : us mc p 3 s = bl mc p s := if_neg hkk
            rw [u1]
            exact dupB_nf (Int.le_refl _) _ _ (bl_hit (m := m) (D := D) hp (by omega) hs hDp)
        rcases inv_N h with ⟨a, b, rfl, g1, g2, g3⟩ | ⟨a, b, rfl, g1, g2, g3⟩
        · exact hbl
        · have hnb := PN_n b g3
          exact rsF_nf (tsz b + 1) b (by omega) _ _ g3 (fun j j1 j2 => S.mo _ _ hp (by omega) (by omega)) _ _ hbl
end Rai
