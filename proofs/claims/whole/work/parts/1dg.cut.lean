/-! A TEXT CUT WHOLE: the tokens in their order -/
def tks (b : Nat → Int) (n : Int) : Nat → Int → List (Int × Int × Int × Int)
  | 0, _ => []
  | f + 1, p => if n ≤ pb b n p then [] else tok b n (pb b n p) :: (if (tok b n (pb b n p)).2.2.2 = -1 then [] else tks b n f (tok b n (pb b n p)).2.2.2)
def tkFs (m : Mem) (l : List (Int × Int × Int × Int)) : Mem := l.foldl tkF m
def aMs (m : Mem) (l : List (Int × Int × Int × Int)) : Mem := l.foldl (fun m t => aM m t.1 t.2.1 t.2.2.1) m
def bdT (l : List (Int × Int × Int × Int)) : Bool := l.any (fun t => decide (t.2.2.2 = -1))
section CutW
variable {F L d : Nat} {m : Mem} {xs : Nat → Int32} {n : Int} {b : Nat → Int} {h : xH} {a0 a1 c p : Int}
theorem pb_n : pb b n n = n := by
  unfold pb
  rw [show (n - n + 1).toNat = 0 + 1 from by omega]
  exact if_pos (Int.le_refl _)
theorem tks_n {f : Nat} : tks b n f n = [] := by
  cases f with
  | zero => rfl
  | succ f =>
    unfold tks
    rw [pb_n, if_pos (Int.le_refl _)]
theorem aF_57 {k p v : Int} : aF m k p v 57 4 = m 57 4 := rfl
theorem aF_5 {k p v : Int} : aF m k p v 51 5 = m 51 5 + 1 := rfl
theorem idM_4 (c : Int) : idM m c 57 4 = m 57 4 ∨ idM m c 57 4 = m 57 4 + 1 := by
  unfold idM
  split
  · exact Or.inr rfl
  · exact Or.inl rfl
theorem tkF_n (t : Int × Int × Int × Int) : tkF m t 51 5 = m 51 5 + 1 ∧ (tkF m t 57 4 = m 57 4 ∨ tkF m t 57 4 = m 57 4 + 1) := by
  unfold tkF
  by_cases h : t.1 = 1
  · rw [if_pos h]
    refine ⟨?_, idM_4 _⟩
    rw [aF_5, idM_51]
  · rw [if_neg h]
    exact ⟨rfl, Or.inl rfl⟩
/-- what the cutting leaves -/
def KC (m m' : Mem) : Prop := ∀ a k, (a ≠ 53 ∧ a ≠ 54 ∧ a ≠ 55 ∧ a ≠ 58 ∧ a ≠ 59 ∧ a ≠ 60 ∧ a ≠ 61 ∧ (a = 51 → k ≠ 5) ∧ (a = 57 → k ≠ 4)) → m' a k = m a k
theorem KC_aF {k p v : Int} : KC m (aF m k p v) := fun a j h => by
  obtain ⟨h1, h2, h3, h4, h5, h6, h7, h8, h9⟩ := h
  unfold aF
  rw [put_ss, put_ss, put_ss, put_ss, if_neg h1, if_neg h2, if_neg h3]
  by_cases z : a = 51
  · rw [if_pos z, if_neg (h8 z)]
  · rw [if_neg z]
theorem KC_idM (c : Int) : KC m (idM m c) := fun a j h => by
  obtain ⟨h1, h2, h3, h4, h5, h6, h7, h8, h9⟩ := h
  unfold idM
  split
  · rw [put_ss, put_ss, put_ss, put_ss, put_ss, if_neg h4, if_neg h5, if_neg h6, if_neg h7]
    by_cases z : a = 57
    · rw [if_pos z, if_neg (h9 z)]
    · rw [if_neg z]
  · rfl
theorem KC_tr {m1 m2 m3 : Mem} (h1 : KC m1 m2) (h2 : KC m2 m3) : KC m1 m3 := fun a k h => (h2 a k h).trans (h1 a k h)
theorem KC_tkF (t : Int × Int × Int × Int) : KC m (tkF m t) := by
  unfold tkF
  split
  · exact KC_tr (KC_idM _) KC_aF
  · exact KC_aF
theorem KC_BY {m' : Mem} (K : KC m m') (Y : BY m b n) : BY m' b n := by
  obtain ⟨y1, y2, y3, y4⟩ := Y
  refine ⟨?_, y2, y3, fun k hk => ?_⟩
  · rw [K 51 1 (by decide)]; exact y1
  · rw [K 52 k (by omega)]; exact y4 k hk
theorem KC_KY {m' : Mem} (K : KC m m') (Y : KYc m) : KYc m' := fun k hk => by
  rw [K 56 k (by omega)]; exact Y k hk
theorem E_134 {left : Int} {N : Nat} (y1 : m 51 1 = n) (hN : 0 < N) : LF F (d + 6) la_134_0 lb_134_0 lc_134_0 N ([(2, 51), (2, 57), (0, n), (0, left)], Hp L xs m) = some (0, [], ([(2, 51), (2, 57), (0, n), (0, left)], Hp L xs m)) := by
  obtain ⟨N, rfl⟩ : ∃ n', N = n' + 1 := ⟨N - 1, by omega⟩
  rw [lf_s]
  by_cases hl : 0 < left
  · simp (disch := first | omega | assumption) only [ea_134_0, eb_134_0, ec_134_0, l1_i, l1_1, l1_0, l2_0, l2_1, l2_2, l2_3, l3_0, w2_0, w2_1, w2_2, w2_3, d1_0, d1_1, d1_2, d1_3, d2_i, d2_1, d2_0, ev_0, ev_1, ev_16, ev_17, ev_18, ev_2, ev_3, ev_4, ev_5, ev_6, ev_7, ev_8, ev_9, ev_20, ev_21, ev_22, ev_23, ev_24, ev_25, ev_27, ev_28, ev_30, ev_31, ev_32, ev_33, ev_34, ev_35, ev_36, ev_37, ev_38, ev_39, ev_40, ev_41, ev_42, ev_43, ev_45, ev_46, ev_47, ev_48, ev_49, ev_50, ev_51, ev_52, ev_54, ev_55, ev_57, ev_58, ev_59, k2_0, k2_1, k2_2, k3a, k3b, k4, o1_s, xbin_0, xbin_1, xbin_2, xbin_3, xbin_4, xbin_5, xbin_6, xbin_7, xbin_8, xbin_9, xbin_11, xbin_12, xun_0, xun_1, xun_2, xun_3, xun_4, xun_5, k6a, k8, k8b, k9, k20, k20b_0, k20b_1, k20b_2, k20b_3, k20b_4, k20b_5, k21_0, k21_1, k21_2, k21_3, k21_4, k21_5, k23, k24, k25, k27, k28, k40, nz_1, nz_2, nz_3, k31_0, k31_1, k31_2, k31_3, k32u, k33, k34, k35, k35b, k36, k37, k38, k47, k49, k49b_0, k49b_1, k49b_2, k49b_3, k50_0, k50_s, k51_0, k51_s, k55, k58, k58b, rk_0, rk_1, rk_2, rk_9, rk_3, rk_4, rk_5, sw_n, sw_c, xtb_n, xtb_c, lset_0, lset_2, lset_1, lkm_0, lkm_2, lkm_9, lkm_1, lkm_n, if_some1, c_10, c_01, c_x0, c_1x, c_n0, c_nn, List.getElem?_cons_zero, List.getElem?_cons_succ, List.set_cons_zero, List.set_cons_succ, List.length_cons, List.length_nil, Int.reduceToNat, Nat.reduceDiv, Nat.reduceMod, Nat.reduceSub, Nat.reduceAdd, Nat.reduceMul, Nat.reduceLT, Nat.reduceLeDiff, Nat.reduceEqDiff, Int.reduceMod, Int.reduceSub, Int.reduceNeg, Int.reduceAdd, Int.reduceMul, Int.reduceLT, Int.reduceLE, Int.reduceEq, put_ss, if_true, if_false, ite_true, ite_false, reduceIte, eq_self, and_true, true_and, and_false, false_and, or_true, true_or, or_false, false_or, not_true_eq_false, not_false_eq_true, k5_51_1, k34_51_1, k54_51_1, k54b_51_1_0, y1, hl, Int.lt_irrefl]
  · simp (disch := first | omega | assumption) only [ea_134_0, eb_134_0, ec_134_0, l1_i, l1_1, l1_0, l2_0, l2_1, l2_2, l2_3, l3_0, w2_0, w2_1, w2_2, w2_3, d1_0, d1_1, d1_2, d1_3, d2_i, d2_1, d2_0, ev_0, ev_1, ev_16, ev_17, ev_18, ev_2, ev_3, ev_4, ev_5, ev_6, ev_7, ev_8, ev_9, ev_20, ev_21, ev_22, ev_23, ev_24, ev_25, ev_27, ev_28, ev_30, ev_31, ev_32, ev_33, ev_34, ev_35, ev_36, ev_37, ev_38, ev_39, ev_40, ev_41, ev_42, ev_43, ev_45, ev_46, ev_47, ev_48, ev_49, ev_50, ev_51, ev_52, ev_54, ev_55, ev_57, ev_58, ev_59, k2_0, k2_1, k2_2, k3a, k3b, k4, o1_s, xbin_0, xbin_1, xbin_2, xbin_3, xbin_4, xbin_5, xbin_6, xbin_7, xbin_8, xbin_9, xbin_11, xbin_12, xun_0, xun_1, xun_2, xun_3, xun_4, xun_5, k6a, k8, k8b, k9, k20, k20b_0, k20b_1, k20b_2, k20b_3, k20b_4, k20b_5, k21_0, k21_1, k21_2, k21_3, k21_4, k21_5, k23, k24, k25, k27, k28, k40, nz_1, nz_2, nz_3, k31_0, k31_1, k31_2, k31_3, k32u, k33, k34, k35, k35b, k36, k37, k38, k47, k49, k49b_0, k49b_1, k49b_2, k49b_3, k50_0, k50_s, k51_0, k51_s, k55, k58, k58b, rk_0, rk_1, rk_2, rk_9, rk_3, rk_4, rk_5, sw_n, sw_c, xtb_n, xtb_c, lset_0, lset_2, lset_1, lkm_0, lkm_2, lkm_9, lkm_1, lkm_n, if_some1, c_10, c_01, c_x0, c_1x, c_n0, c_nn, List.getElem?_cons_zero, List.getElem?_cons_succ, List.set_cons_zero, List.set_cons_succ, List.length_cons, List.length_nil, Int.reduceToNat, Nat.reduceDiv, Nat.reduceMod, Nat.reduceSub, Nat.reduceAdd, Nat.reduceMul, Nat.reduceLT, Nat.reduceLeDiff, Nat.reduceEqDiff, Int.reduceMod, Int.reduceSub, Int.reduceNeg, Int.reduceAdd, Int.reduceMul, Int.reduceLT, Int.reduceLE, Int.reduceEq, put_ss, if_true, if_false, ite_true, ite_false, reduceIte, eq_self, and_true, true_and, and_false, false_and, or_true, true_or, or_false, false_or, not_true_eq_false, not_false_eq_true, k5_51_1, k34_51_1, k54_51_1, k54b_51_1_0, y1, hl, Int.lt_irrefl]
theorem L_134 (hF : 100000 ≤ F) : ∀ (f : Nat) (p : Int) (m : Mem) (left : Int) (N : Nat), 0 ≤ p → p ≤ n → n - p < f → BY m b n → KYc m → 0 ≤ m 51 5 → m 51 5 + (n - p) ≤ 2900 → 0 ≤ m 57 4 → m 57 4 + (n - p) ≤ 1500 → n - p < left → left ≤ 3000 → f < N → ∃ left' at', LF F (d + 6) la_134_0 lb_134_0 lc_134_0 N ([(2, 51), (2, 57), (0, p), (0, left)], Hp L xs m) = some (0, [], ([(2, 51), (2, 57), (0, at'), (0, left')], Hp L xs (tkFs m (tks b n f p)))) := by
  intro f
  induction f with
  | zero => intro p m left N h0 h1 h2; omega
  | succ f ih =>
    intro p m left N h0 h1 h2 Y hK g0 g1 g2 g3 hl0 hl1 hN
    obtain ⟨y1, y2, y3, y4⟩ := Y
    have Y : BY m b n := ⟨y1, y2, y3, y4⟩
    by_cases hp : p < n
    · obtain ⟨N, rfl⟩ : ∃ n', N = n' + 1 := ⟨N - 1, by omega⟩
      obtain ⟨c1, q1, q2⟩ := C_137 (F := F) (L := L) (xs := xs) (d := d + 4) (a1 := p) Y hF h0 h1
      have hl : 0 < left := by omega
      have e1 : tks b n (f + 1) p = if n ≤ pb b n p then [] else tok b n (pb b n p) :: (if (tok b n (pb b n p)).2.2.2 = -1 then [] else tks b n f (tok b n (pb b n p)).2.2.2) := rfl
      rw [e1]
      generalize hq : pb b n p = q at *
      by_cases hqn : n ≤ q
      · rw [if_pos hqn]
        have hq2 : q = n := by omega
        subst hq2
        refine ⟨left + -1, q, ?_⟩
        have c9 := E_134 (F := F) (L := L) (xs := xs) (d := d) (left := left + -1) (N := N) y1 (by omega)
        rw [lf_s]
        simp (disch := first | omega | assumption) only [ea_134_0, eb_134_0, ec_134_0, l1_i, l1_1, l1_0, l2_0, l2_1, l2_2, l2_3, l3_0, w2_0, w2_1, w2_2, w2_3, d1_0, d1_1, d1_2, d1_3, d2_i, d2_1, d2_0, ev_0, ev_1, ev_16, ev_17, ev_18, ev_2, ev_3, ev_4, ev_5, ev_6, ev_7, ev_8, ev_9, ev_20, ev_21, ev_22, ev_23, ev_24, ev_25, ev_27, ev_28, ev_30, ev_31, ev_32, ev_33, ev_34, ev_35, ev_36, ev_37, ev_38, ev_39, ev_40, ev_41, ev_42, ev_43, ev_45, ev_46, ev_47, ev_48, ev_49, ev_50, ev_51, ev_52, ev_54, ev_55, ev_57, ev_58, ev_59, k2_0, k2_1, k2_2, k3a, k3b, k4, o1_s, xbin_0, xbin_1, xbin_2, xbin_3, xbin_4, xbin_5, xbin_6, xbin_7, xbin_8, xbin_9, xbin_11, xbin_12, xun_0, xun_1, xun_2, xun_3, xun_4, xun_5, k6a, k8, k8b, k9, k20, k20b_0, k20b_1, k20b_2, k20b_3, k20b_4, k20b_5, k21_0, k21_1, k21_2, k21_3, k21_4, k21_5, k23, k24, k25, k27, k28, k40, nz_1, nz_2, nz_3, k31_0, k31_1, k31_2, k31_3, k32u, k33, k34, k35, k35b, k36, k37, k38, k47, k49, k49b_0, k49b_1, k49b_2, k49b_3, k50_0, k50_s, k51_0, k51_s, k55, k58, k58b, rk_0, rk_1, rk_2, rk_9, rk_3, rk_4, rk_5, sw_n, sw_c, xtb_n, xtb_c, lset_0, lset_2, lset_1, lkm_0, lkm_2, lkm_9, lkm_1, lkm_n, if_some1, c_10, c_01, c_x0, c_1x, c_n0, c_nn, List.getElem?_cons_zero, List.getElem?_cons_succ, List.set_cons_zero, List.set_cons_succ, List.length_cons, List.length_nil, Int.reduceToNat, Nat.reduceDiv, Nat.reduceMod, Nat.reduceSub, Nat.reduceAdd, Nat.reduceMul, Nat.reduceLT, Nat.reduceLeDiff, Nat.reduceEqDiff, Int.reduceMod, Int.reduceSub, Int.reduceNeg, Int.reduceAdd, Int.reduceMul, Int.reduceLT, Int.reduceLE, Int.reduceEq, put_ss, if_true, if_false, ite_true, ite_false, reduceIte, eq_self, and_true, true_and, and_false, false_and, or_true, true_or, or_false, false_or, not_true_eq_false, not_false_eq_true, k5_51_1, k34_51_1, k54_51_1, k54b_51_1_0, y1, hl, hp, c1, Int.lt_irrefl, w32_of, c9]
        rfl
      · rw [if_neg hqn]
        have hq3 : q < n := by omega
        obtain ⟨c2, T⟩ := C_138 (L := L) (xs := xs) (d := d) (p := q) hF Y hK (by omega) hq3 g0 (by omega) g2 (by omega)
        have K := KC_tkF (m := m) (tok b n q)
        obtain ⟨k1, k2⟩ := tkF_n (m := m) (tok b n q)
        have y1' : tkF m (tok b n q) 51 1 = n := (K 51 1 (by decide)).trans y1
        rcases T with ⟨t1, t2, t3, t4, t5⟩ | ⟨t1, t2, t3, t4, t5⟩
        · rw [if_pos t2] at c2 ⊢
          refine ⟨left + -1, n, ?_⟩
          have c9 := E_134 (F := F) (L := L) (xs := xs) (d := d) (left := left + -1) (N := N) y1' (by omega)
          rw [lf_s]
          simp (disch := first | omega | assumption) only [ea_134_0, eb_134_0, ec_134_0, l1_i, l1_1, l1_0, l2_0, l2_1, l2_2, l2_3, l3_0, w2_0, w2_1, w2_2, w2_3, d1_0, d1_1, d1_2, d1_3, d2_i, d2_1, d2_0, ev_0, ev_1, ev_16, ev_17, ev_18, ev_2, ev_3, ev_4, ev_5, ev_6, ev_7, ev_8, ev_9, ev_20, ev_21, ev_22, ev_23, ev_24, ev_25, ev_27, ev_28, ev_30, ev_31, ev_32, ev_33, ev_34, ev_35, ev_36, ev_37, ev_38, ev_39, ev_40, ev_41, ev_42, ev_43, ev_45, ev_46, ev_47, ev_48, ev_49, ev_50, ev_51, ev_52, ev_54, ev_55, ev_57, ev_58, ev_59, k2_0, k2_1, k2_2, k3a, k3b, k4, o1_s, xbin_0, xbin_1, xbin_2, xbin_3, xbin_4, xbin_5, xbin_6, xbin_7, xbin_8, xbin_9, xbin_11, xbin_12, xun_0, xun_1, xun_2, xun_3, xun_4, xun_5, k6a, k8, k8b, k9, k20, k20b_0, k20b_1, k20b_2, k20b_3, k20b_4, k20b_5, k21_0, k21_1, k21_2, k21_3, k21_4, k21_5, k23, k24, k25, k27, k28, k40, nz_1, nz_2, nz_3, k31_0, k31_1, k31_2, k31_3, k32u, k33, k34, k35, k35b, k36, k37, k38, k47, k49, k49b_0, k49b_1, k49b_2, k49b_3, k50_0, k50_s, k51_0, k51_s, k55, k58, k58b, rk_0, rk_1, rk_2, rk_9, rk_3, rk_4, rk_5, sw_n, sw_c, xtb_n, xtb_c, lset_0, lset_2, lset_1, lkm_0, lkm_2, lkm_9, lkm_1, lkm_n, if_some1, c_10, c_01, c_x0, c_1x, c_n0, c_nn, List.getElem?_cons_zero, List.getElem?_cons_succ, List.set_cons_zero, List.set_cons_succ, List.length_cons, List.length_nil, Int.reduceToNat, Nat.reduceDiv, Nat.reduceMod, Nat.reduceSub, Nat.reduceAdd, Nat.reduceMul, Nat.reduceLT, Nat.reduceLeDiff, Nat.reduceEqDiff, Int.reduceMod, Int.reduceSub, Int.reduceNeg, Int.reduceAdd, Int.reduceMul, Int.reduceLT, Int.reduceLE, Int.reduceEq, put_ss, if_true, if_false, ite_true, ite_false, reduceIte, eq_self, and_true, true_and, and_false, false_and, or_true, true_or, or_false, false_or, not_true_eq_false, not_false_eq_true, k5_51_1, k34_51_1, k54_51_1, k54b_51_1_0, y1, hl, hp, hq3, c1, c2, w32_of, c9]
          rfl
        · have t6 : ¬ (tok b n q).2.2.2 = -1 := by omega
          rw [if_neg t6] at c2 ⊢
          obtain ⟨l', a', c9⟩ := ih (tok b n q).2.2.2 (tkF m (tok b n q)) (left + -1) N (by omega) (by omega) (by omega) (KC_BY K Y) (KC_KY K hK) (by omega) (by omega) (by omega) (by omega) (by omega) (by omega) (by omega)
          refine ⟨l', a', ?_⟩
          rw [lf_s]
          simp (disch := first | omega | assumption) only [ea_134_0, eb_134_0, ec_134_0, l1_i, l1_1, l1_0, l2_0, l2_1, l2_2, l2_3, l3_0, w2_0, w2_1, w2_2, w2_3, d1_0, d1_1, d1_2, d1_3, d2_i, d2_1, d2_0, ev_0, ev_1, ev_16, ev_17, ev_18, ev_2, ev_3, ev_4, ev_5, ev_6, ev_7, ev_8, ev_9, ev_20, ev_21, ev_22, ev_23, ev_24, ev_25, ev_27, ev_28, ev_30, ev_31, ev_32, ev_33, ev_34, ev_35, ev_36, ev_37, ev_38, ev_39, ev_40, ev_41, ev_42, ev_43, ev_45, ev_46, ev_47, ev_48, ev_49, ev_50, ev_51, ev_52, ev_54, ev_55, ev_57, ev_58, ev_59, k2_0, k2_1, k2_2, k3a, k3b, k4, o1_s, xbin_0, xbin_1, xbin_2, xbin_3, xbin_4, xbin_5, xbin_6, xbin_7, xbin_8, xbin_9, xbin_11, xbin_12, xun_0, xun_1, xun_2, xun_3, xun_4, xun_5, k6a, k8, k8b, k9, k20, k20b_0, k20b_1, k20b_2, k20b_3, k20b_4, k20b_5, k21_0, k21_1, k21_2, k21_3, k21_4, k21_5, k23, k24, k25, k27, k28, k40, nz_1, nz_2, nz_3, k31_0, k31_1, k31_2, k31_3, k32u, k33, k34, k35, k35b, k36, k37, k38, k47, k49, k49b_0, k49b_1, k49b_2, k49b_3, k50_0, k50_s, k51_0, k51_s, k55, k58, k58b, rk_0, rk_1, rk_2, rk_9, rk_3, rk_4, rk_5, sw_n, sw_c, xtb_n, xtb_c, lset_0, lset_2, lset_1, lkm_0, lkm_2, lkm_9, lkm_1, lkm_n, if_some1, c_10, c_01, c_x0, c_1x, c_n0, c_nn, List.getElem?_cons_zero, List.getElem?_cons_succ, List.set_cons_zero, List.set_cons_succ, List.length_cons, List.length_nil, Int.reduceToNat, Nat.reduceDiv, Nat.reduceMod, Nat.reduceSub, Nat.reduceAdd, Nat.reduceMul, Nat.reduceLT, Nat.reduceLeDiff, Nat.reduceEqDiff, Int.reduceMod, Int.reduceSub, Int.reduceNeg, Int.reduceAdd, Int.reduceMul, Int.reduceLT, Int.reduceLE, Int.reduceEq, put_ss, if_true, if_false, ite_true, ite_false, reduceIte, eq_self, and_true, true_and, and_false, false_and, or_true, true_or, or_false, false_or, not_true_eq_false, not_false_eq_true, k5_51_1, k34_51_1, k54_51_1, k54b_51_1_0, y1, hl, hp, hq3, c1, c2, w32_of, c9]
          rfl
    · have hp2 : p = n := by omega
      subst hp2
      refine ⟨left, p, ?_⟩
      rw [tks_n]
      exact E_134 y1 (by omega)
/-- the class's cut, whole -/
theorem KC_tkFs : ∀ (l : List (Int × Int × Int × Int)) (m : Mem), KC m (tkFs m l)
  | [], m => fun _ _ _ => rfl
  | t :: l, m => KC_tr (KC_tkF t) (KC_tkFs l (tkF m t))
theorem tkFs_n : ∀ (l : List (Int × Int × Int × Int)) (m : Mem), tkFs m l 51 5 = m 51 5 + l.length ∧ m 57 4 ≤ tkFs m l 57 4 ∧ tkFs m l 57 4 ≤ m 57 4 + l.length
  | [], m => ⟨by show m 51 5 = m 51 5 + ((0 : Nat) : Int); omega, Int.le_refl _, by show m 57 4 ≤ m 57 4 + ((0 : Nat) : Int); omega⟩
  | t :: l, m => by
    obtain ⟨h1, h2, h3⟩ := tkFs_n l (tkF m t)
    obtain ⟨k1, k2⟩ := tkF_n (m := m) t
    have e : tkFs m (t :: l) = tkFs (tkF m t) l := rfl
    rw [e, List.length_cons]
    refine ⟨?_, ?_, ?_⟩ <;> omega
theorem tks_len {m : Mem} {L : Nat} {xs : Nat → Int32} (Y : BY m b n) : ∀ (f : Nat) (p : Int), 0 ≤ p → p ≤ n → ((tks b n f p).length : Int) ≤ n - p := by
  intro f
  induction f with
  | zero => intro p h0 h1; show ((0 : Nat) : Int) ≤ _; omega
  | succ f ih =>
    intro p h0 h1
    obtain ⟨_, q1, q2⟩ := C_137 (F := 100000) (L := L) (xs := xs) (d := 0) (a1 := p) Y (by omega) h0 h1
    have e1 : tks b n (f + 1) p = if n ≤ pb b n p then [] else tok b n (pb b n p) :: (if (tok b n (pb b n p)).2.2.2 = -1 then [] else tks b n f (tok b n (pb b n p)).2.2.2) := rfl
    rw [e1]
    generalize hq : pb b n p = q at *
    by_cases hqn : n ≤ q
    · rw [if_pos hqn]
      show ((0 : Nat) : Int) ≤ _
      omega
    · rw [if_neg hqn, List.length_cons]
      by_cases t2 : (tok b n q).2.2.2 = -1
      · rw [if_pos t2]
        show (((0 : Nat) + 1 : Nat) : Int) ≤ _
        omega
      · rw [if_neg t2]
        have T : TkG (tok b n q) n q := (C_138 (F := 100000) (L := 0) (xs := fun _ => 0) (d := 0) (p := q) (n := n) (b := b) (m := fun a k => if a = 56 then kyL.getD k 0 else if a = 51 ∧ k = 1 then n else if a = 52 then m 52 k else 0) (by omega) ⟨rfl, Y.2.1, Y.2.2.1, Y.2.2.2⟩ (fun _ _ => rfl) (by omega) (by omega) (by show (0 : Int) ≤ 0; omega) (by show (0 : Int) ≤ 3000; omega) (by show (0 : Int) ≤ 0; omega) (by show (0 : Int) < 1510; omega)).2
        rcases T with ⟨t1, t3, _⟩ | ⟨t1, t3, t4, t5, t6⟩
        · exact absurd t3 t2
        · have := ih (tok b n q).2.2.2 (by omega) (by omega)
          omega
theorem C_134 (hF : 100000 ≤ F) (Y : BY m b n) (hK : KYc m) (hn : n ≤ 1400) (g2 : 0 ≤ m 57 4) (g3 : m 57 4 ≤ 50) : Cx F (d + 7) 134 [51, 57] (Hp L xs m) = some ([], Hp L xs (aF (tkFs (put m 51 5 0) (tks b n (n + 1).toNat 0)) 0 n 0)) := by
  obtain ⟨y1, y2, y3, y4⟩ := Y
  have Y : BY m b n := ⟨y1, y2, y3, y4⟩
  have Y' : BY (put m 51 5 0) b n := ⟨y1, y2, y3, y4⟩
  have e5 : put m 51 5 0 51 5 = 0 := rfl
  have e4 : put m 51 5 0 57 4 = m 57 4 := rfl
  obtain ⟨l', a', c1⟩ := L_134 (F := F) (L := L) (xs := xs) (d := d) (b := b) (n := n) hF (n + 1).toNat 0 (put m 51 5 0) 3000 F (by omega) (by omega) (by omega) Y' hK (by omega) (by omega) (by omega) (by omega) (by omega) (by omega) (by omega)
  have K := KC_tkFs (tks b n (n + 1).toNat 0) (put m 51 5 0)
  obtain ⟨k1, k2, k3⟩ := tkFs_n (tks b n (n + 1).toNat 0) (put m 51 5 0)
  have hlen := tks_len (L := L) (xs := xs) Y (n + 1).toNat 0 (by omega) (by omega)
  have c2 := C_136 (F := F) (L := L) (xs := xs) (d := d + 5) (m := tkFs (put m 51 5 0) (tks b n (n + 1).toNat 0)) (k := 0) (p := n) (v := 0) (by omega) (by omega)
  have e1 : tkFs (put m 51 5 0) (tks b n (n + 1).toNat 0) 51 1 = n := (K 51 1 (by decide)).trans y1
  simp (disch := first | omega | assumption) only [c_134, tx_134, ev_0, ev_1, ev_16, ev_17, ev_18, ev_2, ev_3, ev_4, ev_5, ev_6, ev_7, ev_8, ev_9, ev_20, ev_21, ev_22, ev_23, ev_24, ev_25, ev_27, ev_28, ev_30, ev_31, ev_32, ev_33, ev_34, ev_35, ev_36, ev_37, ev_38, ev_39, ev_40, ev_41, ev_42, ev_43, ev_45, ev_46, ev_47, ev_48, ev_49, ev_50, ev_51, ev_52, ev_54, ev_55, ev_57, ev_58, ev_59, k2_0, k2_1, k2_2, k3a, k3b, k4, o1_s, xbin_0, xbin_1, xbin_2, xbin_3, xbin_4, xbin_5, xbin_6, xbin_7, xbin_8, xbin_9, xbin_11, xbin_12, xun_0, xun_1, xun_2, xun_3, xun_4, xun_5, k6a, k8, k8b, k9, k20, k20b_0, k20b_1, k20b_2, k20b_3, k20b_4, k20b_5, k21_0, k21_1, k21_2, k21_3, k21_4, k21_5, k23, k24, k25, k27, k28, k40, nz_1, nz_2, nz_3, k31_0, k31_1, k31_2, k31_3, k32u, k33, k34, k35, k35b, k36, k37, k38, k47, k49, k49b_0, k49b_1, k49b_2, k49b_3, k50_0, k50_s, k51_0, k51_s, k55, k58, k58b, rk_0, rk_1, rk_2, rk_9, rk_3, rk_4, rk_5, sw_n, sw_c, xtb_n, xtb_c, lset_0, lset_2, lset_1, lkm_0, lkm_2, lkm_9, lkm_1, lkm_n, if_some1, c_10, c_01, c_x0, c_1x, c_n0, c_nn, List.getElem?_cons_zero, List.getElem?_cons_succ, List.set_cons_zero, List.set_cons_succ, List.length_cons, List.length_nil, Int.reduceToNat, Nat.reduceDiv, Nat.reduceMod, Nat.reduceSub, Nat.reduceAdd, Nat.reduceMul, Nat.reduceLT, Nat.reduceLeDiff, Nat.reduceEqDiff, Int.reduceMod, Int.reduceSub, Int.reduceNeg, Int.reduceAdd, Int.reduceMul, Int.reduceLT, Int.reduceLE, Int.reduceEq, put_ss, if_true, if_false, ite_true, ite_false, reduceIte, eq_self, and_true, true_and, and_false, false_and, or_true, true_or, or_false, false_or, not_true_eq_false, not_false_eq_true, k5_51_1, k34_51_1, k54_51_1, k54b_51_1_0, k5_51_5, k34_51_5, k54_51_5, k54b_51_5_0, c1, c2, e1]
end CutW
