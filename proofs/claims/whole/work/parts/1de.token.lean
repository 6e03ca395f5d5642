/-! ONE TOKEN, as both tell it: its kind (the model's), place, value, and where the next begins (-1: a bad one) -/
def tok (b : Nat → Int) (n p : Int) : Int × Int × Int × Int :=
  if lt1 (bt b n p) then (if (wd7 (bt b n) 12 p 0).2.2 then (5, (wd7 (bt b n) 12 p 0).1, 0, -1) else if kyN (wd7 (bt b n) 12 p 0).2.1 = -1 then (1, p, (wd7 (bt b n) 12 p 0).2.1, (wd7 (bt b n) 12 p 0).1) else (3, p, kyN (wd7 (bt b n) 12 p 0).2.1, (wd7 (bt b n) 12 p 0).1))
  else if dg1 (bt b n p) then (if (nS (bt b n) (n - p + 1).toNat p 0).2 ≤ 32767 then (2, p, (nS (bt b n) (n - p + 1).toNat p 0).2, (nS (bt b n) (n - p + 1).toNat p 0).1) else (5, p, 0, -1))
  else if tw1 (bt b n p) ∧ bt b n (p + 1) = 61 then (4, p, (if bt b n p = 61 then 300 else if bt b n p = 33 then 301 else if bt b n p = 60 then 302 else 303), p + 2)
  else if sg1 (bt b n p) then (4, p, bt b n p, p + 1) else (5, p, 0, -1)
/-- the class's kind of a token -/
def clK (k v : Int) : Int := if k = 5 then 1 else if k = 1 then 2 else if k = 2 then 3 else if k = 3 then 4 + v else sgn v
def tkF (m : Mem) (t : Int × Int × Int × Int) : Mem := if t.1 = 1 then aF (idM m t.2.2.1) 2 t.2.1 (idv m t.2.2.1) else aF m (clK t.1 t.2.2.1) t.2.1 (if t.1 = 2 then t.2.2.1 else 0)
section TokC
variable {F L d : Nat} {m : Mem} {xs : Nat → Int32} {n : Int} {b : Nat → Int} {h : xH} {a0 a1 c p y : Int} {Lo : xL}
theorem L_140 (Y : BY m b n) : ∀ (f : Nat) (q v : Int) (N : Nat), 0 ≤ q → q ≤ n → n - q < f → f ≤ N → 0 ≤ v → v ≤ 32768 → LF F (d + 1) la_140_0 lb_140_0 lc_140_0 N ([(2, 51), (0, p), (0, v), (0, q)], Hp L xs m) = some (0, [], ([(2, 51), (0, p), (0, (nS (bt b n) f q v).2), (0, (nS (bt b n) f q v).1)], Hp L xs m)) ∧ q ≤ (nS (bt b n) f q v).1 ∧ (nS (bt b n) f q v).1 ≤ n ∧ 0 ≤ (nS (bt b n) f q v).2 ∧ (nS (bt b n) f q v).2 ≤ 32768 := by
  obtain ⟨y1, y2, y3, y4⟩ := Y
  have Y : BY m b n := ⟨y1, y2, y3, y4⟩
  intro f
  induction f with
  | zero => intro q v N h0 h1 h2 h3 h4 h5; omega
  | succ f ih =>
    intro q v N h0 h1 h2 h3 h4 h5
    obtain ⟨N, rfl⟩ : ∃ n', N = n' + 1 := ⟨N - 1, by omega⟩
    have c1 := C_135 (F := F) (L := L) (xs := xs) (d := d) (a1 := q) Y
    by_cases ha : dg1 (bt b n q)
    · have hqn : q < n := by
        by_cases z : q < n
        · exact z
        · have := bt_n (b := b) (n := n) (p := q) (by omega)
          omega
      have e1 : nS (bt b n) (f + 1) q v = nS (bt b n) f (q + 1) (imin (v * 10 + bt b n q - 48) 32768) := if_pos ha
      rw [e1]
      have hv : 0 ≤ imin (v * 10 + bt b n q - 48) 32768 ∧ imin (v * 10 + bt b n q - 48) 32768 ≤ 32768 := by
        unfold imin
        split <;> omega
      obtain ⟨c6, i3, i4, i5, i6⟩ := ih (q + 1) (imin (v * 10 + bt b n q - 48) 32768) N (by omega) (by omega) (by omega) (by omega) hv.1 hv.2
      refine ⟨?_, by omega, i4, i5, i6⟩
      have c2 := C_143t (F := F) (d := d) (h := Hp L xs m) ha
      rw [lf_s]
      simp (disch := first | omega | assumption) only [ea_140_0, eb_140_0, ec_140_0, l1_i, l1_1, l1_0, l2_0, l2_1, l2_2, l2_3, l3_0, w2_0, w2_1, w2_2, w2_3, d1_0, d1_1, d1_2, d1_3, d2_i, d2_1, d2_0, ev_0, ev_1, ev_16, ev_17, ev_18, ev_2, ev_3, ev_4, ev_5, ev_6, ev_7, ev_8, ev_9, ev_20, ev_21, ev_22, ev_23, ev_24, ev_25, ev_27, ev_28, ev_30, ev_31, ev_32, ev_33, ev_34, ev_35, ev_36, ev_37, ev_38, ev_39, ev_40, ev_41, ev_42, ev_43, ev_45, ev_46, ev_47, ev_48, ev_49, ev_50, ev_51, ev_52, ev_54, ev_55, ev_57, ev_58, ev_59, k2_0, k2_1, k2_2, k3a, k3b, k4, o1_s, xbin_0, xbin_1, xbin_2, xbin_3, xbin_4, xbin_5, xbin_6, xbin_7, xbin_8, xbin_9, xbin_11, xbin_12, xun_0, xun_1, xun_2, xun_3, xun_4, xun_5, k6a, k8, k8b, k9, k20, k20b_0, k20b_1, k20b_2, k20b_3, k20b_4, k20b_5, k21_0, k21_1, k21_2, k21_3, k21_4, k21_5, k23, k24, k25, k27, k28, k40, nz_1, nz_2, nz_3, k31_0, k31_1, k31_2, k31_3, k32u, k33, k34, k35, k35b, k36, k37, k38, k47, k49, k49b_0, k49b_1, k49b_2, k49b_3, k50_0, k50_s, k51_0, k51_s, k55, k58, k58b, rk_0, rk_1, rk_2, rk_9, rk_3, rk_4, rk_5, sw_n, sw_c, xtb_n, xtb_c, lset_0, lset_2, lset_1, lkm_0, lkm_2, lkm_9, lkm_1, lkm_n, if_some1, c_10, c_01, c_x0, c_1x, c_n0, c_nn, List.getElem?_cons_zero, List.getElem?_cons_succ, List.set_cons_zero, List.set_cons_succ, List.length_cons, List.length_nil, Int.reduceToNat, Nat.reduceDiv, Nat.reduceMod, Nat.reduceSub, Nat.reduceAdd, Nat.reduceMul, Nat.reduceLT, Nat.reduceLeDiff, Nat.reduceEqDiff, Int.reduceMod, Int.reduceSub, Int.reduceNeg, Int.reduceAdd, Int.reduceMul, Int.reduceLT, Int.reduceLE, Int.reduceEq, put_ss, if_true, if_false, ite_true, ite_false, reduceIte, eq_self, and_true, true_and, and_false, false_and, or_true, true_or, or_false, false_or, not_true_eq_false, not_false_eq_true, k5_51_1, k34_51_1, k54_51_1, k54b_51_1_0, y1, hqn, c1, c2, w32_of, C_344, c6]
    · have e1 : nS (bt b n) (f + 1) q v = (q, v) := if_neg ha
      rw [e1]
      refine ⟨?_, by omega, by omega, by omega, by omega⟩
      have c2 := C_143f (F := F) (d := d) (h := Hp L xs m) ha
      rw [lf_s]
      by_cases hqn : q < n
      · simp (disch := first | omega | assumption) only [ea_140_0, eb_140_0, ec_140_0, l1_i, l1_1, l1_0, l2_0, l2_1, l2_2, l2_3, l3_0, w2_0, w2_1, w2_2, w2_3, d1_0, d1_1, d1_2, d1_3, d2_i, d2_1, d2_0, ev_0, ev_1, ev_16, ev_17, ev_18, ev_2, ev_3, ev_4, ev_5, ev_6, ev_7, ev_8, ev_9, ev_20, ev_21, ev_22, ev_23, ev_24, ev_25, ev_27, ev_28, ev_30, ev_31, ev_32, ev_33, ev_34, ev_35, ev_36, ev_37, ev_38, ev_39, ev_40, ev_41, ev_42, ev_43, ev_45, ev_46, ev_47, ev_48, ev_49, ev_50, ev_51, ev_52, ev_54, ev_55, ev_57, ev_58, ev_59, k2_0, k2_1, k2_2, k3a, k3b, k4, o1_s, xbin_0, xbin_1, xbin_2, xbin_3, xbin_4, xbin_5, xbin_6, xbin_7, xbin_8, xbin_9, xbin_11, xbin_12, xun_0, xun_1, xun_2, xun_3, xun_4, xun_5, k6a, k8, k8b, k9, k20, k20b_0, k20b_1, k20b_2, k20b_3, k20b_4, k20b_5, k21_0, k21_1, k21_2, k21_3, k21_4, k21_5, k23, k24, k25, k27, k28, k40, nz_1, nz_2, nz_3, k31_0, k31_1, k31_2, k31_3, k32u, k33, k34, k35, k35b, k36, k37, k38, k47, k49, k49b_0, k49b_1, k49b_2, k49b_3, k50_0, k50_s, k51_0, k51_s, k55, k58, k58b, rk_0, rk_1, rk_2, rk_9, rk_3, rk_4, rk_5, sw_n, sw_c, xtb_n, xtb_c, lset_0, lset_2, lset_1, lkm_0, lkm_2, lkm_9, lkm_1, lkm_n, if_some1, c_10, c_01, c_x0, c_1x, c_n0, c_nn, List.getElem?_cons_zero, List.getElem?_cons_succ, List.set_cons_zero, List.set_cons_succ, List.length_cons, List.length_nil, Int.reduceToNat, Nat.reduceDiv, Nat.reduceMod, Nat.reduceSub, Nat.reduceAdd, Nat.reduceMul, Nat.reduceLT, Nat.reduceLeDiff, Nat.reduceEqDiff, Int.reduceMod, Int.reduceSub, Int.reduceNeg, Int.reduceAdd, Int.reduceMul, Int.reduceLT, Int.reduceLE, Int.reduceEq, put_ss, if_true, if_false, ite_true, ite_false, reduceIte, eq_self, and_true, true_and, and_false, false_and, or_true, true_or, or_false, false_or, not_true_eq_false, not_false_eq_true, k5_51_1, k34_51_1, k54_51_1, k54b_51_1_0, y1, hqn, c1, c2, w32_of]
      · simp (disch := first | omega | assumption) only [ea_140_0, eb_140_0, ec_140_0, l1_i, l1_1, l1_0, l2_0, l2_1, l2_2, l2_3, l3_0, w2_0, w2_1, w2_2, w2_3, d1_0, d1_1, d1_2, d1_3, d2_i, d2_1, d2_0, ev_0, ev_1, ev_16, ev_17, ev_18, ev_2, ev_3, ev_4, ev_5, ev_6, ev_7, ev_8, ev_9, ev_20, ev_21, ev_22, ev_23, ev_24, ev_25, ev_27, ev_28, ev_30, ev_31, ev_32, ev_33, ev_34, ev_35, ev_36, ev_37, ev_38, ev_39, ev_40, ev_41, ev_42, ev_43, ev_45, ev_46, ev_47, ev_48, ev_49, ev_50, ev_51, ev_52, ev_54, ev_55, ev_57, ev_58, ev_59, k2_0, k2_1, k2_2, k3a, k3b, k4, o1_s, xbin_0, xbin_1, xbin_2, xbin_3, xbin_4, xbin_5, xbin_6, xbin_7, xbin_8, xbin_9, xbin_11, xbin_12, xun_0, xun_1, xun_2, xun_3, xun_4, xun_5, k6a, k8, k8b, k9, k20, k20b_0, k20b_1, k20b_2, k20b_3, k20b_4, k20b_5, k21_0, k21_1, k21_2, k21_3, k21_4, k21_5, k23, k24, k25, k27, k28, k40, nz_1, nz_2, nz_3, k31_0, k31_1, k31_2, k31_3, k32u, k33, k34, k35, k35b, k36, k37, k38, k47, k49, k49b_0, k49b_1, k49b_2, k49b_3, k50_0, k50_s, k51_0, k51_s, k55, k58, k58b, rk_0, rk_1, rk_2, rk_9, rk_3, rk_4, rk_5, sw_n, sw_c, xtb_n, xtb_c, lset_0, lset_2, lset_1, lkm_0, lkm_2, lkm_9, lkm_1, lkm_n, if_some1, c_10, c_01, c_x0, c_1x, c_n0, c_nn, List.getElem?_cons_zero, List.getElem?_cons_succ, List.set_cons_zero, List.set_cons_succ, List.length_cons, List.length_nil, Int.reduceToNat, Nat.reduceDiv, Nat.reduceMod, Nat.reduceSub, Nat.reduceAdd, Nat.reduceMul, Nat.reduceLT, Nat.reduceLeDiff, Nat.reduceEqDiff, Int.reduceMod, Int.reduceSub, Int.reduceNeg, Int.reduceAdd, Int.reduceMul, Int.reduceLT, Int.reduceLE, Int.reduceEq, put_ss, if_true, if_false, ite_true, ite_false, reduceIte, eq_self, and_true, true_and, and_false, false_and, or_true, true_or, or_false, false_or, not_true_eq_false, not_false_eq_true, k5_51_1, k34_51_1, k54_51_1, k54b_51_1_0, y1, hqn, c1, c2, w32_of]
/-- a token stands well -/
def TkG (t : Int × Int × Int × Int) (n p : Int) : Prop := (t.1 = 5 ∧ t.2.2.2 = -1 ∧ p ≤ t.2.1 ∧ t.2.1 < n ∧ t.2.2.1 = 0) ∨ (1 ≤ t.1 ∧ t.1 ≤ 4 ∧ t.2.1 = p ∧ p < t.2.2.2 ∧ t.2.2.2 ≤ n)
theorem wS_g (B : Int → Int) : ∀ (f : Nat) (q v : Int), q ≤ (wd7 B f q v).1 ∧ (lt1 (B q) ∨ dg1 (B q) → 0 < f → q + 1 ≤ (wd7 B f q v).1)
  | 0, q, v => ⟨Int.le_refl _, fun _ h => absurd h (by omega)⟩
  | f + 1, q, v => by
    by_cases ha : lt1 (B q) ∨ dg1 (B q)
    · have e1 : wd7 B (f + 1) q v = wd7 B f (q + 1) (w64 (w64 (v * 37) + sy7 (B q))) := if_pos ha
      rw [e1]
      have := (wS_g B f (q + 1) (w64 (w64 (v * 37) + sy7 (B q)))).1
      exact ⟨by omega, fun _ _ => this⟩
    · have e1 : wd7 B (f + 1) q v = (q, v, false) := if_neg ha
      rw [e1]
      exact ⟨Int.le_refl _, fun z _ => absurd z ha⟩
theorem C_138 (hF : 100000 ≤ F) (Y : BY m b n) (hK : KYc m) (hp : 0 ≤ p) (hpn : p < n) (g0 : 0 ≤ m 51 5) (g1 : m 51 5 ≤ 3000) (g2 : 0 ≤ m 57 4) (g3 : m 57 4 < 1510) : Cx F (d + 6) 138 [51, p, 57] (Hp L xs m) = some ([if (tok b n p).2.2.2 = -1 then n else (tok b n p).2.2.2], Hp L xs (tkF m (tok b n p))) ∧ TkG (tok b n p) n p := by
  obtain ⟨y1, y2, y3, y4⟩ := Y
  have Y : BY m b n := ⟨y1, y2, y3, y4⟩
  obtain ⟨b1, b2, b3, b4⟩ := BY_b Y (p := p) hp hpn
  have c1 := C_135 (F := F) (L := L) (xs := xs) (d := d + 4) (a1 := p) Y
  unfold tok
  by_cases hl : lt1 (bt b n p)
  · rw [if_pos hl]
    have c2 := C_142t (F := F) (d := d + 4) (h := Hp L xs m) hl
    have c3 := C_139 (L := L) (xs := xs) (d := d + 2) hF Y hK hp (by omega) g0 g1 g2 g3
    obtain ⟨i1, i2, i3, i4, i5⟩ := L_139 (F := F) (L := L) (xs := xs) (d := d) Y hp g0 g1 12 p 0 F (by omega) (by omega) (by omega) (by omega)
    have i6 := (wS_g (bt b n) 12 p 0).2 (Or.inl hl) (by decide)
    unfold wF at c3
    cases hw : (wd7 (bt b n) 12 p 0).2.2 with
    | true =>
      rw [hw] at c3
      simp only [if_true] at c3 ⊢
      refine ⟨?_, Or.inl ⟨rfl, rfl, i3, i5 hw, rfl⟩⟩
      have e2 : tkF m (5, (wd7 (bt b n) 12 p 0).1, 0, -1) = aF m 1 (wd7 (bt b n) 12 p 0).1 0 := rfl
      rw [e2]
      simp (disch := first | omega | assumption) only [c_138, tr_138, ev_0, ev_1, ev_16, ev_17, ev_18, ev_2, ev_3, ev_4, ev_5, ev_6, ev_7, ev_8, ev_9, ev_20, ev_21, ev_22, ev_23, ev_24, ev_25, ev_27, ev_28, ev_30, ev_31, ev_32, ev_33, ev_34, ev_35, ev_36, ev_37, ev_38, ev_39, ev_40, ev_41, ev_42, ev_43, ev_45, ev_46, ev_47, ev_48, ev_49, ev_50, ev_51, ev_52, ev_54, ev_55, ev_57, ev_58, ev_59, k2_0, k2_1, k2_2, k3a, k3b, k4, o1_s, xbin_0, xbin_1, xbin_2, xbin_3, xbin_4, xbin_5, xbin_6, xbin_7, xbin_8, xbin_9, xbin_11, xbin_12, xun_0, xun_1, xun_2, xun_3, xun_4, xun_5, k6a, k8, k8b, k9, k20, k20b_0, k20b_1, k20b_2, k20b_3, k20b_4, k20b_5, k21_0, k21_1, k21_2, k21_3, k21_4, k21_5, k23, k24, k25, k27, k28, k40, nz_1, nz_2, nz_3, k31_0, k31_1, k31_2, k31_3, k32u, k33, k34, k35, k35b, k36, k37, k38, k47, k49, k49b_0, k49b_1, k49b_2, k49b_3, k50_0, k50_s, k51_0, k51_s, k55, k58, k58b, rk_0, rk_1, rk_2, rk_9, rk_3, rk_4, rk_5, sw_n, sw_c, xtb_n, xtb_c, lset_0, lset_2, lset_1, lkm_0, lkm_2, lkm_9, lkm_1, lkm_n, if_some1, c_10, c_01, c_x0, c_1x, c_n0, c_nn, List.getElem?_cons_zero, List.getElem?_cons_succ, List.set_cons_zero, List.set_cons_succ, List.length_cons, List.length_nil, Int.reduceToNat, Nat.reduceDiv, Nat.reduceMod, Nat.reduceSub, Nat.reduceAdd, Nat.reduceMul, Nat.reduceLT, Nat.reduceLeDiff, Nat.reduceEqDiff, Int.reduceMod, Int.reduceSub, Int.reduceNeg, Int.reduceAdd, Int.reduceMul, Int.reduceLT, Int.reduceLE, Int.reduceEq, put_ss, if_true, if_false, ite_true, ite_false, reduceIte, eq_self, and_true, true_and, and_false, false_and, or_true, true_or, or_false, false_or, not_true_eq_false, not_false_eq_true, c1, c2, c3]
    | false =>
      rw [hw] at c3
      simp only [Bool.false_eq_true, if_false] at c3 ⊢
      have h9 : ¬ (wd7 (bt b n) 12 p 0).1 = -1 := by omega
      by_cases hk : kyN (wd7 (bt b n) 12 p 0).2.1 = -1
      · rw [if_pos hk] at c3 ⊢
        refine ⟨?_, Or.inr ⟨by dsimp only; omega, by dsimp only; omega, rfl, i6, i4⟩⟩
        have e2 : tkF m (1, p, (wd7 (bt b n) 12 p 0).2.1, (wd7 (bt b n) 12 p 0).1) = aF (idM m (wd7 (bt b n) 12 p 0).2.1) 2 p (idv m (wd7 (bt b n) 12 p 0).2.1) := rfl
        rw [e2]
        simp (disch := first | omega | assumption) only [c_138, tr_138, ev_0, ev_1, ev_16, ev_17, ev_18, ev_2, ev_3, ev_4, ev_5, ev_6, ev_7, ev_8, ev_9, ev_20, ev_21, ev_22, ev_23, ev_24, ev_25, ev_27, ev_28, ev_30, ev_31, ev_32, ev_33, ev_34, ev_35, ev_36, ev_37, ev_38, ev_39, ev_40, ev_41, ev_42, ev_43, ev_45, ev_46, ev_47, ev_48, ev_49, ev_50, ev_51, ev_52, ev_54, ev_55, ev_57, ev_58, ev_59, k2_0, k2_1, k2_2, k3a, k3b, k4, o1_s, xbin_0, xbin_1, xbin_2, xbin_3, xbin_4, xbin_5, xbin_6, xbin_7, xbin_8, xbin_9, xbin_11, xbin_12, xun_0, xun_1, xun_2, xun_3, xun_4, xun_5, k6a, k8, k8b, k9, k20, k20b_0, k20b_1, k20b_2, k20b_3, k20b_4, k20b_5, k21_0, k21_1, k21_2, k21_3, k21_4, k21_5, k23, k24, k25, k27, k28, k40, nz_1, nz_2, nz_3, k31_0, k31_1, k31_2, k31_3, k32u, k33, k34, k35, k35b, k36, k37, k38, k47, k49, k49b_0, k49b_1, k49b_2, k49b_3, k50_0, k50_s, k51_0, k51_s, k55, k58, k58b, rk_0, rk_1, rk_2, rk_9, rk_3, rk_4, rk_5, sw_n, sw_c, xtb_n, xtb_c, lset_0, lset_2, lset_1, lkm_0, lkm_2, lkm_9, lkm_1, lkm_n, if_some1, c_10, c_01, c_x0, c_1x, c_n0, c_nn, List.getElem?_cons_zero, List.getElem?_cons_succ, List.set_cons_zero, List.set_cons_succ, List.length_cons, List.length_nil, Int.reduceToNat, Nat.reduceDiv, Nat.reduceMod, Nat.reduceSub, Nat.reduceAdd, Nat.reduceMul, Nat.reduceLT, Nat.reduceLeDiff, Nat.reduceEqDiff, Int.reduceMod, Int.reduceSub, Int.reduceNeg, Int.reduceAdd, Int.reduceMul, Int.reduceLT, Int.reduceLE, Int.reduceEq, put_ss, if_true, if_false, ite_true, ite_false, reduceIte, eq_self, and_true, true_and, and_false, false_and, or_true, true_or, or_false, false_or, not_true_eq_false, not_false_eq_true, c1, c2, c3, h9]
      · rw [if_neg hk] at c3 ⊢
        refine ⟨?_, Or.inr ⟨by dsimp only; omega, by dsimp only; omega, rfl, i6, i4⟩⟩
        have e2 : tkF m (3, p, kyN (wd7 (bt b n) 12 p 0).2.1, (wd7 (bt b n) 12 p 0).1) = aF m (4 + kyN (wd7 (bt b n) 12 p 0).2.1) p 0 := rfl
        rw [e2]
        simp (disch := first | omega | assumption) only [c_138, tr_138, ev_0, ev_1, ev_16, ev_17, ev_18, ev_2, ev_3, ev_4, ev_5, ev_6, ev_7, ev_8, ev_9, ev_20, ev_21, ev_22, ev_23, ev_24, ev_25, ev_27, ev_28, ev_30, ev_31, ev_32, ev_33, ev_34, ev_35, ev_36, ev_37, ev_38, ev_39, ev_40, ev_41, ev_42, ev_43, ev_45, ev_46, ev_47, ev_48, ev_49, ev_50, ev_51, ev_52, ev_54, ev_55, ev_57, ev_58, ev_59, k2_0, k2_1, k2_2, k3a, k3b, k4, o1_s, xbin_0, xbin_1, xbin_2, xbin_3, xbin_4, xbin_5, xbin_6, xbin_7, xbin_8, xbin_9, xbin_11, xbin_12, xun_0, xun_1, xun_2, xun_3, xun_4, xun_5, k6a, k8, k8b, k9, k20, k20b_0, k20b_1, k20b_2, k20b_3, k20b_4, k20b_5, k21_0, k21_1, k21_2, k21_3, k21_4, k21_5, k23, k24, k25, k27, k28, k40, nz_1, nz_2, nz_3, k31_0, k31_1, k31_2, k31_3, k32u, k33, k34, k35, k35b, k36, k37, k38, k47, k49, k49b_0, k49b_1, k49b_2, k49b_3, k50_0, k50_s, k51_0, k51_s, k55, k58, k58b, rk_0, rk_1, rk_2, rk_9, rk_3, rk_4, rk_5, sw_n, sw_c, xtb_n, xtb_c, lset_0, lset_2, lset_1, lkm_0, lkm_2, lkm_9, lkm_1, lkm_n, if_some1, c_10, c_01, c_x0, c_1x, c_n0, c_nn, List.getElem?_cons_zero, List.getElem?_cons_succ, List.set_cons_zero, List.set_cons_succ, List.length_cons, List.length_nil, Int.reduceToNat, Nat.reduceDiv, Nat.reduceMod, Nat.reduceSub, Nat.reduceAdd, Nat.reduceMul, Nat.reduceLT, Nat.reduceLeDiff, Nat.reduceEqDiff, Int.reduceMod, Int.reduceSub, Int.reduceNeg, Int.reduceAdd, Int.reduceMul, Int.reduceLT, Int.reduceLE, Int.reduceEq, put_ss, if_true, if_false, ite_true, ite_false, reduceIte, eq_self, and_true, true_and, and_false, false_and, or_true, true_or, or_false, false_or, not_true_eq_false, not_false_eq_true, c1, c2, c3, h9]
  · rw [if_neg hl]
    have c2 := C_142f (F := F) (d := d + 4) (h := Hp L xs m) hl
    by_cases hd1 : dg1 (bt b n p)
    · rw [if_pos hd1]
      have c3 := C_143t (F := F) (d := d + 4) (h := Hp L xs m) hd1
      obtain ⟨c4, i3, i4, i5, i6⟩ := L_140 (F := F) (L := L) (xs := xs) (d := d + 3) (p := p) Y (n - p + 1).toNat p 0 F hp (by omega) (by omega) (by omega) (by omega) (by omega)
      have i7 : p + 1 ≤ (nS (bt b n) (n - p + 1).toNat p 0).1 := by
        obtain ⟨f, hf⟩ : ∃ f, (n - p + 1).toNat = f + 1 := ⟨(n - p).toNat, by omega⟩
        have e1 : nS (bt b n) (f + 1) p 0 = nS (bt b n) f (p + 1) (imin (0 * 10 + bt b n p - 48) 32768) := if_pos hd1
        rw [hf, e1]
        have hv : 0 ≤ imin (0 * 10 + bt b n p - 48) 32768 ∧ imin (0 * 10 + bt b n p - 48) 32768 ≤ 32768 := by
          unfold imin
          split <;> omega
        exact (L_140 (F := F) (L := L) (xs := xs) (d := d + 3) (p := p) Y f (p + 1) _ F (by omega) (by omega) (by omega) (by omega) hv.1 hv.2).2.1
      generalize hw : nS (bt b n) (n - p + 1).toNat p 0 = w at *
      obtain ⟨q, v⟩ := w
      simp only at c4 i3 i4 i5 i6 i7 ⊢
      by_cases hv : v ≤ 32767
      · rw [if_pos hv]
        have hv2 : ¬ 32767 < v := by omega
        have h9 : ¬ q = -1 := by omega
        have c5 := C_136 (F := F) (L := L) (xs := xs) (d := d + 3) (m := m) (k := 3) (p := p) (v := v) g0 g1
        refine ⟨?_, Or.inr ⟨by dsimp only; omega, by dsimp only; omega, rfl, by show p < q; omega, i4⟩⟩
        have e2 : tkF m (2, p, v, q) = aF m 3 p v := rfl
        rw [e2]
        simp (disch := first | omega | assumption) only [c_138, tr_138, c_140, tx_140, ev_0, ev_1, ev_16, ev_17, ev_18, ev_2, ev_3, ev_4, ev_5, ev_6, ev_7, ev_8, ev_9, ev_20, ev_21, ev_22, ev_23, ev_24, ev_25, ev_27, ev_28, ev_30, ev_31, ev_32, ev_33, ev_34, ev_35, ev_36, ev_37, ev_38, ev_39, ev_40, ev_41, ev_42, ev_43, ev_45, ev_46, ev_47, ev_48, ev_49, ev_50, ev_51, ev_52, ev_54, ev_55, ev_57, ev_58, ev_59, k2_0, k2_1, k2_2, k3a, k3b, k4, o1_s, xbin_0, xbin_1, xbin_2, xbin_3, xbin_4, xbin_5, xbin_6, xbin_7, xbin_8, xbin_9, xbin_11, xbin_12, xun_0, xun_1, xun_2, xun_3, xun_4, xun_5, k6a, k8, k8b, k9, k20, k20b_0, k20b_1, k20b_2, k20b_3, k20b_4, k20b_5, k21_0, k21_1, k21_2, k21_3, k21_4, k21_5, k23, k24, k25, k27, k28, k40, nz_1, nz_2, nz_3, k31_0, k31_1, k31_2, k31_3, k32u, k33, k34, k35, k35b, k36, k37, k38, k47, k49, k49b_0, k49b_1, k49b_2, k49b_3, k50_0, k50_s, k51_0, k51_s, k55, k58, k58b, rk_0, rk_1, rk_2, rk_9, rk_3, rk_4, rk_5, sw_n, sw_c, xtb_n, xtb_c, lset_0, lset_2, lset_1, lkm_0, lkm_2, lkm_9, lkm_1, lkm_n, if_some1, c_10, c_01, c_x0, c_1x, c_n0, c_nn, List.getElem?_cons_zero, List.getElem?_cons_succ, List.set_cons_zero, List.set_cons_succ, List.length_cons, List.length_nil, Int.reduceToNat, Nat.reduceDiv, Nat.reduceMod, Nat.reduceSub, Nat.reduceAdd, Nat.reduceMul, Nat.reduceLT, Nat.reduceLeDiff, Nat.reduceEqDiff, Int.reduceMod, Int.reduceSub, Int.reduceNeg, Int.reduceAdd, Int.reduceMul, Int.reduceLT, Int.reduceLE, Int.reduceEq, put_ss, if_true, if_false, ite_true, ite_false, reduceIte, eq_self, and_true, true_and, and_false, false_and, or_true, true_or, or_false, false_or, not_true_eq_false, not_false_eq_true, c1, c2, c3, c4, hv2, c5, h9]
      · rw [if_neg hv]
        have hv2 : 32767 < v := by omega
        have c5 := C_136 (F := F) (L := L) (xs := xs) (d := d + 3) (m := m) (k := 1) (p := p) (v := 0) g0 g1
        have e51 : aF m 1 p 0 51 1 = n := y1
        refine ⟨?_, Or.inl ⟨rfl, rfl, Int.le_refl _, hpn, rfl⟩⟩
        have e2 : tkF m (5, p, 0, -1) = aF m 1 p 0 := rfl
        rw [e2]
        simp (disch := first | omega | assumption) only [c_138, tr_138, c_140, tx_140, ev_0, ev_1, ev_16, ev_17, ev_18, ev_2, ev_3, ev_4, ev_5, ev_6, ev_7, ev_8, ev_9, ev_20, ev_21, ev_22, ev_23, ev_24, ev_25, ev_27, ev_28, ev_30, ev_31, ev_32, ev_33, ev_34, ev_35, ev_36, ev_37, ev_38, ev_39, ev_40, ev_41, ev_42, ev_43, ev_45, ev_46, ev_47, ev_48, ev_49, ev_50, ev_51, ev_52, ev_54, ev_55, ev_57, ev_58, ev_59, k2_0, k2_1, k2_2, k3a, k3b, k4, o1_s, xbin_0, xbin_1, xbin_2, xbin_3, xbin_4, xbin_5, xbin_6, xbin_7, xbin_8, xbin_9, xbin_11, xbin_12, xun_0, xun_1, xun_2, xun_3, xun_4, xun_5, k6a, k8, k8b, k9, k20, k20b_0, k20b_1, k20b_2, k20b_3, k20b_4, k20b_5, k21_0, k21_1, k21_2, k21_3, k21_4, k21_5, k23, k24, k25, k27, k28, k40, nz_1, nz_2, nz_3, k31_0, k31_1, k31_2, k31_3, k32u, k33, k34, k35, k35b, k36, k37, k38, k47, k49, k49b_0, k49b_1, k49b_2, k49b_3, k50_0, k50_s, k51_0, k51_s, k55, k58, k58b, rk_0, rk_1, rk_2, rk_9, rk_3, rk_4, rk_5, sw_n, sw_c, xtb_n, xtb_c, lset_0, lset_2, lset_1, lkm_0, lkm_2, lkm_9, lkm_1, lkm_n, if_some1, c_10, c_01, c_x0, c_1x, c_n0, c_nn, List.getElem?_cons_zero, List.getElem?_cons_succ, List.set_cons_zero, List.set_cons_succ, List.length_cons, List.length_nil, Int.reduceToNat, Nat.reduceDiv, Nat.reduceMod, Nat.reduceSub, Nat.reduceAdd, Nat.reduceMul, Nat.reduceLT, Nat.reduceLeDiff, Nat.reduceEqDiff, Int.reduceMod, Int.reduceSub, Int.reduceNeg, Int.reduceAdd, Int.reduceMul, Int.reduceLT, Int.reduceLE, Int.reduceEq, put_ss, if_true, if_false, ite_true, ite_false, reduceIte, eq_self, and_true, true_and, and_false, false_and, or_true, true_or, or_false, false_or, not_true_eq_false, not_false_eq_true, k5_51_1, k34_51_1, k54_51_1, k54b_51_1_0, c1, c2, c3, c4, hv2, c5, e51]
    · rw [if_neg hd1]
      have c3 := C_143f (F := F) (d := d + 4) (h := Hp L xs m) hd1
      have c4 := C_135 (F := F) (L := L) (xs := xs) (d := d + 3) (a1 := p) Y
      have c5 := C_135 (F := F) (L := L) (xs := xs) (d := d + 3) (a1 := p + 1) Y
      by_cases ht : tw1 (bt b n p) ∧ bt b n (p + 1) = 61
      · rw [if_pos ht]
        obtain ⟨ht, hu⟩ := ht
        rw [hu] at c5
        have hp1 : p + 1 < n := by
          by_cases z : p + 1 < n
          · exact z
          · have := bt_n (b := b) (n := n) (p := p + 1) (by omega)
            omega
        have h9 : ¬ p + 2 = -1 := by omega
        refine ⟨?_, Or.inr ⟨by dsimp only; omega, by dsimp only; omega, rfl, by show p < p + 2; omega, by show p + 2 ≤ n; omega⟩⟩
        rcases ht with ht | ht | ht | ht
        · rw [ht] at c1 c2 c3 c4 ⊢
          have c6 := C_136 (F := F) (L := L) (xs := xs) (d := d + 3) (m := m) (k := 317) (p := p) (v := 0) g0 g1
          have e2 : tkF m (4, p, (if (61 : Int) = 61 then 300 else if (61 : Int) = 33 then 301 else if (61 : Int) = 60 then 302 else 303), p + 2) = aF m 317 p 0 := rfl
          rw [e2]
          simp (disch := first | omega | assumption) only [c_138, tr_138, c_141, tr_141, ev_0, ev_1, ev_16, ev_17, ev_18, ev_2, ev_3, ev_4, ev_5, ev_6, ev_7, ev_8, ev_9, ev_20, ev_21, ev_22, ev_23, ev_24, ev_25, ev_27, ev_28, ev_30, ev_31, ev_32, ev_33, ev_34, ev_35, ev_36, ev_37, ev_38, ev_39, ev_40, ev_41, ev_42, ev_43, ev_45, ev_46, ev_47, ev_48, ev_49, ev_50, ev_51, ev_52, ev_54, ev_55, ev_57, ev_58, ev_59, k2_0, k2_1, k2_2, k3a, k3b, k4, o1_s, xbin_0, xbin_1, xbin_2, xbin_3, xbin_4, xbin_5, xbin_6, xbin_7, xbin_8, xbin_9, xbin_11, xbin_12, xun_0, xun_1, xun_2, xun_3, xun_4, xun_5, k6a, k8, k8b, k9, k20, k20b_0, k20b_1, k20b_2, k20b_3, k20b_4, k20b_5, k21_0, k21_1, k21_2, k21_3, k21_4, k21_5, k23, k24, k25, k27, k28, k40, nz_1, nz_2, nz_3, k31_0, k31_1, k31_2, k31_3, k32u, k33, k34, k35, k35b, k36, k37, k38, k47, k49, k49b_0, k49b_1, k49b_2, k49b_3, k50_0, k50_s, k51_0, k51_s, k55, k58, k58b, rk_0, rk_1, rk_2, rk_9, rk_3, rk_4, rk_5, sw_n, sw_c, xtb_n, xtb_c, lset_0, lset_2, lset_1, lkm_0, lkm_2, lkm_9, lkm_1, lkm_n, if_some1, c_10, c_01, c_x0, c_1x, c_n0, c_nn, List.getElem?_cons_zero, List.getElem?_cons_succ, List.set_cons_zero, List.set_cons_succ, List.length_cons, List.length_nil, Int.reduceToNat, Nat.reduceDiv, Nat.reduceMod, Nat.reduceSub, Nat.reduceAdd, Nat.reduceMul, Nat.reduceLT, Nat.reduceLeDiff, Nat.reduceEqDiff, Int.reduceMod, Int.reduceSub, Int.reduceNeg, Int.reduceAdd, Int.reduceMul, Int.reduceLT, Int.reduceLE, Int.reduceEq, put_ss, if_true, if_false, ite_true, ite_false, reduceIte, eq_self, and_true, true_and, and_false, false_and, or_true, true_or, or_false, false_or, not_true_eq_false, not_false_eq_true, c1, c2, c3, c4, c5, c6, w32_of, h9]
        · rw [ht] at c1 c2 c3 c4 ⊢
          have c6 := C_136 (F := F) (L := L) (xs := xs) (d := d + 3) (m := m) (k := 289) (p := p) (v := 0) g0 g1
          have e2 : tkF m (4, p, (if (33 : Int) = 61 then 300 else if (33 : Int) = 33 then 301 else if (33 : Int) = 60 then 302 else 303), p + 2) = aF m 289 p 0 := rfl
          rw [e2]
          simp (disch := first | omega | assumption) only [c_138, tr_138, c_141, tr_141, ev_0, ev_1, ev_16, ev_17, ev_18, ev_2, ev_3, ev_4, ev_5, ev_6, ev_7, ev_8, ev_9, ev_20, ev_21, ev_22, ev_23, ev_24, ev_25, ev_27, ev_28, ev_30, ev_31, ev_32, ev_33, ev_34, ev_35, ev_36, ev_37, ev_38, ev_39, ev_40, ev_41, ev_42, ev_43, ev_45, ev_46, ev_47, ev_48, ev_49, ev_50, ev_51, ev_52, ev_54, ev_55, ev_57, ev_58, ev_59, k2_0, k2_1, k2_2, k3a, k3b, k4, o1_s, xbin_0, xbin_1, xbin_2, xbin_3, xbin_4, xbin_5, xbin_6, xbin_7, xbin_8, xbin_9, xbin_11, xbin_12, xun_0, xun_1, xun_2, xun_3, xun_4, xun_5, k6a, k8, k8b, k9, k20, k20b_0, k20b_1, k20b_2, k20b_3, k20b_4, k20b_5, k21_0, k21_1, k21_2, k21_3, k21_4, k21_5, k23, k24, k25, k27, k28, k40, nz_1, nz_2, nz_3, k31_0, k31_1, k31_2, k31_3, k32u, k33, k34, k35, k35b, k36, k37, k38, k47, k49, k49b_0, k49b_1, k49b_2, k49b_3, k50_0, k50_s, k51_0, k51_s, k55, k58, k58b, rk_0, rk_1, rk_2, rk_9, rk_3, rk_4, rk_5, sw_n, sw_c, xtb_n, xtb_c, lset_0, lset_2, lset_1, lkm_0, lkm_2, lkm_9, lkm_1, lkm_n, if_some1, c_10, c_01, c_x0, c_1x, c_n0, c_nn, List.getElem?_cons_zero, List.getElem?_cons_succ, List.set_cons_zero, List.set_cons_succ, List.length_cons, List.length_nil, Int.reduceToNat, Nat.reduceDiv, Nat.reduceMod, Nat.reduceSub, Nat.reduceAdd, Nat.reduceMul, Nat.reduceLT, Nat.reduceLeDiff, Nat.reduceEqDiff, Int.reduceMod, Int.reduceSub, Int.reduceNeg, Int.reduceAdd, Int.reduceMul, Int.reduceLT, Int.reduceLE, Int.reduceEq, put_ss, if_true, if_false, ite_true, ite_false, reduceIte, eq_self, and_true, true_and, and_false, false_and, or_true, true_or, or_false, false_or, not_true_eq_false, not_false_eq_true, c1, c2, c3, c4, c5, c6, w32_of, h9]
        · rw [ht] at c1 c2 c3 c4 ⊢
          have c6 := C_136 (F := F) (L := L) (xs := xs) (d := d + 3) (m := m) (k := 316) (p := p) (v := 0) g0 g1
          have e2 : tkF m (4, p, (if (60 : Int) = 61 then 300 else if (60 : Int) = 33 then 301 else if (60 : Int) = 60 then 302 else 303), p + 2) = aF m 316 p 0 := rfl
          rw [e2]
          simp (disch := first | omega | assumption) only [c_138, tr_138, c_141, tr_141, ev_0, ev_1, ev_16, ev_17, ev_18, ev_2, ev_3, ev_4, ev_5, ev_6, ev_7, ev_8, ev_9, ev_20, ev_21, ev_22, ev_23, ev_24, ev_25, ev_27, ev_28, ev_30, ev_31, ev_32, ev_33, ev_34, ev_35, ev_36, ev_37, ev_38, ev_39, ev_40, ev_41, ev_42, ev_43, ev_45, ev_46, ev_47, ev_48, ev_49, ev_50, ev_51, ev_52, ev_54, ev_55, ev_57, ev_58, ev_59, k2_0, k2_1, k2_2, k3a, k3b, k4, o1_s, xbin_0, xbin_1, xbin_2, xbin_3, xbin_4, xbin_5, xbin_6, xbin_7, xbin_8, xbin_9, xbin_11, xbin_12, xun_0, xun_1, xun_2, xun_3, xun_4, xun_5, k6a, k8, k8b, k9, k20, k20b_0, k20b_1, k20b_2, k20b_3, k20b_4, k20b_5, k21_0, k21_1, k21_2, k21_3, k21_4, k21_5, k23, k24, k25, k27, k28, k40, nz_1, nz_2, nz_3, k31_0, k31_1, k31_2, k31_3, k32u, k33, k34, k35, k35b, k36, k37, k38, k47, k49, k49b_0, k49b_1, k49b_2, k49b_3, k50_0, k50_s, k51_0, k51_s, k55, k58, k58b, rk_0, rk_1, rk_2, rk_9, rk_3, rk_4, rk_5, sw_n, sw_c, xtb_n, xtb_c, lset_0, lset_2, lset_1, lkm_0, lkm_2, lkm_9, lkm_1, lkm_n, if_some1, c_10, c_01, c_x0, c_1x, c_n0, c_nn, List.getElem?_cons_zero, List.getElem?_cons_succ, List.set_cons_zero, List.set_cons_succ, List.length_cons, List.length_nil, Int.reduceToNat, Nat.reduceDiv, Nat.reduceMod, Nat.reduceSub, Nat.reduceAdd, Nat.reduceMul, Nat.reduceLT, Nat.reduceLeDiff, Nat.reduceEqDiff, Int.reduceMod, Int.reduceSub, Int.reduceNeg, Int.reduceAdd, Int.reduceMul, Int.reduceLT, Int.reduceLE, Int.reduceEq, put_ss, if_true, if_false, ite_true, ite_false, reduceIte, eq_self, and_true, true_and, and_false, false_and, or_true, true_or, or_false, false_or, not_true_eq_false, not_false_eq_true, c1, c2, c3, c4, c5, c6, w32_of, h9]
        · rw [ht] at c1 c2 c3 c4 ⊢
          have c6 := C_136 (F := F) (L := L) (xs := xs) (d := d + 3) (m := m) (k := 318) (p := p) (v := 0) g0 g1
          have e2 : tkF m (4, p, (if (62 : Int) = 61 then 300 else if (62 : Int) = 33 then 301 else if (62 : Int) = 60 then 302 else 303), p + 2) = aF m 318 p 0 := rfl
          rw [e2]
          simp (disch := first | omega | assumption) only [c_138, tr_138, c_141, tr_141, ev_0, ev_1, ev_16, ev_17, ev_18, ev_2, ev_3, ev_4, ev_5, ev_6, ev_7, ev_8, ev_9, ev_20, ev_21, ev_22, ev_23, ev_24, ev_25, ev_27, ev_28, ev_30, ev_31, ev_32, ev_33, ev_34, ev_35, ev_36, ev_37, ev_38, ev_39, ev_40, ev_41, ev_42, ev_43, ev_45, ev_46, ev_47, ev_48, ev_49, ev_50, ev_51, ev_52, ev_54, ev_55, ev_57, ev_58, ev_59, k2_0, k2_1, k2_2, k3a, k3b, k4, o1_s, xbin_0, xbin_1, xbin_2, xbin_3, xbin_4, xbin_5, xbin_6, xbin_7, xbin_8, xbin_9, xbin_11, xbin_12, xun_0, xun_1, xun_2, xun_3, xun_4, xun_5, k6a, k8, k8b, k9, k20, k20b_0, k20b_1, k20b_2, k20b_3, k20b_4, k20b_5, k21_0, k21_1, k21_2, k21_3, k21_4, k21_5, k23, k24, k25, k27, k28, k40, nz_1, nz_2, nz_3, k31_0, k31_1, k31_2, k31_3, k32u, k33, k34, k35, k35b, k36, k37, k38, k47, k49, k49b_0, k49b_1, k49b_2, k49b_3, k50_0, k50_s, k51_0, k51_s, k55, k58, k58b, rk_0, rk_1, rk_2, rk_9, rk_3, rk_4, rk_5, sw_n, sw_c, xtb_n, xtb_c, lset_0, lset_2, lset_1, lkm_0, lkm_2, lkm_9, lkm_1, lkm_n, if_some1, c_10, c_01, c_x0, c_1x, c_n0, c_nn, List.getElem?_cons_zero, List.getElem?_cons_succ, List.set_cons_zero, List.set_cons_succ, List.length_cons, List.length_nil, Int.reduceToNat, Nat.reduceDiv, Nat.reduceMod, Nat.reduceSub, Nat.reduceAdd, Nat.reduceMul, Nat.reduceLT, Nat.reduceLeDiff, Nat.reduceEqDiff, Int.reduceMod, Int.reduceSub, Int.reduceNeg, Int.reduceAdd, Int.reduceMul, Int.reduceLT, Int.reduceLE, Int.reduceEq, put_ss, if_true, if_false, ite_true, ite_false, reduceIte, eq_self, and_true, true_and, and_false, false_and, or_true, true_or, or_false, false_or, not_true_eq_false, not_false_eq_true, c1, c2, c3, c4, c5, c6, w32_of, h9]
      · rw [if_neg ht]
        have c6 := C_5s (L := L) (xs := xs) (m := m) (d := d) (c := bt b n p) hF b2 (by omega)
        have hi := ixS_i (c := bt b n p) b2 (by omega)
        have e65 : bt b n p % 65536 = bt b n p := Int.emod_eq_of_lt b2 (by omega)
        have h9 : ¬ p + 1 = -1 := by omega
        generalize hB : bt b n p = B at *
        by_cases hs : sg1 B
        · rw [if_pos hs]
          refine ⟨?_, Or.inr ⟨by dsimp only; omega, by dsimp only; omega, rfl, by show p < p + 1; omega, by show p + 1 ≤ n; omega⟩⟩
          have c7 := C_136 (F := F) (L := L) (xs := xs) (d := d + 3) (m := m) (k := B) (p := p) (v := 0) g0 g1
          have e3 : sgn B = B := by unfold sgn; omega
          have e2 : tkF m (4, p, B, p + 1) = aF m B p 0 := by
            show aF m (sgn B) p 0 = _
            rw [e3]
          rw [e2]
          have hx : ¬ ixS (Int.bmod B 256) < 0 := fun z => (hi.1 z) hs
          by_cases ht1 : tw1 B
          · have hu : ¬ bt b n (p + 1) = 61 := fun z => ht ⟨ht1, z⟩
            rcases ht1 with ht1 | ht1 | ht1 | ht1
            all_goals
              rw [ht1] at c1 c2 c3 c4 c6 c7 hx e65 ⊢
              simp (disch := first | omega | assumption) only [c_138, tr_138, c_141, tr_141, ev_0, ev_1, ev_16, ev_17, ev_18, ev_2, ev_3, ev_4, ev_5, ev_6, ev_7, ev_8, ev_9, ev_20, ev_21, ev_22, ev_23, ev_24, ev_25, ev_27, ev_28, ev_30, ev_31, ev_32, ev_33, ev_34, ev_35, ev_36, ev_37, ev_38, ev_39, ev_40, ev_41, ev_42, ev_43, ev_45, ev_46, ev_47, ev_48, ev_49, ev_50, ev_51, ev_52, ev_54, ev_55, ev_57, ev_58, ev_59, k2_0, k2_1, k2_2, k3a, k3b, k4, o1_s, xbin_0, xbin_1, xbin_2, xbin_3, xbin_4, xbin_5, xbin_6, xbin_7, xbin_8, xbin_9, xbin_11, xbin_12, xun_0, xun_1, xun_2, xun_3, xun_4, xun_5, k6a, k8, k8b, k9, k20, k20b_0, k20b_1, k20b_2, k20b_3, k20b_4, k20b_5, k21_0, k21_1, k21_2, k21_3, k21_4, k21_5, k23, k24, k25, k27, k28, k40, nz_1, nz_2, nz_3, k31_0, k31_1, k31_2, k31_3, k32u, k33, k34, k35, k35b, k36, k37, k38, k47, k49, k49b_0, k49b_1, k49b_2, k49b_3, k50_0, k50_s, k51_0, k51_s, k55, k58, k58b, rk_0, rk_1, rk_2, rk_9, rk_3, rk_4, rk_5, sw_n, sw_c, xtb_n, xtb_c, lset_0, lset_2, lset_1, lkm_0, lkm_2, lkm_9, lkm_1, lkm_n, if_some1, c_10, c_01, c_x0, c_1x, c_n0, c_nn, List.getElem?_cons_zero, List.getElem?_cons_succ, List.set_cons_zero, List.set_cons_succ, List.length_cons, List.length_nil, Int.reduceToNat, Nat.reduceDiv, Nat.reduceMod, Nat.reduceSub, Nat.reduceAdd, Nat.reduceMul, Nat.reduceLT, Nat.reduceLeDiff, Nat.reduceEqDiff, Int.reduceMod, Int.reduceSub, Int.reduceNeg, Int.reduceAdd, Int.reduceMul, Int.reduceLT, Int.reduceLE, Int.reduceEq, put_ss, if_true, if_false, ite_true, ite_false, reduceIte, eq_self, and_true, true_and, and_false, false_and, or_true, true_or, or_false, false_or, not_true_eq_false, not_false_eq_true, c1, c2, c3, c4, c5, c6, c7, hx, hu, w32_of, h9, e65]
          · have t1 : ¬ B = 61 := fun z => ht1 (Or.inl z)
            have t2 : ¬ B = 33 := fun z => ht1 (Or.inr (Or.inl z))
            have t3 : ¬ B = 60 := fun z => ht1 (Or.inr (Or.inr (Or.inl z)))
            have t4 : ¬ B = 62 := fun z => ht1 (Or.inr (Or.inr (Or.inr z)))
            simp (disch := first | omega | assumption) only [c_138, tr_138, c_141, tr_141, ev_0, ev_1, ev_16, ev_17, ev_18, ev_2, ev_3, ev_4, ev_5, ev_6, ev_7, ev_8, ev_9, ev_20, ev_21, ev_22, ev_23, ev_24, ev_25, ev_27, ev_28, ev_30, ev_31, ev_32, ev_33, ev_34, ev_35, ev_36, ev_37, ev_38, ev_39, ev_40, ev_41, ev_42, ev_43, ev_45, ev_46, ev_47, ev_48, ev_49, ev_50, ev_51, ev_52, ev_54, ev_55, ev_57, ev_58, ev_59, k2_0, k2_1, k2_2, k3a, k3b, k4, o1_s, xbin_0, xbin_1, xbin_2, xbin_3, xbin_4, xbin_5, xbin_6, xbin_7, xbin_8, xbin_9, xbin_11, xbin_12, xun_0, xun_1, xun_2, xun_3, xun_4, xun_5, k6a, k8, k8b, k9, k20, k20b_0, k20b_1, k20b_2, k20b_3, k20b_4, k20b_5, k21_0, k21_1, k21_2, k21_3, k21_4, k21_5, k23, k24, k25, k27, k28, k40, nz_1, nz_2, nz_3, k31_0, k31_1, k31_2, k31_3, k32u, k33, k34, k35, k35b, k36, k37, k38, k47, k49, k49b_0, k49b_1, k49b_2, k49b_3, k50_0, k50_s, k51_0, k51_s, k55, k58, k58b, rk_0, rk_1, rk_2, rk_9, rk_3, rk_4, rk_5, sw_n, sw_c, xtb_n, xtb_c, lset_0, lset_2, lset_1, lkm_0, lkm_2, lkm_9, lkm_1, lkm_n, if_some1, c_10, c_01, c_x0, c_1x, c_n0, c_nn, List.getElem?_cons_zero, List.getElem?_cons_succ, List.set_cons_zero, List.set_cons_succ, List.length_cons, List.length_nil, Int.reduceToNat, Nat.reduceDiv, Nat.reduceMod, Nat.reduceSub, Nat.reduceAdd, Nat.reduceMul, Nat.reduceLT, Nat.reduceLeDiff, Nat.reduceEqDiff, Int.reduceMod, Int.reduceSub, Int.reduceNeg, Int.reduceAdd, Int.reduceMul, Int.reduceLT, Int.reduceLE, Int.reduceEq, put_ss, if_true, if_false, ite_true, ite_false, reduceIte, eq_self, and_true, true_and, and_false, false_and, or_true, true_or, or_false, false_or, not_true_eq_false, not_false_eq_true, c1, c2, c3, c4, c5, c6, c7, hx, t1, t2, t3, t4, w32_of, h9, e65]
        · rw [if_neg hs]
          refine ⟨?_, Or.inl ⟨rfl, rfl, Int.le_refl _, hpn, rfl⟩⟩
          have c7 := C_136 (F := F) (L := L) (xs := xs) (d := d + 3) (m := m) (k := 1) (p := p) (v := 0) g0 g1
          have e51 : aF m 1 p 0 51 1 = n := y1
          have e2 : tkF m (5, p, 0, -1) = aF m 1 p 0 := rfl
          rw [e2]
          have hx : ixS (Int.bmod B 256) < 0 := hi.2 hs
          by_cases ht1 : B = 33
          · have hu : ¬ bt b n (p + 1) = 61 := fun z => ht ⟨Or.inr (Or.inl ht1), z⟩
            rw [ht1] at c1 c2 c3 c4 c6 hx e65
            simp (disch := first | omega | assumption) only [c_138, tr_138, c_141, tr_141, ev_0, ev_1, ev_16, ev_17, ev_18, ev_2, ev_3, ev_4, ev_5, ev_6, ev_7, ev_8, ev_9, ev_20, ev_21, ev_22, ev_23, ev_24, ev_25, ev_27, ev_28, ev_30, ev_31, ev_32, ev_33, ev_34, ev_35, ev_36, ev_37, ev_38, ev_39, ev_40, ev_41, ev_42, ev_43, ev_45, ev_46, ev_47, ev_48, ev_49, ev_50, ev_51, ev_52, ev_54, ev_55, ev_57, ev_58, ev_59, k2_0, k2_1, k2_2, k3a, k3b, k4, o1_s, xbin_0, xbin_1, xbin_2, xbin_3, xbin_4, xbin_5, xbin_6, xbin_7, xbin_8, xbin_9, xbin_11, xbin_12, xun_0, xun_1, xun_2, xun_3, xun_4, xun_5, k6a, k8, k8b, k9, k20, k20b_0, k20b_1, k20b_2, k20b_3, k20b_4, k20b_5, k21_0, k21_1, k21_2, k21_3, k21_4, k21_5, k23, k24, k25, k27, k28, k40, nz_1, nz_2, nz_3, k31_0, k31_1, k31_2, k31_3, k32u, k33, k34, k35, k35b, k36, k37, k38, k47, k49, k49b_0, k49b_1, k49b_2, k49b_3, k50_0, k50_s, k51_0, k51_s, k55, k58, k58b, rk_0, rk_1, rk_2, rk_9, rk_3, rk_4, rk_5, sw_n, sw_c, xtb_n, xtb_c, lset_0, lset_2, lset_1, lkm_0, lkm_2, lkm_9, lkm_1, lkm_n, if_some1, c_10, c_01, c_x0, c_1x, c_n0, c_nn, List.getElem?_cons_zero, List.getElem?_cons_succ, List.set_cons_zero, List.set_cons_succ, List.length_cons, List.length_nil, Int.reduceToNat, Nat.reduceDiv, Nat.reduceMod, Nat.reduceSub, Nat.reduceAdd, Nat.reduceMul, Nat.reduceLT, Nat.reduceLeDiff, Nat.reduceEqDiff, Int.reduceMod, Int.reduceSub, Int.reduceNeg, Int.reduceAdd, Int.reduceMul, Int.reduceLT, Int.reduceLE, Int.reduceEq, put_ss, if_true, if_false, ite_true, ite_false, reduceIte, eq_self, and_true, true_and, and_false, false_and, or_true, true_or, or_false, false_or, not_true_eq_false, not_false_eq_true, k5_51_1, k34_51_1, k54_51_1, k54b_51_1_0, c1, c2, c3, c4, c5, c6, c7, hx, hu, w32_of, e51, e65]
          · have t1 : ¬ B = 61 := by omega
            have t3 : ¬ B = 60 := by omega
            have t4 : ¬ B = 62 := by omega
            simp (disch := first | omega | assumption) only [c_138, tr_138, c_141, tr_141, ev_0, ev_1, ev_16, ev_17, ev_18, ev_2, ev_3, ev_4, ev_5, ev_6, ev_7, ev_8, ev_9, ev_20, ev_21, ev_22, ev_23, ev_24, ev_25, ev_27, ev_28, ev_30, ev_31, ev_32, ev_33, ev_34, ev_35, ev_36, ev_37, ev_38, ev_39, ev_40, ev_41, ev_42, ev_43, ev_45, ev_46, ev_47, ev_48, ev_49, ev_50, ev_51, ev_52, ev_54, ev_55, ev_57, ev_58, ev_59, k2_0, k2_1, k2_2, k3a, k3b, k4, o1_s, xbin_0, xbin_1, xbin_2, xbin_3, xbin_4, xbin_5, xbin_6, xbin_7, xbin_8, xbin_9, xbin_11, xbin_12, xun_0, xun_1, xun_2, xun_3, xun_4, xun_5, k6a, k8, k8b, k9, k20, k20b_0, k20b_1, k20b_2, k20b_3, k20b_4, k20b_5, k21_0, k21_1, k21_2, k21_3, k21_4, k21_5, k23, k24, k25, k27, k28, k40, nz_1, nz_2, nz_3, k31_0, k31_1, k31_2, k31_3, k32u, k33, k34, k35, k35b, k36, k37, k38, k47, k49, k49b_0, k49b_1, k49b_2, k49b_3, k50_0, k50_s, k51_0, k51_s, k55, k58, k58b, rk_0, rk_1, rk_2, rk_9, rk_3, rk_4, rk_5, sw_n, sw_c, xtb_n, xtb_c, lset_0, lset_2, lset_1, lkm_0, lkm_2, lkm_9, lkm_1, lkm_n, if_some1, c_10, c_01, c_x0, c_1x, c_n0, c_nn, List.getElem?_cons_zero, List.getElem?_cons_succ, List.set_cons_zero, List.set_cons_succ, List.length_cons, List.length_nil, Int.reduceToNat, Nat.reduceDiv, Nat.reduceMod, Nat.reduceSub, Nat.reduceAdd, Nat.reduceMul, Nat.reduceLT, Nat.reduceLeDiff, Nat.reduceEqDiff, Int.reduceMod, Int.reduceSub, Int.reduceNeg, Int.reduceAdd, Int.reduceMul, Int.reduceLT, Int.reduceLE, Int.reduceEq, put_ss, if_true, if_false, ite_true, ite_false, reduceIte, eq_self, and_true, true_and, and_false, false_and, or_true, true_or, or_false, false_or, not_true_eq_false, not_false_eq_true, k5_51_1, k34_51_1, k54_51_1, k54b_51_1_0, c1, c2, c3, c4, c5, c6, c7, hx, t1, ht1, t3, t4, w32_of, e51, e65]
end TokC
