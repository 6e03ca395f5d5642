/-! CLASS AND MODEL, THE SECOND WALK: what a proc needs -/
def srB (a k : Nat) : Bool := (a == 165 || a == 172 || a == 177 || a == 178 || a == 179 || a == 181) || (a == 158 && (k == 16 || k == 17 || k == 30 || k == 31 || k == 33 || k == 39 || k == 41 || k == 46 || k == 48 || k == 52 || k == 53))
theorem SR_cg {mc m m' : Mem} {s : xSt} {y : yS} {σ : Int → Int} {D H p p' : Int} {G : Prop} (R : SR mc s y m σ D G H p) (f : ∀ a k, srB a k = true → m' a k = m a k) (hp : p ≤ p') : SR mc s y m' σ D G H p' := by
  have X := R.rx
  refine SR_fr R hp ⟨?_, fun g k hk => ?_, fun g hc => ?_, X.nf, fun g => ?_⟩ R.lk (fun k => f _ _ rfl) (fun k => f _ _ rfl) (fun k => f _ _ rfl) (fun k hk => ?_)
  · rw [f _ _ rfl]; exact X.len
  · rw [f _ _ rfl, f _ _ rfl, f _ _ rfl]; exact X.ops g k hk
  · rw [f _ _ rfl, f _ _ rfl]; exact X.pus g hc
  · rw [f _ _ rfl]; exact X.cf g
  · rcases hk with rfl | rfl | rfl | rfl | rfl | rfl | rfl <;> exact f _ _ rfl
theorem SR_mc {mc mc' m : Mem} {s : xSt} {y : yS} {σ : Int → Int} {D H p : Int} {G : Prop} (R : SR mc s y m σ D G H p) (h4 : mc' 57 4 = mc 57 4) (h58 : ∀ k, mc' 58 k = mc 58 k) (hp : mc' 68 4 = m 158 33) : SR mc' s y m σ D G H p := ⟨R.rx, R.lk, R.la, R.lb, R.lj, R.ls, R.s1, R.hd, R.hl, R.ln, R.l0, fun j hj => by rw [h4, h58]; exact R.lh j hj, fun id h0 h1 => by rw [h58]; exact R.lm id h0 (by rw [← h4]; exact h1), R.ld, R.lx, hp, R.wh⟩
/-- a sequence of steps -/
theorem ev_sq {F d : Nat} {a b : xT} {s s1 : xS} (h : Ev F d a 0 s = some (0, [], s1)) : Ev F d (nd 31 0 a b) 0 s = Ev F d b 0 s1 := by
  simp only [ev_0, ev_1, ev_16, ev_17, ev_18, ev_2, ev_3, ev_4, ev_5, ev_6, ev_7, ev_8, ev_9, ev_20, ev_21, ev_22, ev_23, ev_24, ev_25, ev_27, ev_28, ev_30, ev_31, ev_32, ev_33, ev_34, ev_35, ev_36, ev_37, ev_38, ev_39, ev_40, ev_41, ev_42, ev_43, ev_45, ev_46, ev_47, ev_48, ev_49, ev_50, ev_51, ev_52, ev_54, ev_55, ev_57, ev_58, ev_59, k2_0, k2_1, k2_2, k3a, k3b, k4, o1_s, xbin_0, xbin_1, xbin_2, xbin_3, xbin_4, xbin_5, xbin_6, xbin_7, xbin_8, xbin_9, xbin_11, xbin_12, xun_0, xun_1, xun_2, xun_3, xun_4, xun_5, k6a, k8, k8b, k9, k20, k20b_0, k20b_1, k20b_2, k20b_3, k20b_4, k20b_5, k21_0, k21_1, k21_2, k21_3, k21_4, k21_5, k23, k24, k25, k27, k28, k40, nz_1, nz_2, nz_3, k31_0, k31_1, k31_2, k31_3, k32u, k33, k34, k35, k35b, k36, k37, k38, k47, k49, k49b_0, k49b_1, k49b_2, k49b_3, k50_0, k50_s, k51_0, k51_s, k55, k58, k58b, rk_0, rk_1, rk_2, rk_9, rk_3, rk_4, rk_5, sw_n, sw_c, xtb_n, xtb_c, lset_0, lset_2, lset_1, lkm_0, lkm_2, lkm_9, lkm_1, lkm_n, if_some1, c_10, c_01, c_x0, c_1x, c_n0, c_nn, List.getElem?_cons_zero, List.getElem?_cons_succ, List.set_cons_zero, List.set_cons_succ, List.length_cons, List.length_nil, Int.reduceToNat, Nat.reduceDiv, Nat.reduceMod, Nat.reduceSub, Nat.reduceAdd, Nat.reduceMul, Nat.reduceLT, Nat.reduceLeDiff, Nat.reduceEqDiff, Int.reduceMod, Int.reduceSub, Int.reduceNeg, Int.reduceAdd, Int.reduceMul, Int.reduceLT, Int.reduceLE, Int.reduceEq, put_ss, if_true, if_false, ite_true, ite_false, reduceIte, eq_self, and_true, true_and, and_false, false_and, or_true, true_or, or_false, false_or, not_true_eq_false, not_false_eq_true, h]
section Brk
variable {F L d : Nat} {xs : Nat → Int32} {m : Mem} {p dep : Int}
theorem B_227 (hF : 100000 ≤ F) (U : WU m) (hb : m 158 15 = 1) (hp : 0 ≤ p ∧ p < 3001) : Cx F (d + 10) 227 [158] (Hp L xs (rv p dep m)) = some ([], Hp L xs (rv p dep m)) := by
  have x1 := fun D => B_215 (F := F) (L := L) (xs := xs) (d := D) (m := rv p dep m) hb hp
  have x2 := fun D => R_224 (F := F) (L := L) (xs := xs) (d := D) (m := m) (p := p) (dep := dep) (a := p) hF U hp.1 hp.2
  have e1 : ltM m p = m := if_neg (fun z => by omega)
  rw [e1] at x2
  have x3 := fun D => R_225 (F := F) (L := L) (xs := xs) (d := D) (m := m) (p := p) (dep := dep) (a := p) U (fun z => by omega) hp.1 hp.2
  have e2 : adM m p = m := if_neg (by omega)
  rw [e2] at x3
  simp (disch := first | omega | assumption) only [c_227, tr_227, ev_0, ev_1, ev_16, ev_17, ev_18, ev_2, ev_3, ev_4, ev_5, ev_6, ev_7, ev_8, ev_9, ev_20, ev_21, ev_22, ev_23, ev_24, ev_25, ev_27, ev_28, ev_30, ev_31, ev_32, ev_33, ev_34, ev_35, ev_36, ev_37, ev_38, ev_39, ev_40, ev_41, ev_42, ev_43, ev_45, ev_46, ev_47, ev_48, ev_49, ev_50, ev_51, ev_52, ev_54, ev_55, ev_57, ev_58, ev_59, k2_0, k2_1, k2_2, k3a, k3b, k4, o1_s, xbin_0, xbin_1, xbin_2, xbin_3, xbin_4, xbin_5, xbin_6, xbin_7, xbin_8, xbin_9, xbin_11, xbin_12, xun_0, xun_1, xun_2, xun_3, xun_4, xun_5, k6a, k8, k8b, k9, k20, k20b_0, k20b_1, k20b_2, k20b_3, k20b_4, k20b_5, k21_0, k21_1, k21_2, k21_3, k21_4, k21_5, k23, k24, k25, k27, k28, k40, nz_1, nz_2, nz_3, k31_0, k31_1, k31_2, k31_3, k32u, k33, k34, k35, k35b, k36, k37, k38, k47, k49, k49b_0, k49b_1, k49b_2, k49b_3, k50_0, k50_s, k51_0, k51_s, k55, k58, k58b, rk_0, rk_1, rk_2, rk_9, rk_3, rk_4, rk_5, sw_n, sw_c, xtb_n, xtb_c, lset_0, lset_2, lset_1, lkm_0, lkm_2, lkm_9, lkm_1, lkm_n, if_some1, c_10, c_01, c_x0, c_1x, c_n0, c_nn, List.getElem?_cons_zero, List.getElem?_cons_succ, List.set_cons_zero, List.set_cons_succ, List.length_cons, List.length_nil, Int.reduceToNat, Nat.reduceDiv, Nat.reduceMod, Nat.reduceSub, Nat.reduceAdd, Nat.reduceMul, Nat.reduceLT, Nat.reduceLeDiff, Nat.reduceEqDiff, Int.reduceMod, Int.reduceSub, Int.reduceNeg, Int.reduceAdd, Int.reduceMul, Int.reduceLT, Int.reduceLE, Int.reduceEq, put_ss, if_true, if_false, ite_true, ite_false, reduceIte, eq_self, and_true, true_and, and_false, false_and, or_true, true_or, or_false, false_or, not_true_eq_false, not_false_eq_true, k5_158_14, k34_158_14, k34i_158_14, k5_158_15, k34_158_15, k34i_158_15, k5_158_12, k34_158_12, k54_158_12, k54b_158_12_0, rv_t, x1, x2, x3]
/-- a proc begins or ends, broken -/
def bpB (m : Mem) : Mem := put (put (put (put (put (put m 158 46 (m 158 46 + 1)) 158 49 (m 158 46)) 158 48 (m 158 46)) 158 52 0) 158 53 0) 182 (m 158 33).toNat (m 158 41)
theorem B_247 (hb : m 158 15 = 1) (h46 : 0 ≤ m 158 46) (h46b : m 158 46 < 12000) (h33 : 0 ≤ m 158 33) (h33b : m 158 33 < 1600) : Cx F (d + 2) 247 [158] (Hp L xs (rv p dep m)) = some ([], Hp L xs (rv p dep (bpB m))) := by
  have c1 := fun D => M_244 (F := F) (L := L) (xs := xs) (p := p) (dep := dep) (d := D) (m := m) h46 h46b
  have c2 := fun D o1 a1 l1 => B_246 (F := F) (L := L) (xs := xs) (d := D) (m := rv p dep (bpB m)) (a1 := o1) (a2 := a1) (a3 := l1) hb
  unfold bpB at c2 ⊢
  simp (disch := first | omega | assumption) only [c_247, tr_247, ev_0, ev_1, ev_16, ev_17, ev_18, ev_2, ev_3, ev_4, ev_5, ev_6, ev_7, ev_8, ev_9, ev_20, ev_21, ev_22, ev_23, ev_24, ev_25, ev_27, ev_28, ev_30, ev_31, ev_32, ev_33, ev_34, ev_35, ev_36, ev_37, ev_38, ev_39, ev_40, ev_41, ev_42, ev_43, ev_45, ev_46, ev_47, ev_48, ev_49, ev_50, ev_51, ev_52, ev_54, ev_55, ev_57, ev_58, ev_59, k2_0, k2_1, k2_2, k3a, k3b, k4, o1_s, xbin_0, xbin_1, xbin_2, xbin_3, xbin_4, xbin_5, xbin_6, xbin_7, xbin_8, xbin_9, xbin_11, xbin_12, xun_0, xun_1, xun_2, xun_3, xun_4, xun_5, k6a, k8, k8b, k9, k20, k20b_0, k20b_1, k20b_2, k20b_3, k20b_4, k20b_5, k21_0, k21_1, k21_2, k21_3, k21_4, k21_5, k23, k24, k25, k27, k28, k40, nz_1, nz_2, nz_3, k31_0, k31_1, k31_2, k31_3, k32u, k33, k34, k35, k35b, k36, k37, k38, k47, k49, k49b_0, k49b_1, k49b_2, k49b_3, k50_0, k50_s, k51_0, k51_s, k55, k58, k58b, rk_0, rk_1, rk_2, rk_9, rk_3, rk_4, rk_5, sw_n, sw_c, xtb_n, xtb_c, lset_0, lset_2, lset_1, lkm_0, lkm_2, lkm_9, lkm_1, lkm_n, if_some1, c_10, c_01, c_x0, c_1x, c_n0, c_nn, List.getElem?_cons_zero, List.getElem?_cons_succ, List.set_cons_zero, List.set_cons_succ, List.length_cons, List.length_nil, Int.reduceToNat, Nat.reduceDiv, Nat.reduceMod, Nat.reduceSub, Nat.reduceAdd, Nat.reduceMul, Nat.reduceLT, Nat.reduceLeDiff, Nat.reduceEqDiff, Int.reduceMod, Int.reduceSub, Int.reduceNeg, Int.reduceAdd, Int.reduceMul, Int.reduceLT, Int.reduceLE, Int.reduceEq, put_ss, if_true, if_false, ite_true, ite_false, reduceIte, eq_self, and_true, true_and, and_false, false_and, or_true, true_or, or_false, false_or, not_true_eq_false, not_false_eq_true, k5_158_14, k34_158_14, k34i_158_14, k5_158_15, k34_158_15, k34i_158_15, k5_158_46, k34_158_46, k54_158_46, k54b_158_46_0, k5_158_41, k34_158_41, k54_158_41, k54b_158_41_0, k5_158_48, k34_158_48, k5_158_49, k34_158_49, k5_158_52, k34_158_52, k54_158_52, k54b_158_52_0, k5_158_53, k34_158_53, k5_158_50, k6_182, k35_182, n_182, k5_158_51, k6_183, k35_183, n_183, k5_158_33, k34_158_33, rv_x, rv_y, rp_x, rp_y, put_ss, c1, c2]
def epB (m : Mem) : Mem := put (put m 181 (m 158 49).toNat (m 158 41)) 183 (m 158 33).toNat (m 158 53)
theorem B_248 (hb : m 158 15 = 1) (h49 : 0 ≤ m 158 49) (h49b : m 158 49 < 12000) (h33 : 0 ≤ m 158 33) (h33b : m 158 33 < 1600) : Cx F (d + 2) 248 [158] (Hp L xs (rv p dep m)) = some ([], Hp L xs (rv p dep (epB m))) := by
  have c1 := fun D o1 a1 l1 => B_246 (F := F) (L := L) (xs := xs) (d := D) (m := rv p dep m) (a1 := o1) (a2 := a1) (a3 := l1) hb
  have c2 := fun D => M_245 (F := F) (L := L) (xs := xs) (p := p) (dep := dep) (d := D) (m := m) (l := m 158 49) h49 h49b
  have c3 := fun D o1 a1 l1 => B_246 (F := F) (L := L) (xs := xs) (d := D) (m := rv p dep (put m 181 (m 158 49).toNat (m 158 41))) (a1 := o1) (a2 := a1) (a3 := l1) hb
  unfold epB
  simp (disch := first | omega | assumption) only [c_248, tr_248, ev_0, ev_1, ev_16, ev_17, ev_18, ev_2, ev_3, ev_4, ev_5, ev_6, ev_7, ev_8, ev_9, ev_20, ev_21, ev_22, ev_23, ev_24, ev_25, ev_27, ev_28, ev_30, ev_31, ev_32, ev_33, ev_34, ev_35, ev_36, ev_37, ev_38, ev_39, ev_40, ev_41, ev_42, ev_43, ev_45, ev_46, ev_47, ev_48, ev_49, ev_50, ev_51, ev_52, ev_54, ev_55, ev_57, ev_58, ev_59, k2_0, k2_1, k2_2, k3a, k3b, k4, o1_s, xbin_0, xbin_1, xbin_2, xbin_3, xbin_4, xbin_5, xbin_6, xbin_7, xbin_8, xbin_9, xbin_11, xbin_12, xun_0, xun_1, xun_2, xun_3, xun_4, xun_5, k6a, k8, k8b, k9, k20, k20b_0, k20b_1, k20b_2, k20b_3, k20b_4, k20b_5, k21_0, k21_1, k21_2, k21_3, k21_4, k21_5, k23, k24, k25, k27, k28, k40, nz_1, nz_2, nz_3, k31_0, k31_1, k31_2, k31_3, k32u, k33, k34, k35, k35b, k36, k37, k38, k47, k49, k49b_0, k49b_1, k49b_2, k49b_3, k50_0, k50_s, k51_0, k51_s, k55, k58, k58b, rk_0, rk_1, rk_2, rk_9, rk_3, rk_4, rk_5, sw_n, sw_c, xtb_n, xtb_c, lset_0, lset_2, lset_1, lkm_0, lkm_2, lkm_9, lkm_1, lkm_n, if_some1, c_10, c_01, c_x0, c_1x, c_n0, c_nn, List.getElem?_cons_zero, List.getElem?_cons_succ, List.set_cons_zero, List.set_cons_succ, List.length_cons, List.length_nil, Int.reduceToNat, Nat.reduceDiv, Nat.reduceMod, Nat.reduceSub, Nat.reduceAdd, Nat.reduceMul, Nat.reduceLT, Nat.reduceLeDiff, Nat.reduceEqDiff, Int.reduceMod, Int.reduceSub, Int.reduceNeg, Int.reduceAdd, Int.reduceMul, Int.reduceLT, Int.reduceLE, Int.reduceEq, put_ss, if_true, if_false, ite_true, ite_false, reduceIte, eq_self, and_true, true_and, and_false, false_and, or_true, true_or, or_false, false_or, not_true_eq_false, not_false_eq_true, k5_158_14, k34_158_14, k34i_158_14, k5_158_15, k34_158_15, k34i_158_15, k5_158_46, k34_158_46, k54_158_46, k54b_158_46_0, k5_158_41, k34_158_41, k54_158_41, k54b_158_41_0, k5_158_48, k34_158_48, k5_158_49, k34_158_49, k5_158_52, k34_158_52, k54_158_52, k54b_158_52_0, k5_158_53, k34_158_53, k5_158_50, k6_182, k35_182, n_182, k5_158_51, k6_183, k35_183, n_183, k5_158_33, k34_158_33, rv_x, rv_y, rp_x, rp_y, put_ss, c1, c2, c3]
end Brk
/-- what a proc of the second walk may change -/
def ftB (a k : Nat) : Bool := (a == 168 || a == 170 || a == 171 || a == 172 || a == 173 || a == 174 || a == 175 || a == 176 || a == 177 || a == 178 || a == 179 || a == 181 || a == 182 || a == 183) || (a == 158 && (k == 9 || k == 10 || k == 15 || k == 16 || k == 21 || k == 24 || k == 25 || k == 28 || k == 29 || k == 30 || k == 31 || k == 33 || k == 36 || k == 39 || k == 40 || k == 41 || k == 46 || k == 48 || k == 49 || k == 52 || k == 53))
def FT (m m' : Mem) : Prop := (∀ a k, ftB a k = false → m' a k = m a k) ∧ (0 ≤ m 158 30 ∧ m 158 30 < 1600 → 0 ≤ m' 158 30 ∧ m' 158 30 < 1600)
theorem FT_rf {m : Mem} : FT m m := ⟨fun _ _ _ => rfl, id⟩
theorem FT_tr {m m1 m2 : Mem} (h1 : FT m m1) (h2 : FT m1 m2) : FT m m2 := ⟨fun a k h => (h2.1 a k h).trans (h1.1 a k h), fun z => h2.2 (h1.2 z)⟩
theorem FT_pt1 {m m1 : Mem} {a k : Nat} {v : Int} (h1 : ∀ a k, ftB a k = false → m1 a k = m a k) (h : ftB a k = true) : ∀ a' k', ftB a' k' = false → put m1 a k v a' k' = m a' k' := fun a' k' g => by
  rw [put_ss]
  by_cases e1 : a' = a
  · subst e1
    rw [if_pos rfl]
    by_cases e2 : k' = k
    · subst e2
      rw [h] at g
      exact absurd g (by decide)
    · rw [if_neg e2]; exact h1 a' k' g
  · rw [if_neg e1]; exact h1 a' k' g
theorem FT_put {m m1 : Mem} {a k : Nat} {v : Int} (h1 : FT m m1) (h : ftB a k = true) (h30 : (a == 158 && k == 30) = false := by rfl) : FT m (put m1 a k v) := ⟨FT_pt1 h1.1 h, fun z => by
  have e : put m1 a k v 158 30 = m1 158 30 := by
    rw [put_ss]
    by_cases e1 : 158 = a
    · subst e1
      rw [if_pos rfl]
      by_cases e2 : 30 = k
      · subst e2
        exact absurd h30 (by decide)
      · rw [if_neg e2]
    · rw [if_neg e1]
  rw [e]
  exact h1.2 z⟩
theorem FT_p30 {m m1 : Mem} {v : Int} (h1 : FT m m1) (h0 : 0 ≤ v) (h2 : v < 1600) : FT m (put m1 158 30 v) := ⟨FT_pt1 h1.1 rfl, fun _ => ⟨h0, h2⟩⟩
theorem FT_FS {m m' : Mem} (f : FS m m') (w : 0 ≤ m 158 30 ∧ m 158 30 < 1600 → 0 ≤ m' 158 30 ∧ m' 158 30 < 1600) : FT m m' := ⟨fun a k h => f a k (by
  cases hz : fsB a k with
  | false => rfl
  | true =>
    exfalso
    unfold fsB at hz
    unfold ftB at h
    simp only [Bool.or_eq_true, Bool.and_eq_true, beq_iff_eq] at hz
    simp only [Bool.or_eq_false_iff, Bool.and_eq_false_iff, beq_eq_false_iff_ne, ne_eq] at h
    omega), w⟩
theorem FT_FR {m m' : Mem} (f : FR m m') : FT m m' := ⟨fun a k h => f a k (fun z => by subst z; exact absurd h (by show ¬ (true = false); decide)) (fun z => by obtain ⟨rfl, rfl⟩ := z; exact absurd h (by decide)), fun z => by
  have e : m' 158 30 = m 158 30 := f 158 30 (by decide) (by decide)
  rw [e]
  exact z⟩
theorem FT_bpB {m : Mem} : FT m (bpB m) := FT_put (FT_put (FT_put (FT_put (FT_put (FT_put FT_rf rfl) rfl) rfl) rfl) rfl) rfl
theorem FT_epB {m : Mem} : FT m (epB m) := FT_put (FT_put FT_rf rfl) rfl
theorem FT_emF {m m1 : Mem} {o a l u : Int} {z : Bool} (f : FT m m1) : FT m (emF m1 o a l u z) := by
  unfold emF
  split
  · exact FT_put (FT_put (FT_put (FT_put (FT_put (FT_put (FT_put f rfl) rfl) rfl) rfl) rfl) rfl) rfl
  · exact FT_put (FT_put (FT_put (FT_put (FT_put (FT_put f rfl) rfl) rfl) rfl) rfl) rfl
theorem FT_bpF {m : Mem} : FT m (bpF m) := FT_emF (FT_put (FT_put (FT_put (FT_put (FT_put (FT_put FT_rf rfl) rfl) rfl) rfl) rfl) rfl)
theorem FT_epF {m : Mem} : FT m (epF m) := FT_put (FT_emF (FT_put (FT_emF (FT_emF FT_rf)) rfl)) rfl
