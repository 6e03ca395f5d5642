/-! COMPILE: what the model keeps of a good text -/
def cpr (m : Mem) (A : Nat) (f : Nat → Int) (k : Nat) : Mem := fun a j => if a = A then (if j < k then f j else m A j) else m a j
theorem cpr_s {m : Mem} {A k : Nat} {f : Nat → Int} : put (cpr m A f k) A k (f k) = cpr m A f (k + 1) := by
  funext a j
  unfold cpr
  rw [put_ss]
  by_cases h : a = A
  · rw [if_pos h, if_pos h, if_pos h]
    by_cases h2 : j = k
    · subst h2
      rw [if_pos rfl, if_pos (by omega)]
    · rw [if_neg h2]
      by_cases h3 : j < k
      · rw [if_pos h3, if_pos (by omega)]
      · rw [if_neg h3, if_neg (by omega)]
  · rw [if_neg h, if_neg h, if_neg h]
theorem cpr_0 {m : Mem} {A : Nat} {f : Nat → Int} : cpr m A f 0 = m := by
  funext a j
  unfold cpr
  by_cases h : a = A
  · subst h
    rw [if_pos rfl, if_neg (by omega)]
  · rw [if_neg h]
theorem cpr_p {m : Mem} {A B k x : Nat} {f : Nat → Int} {v : Int} (h : B ≠ A) : put (cpr m A f k) B x v = cpr (put m B x v) A f k := by
  funext a j
  unfold cpr
  simp only [put_ss]
  by_cases h1 : a = B
  · subst h1
    simp only [h, if_true, if_false]
  · by_cases h2 : a = A
    · subst h2
      simp only [h1, if_true, if_false]
    · simp only [h1, h2, if_false]
theorem cpr_o {m : Mem} {A k a j : Nat} {f : Nat → Int} (h : a ≠ A) : cpr m A f k a j = m a j := if_neg h
theorem cpr_a {m : Mem} {A k j : Nat} {f : Nat → Int} : cpr m A f k A j = if j < k then f j else m A j := if_pos rfl
/-- cells set to 0, and those that are told to 1 -/
def clr (B : Mem) (o c : Nat) : Mem := fun a i => if a = 192 then (if o ≤ i ∧ i < o + c then 0 else B 192 i) else B a i
theorem clr_0 {B : Mem} {o : Nat} : clr B o 0 = B := by
  funext a i
  unfold clr
  by_cases h : a = 192
  · subst h
    rw [if_pos rfl, if_neg (by omega)]
  · rw [if_neg h]
theorem clr_s {B : Mem} {o c : Nat} : put (clr B o c) 192 (o + c) 0 = clr B o (c + 1) := by
  funext a i
  unfold clr
  rw [put_ss]
  by_cases h : a = 192
  · rw [if_pos h, if_pos h, if_pos h]
    by_cases h2 : i = o + c
    · rw [if_pos h2, if_pos (by omega)]
    · rw [if_neg h2]
      by_cases h3 : o ≤ i ∧ i < o + c
      · rw [if_pos h3, if_pos (by omega)]
      · rw [if_neg h3, if_neg (by omega)]
  · rw [if_neg h, if_neg h, if_neg h]
def tld (o : Nat) (f : Nat → Int) (n i : Nat) : Bool := (List.range n).any (fun j => decide ((i : Int) = o + f j))
def stt (B : Mem) (o : Nat) (f : Nat → Int) (n : Nat) : Mem := fun a i => if a = 192 then (if tld o f n i = true then 1 else B 192 i) else B a i
theorem stt_0 {B : Mem} {o : Nat} {f : Nat → Int} : stt B o f 0 = B := by
  funext a i
  unfold stt
  by_cases h : a = 192
  · subst h
    rw [if_pos rfl, if_neg (fun z => Bool.noConfusion z)]
  · rw [if_neg h]
theorem tld_s {o n i : Nat} {f : Nat → Int} : tld o f (n + 1) i = (tld o f n i || decide ((i : Int) = o + f n)) := by
  unfold tld
  rw [List.range_succ, List.any_append]
  simp only [List.any_cons, List.any_nil, Bool.or_false]
theorem stt_s {B : Mem} {o n : Nat} {f : Nat → Int} (hf : 0 ≤ f n) : put (stt B o f n) 192 ((o : Int) + f n).toNat 1 = stt B o f (n + 1) := by
  funext a i
  unfold stt
  rw [put_ss]
  by_cases h : a = 192
  · rw [if_pos h, if_pos h, if_pos h, tld_s]
    by_cases h2 : i = ((o : Int) + f n).toNat
    · rw [if_pos h2, if_pos (by rw [decide_eq_true (by omega : (i : Int) = o + f n), Bool.or_true])]
    · rw [if_neg h2, decide_eq_false (by omega : ¬ (i : Int) = o + f n), Bool.or_false]
  · rw [if_neg h, if_neg h, if_neg h]
section Kp256
variable {F L d : Nat} {xs : Nat → Int32} {m : Mem} {main : Int}
/-- the link of an order -/
def tgM (m : Mem) (k : Nat) : Int := if m 179 k < 0 then -1 else m 181 (m 179 k).toNat
def kp1 (m : Mem) (k : Nat) : Mem := cpr (cpr (cpr (cpr m 184 (fun j => m 177 j) k) 185 (fun j => m 178 j) k) 186 (fun j => tgM m j) k) 187 (fun j => m 180 j) k
theorem kp1_s {k : Nat} : put (put (put (put (kp1 m k) 184 k (m 177 k)) 185 k (m 178 k)) 186 k (tgM m k)) 187 k (m 180 k) = kp1 m (k + 1) := by
  unfold kp1
  simp (disch := decide) only [cpr_p]
  rw [cpr_s (m := m) (A := 184) (f := fun j => m 177 j), cpr_s (A := 185) (f := fun j => m 178 j), cpr_s (A := 186) (f := fun j => tgM m j), cpr_s (A := 187) (f := fun j => m 180 j)]
abbrev la256 : xT := (nd 20 2 (nd 2 8 xz xz) (nd 5 11041 (nd 2 2 xz xz) xz))
abbrev lb256 : xT := (nd 31 0 (n3 35 0 (nd 5 11056 (nd 2 2 xz xz) xz) (nd 2 8 xz xz) (nd 6 0 (nd 5 11042 (nd 2 2 xz xz) xz) (nd 2 8 xz xz))) (nd 31 0 (n3 35 0 (nd 5 11057 (nd 2 2 xz xz) xz) (nd 2 8 xz xz) (nd 6 0 (nd 5 11043 (nd 2 2 xz xz) xz) (nd 2 8 xz xz))) (nd 31 0 (n3 35 0 (nd 5 11058 (nd 2 2 xz xz) xz) (nd 2 8 xz xz) (n3 9 0 (nd 21 2 (nd 6 0 (nd 5 11044 (nd 2 2 xz xz) xz) (nd 2 8 xz xz)) xz) (nd 0 (-1) xz xz) (nd 6 0 (nd 5 11047 (nd 2 2 xz xz) xz) (nd 6 0 (nd 5 11044 (nd 2 2 xz xz) xz) (nd 2 8 xz xz))))) (n3 35 0 (nd 5 11059 (nd 2 2 xz xz) xz) (nd 2 8 xz xz) (nd 6 0 (nd 5 11045 (nd 2 2 xz xz) xz) (nd 2 8 xz xz))))))
abbrev lc256 : xT := (nd 33 163841 xz xz)
theorem L_256 (h41 : m 158 41 ≤ 12000) (ht : ∀ k : Nat, (k : Int) < m 158 41 → m 179 k < 12000) : ∀ (j k N : Nat), (k : Int) + j = m 158 41 → j < N → LF F d la256 lb256 lc256 N ([(2, 158), (0, main), (0, (k : Int)), (9, 0)], Hp L xs (kp1 m k)) = some (0, [], ([(2, 158), (0, main), (0, m 158 41), (9, 0)], Hp L xs (kp1 m (m 158 41).toNat))) := by
  intro j
  induction j with
  | zero =>
    intro k N h hN
    obtain ⟨N, rfl⟩ : ∃ n', N = n' + 1 := ⟨N - 1, by omega⟩
    have e1 : (k : Int) = m 158 41 := by omega
    have e2 : k = (m 158 41).toNat := by omega
    have e3 : kp1 m k 158 41 = m 158 41 := rfl
    rw [lf_s]
    simp (disch := omega) only [l1_i, l1_1, l1_0, l2_0, l2_1, l2_2, l2_3, l3_0, w2_0, w2_1, w2_2, w2_3, d1_0, d1_1, d1_2, d1_3, d2_i, d2_1, d2_0, ev_0, ev_1, ev_16, ev_17, ev_18, ev_2, ev_3, ev_4, ev_5, ev_6, ev_7, ev_8, ev_9, ev_20, ev_21, ev_22, ev_23, ev_24, ev_25, ev_27, ev_28, ev_30, ev_31, ev_32, ev_33, ev_34, ev_35, ev_36, ev_37, ev_38, ev_39, ev_40, ev_41, ev_42, ev_43, ev_45, ev_46, ev_47, ev_48, ev_49, ev_50, ev_51, ev_52, ev_54, ev_55, ev_57, ev_58, ev_59, k2_0, k2_1, k2_2, k3a, k3b, k4, o1_s, xbin_0, xbin_1, xbin_2, xbin_3, xbin_4, xbin_5, xbin_6, xbin_7, xbin_8, xbin_9, xbin_11, xbin_12, xun_0, xun_1, xun_2, xun_3, xun_4, xun_5, k6a, k8, k8b, k9, k20, k20b_0, k20b_1, k20b_2, k20b_3, k20b_4, k20b_5, k21_0, k21_1, k21_2, k21_3, k21_4, k21_5, k23, k24, k25, k27, k28, k40, nz_1, nz_2, nz_3, k31_0, k31_1, k31_2, k31_3, k32u, k33, k34, k35, k35b, k36, k37, k38, k47, k49, k49b_0, k49b_1, k49b_2, k49b_3, k50_0, k50_s, k51_0, k51_s, k55, k58, k58b, rk_0, rk_1, rk_2, rk_9, rk_3, rk_4, rk_5, sw_n, sw_c, xtb_n, xtb_c, lset_0, lset_2, lset_1, lkm_0, lkm_2, lkm_9, lkm_1, lkm_n, if_some1, c_10, c_01, c_x0, c_1x, c_n0, c_nn, List.getElem?_cons_zero, List.getElem?_cons_succ, List.set_cons_zero, List.set_cons_succ, List.length_cons, List.length_nil, Int.reduceToNat, Nat.reduceDiv, Nat.reduceMod, Nat.reduceSub, Nat.reduceAdd, Nat.reduceMul, Nat.reduceLT, Nat.reduceLeDiff, Nat.reduceEqDiff, Int.reduceMod, Int.reduceSub, Int.reduceNeg, Int.reduceAdd, Int.reduceMul, Int.reduceLT, Int.reduceLE, Int.reduceEq, put_ss, if_true, if_false, ite_true, ite_false, reduceIte, eq_self, and_true, true_and, and_false, false_and, or_true, true_or, or_false, false_or, not_true_eq_false, not_false_eq_true, k5_158_41, k34_158_41, k54_158_41, k54b_158_41_0, e1, e3, Int.lt_irrefl]
    rw [← e2]
  | succ j ih =>
    intro k N h hN
    obtain ⟨N, rfl⟩ : ∃ n', N = n' + 1 := ⟨N - 1, by omega⟩
    have e3 : kp1 m k 158 41 = m 158 41 := rfl
    have e4 : kp1 m k 177 k = m 177 k := rfl
    have e5 : kp1 m k 178 k = m 178 k := rfl
    have e6 : kp1 m k 179 k = m 179 k := rfl
    have e7 : ∀ z, kp1 m k 181 z = m 181 z := fun z => rfl
    have e8 : kp1 m k 180 k = m 180 k := rfl
    have hk : (k : Int) < m 158 41 := by omega
    have c1 := ih (k + 1) N (by omega) (by omega)
    rw [Int.natCast_succ] at c1
    have ks := kp1_s (m := m) (k := k)
    unfold tgM at ks
    have htk := ht k hk
    generalize hQ : kp1 m k = Q at *
    rw [lf_s]
    by_cases hz : m 179 k < 0
    · rw [if_pos hz] at ks
      rw [← ks] at c1
      simp (disch := omega) only [l1_i, l1_1, l1_0, l2_0, l2_1, l2_2, l2_3, l3_0, w2_0, w2_1, w2_2, w2_3, d1_0, d1_1, d1_2, d1_3, d2_i, d2_1, d2_0, ev_0, ev_1, ev_16, ev_17, ev_18, ev_2, ev_3, ev_4, ev_5, ev_6, ev_7, ev_8, ev_9, ev_20, ev_21, ev_22, ev_23, ev_24, ev_25, ev_27, ev_28, ev_30, ev_31, ev_32, ev_33, ev_34, ev_35, ev_36, ev_37, ev_38, ev_39, ev_40, ev_41, ev_42, ev_43, ev_45, ev_46, ev_47, ev_48, ev_49, ev_50, ev_51, ev_52, ev_54, ev_55, ev_57, ev_58, ev_59, k2_0, k2_1, k2_2, k3a, k3b, k4, o1_s, xbin_0, xbin_1, xbin_2, xbin_3, xbin_4, xbin_5, xbin_6, xbin_7, xbin_8, xbin_9, xbin_11, xbin_12, xun_0, xun_1, xun_2, xun_3, xun_4, xun_5, k6a, k8, k8b, k9, k20, k20b_0, k20b_1, k20b_2, k20b_3, k20b_4, k20b_5, k21_0, k21_1, k21_2, k21_3, k21_4, k21_5, k23, k24, k25, k27, k28, k40, nz_1, nz_2, nz_3, k31_0, k31_1, k31_2, k31_3, k32u, k33, k34, k35, k35b, k36, k37, k38, k47, k49, k49b_0, k49b_1, k49b_2, k49b_3, k50_0, k50_s, k51_0, k51_s, k55, k58, k58b, rk_0, rk_1, rk_2, rk_9, rk_3, rk_4, rk_5, sw_n, sw_c, xtb_n, xtb_c, lset_0, lset_2, lset_1, lkm_0, lkm_2, lkm_9, lkm_1, lkm_n, if_some1, c_10, c_01, c_x0, c_1x, c_n0, c_nn, List.getElem?_cons_zero, List.getElem?_cons_succ, List.set_cons_zero, List.set_cons_succ, List.length_cons, List.length_nil, Int.reduceToNat, Nat.reduceDiv, Nat.reduceMod, Nat.reduceSub, Nat.reduceAdd, Nat.reduceMul, Nat.reduceLT, Nat.reduceLeDiff, Nat.reduceEqDiff, Int.reduceMod, Int.reduceSub, Int.reduceNeg, Int.reduceAdd, Int.reduceMul, Int.reduceLT, Int.reduceLE, Int.reduceEq, put_ss, if_true, if_false, ite_true, ite_false, reduceIte, eq_self, and_true, true_and, and_false, false_and, or_true, true_or, or_false, false_or, not_true_eq_false, not_false_eq_true, k5_158_41, k34_158_41, k54_158_41, k54b_158_41_0, k5_158_56, k6_184, k35_184, n_184, k5_158_57, k6_185, k35_185, n_185, k5_158_58, k6_186, k35_186, n_186, k5_158_59, k6_187, k35_187, n_187, k5_158_42, k6_177, k35_177, n_177, k5_158_43, k6_178, k35_178, n_178, k5_158_44, k6_179, k35_179, n_179, k5_158_45, k6_180, k35_180, n_180, k5_158_47, k6_181, k35_181, n_181, e3, hk, Int.toNat_natCast, e4, e5, e6, e7, e8, hz, w32_of, c1]
    · rw [if_neg hz] at ks
      rw [← ks] at c1
      simp (disch := omega) only [l1_i, l1_1, l1_0, l2_0, l2_1, l2_2, l2_3, l3_0, w2_0, w2_1, w2_2, w2_3, d1_0, d1_1, d1_2, d1_3, d2_i, d2_1, d2_0, ev_0, ev_1, ev_16, ev_17, ev_18, ev_2, ev_3, ev_4, ev_5, ev_6, ev_7, ev_8, ev_9, ev_20, ev_21, ev_22, ev_23, ev_24, ev_25, ev_27, ev_28, ev_30, ev_31, ev_32, ev_33, ev_34, ev_35, ev_36, ev_37, ev_38, ev_39, ev_40, ev_41, ev_42, ev_43, ev_45, ev_46, ev_47, ev_48, ev_49, ev_50, ev_51, ev_52, ev_54, ev_55, ev_57, ev_58, ev_59, k2_0, k2_1, k2_2, k3a, k3b, k4, o1_s, xbin_0, xbin_1, xbin_2, xbin_3, xbin_4, xbin_5, xbin_6, xbin_7, xbin_8, xbin_9, xbin_11, xbin_12, xun_0, xun_1, xun_2, xun_3, xun_4, xun_5, k6a, k8, k8b, k9, k20, k20b_0, k20b_1, k20b_2, k20b_3, k20b_4, k20b_5, k21_0, k21_1, k21_2, k21_3, k21_4, k21_5, k23, k24, k25, k27, k28, k40, nz_1, nz_2, nz_3, k31_0, k31_1, k31_2, k31_3, k32u, k33, k34, k35, k35b, k36, k37, k38, k47, k49, k49b_0, k49b_1, k49b_2, k49b_3, k50_0, k50_s, k51_0, k51_s, k55, k58, k58b, rk_0, rk_1, rk_2, rk_9, rk_3, rk_4, rk_5, sw_n, sw_c, xtb_n, xtb_c, lset_0, lset_2, lset_1, lkm_0, lkm_2, lkm_9, lkm_1, lkm_n, if_some1, c_10, c_01, c_x0, c_1x, c_n0, c_nn, List.getElem?_cons_zero, List.getElem?_cons_succ, List.set_cons_zero, List.set_cons_succ, List.length_cons, List.length_nil, Int.reduceToNat, Nat.reduceDiv, Nat.reduceMod, Nat.reduceSub, Nat.reduceAdd, Nat.reduceMul, Nat.reduceLT, Nat.reduceLeDiff, Nat.reduceEqDiff, Int.reduceMod, Int.reduceSub, Int.reduceNeg, Int.reduceAdd, Int.reduceMul, Int.reduceLT, Int.reduceLE, Int.reduceEq, put_ss, if_true, if_false, ite_true, ite_false, reduceIte, eq_self, and_true, true_and, and_false, false_and, or_true, true_or, or_false, false_or, not_true_eq_false, not_false_eq_true, k5_158_41, k34_158_41, k54_158_41, k54b_158_41_0, k5_158_56, k6_184, k35_184, n_184, k5_158_57, k6_185, k35_185, n_185, k5_158_58, k6_186, k35_186, n_186, k5_158_59, k6_187, k35_187, n_187, k5_158_42, k6_177, k35_177, n_177, k5_158_43, k6_178, k35_178, n_178, k5_158_44, k6_179, k35_179, n_179, k5_158_45, k6_180, k35_180, n_180, k5_158_47, k6_181, k35_181, n_181, e3, hk, Int.toNat_natCast, e4, e5, e6, e7, e8, hz, w32_of, c1]
abbrev laC : xT := (nd 20 2 (nd 2 12 xz xz) (nd 0 40 xz xz))
abbrev lbC : xT := (n3 35 3 (nd 5 11066 (nd 2 2 xz xz) xz) (nd 3 0 (nd 3 2 (nd 0 40 xz xz) (nd 2 8 xz xz)) (nd 2 12 xz xz)) (nd 0 0 xz xz))
abbrev lcC : xT := (nd 33 229377 xz xz)
abbrev laS : xT := (nd 20 2 (nd 2 12 xz xz) (nd 3 0 (nd 6 0 (nd 5 11034 (nd 2 2 xz xz) xz) (nd 2 8 xz xz)) (nd 6 0 (nd 5 11035 (nd 2 2 xz xz) xz) (nd 2 8 xz xz))))
abbrev lbS : xT := (n3 35 3 (nd 5 11066 (nd 2 2 xz xz) xz) (nd 3 0 (nd 3 2 (nd 0 40 xz xz) (nd 2 8 xz xz)) (nd 6 0 (nd 5 11037 (nd 2 2 xz xz) xz) (nd 2 12 xz xz))) (nd 0 1 xz xz))
abbrev lcS : xT := (nd 33 229377 xz xz)
theorem L_clr {B : Mem} {p : Nat} (hp : p < 40) : ∀ (j c N : Nat), c + j = 40 → j < N → LF F d laC lbC lcC N ([(2, 158), (0, main), (0, (p : Int)), (0, (c : Int))], Hp L xs (clr B (40 * p) c)) = some (0, [], ([(2, 158), (0, main), (0, (p : Int)), (0, 40)], Hp L xs (clr B (40 * p) 40))) := by
  intro j
  induction j with
  | zero =>
    intro c N h hN
    obtain ⟨N, rfl⟩ : ∃ n', N = n' + 1 := ⟨N - 1, by omega⟩
    have e1 : c = 40 := by omega
    have e2 : (c : Int) = 40 := by omega
    rw [lf_s]
    simp (disch := omega) only [l1_i, l1_1, l1_0, l2_0, l2_1, l2_2, l2_3, l3_0, w2_0, w2_1, w2_2, w2_3, d1_0, d1_1, d1_2, d1_3, d2_i, d2_1, d2_0, ev_0, ev_1, ev_16, ev_17, ev_18, ev_2, ev_3, ev_4, ev_5, ev_6, ev_7, ev_8, ev_9, ev_20, ev_21, ev_22, ev_23, ev_24, ev_25, ev_27, ev_28, ev_30, ev_31, ev_32, ev_33, ev_34, ev_35, ev_36, ev_37, ev_38, ev_39, ev_40, ev_41, ev_42, ev_43, ev_45, ev_46, ev_47, ev_48, ev_49, ev_50, ev_51, ev_52, ev_54, ev_55, ev_57, ev_58, ev_59, k2_0, k2_1, k2_2, k3a, k3b, k4, o1_s, xbin_0, xbin_1, xbin_2, xbin_3, xbin_4, xbin_5, xbin_6, xbin_7, xbin_8, xbin_9, xbin_11, xbin_12, xun_0, xun_1, xun_2, xun_3, xun_4, xun_5, k6a, k8, k8b, k9, k20, k20b_0, k20b_1, k20b_2, k20b_3, k20b_4, k20b_5, k21_0, k21_1, k21_2, k21_3, k21_4, k21_5, k23, k24, k25, k27, k28, k40, nz_1, nz_2, nz_3, k31_0, k31_1, k31_2, k31_3, k32u, k33, k34, k35, k35b, k36, k37, k38, k47, k49, k49b_0, k49b_1, k49b_2, k49b_3, k50_0, k50_s, k51_0, k51_s, k55, k58, k58b, rk_0, rk_1, rk_2, rk_9, rk_3, rk_4, rk_5, sw_n, sw_c, xtb_n, xtb_c, lset_0, lset_2, lset_1, lkm_0, lkm_2, lkm_9, lkm_1, lkm_n, if_some1, c_10, c_01, c_x0, c_1x, c_n0, c_nn, List.getElem?_cons_zero, List.getElem?_cons_succ, List.set_cons_zero, List.set_cons_succ, List.length_cons, List.length_nil, Int.reduceToNat, Nat.reduceDiv, Nat.reduceMod, Nat.reduceSub, Nat.reduceAdd, Nat.reduceMul, Nat.reduceLT, Nat.reduceLeDiff, Nat.reduceEqDiff, Int.reduceMod, Int.reduceSub, Int.reduceNeg, Int.reduceAdd, Int.reduceMul, Int.reduceLT, Int.reduceLE, Int.reduceEq, put_ss, if_true, if_false, ite_true, ite_false, reduceIte, eq_self, and_true, true_and, and_false, false_and, or_true, true_or, or_false, false_or, not_true_eq_false, not_false_eq_true, e2, Int.lt_irrefl]
    rw [e1]
  | succ j ih =>
    intro c N h hN
    obtain ⟨N, rfl⟩ : ∃ n', N = n' + 1 := ⟨N - 1, by omega⟩
    have hk : (c : Int) < 40 := by omega
    have c1 := ih (c + 1) N (by omega) (by omega)
    rw [Int.natCast_succ, ← clr_s] at c1
    have e1 : (40 * (p : Int) + (c : Int)).toNat = 40 * p + c := by omega
    rw [lf_s]
    simp (disch := omega) only [l1_i, l1_1, l1_0, l2_0, l2_1, l2_2, l2_3, l3_0, w2_0, w2_1, w2_2, w2_3, d1_0, d1_1, d1_2, d1_3, d2_i, d2_1, d2_0, ev_0, ev_1, ev_16, ev_17, ev_18, ev_2, ev_3, ev_4, ev_5, ev_6, ev_7, ev_8, ev_9, ev_20, ev_21, ev_22, ev_23, ev_24, ev_25, ev_27, ev_28, ev_30, ev_31, ev_32, ev_33, ev_34, ev_35, ev_36, ev_37, ev_38, ev_39, ev_40, ev_41, ev_42, ev_43, ev_45, ev_46, ev_47, ev_48, ev_49, ev_50, ev_51, ev_52, ev_54, ev_55, ev_57, ev_58, ev_59, k2_0, k2_1, k2_2, k3a, k3b, k4, o1_s, xbin_0, xbin_1, xbin_2, xbin_3, xbin_4, xbin_5, xbin_6, xbin_7, xbin_8, xbin_9, xbin_11, xbin_12, xun_0, xun_1, xun_2, xun_3, xun_4, xun_5, k6a, k8, k8b, k9, k20, k20b_0, k20b_1, k20b_2, k20b_3, k20b_4, k20b_5, k21_0, k21_1, k21_2, k21_3, k21_4, k21_5, k23, k24, k25, k27, k28, k40, nz_1, nz_2, nz_3, k31_0, k31_1, k31_2, k31_3, k32u, k33, k34, k35, k35b, k36, k37, k38, k47, k49, k49b_0, k49b_1, k49b_2, k49b_3, k50_0, k50_s, k51_0, k51_s, k55, k58, k58b, rk_0, rk_1, rk_2, rk_9, rk_3, rk_4, rk_5, sw_n, sw_c, xtb_n, xtb_c, lset_0, lset_2, lset_1, lkm_0, lkm_2, lkm_9, lkm_1, lkm_n, if_some1, c_10, c_01, c_x0, c_1x, c_n0, c_nn, List.getElem?_cons_zero, List.getElem?_cons_succ, List.set_cons_zero, List.set_cons_succ, List.length_cons, List.length_nil, Int.reduceToNat, Nat.reduceDiv, Nat.reduceMod, Nat.reduceSub, Nat.reduceAdd, Nat.reduceMul, Nat.reduceLT, Nat.reduceLeDiff, Nat.reduceEqDiff, Int.reduceMod, Int.reduceSub, Int.reduceNeg, Int.reduceAdd, Int.reduceMul, Int.reduceLT, Int.reduceLE, Int.reduceEq, put_ss, if_true, if_false, ite_true, ite_false, reduceIte, eq_self, and_true, true_and, and_false, false_and, or_true, true_or, or_false, false_or, not_true_eq_false, not_false_eq_true, k5_158_66, k6_192, k35_192, n_192, hk, w32_of, e1, Int.reduceMod, c1]
theorem L_stt {B : Mem} {p : Nat} {at0 n : Int} (hp : p < 40) (h173 : B 173 p = at0) (h174 : B 174 p = n) (h0 : 0 ≤ at0) (h1 : at0 + n ≤ 1600) (h2 : ∀ k : Nat, (k : Int) < n → 0 ≤ B 175 (at0 + k).toNat ∧ B 175 (at0 + k).toNat < 40) : ∀ (j c N : Nat), (c : Int) + j = n → j < N → LF F d laS lbS lcS N ([(2, 158), (0, main), (0, (p : Int)), (0, at0 + (c : Int))], Hp L xs (stt B (40 * p) (fun k => B 175 (at0 + k).toNat) c)) = some (0, [], ([(2, 158), (0, main), (0, (p : Int)), (0, at0 + n)], Hp L xs (stt B (40 * p) (fun k => B 175 (at0 + k).toNat) n.toNat))) := by
  intro j
  induction j with
  | zero =>
    intro c N h hN
    obtain ⟨N, rfl⟩ : ∃ n', N = n' + 1 := ⟨N - 1, by omega⟩
    have e1 : (c : Int) = n := by omega
    have e2 : c = n.toNat := by omega
    have e3 : stt B (40 * p) (fun k => B 175 (at0 + k).toNat) c 173 p = at0 := h173
    have e4 : stt B (40 * p) (fun k => B 175 (at0 + k).toNat) c 174 p = n := h174
    rw [lf_s]
    simp (disch := omega) only [l1_i, l1_1, l1_0, l2_0, l2_1, l2_2, l2_3, l3_0, w2_0, w2_1, w2_2, w2_3, d1_0, d1_1, d1_2, d1_3, d2_i, d2_1, d2_0, ev_0, ev_1, ev_16, ev_17, ev_18, ev_2, ev_3, ev_4, ev_5, ev_6, ev_7, ev_8, ev_9, ev_20, ev_21, ev_22, ev_23, ev_24, ev_25, ev_27, ev_28, ev_30, ev_31, ev_32, ev_33, ev_34, ev_35, ev_36, ev_37, ev_38, ev_39, ev_40, ev_41, ev_42, ev_43, ev_45, ev_46, ev_47, ev_48, ev_49, ev_50, ev_51, ev_52, ev_54, ev_55, ev_57, ev_58, ev_59, k2_0, k2_1, k2_2, k3a, k3b, k4, o1_s, xbin_0, xbin_1, xbin_2, xbin_3, xbin_4, xbin_5, xbin_6, xbin_7, xbin_8, xbin_9, xbin_11, xbin_12, xun_0, xun_1, xun_2, xun_3, xun_4, xun_5, k6a, k8, k8b, k9, k20, k20b_0, k20b_1, k20b_2, k20b_3, k20b_4, k20b_5, k21_0, k21_1, k21_2, k21_3, k21_4, k21_5, k23, k24, k25, k27, k28, k40, nz_1, nz_2, nz_3, k31_0, k31_1, k31_2, k31_3, k32u, k33, k34, k35, k35b, k36, k37, k38, k47, k49, k49b_0, k49b_1, k49b_2, k49b_3, k50_0, k50_s, k51_0, k51_s, k55, k58, k58b, rk_0, rk_1, rk_2, rk_9, rk_3, rk_4, rk_5, sw_n, sw_c, xtb_n, xtb_c, lset_0, lset_2, lset_1, lkm_0, lkm_2, lkm_9, lkm_1, lkm_n, if_some1, c_10, c_01, c_x0, c_1x, c_n0, c_nn, List.getElem?_cons_zero, List.getElem?_cons_succ, List.set_cons_zero, List.set_cons_succ, List.length_cons, List.length_nil, Int.reduceToNat, Nat.reduceDiv, Nat.reduceMod, Nat.reduceSub, Nat.reduceAdd, Nat.reduceMul, Nat.reduceLT, Nat.reduceLeDiff, Nat.reduceEqDiff, Int.reduceMod, Int.reduceSub, Int.reduceNeg, Int.reduceAdd, Int.reduceMul, Int.reduceLT, Int.reduceLE, Int.reduceEq, put_ss, if_true, if_false, ite_true, ite_false, reduceIte, eq_self, and_true, true_and, and_false, false_and, or_true, true_or, or_false, false_or, not_true_eq_false, not_false_eq_true, k5_158_34, k6_173, k35_173, n_173, k5_158_35, k6_174, k35_174, n_174, Int.toNat_natCast, e3, e4, e1, w32_of, Int.lt_irrefl]
    rw [e2]
  | succ j ih =>
    intro c N h hN
    obtain ⟨N, rfl⟩ : ∃ n', N = n' + 1 := ⟨N - 1, by omega⟩
    have hk : at0 + (c : Int) < at0 + n := by omega
    have e3 : stt B (40 * p) (fun k => B 175 (at0 + k).toNat) c 173 p = at0 := h173
    have e4 : stt B (40 * p) (fun k => B 175 (at0 + k).toNat) c 174 p = n := h174
    have e5 : ∀ i, stt B (40 * p) (fun k => B 175 (at0 + k).toNat) c 175 i = B 175 i := fun i => rfl
    obtain ⟨r0, r1⟩ := h2 c (by omega)
    have c1 := ih (c + 1) N (by omega) (by omega)
    have e6 : at0 + ((c + 1 : Nat) : Int) = at0 + (c : Int) + 1 := by omega
    have ss := stt_s (B := B) (o := 40 * p) (n := c) (f := fun k => B 175 (at0 + k).toNat) r0
    have e7 : (((40 * p : Nat) : Int) + B 175 (at0 + (c : Int)).toNat).toNat = (40 * (p : Int) + B 175 (at0 + (c : Int)).toNat).toNat := by omega
    rw [e7] at ss
    rw [e6, ← ss] at c1
    generalize stt B (40 * p) (fun k => B 175 (at0 + k).toNat) c = Q at *
    rw [lf_s]
    simp (disch := omega) only [l1_i, l1_1, l1_0, l2_0, l2_1, l2_2, l2_3, l3_0, w2_0, w2_1, w2_2, w2_3, d1_0, d1_1, d1_2, d1_3, d2_i, d2_1, d2_0, ev_0, ev_1, ev_16, ev_17, ev_18, ev_2, ev_3, ev_4, ev_5, ev_6, ev_7, ev_8, ev_9, ev_20, ev_21, ev_22, ev_23, ev_24, ev_25, ev_27, ev_28, ev_30, ev_31, ev_32, ev_33, ev_34, ev_35, ev_36, ev_37, ev_38, ev_39, ev_40, ev_41, ev_42, ev_43, ev_45, ev_46, ev_47, ev_48, ev_49, ev_50, ev_51, ev_52, ev_54, ev_55, ev_57, ev_58, ev_59, k2_0, k2_1, k2_2, k3a, k3b, k4, o1_s, xbin_0, xbin_1, xbin_2, xbin_3, xbin_4, xbin_5, xbin_6, xbin_7, xbin_8, xbin_9, xbin_11, xbin_12, xun_0, xun_1, xun_2, xun_3, xun_4, xun_5, k6a, k8, k8b, k9, k20, k20b_0, k20b_1, k20b_2, k20b_3, k20b_4, k20b_5, k21_0, k21_1, k21_2, k21_3, k21_4, k21_5, k23, k24, k25, k27, k28, k40, nz_1, nz_2, nz_3, k31_0, k31_1, k31_2, k31_3, k32u, k33, k34, k35, k35b, k36, k37, k38, k47, k49, k49b_0, k49b_1, k49b_2, k49b_3, k50_0, k50_s, k51_0, k51_s, k55, k58, k58b, rk_0, rk_1, rk_2, rk_9, rk_3, rk_4, rk_5, sw_n, sw_c, xtb_n, xtb_c, lset_0, lset_2, lset_1, lkm_0, lkm_2, lkm_9, lkm_1, lkm_n, if_some1, c_10, c_01, c_x0, c_1x, c_n0, c_nn, List.getElem?_cons_zero, List.getElem?_cons_succ, List.set_cons_zero, List.set_cons_succ, List.length_cons, List.length_nil, Int.reduceToNat, Nat.reduceDiv, Nat.reduceMod, Nat.reduceSub, Nat.reduceAdd, Nat.reduceMul, Nat.reduceLT, Nat.reduceLeDiff, Nat.reduceEqDiff, Int.reduceMod, Int.reduceSub, Int.reduceNeg, Int.reduceAdd, Int.reduceMul, Int.reduceLT, Int.reduceLE, Int.reduceEq, put_ss, if_true, if_false, ite_true, ite_false, reduceIte, eq_self, and_true, true_and, and_false, false_and, or_true, true_or, or_false, false_or, not_true_eq_false, not_false_eq_true, k5_158_34, k6_173, k35_173, n_173, k5_158_35, k6_174, k35_174, n_174, k5_158_66, k6_192, k35_192, n_192, k5_158_37, k6_175, k35_175, n_175, Int.toNat_natCast, e3, e4, e5, hk, w32_of, Int.reduceMod, c1]
/-- may a proc end with a condition -/
def rsB (m : Mem) (p c : Nat) : Bool := (List.range (m 174 p).toNat).any (fun j => decide ((c : Int) = m 175 (m 173 p + j).toNat))
def rsF2 (m : Mem) (i : Nat) : Int := if rsB m (i / 40) (i % 40) = true then 1 else 0
def szM (m : Mem) (p : Nat) : Int := w32 (w32 (m 170 p + 2) + m 171 p)
def wtM (m : Mem) (p : Nat) : Int := w32 (w32 (w32 (2 + m 171 p) + m 183 p) + 3)
def kp2 (m : Mem) (p : Nat) : Mem := cpr (cpr (cpr (cpr (cpr m 188 (fun j => m 170 j) p) 189 (fun j => szM m j) p) 190 (fun j => wtM m j) p) 191 (fun j => m 182 j) p) 192 (rsF2 m) (40 * p)
theorem kp2_s {p : Nat} (h2 : ∀ k : Nat, (k : Int) < m 174 p → 0 ≤ m 175 (m 173 p + k).toNat ∧ m 175 (m 173 p + k).toNat < 40) : stt (clr (put (put (put (put (kp2 m p) 188 p (m 170 p)) 189 p (szM m p)) 190 p (wtM m p)) 191 p (m 182 p)) (40 * p) 40) (40 * p) (fun k => m 175 (m 173 p + k).toNat) (m 174 p).toNat = kp2 m (p + 1) := by
  have e1 : put (put (put (put (kp2 m p) 188 p (m 170 p)) 189 p (szM m p)) 190 p (wtM m p)) 191 p (m 182 p) = cpr (cpr (cpr (cpr (cpr m 188 (fun j => m 170 j) (p + 1)) 189 (fun j => szM m j) (p + 1)) 190 (fun j => wtM m j) (p + 1)) 191 (fun j => m 182 j) (p + 1)) 192 (rsF2 m) (40 * p) := by
    unfold kp2
    simp (disch := decide) only [cpr_p]
    rw [cpr_s (m := m) (A := 188) (f := fun j => m 170 j), cpr_s (A := 189) (f := fun j => szM m j), cpr_s (A := 190) (f := fun j => wtM m j), cpr_s (A := 191) (f := fun j => m 182 j)]
  rw [e1]
  unfold kp2
  funext a i
  by_cases ha : a = 192
  · subst ha
    rw [cpr_a]
    show (if tld (40 * p) (fun k => m 175 (m 173 p + k).toNat) (m 174 p).toNat i = true then (1 : Int) else (if 40 * p ≤ i ∧ i < 40 * p + 40 then 0 else cpr _ 192 (rsF2 m) (40 * p) 192 i)) = _
    rw [cpr_a]
    have hin : ∀ q c : Nat, i = 40 * p + c → c < 40 → (tld (40 * p) (fun k => m 175 (m 173 p + k).toNat) (m 174 p).toNat i = rsB m p c) := fun q c hc hc2 => by
      unfold tld rsB
      congr 1
      funext j
      congr 1
      apply propext
      show ((i : Int) = ((40 * p : Nat) : Int) + m 175 (m 173 p + (j : Int)).toNat) ↔ ((c : Int) = m 175 (m 173 p + (j : Int)).toNat)
      constructor <;> intro z <;> omega
    by_cases h1 : 40 * p ≤ i ∧ i < 40 * p + 40
    · obtain ⟨c, hc, hc2⟩ : ∃ c, i = 40 * p + c ∧ c < 40 := ⟨i - 40 * p, by omega, by omega⟩
      rw [hin p c hc hc2, if_pos h1, if_pos (show i < 40 * (p + 1) by omega)]
      unfold rsF2
      have d1 : i / 40 = p := by omega
      have d2 : i % 40 = c := by omega
      rw [d1, d2]
    · have hno : tld (40 * p) (fun k => m 175 (m 173 p + k).toNat) (m 174 p).toNat i = false := by
        cases hz : tld (40 * p) (fun k => m 175 (m 173 p + k).toNat) (m 174 p).toNat i with
        | false => rfl
        | true =>
          exfalso
          unfold tld at hz
          obtain ⟨j, j1, j2⟩ := List.any_eq_true.mp hz
          have j3 := List.mem_range.mp j1
          have j4 : (i : Int) = ((40 * p : Nat) : Int) + m 175 (m 173 p + (j : Int)).toNat := of_decide_eq_true j2
          have := h2 j (by omega)
          omega
      rw [hno, if_neg (fun z => Bool.noConfusion z), if_neg h1]
      by_cases h3 : i < 40 * p
      · rw [if_pos h3, if_pos (by omega)]
      · rw [if_neg h3, if_neg (by omega)]
  · show (if a = 192 then _ else (if a = 192 then _ else cpr _ 192 (rsF2 m) (40 * p) a i)) = _
    rw [if_neg ha, if_neg ha, cpr_o ha, cpr_o ha]
abbrev la256p : xT := (nd 20 2 (nd 2 8 xz xz) (nd 5 11025 (nd 2 2 xz xz) xz))
abbrev lb256p : xT := (nd 31 0 (n3 35 0 (nd 5 11062 (nd 2 2 xz xz) xz) (nd 2 8 xz xz) (nd 6 0 (nd 5 11026 (nd 2 2 xz xz) xz) (nd 2 8 xz xz))) (nd 31 0 (n3 35 0 (nd 5 11063 (nd 2 2 xz xz) xz) (nd 2 8 xz xz) (nd 8 254 xz (nd 58 0 (nd 2 2 xz xz) (nd 58 0 (nd 2 8 xz xz) (nd 57 0 xz xz))))) (nd 31 0 (n3 35 0 (nd 5 11064 (nd 2 2 xz xz) xz) (nd 2 8 xz xz) (nd 8 255 xz (nd 58 0 (nd 2 2 xz xz) (nd 58 0 (nd 2 8 xz xz) (nd 57 0 xz xz))))) (nd 31 0 (n3 35 0 (nd 5 11065 (nd 2 2 xz xz) xz) (nd 2 8 xz xz) (nd 6 0 (nd 5 11050 (nd 2 2 xz xz) xz) (nd 2 8 xz xz))) (nd 31 0 (nd 31 0 (nd 32 12 xz (nd 0 0 xz xz)) (n3 41 189 (nd 20 2 (nd 2 12 xz xz) (nd 0 40 xz xz)) (n3 35 3 (nd 5 11066 (nd 2 2 xz xz) xz) (nd 3 0 (nd 3 2 (nd 0 40 xz xz) (nd 2 8 xz xz)) (nd 2 12 xz xz)) (nd 0 0 xz xz)) (nd 33 229377 xz xz))) (nd 31 0 (nd 32 12 xz (nd 6 0 (nd 5 11034 (nd 2 2 xz xz) xz) (nd 2 8 xz xz))) (n3 41 236 (nd 20 2 (nd 2 12 xz xz) (nd 3 0 (nd 6 0 (nd 5 11034 (nd 2 2 xz xz) xz) (nd 2 8 xz xz)) (nd 6 0 (nd 5 11035 (nd 2 2 xz xz) xz) (nd 2 8 xz xz)))) (n3 35 3 (nd 5 11066 (nd 2 2 xz xz) xz) (nd 3 0 (nd 3 2 (nd 0 40 xz xz) (nd 2 8 xz xz)) (nd 6 0 (nd 5 11037 (nd 2 2 xz xz) xz) (nd 2 12 xz xz))) (nd 0 1 xz xz)) (nd 33 229377 xz xz))))))))
abbrev lc256p : xT := (nd 33 163841 xz xz)
theorem L_256p (h25 : m 158 25 ≤ 40) (hR : ∀ p : Nat, (p : Int) < m 158 25 → 0 ≤ m 173 p ∧ 0 ≤ m 174 p ∧ m 173 p + m 174 p ≤ 1600 ∧ ∀ k : Nat, (k : Int) < m 174 p → 0 ≤ m 175 (m 173 p + k).toNat ∧ m 175 (m 173 p + k).toNat < 40) (hF : 100000 ≤ F) : ∀ (j p N : Nat) (w : Nat × Int), (p : Int) + j = m 158 25 → j < N → ∃ w', LF F (d + 1) la256p lb256p lc256p N ([(2, 158), (0, main), (0, (p : Int)), w], Hp L xs (kp2 m p)) = some (0, [], ([(2, 158), (0, main), (0, m 158 25), w'], Hp L xs (kp2 m (m 158 25).toNat))) := by
  intro j
  induction j with
  | zero =>
    intro p N w h hN
    obtain ⟨N, rfl⟩ : ∃ n', N = n' + 1 := ⟨N - 1, by omega⟩
    have e1 : (p : Int) = m 158 25 := by omega
    have e2 : p = (m 158 25).toNat := by omega
    have e3 : kp2 m p 158 25 = m 158 25 := rfl
    refine ⟨w, ?_⟩
    rw [lf_s]
    simp (disch := omega) only [l1_i, l1_1, l1_0, l2_0, l2_1, l2_2, l2_3, l3_0, w2_0, w2_1, w2_2, w2_3, d1_0, d1_1, d1_2, d1_3, d2_i, d2_1, d2_0, ev_0, ev_1, ev_16, ev_17, ev_18, ev_2, ev_3, ev_4, ev_5, ev_6, ev_7, ev_8, ev_9, ev_20, ev_21, ev_22, ev_23, ev_24, ev_25, ev_27, ev_28, ev_30, ev_31, ev_32, ev_33, ev_34, ev_35, ev_36, ev_37, ev_38, ev_39, ev_40, ev_41, ev_42, ev_43, ev_45, ev_46, ev_47, ev_48, ev_49, ev_50, ev_51, ev_52, ev_54, ev_55, ev_57, ev_58, ev_59, k2_0, k2_1, k2_2, k3a, k3b, k4, o1_s, xbin_0, xbin_1, xbin_2, xbin_3, xbin_4, xbin_5, xbin_6, xbin_7, xbin_8, xbin_9, xbin_11, xbin_12, xun_0, xun_1, xun_2, xun_3, xun_4, xun_5, k6a, k8, k8b, k9, k20, k20b_0, k20b_1, k20b_2, k20b_3, k20b_4, k20b_5, k21_0, k21_1, k21_2, k21_3, k21_4, k21_5, k23, k24, k25, k27, k28, k40, nz_1, nz_2, nz_3, k31_0, k31_1, k31_2, k31_3, k32u, k33, k34, k35, k35b, k36, k37, k38, k47, k49, k49b_0, k49b_1, k49b_2, k49b_3, k50_0, k50_s, k51_0, k51_s, k55, k58, k58b, rk_0, rk_1, rk_2, rk_9, rk_3, rk_4, rk_5, sw_n, sw_c, xtb_n, xtb_c, lset_0, lset_2, lset_1, lkm_0, lkm_2, lkm_9, lkm_1, lkm_n, if_some1, c_10, c_01, c_x0, c_1x, c_n0, c_nn, List.getElem?_cons_zero, List.getElem?_cons_succ, List.set_cons_zero, List.set_cons_succ, List.length_cons, List.length_nil, Int.reduceToNat, Nat.reduceDiv, Nat.reduceMod, Nat.reduceSub, Nat.reduceAdd, Nat.reduceMul, Nat.reduceLT, Nat.reduceLeDiff, Nat.reduceEqDiff, Int.reduceMod, Int.reduceSub, Int.reduceNeg, Int.reduceAdd, Int.reduceMul, Int.reduceLT, Int.reduceLE, Int.reduceEq, put_ss, if_true, if_false, ite_true, ite_false, reduceIte, eq_self, and_true, true_and, and_false, false_and, or_true, true_or, or_false, false_or, not_true_eq_false, not_false_eq_true, k5_158_25, k34_158_25, k54_158_25, k54b_158_25_0, e1, e3, Int.lt_irrefl]
    rw [← e2]
  | succ j ih =>
    intro p N w h hN
    obtain ⟨N, rfl⟩ : ∃ n', N = n' + 1 := ⟨N - 1, by omega⟩
    have hk : (p : Int) < m 158 25 := by omega
    obtain ⟨r0, r1, r2, r3⟩ := hR p hk
    obtain ⟨w', c1⟩ := ih (p + 1) N (0, m 173 p + m 174 p) (by omega) (by omega)
    refine ⟨w', ?_⟩
    rw [Int.natCast_succ, ← kp2_s r3] at c1
    have e3 : kp2 m p 158 25 = m 158 25 := rfl
    have e4 : kp2 m p 170 p = m 170 p := rfl
    have e5 : kp2 m p 182 p = m 182 p := rfl
    have y1 := M_254 (F := F) (L := L) (xs := xs) (d := d) (m := put (kp2 m p) 188 p (m 170 p)) (a := (p : Int)) (by omega) (by omega)
    have y2 := M_255 (F := F) (L := L) (xs := xs) (d := d) (m := put (put (kp2 m p) 188 p (m 170 p)) 189 p (szM m p)) (a := (p : Int)) (by omega) (by omega)
    rw [Int.toNat_natCast] at y1 y2
    have y1' : Cx F (d + 1) 254 [158, (p : Int)] (Hp L xs (put (kp2 m p) 188 p (m 170 p))) = some ([szM m p], Hp L xs (put (kp2 m p) 188 p (m 170 p))) := y1
    have y2' : Cx F (d + 1) 255 [158, (p : Int)] (Hp L xs (put (put (kp2 m p) 188 p (m 170 p)) 189 p (szM m p))) = some ([wtM m p], Hp L xs (put (put (kp2 m p) 188 p (m 170 p)) 189 p (szM m p))) := y2
    generalize hB : put (put (put (put (kp2 m p) 188 p (m 170 p)) 189 p (szM m p)) 190 p (wtM m p)) 191 p (m 182 p) = B at *
    have b173 : clr B (40 * p) 40 173 p = m 173 p := by rw [← hB]; rfl
    have b174 : clr B (40 * p) 40 174 p = m 174 p := by rw [← hB]; rfl
    have b175 : ∀ i, clr B (40 * p) 40 175 i = m 175 i := fun i => by rw [← hB]; rfl
    have y3 := L_clr (F := F) (L := L) (xs := xs) (d := d + 1) (main := main) (B := B) (p := p) (by omega) 40 0 F (by omega) (by omega)
    rw [clr_0] at y3
    have y4 := L_stt (F := F) (L := L) (xs := xs) (d := d + 1) (main := main) (B := clr B (40 * p) 40) (p := p) (by omega) b173 b174 r0 r2 (fun k hk => by rw [b175]; exact r3 k hk) (m 174 p).toNat 0 F (by omega) (by omega)
    rw [stt_0] at y4
    have ef : (fun k : Nat => clr B (40 * p) 40 175 (m 173 p + (k : Int)).toNat) = (fun k : Nat => m 175 (m 173 p + (k : Int)).toNat) := funext fun k => b175 _
    rw [ef] at y4
    have e0 : m 173 p + ((0 : Nat) : Int) = m 173 p := by omega
    rw [e0] at y4
    have e00 : ((0 : Nat) : Int) = 0 := rfl
    rw [e00] at y3
    have hB1 : put (put (put (kp2 m p) 188 p (m 170 p)) 189 p (szM m p)) 190 p (wtM m p) 182 p = m 182 p := rfl
    have q1 : ∀ a i, a ≠ 192 → clr B (40 * p) 40 a i = B a i := fun a i hn => if_neg hn
    rw [lf_s]
    simp (disch := omega) only [l1_i, l1_1, l1_0, l2_0, l2_1, l2_2, l2_3, l3_0, w2_0, w2_1, w2_2, w2_3, d1_0, d1_1, d1_2, d1_3, d2_i, d2_1, d2_0, ev_0, ev_1, ev_16, ev_17, ev_18, ev_2, ev_3, ev_4, ev_5, ev_6, ev_7, ev_8, ev_9, ev_20, ev_21, ev_22, ev_23, ev_24, ev_25, ev_27, ev_28, ev_30, ev_31, ev_32, ev_33, ev_34, ev_35, ev_36, ev_37, ev_38, ev_39, ev_40, ev_41, ev_42, ev_43, ev_45, ev_46, ev_47, ev_48, ev_49, ev_50, ev_51, ev_52, ev_54, ev_55, ev_57, ev_58, ev_59, k2_0, k2_1, k2_2, k3a, k3b, k4, o1_s, xbin_0, xbin_1, xbin_2, xbin_3, xbin_4, xbin_5, xbin_6, xbin_7, xbin_8, xbin_9, xbin_11, xbin_12, xun_0, xun_1, xun_2, xun_3, xun_4, xun_5, k6a, k8, k8b, k9, k20, k20b_0, k20b_1, k20b_2, k20b_3, k20b_4, k20b_5, k21_0, k21_1, k21_2, k21_3, k21_4, k21_5, k23, k24, k25, k27, k28, k40, nz_1, nz_2, nz_3, k31_0, k31_1, k31_2, k31_3, k32u, k33, k34, k35, k35b, k36, k37, k38, k47, k49, k49b_0, k49b_1, k49b_2, k49b_3, k50_0, k50_s, k51_0, k51_s, k55, k58, k58b, rk_0, rk_1, rk_2, rk_9, rk_3, rk_4, rk_5, sw_n, sw_c, xtb_n, xtb_c, lset_0, lset_2, lset_1, lkm_0, lkm_2, lkm_9, lkm_1, lkm_n, if_some1, c_10, c_01, c_x0, c_1x, c_n0, c_nn, List.getElem?_cons_zero, List.getElem?_cons_succ, List.set_cons_zero, List.set_cons_succ, List.length_cons, List.length_nil, Int.reduceToNat, Nat.reduceDiv, Nat.reduceMod, Nat.reduceSub, Nat.reduceAdd, Nat.reduceMul, Nat.reduceLT, Nat.reduceLeDiff, Nat.reduceEqDiff, Int.reduceMod, Int.reduceSub, Int.reduceNeg, Int.reduceAdd, Int.reduceMul, Int.reduceLT, Int.reduceLE, Int.reduceEq, put_ss, if_true, if_false, ite_true, ite_false, reduceIte, eq_self, and_true, true_and, and_false, false_and, or_true, true_or, or_false, false_or, not_true_eq_false, not_false_eq_true, k5_158_25, k34_158_25, k54_158_25, k54b_158_25_0, k5_158_62, k6_188, k35_188, n_188, k5_158_63, k6_189, k35_189, n_189, k5_158_64, k6_190, k35_190, n_190, k5_158_65, k6_191, k35_191, n_191, k5_158_26, k6_170, k35_170, n_170, k5_158_50, k6_182, k35_182, n_182, k5_158_34, k6_173, k35_173, n_173, e3, hk, Int.toNat_natCast, e4, y1', y2', e5, hB, y3, b173, y4, w32_of, c1]
abbrev la256c : xT := (nd 20 2 (nd 2 8 xz xz) (nd 5 11074 (nd 2 2 xz xz) xz))
abbrev lb256c : xT := (n3 35 0 (nd 5 11069 (nd 2 2 xz xz) xz) (nd 2 8 xz xz) (nd 6 0 (nd 5 11073 (nd 2 2 xz xz) xz) (nd 2 8 xz xz)))
abbrev lc256c : xT := (nd 33 163841 xz xz)
theorem L_256c {w : Nat × Int} (h74 : m 158 74 ≤ 6000) : ∀ (j k N : Nat), (k : Int) + j = m 158 74 → j < N → LF F d la256c lb256c lc256c N ([(2, 158), (0, main), (0, (k : Int)), w], Hp L xs (cpr m 193 (fun j => m 195 j) k)) = some (0, [], ([(2, 158), (0, main), (0, m 158 74), w], Hp L xs (cpr m 193 (fun j => m 195 j) (m 158 74).toNat))) := by
  intro j
  induction j with
  | zero =>
    intro k N h hN
    obtain ⟨N, rfl⟩ : ∃ n', N = n' + 1 := ⟨N - 1, by omega⟩
    have e1 : (k : Int) = m 158 74 := by omega
    have e2 : k = (m 158 74).toNat := by omega
    have e3 : cpr m 193 (fun j => m 195 j) k 158 74 = m 158 74 := rfl
    rw [lf_s]
    simp (disch := omega) only [l1_i, l1_1, l1_0, l2_0, l2_1, l2_2, l2_3, l3_0, w2_0, w2_1, w2_2, w2_3, d1_0, d1_1, d1_2, d1_3, d2_i, d2_1, d2_0, ev_0, ev_1, ev_16, ev_17, ev_18, ev_2, ev_3, ev_4, ev_5, ev_6, ev_7, ev_8, ev_9, ev_20, ev_21, ev_22, ev_23, ev_24, ev_25, ev_27, ev_28, ev_30, ev_31, ev_32, ev_33, ev_34, ev_35, ev_36, ev_37, ev_38, ev_39, ev_40, ev_41, ev_42, ev_43, ev_45, ev_46, ev_47, ev_48, ev_49, ev_50, ev_51, ev_52, ev_54, ev_55, ev_57, ev_58, ev_59, k2_0, k2_1, k2_2, k3a, k3b, k4, o1_s, xbin_0, xbin_1, xbin_2, xbin_3, xbin_4, xbin_5, xbin_6, xbin_7, xbin_8, xbin_9, xbin_11, xbin_12, xun_0, xun_1, xun_2, xun_3, xun_4, xun_5, k6a, k8, k8b, k9, k20, k20b_0, k20b_1, k20b_2, k20b_3, k20b_4, k20b_5, k21_0, k21_1, k21_2, k21_3, k21_4, k21_5, k23, k24, k25, k27, k28, k40, nz_1, nz_2, nz_3, k31_0, k31_1, k31_2, k31_3, k32u, k33, k34, k35, k35b, k36, k37, k38, k47, k49, k49b_0, k49b_1, k49b_2, k49b_3, k50_0, k50_s, k51_0, k51_s, k55, k58, k58b, rk_0, rk_1, rk_2, rk_9, rk_3, rk_4, rk_5, sw_n, sw_c, xtb_n, xtb_c, lset_0, lset_2, lset_1, lkm_0, lkm_2, lkm_9, lkm_1, lkm_n, if_some1, c_10, c_01, c_x0, c_1x, c_n0, c_nn, List.getElem?_cons_zero, List.getElem?_cons_succ, List.set_cons_zero, List.set_cons_succ, List.length_cons, List.length_nil, Int.reduceToNat, Nat.reduceDiv, Nat.reduceMod, Nat.reduceSub, Nat.reduceAdd, Nat.reduceMul, Nat.reduceLT, Nat.reduceLeDiff, Nat.reduceEqDiff, Int.reduceMod, Int.reduceSub, Int.reduceNeg, Int.reduceAdd, Int.reduceMul, Int.reduceLT, Int.reduceLE, Int.reduceEq, put_ss, if_true, if_false, ite_true, ite_false, reduceIte, eq_self, and_true, true_and, and_false, false_and, or_true, true_or, or_false, false_or, not_true_eq_false, not_false_eq_true, k5_158_74, k34_158_74, k54_158_74, k54b_158_74_0, e1, e3, Int.lt_irrefl]
    rw [← e2]
  | succ j ih =>
    intro k N h hN
    obtain ⟨N, rfl⟩ : ∃ n', N = n' + 1 := ⟨N - 1, by omega⟩
    have e3 : cpr m 193 (fun j => m 195 j) k 158 74 = m 158 74 := rfl
    have e4 : cpr m 193 (fun j => m 195 j) k 195 k = m 195 k := rfl
    have hk : (k : Int) < m 158 74 := by omega
    have c1 := ih (k + 1) N (by omega) (by omega)
    have ss : put (cpr m 193 (fun j => m 195 j) k) 193 k (m 195 k) = cpr m 193 (fun j => m 195 j) (k + 1) := cpr_s (f := fun j => m 195 j)
    rw [Int.natCast_succ, ← ss] at c1
    generalize cpr m 193 (fun j => m 195 j) k = Q at *
    rw [lf_s]
    simp (disch := omega) only [l1_i, l1_1, l1_0, l2_0, l2_1, l2_2, l2_3, l3_0, w2_0, w2_1, w2_2, w2_3, d1_0, d1_1, d1_2, d1_3, d2_i, d2_1, d2_0, ev_0, ev_1, ev_16, ev_17, ev_18, ev_2, ev_3, ev_4, ev_5, ev_6, ev_7, ev_8, ev_9, ev_20, ev_21, ev_22, ev_23, ev_24, ev_25, ev_27, ev_28, ev_30, ev_31, ev_32, ev_33, ev_34, ev_35, ev_36, ev_37, ev_38, ev_39, ev_40, ev_41, ev_42, ev_43, ev_45, ev_46, ev_47, ev_48, ev_49, ev_50, ev_51, ev_52, ev_54, ev_55, ev_57, ev_58, ev_59, k2_0, k2_1, k2_2, k3a, k3b, k4, o1_s, xbin_0, xbin_1, xbin_2, xbin_3, xbin_4, xbin_5, xbin_6, xbin_7, xbin_8, xbin_9, xbin_11, xbin_12, xun_0, xun_1, xun_2, xun_3, xun_4, xun_5, k6a, k8, k8b, k9, k20, k20b_0, k20b_1, k20b_2, k20b_3, k20b_4, k20b_5, k21_0, k21_1, k21_2, k21_3, k21_4, k21_5, k23, k24, k25, k27, k28, k40, nz_1, nz_2, nz_3, k31_0, k31_1, k31_2, k31_3, k32u, k33, k34, k35, k35b, k36, k37, k38, k47, k49, k49b_0, k49b_1, k49b_2, k49b_3, k50_0, k50_s, k51_0, k51_s, k55, k58, k58b, rk_0, rk_1, rk_2, rk_9, rk_3, rk_4, rk_5, sw_n, sw_c, xtb_n, xtb_c, lset_0, lset_2, lset_1, lkm_0, lkm_2, lkm_9, lkm_1, lkm_n, if_some1, c_10, c_01, c_x0, c_1x, c_n0, c_nn, List.getElem?_cons_zero, List.getElem?_cons_succ, List.set_cons_zero, List.set_cons_succ, List.length_cons, List.length_nil, Int.reduceToNat, Nat.reduceDiv, Nat.reduceMod, Nat.reduceSub, Nat.reduceAdd, Nat.reduceMul, Nat.reduceLT, Nat.reduceLeDiff, Nat.reduceEqDiff, Int.reduceMod, Int.reduceSub, Int.reduceNeg, Int.reduceAdd, Int.reduceMul, Int.reduceLT, Int.reduceLE, Int.reduceEq, put_ss, if_true, if_false, ite_true, ite_false, reduceIte, eq_self, and_true, true_and, and_false, false_and, or_true, true_or, or_false, false_or, not_true_eq_false, not_false_eq_true, k5_158_74, k34_158_74, k54_158_74, k54b_158_74_0, k5_158_69, k6_193, k35_193, n_193, k5_158_73, k6_195, k35_195, k55_195, k55c_195, n_195, e3, hk, Int.toNat_natCast, e4, w32_of, c1]
abbrev la256v : xT := (nd 20 2 (nd 2 8 xz xz) (nd 5 11021 (nd 2 2 xz xz) xz))
abbrev lb256v : xT := (n3 35 0 (nd 5 11072 (nd 2 2 xz xz) xz) (nd 2 8 xz xz) (nd 6 0 (nd 5 11022 (nd 2 2 xz xz) xz) (nd 2 8 xz xz)))
abbrev lc256v : xT := (nd 33 163841 xz xz)
theorem L_256v {w : Nat × Int} (h21 : m 158 21 ≤ 60) : ∀ (j k N : Nat), (k : Int) + j = m 158 21 → j < N → LF F d la256v lb256v lc256v N ([(2, 158), (0, main), (0, (k : Int)), w], Hp L xs (cpr m 194 (fun j => m 168 j) k)) = some (0, [], ([(2, 158), (0, main), (0, m 158 21), w], Hp L xs (cpr m 194 (fun j => m 168 j) (m 158 21).toNat))) := by
  intro j
  induction j with
  | zero =>
    intro k N h hN
    obtain ⟨N, rfl⟩ : ∃ n', N = n' + 1 := ⟨N - 1, by omega⟩
    have e1 : (k : Int) = m 158 21 := by omega
    have e2 : k = (m 158 21).toNat := by omega
    have e3 : cpr m 194 (fun j => m 168 j) k 158 21 = m 158 21 := rfl
    rw [lf_s]
    simp (disch := omega) only [l1_i, l1_1, l1_0, l2_0, l2_1, l2_2, l2_3, l3_0, w2_0, w2_1, w2_2, w2_3, d1_0, d1_1, d1_2, d1_3, d2_i, d2_1, d2_0, ev_0, ev_1, ev_16, ev_17, ev_18, ev_2, ev_3, ev_4, ev_5, ev_6, ev_7, ev_8, ev_9, ev_20, ev_21, ev_22, ev_23, ev_24, ev_25, ev_27, ev_28, ev_30, ev_31, ev_32, ev_33, ev_34, ev_35, ev_36, ev_37, ev_38, ev_39, ev_40, ev_41, ev_42, ev_43, ev_45, ev_46, ev_47, ev_48, ev_49, ev_50, ev_51, ev_52, ev_54, ev_55, ev_57, ev_58, ev_59, k2_0, k2_1, k2_2, k3a, k3b, k4, o1_s, xbin_0, xbin_1, xbin_2, xbin_3, xbin_4, xbin_5, xbin_6, xbin_7, xbin_8, xbin_9, xbin_11, xbin_12, xun_0, xun_1, xun_2, xun_3, xun_4, xun_5, k6a, k8, k8b, k9, k20, k20b_0, k20b_1, k20b_2, k20b_3, k20b_4, k20b_5, k21_0, k21_1, k21_2, k21_3, k21_4, k21_5, k23, k24, k25, k27, k28, k40, nz_1, nz_2, nz_3, k31_0, k31_1, k31_2, k31_3, k32u, k33, k34, k35, k35b, k36, k37, k38, k47, k49, k49b_0, k49b_1, k49b_2, k49b_3, k50_0, k50_s, k51_0, k51_s, k55, k58, k58b, rk_0, rk_1, rk_2, rk_9, rk_3, rk_4, rk_5, sw_n, sw_c, xtb_n, xtb_c, lset_0, lset_2, lset_1, lkm_0, lkm_2, lkm_9, lkm_1, lkm_n, if_some1, c_10, c_01, c_x0, c_1x, c_n0, c_nn, List.getElem?_cons_zero, List.getElem?_cons_succ, List.set_cons_zero, List.set_cons_succ, List.length_cons, List.length_nil, Int.reduceToNat, Nat.reduceDiv, Nat.reduceMod, Nat.reduceSub, Nat.reduceAdd, Nat.reduceMul, Nat.reduceLT, Nat.reduceLeDiff, Nat.reduceEqDiff, Int.reduceMod, Int.reduceSub, Int.reduceNeg, Int.reduceAdd, Int.reduceMul, Int.reduceLT, Int.reduceLE, Int.reduceEq, put_ss, if_true, if_false, ite_true, ite_false, reduceIte, eq_self, and_true, true_and, and_false, false_and, or_true, true_or, or_false, false_or, not_true_eq_false, not_false_eq_true, k5_158_21, k34_158_21, k54_158_21, k54b_158_21_0, e1, e3, Int.lt_irrefl]
    rw [← e2]
  | succ j ih =>
    intro k N h hN
    obtain ⟨N, rfl⟩ : ∃ n', N = n' + 1 := ⟨N - 1, by omega⟩
    have e3 : cpr m 194 (fun j => m 168 j) k 158 21 = m 158 21 := rfl
    have e4 : cpr m 194 (fun j => m 168 j) k 168 k = m 168 k := rfl
    have hk : (k : Int) < m 158 21 := by omega
    have c1 := ih (k + 1) N (by omega) (by omega)
    have ss : put (cpr m 194 (fun j => m 168 j) k) 194 k (m 168 k) = cpr m 194 (fun j => m 168 j) (k + 1) := cpr_s (f := fun j => m 168 j)
    rw [Int.natCast_succ, ← ss] at c1
    generalize cpr m 194 (fun j => m 168 j) k = Q at *
    rw [lf_s]
    simp (disch := omega) only [l1_i, l1_1, l1_0, l2_0, l2_1, l2_2, l2_3, l3_0, w2_0, w2_1, w2_2, w2_3, d1_0, d1_1, d1_2, d1_3, d2_i, d2_1, d2_0, ev_0, ev_1, ev_16, ev_17, ev_18, ev_2, ev_3, ev_4, ev_5, ev_6, ev_7, ev_8, ev_9, ev_20, ev_21, ev_22, ev_23, ev_24, ev_25, ev_27, ev_28, ev_30, ev_31, ev_32, ev_33, ev_34, ev_35, ev_36, ev_37, ev_38, ev_39, ev_40, ev_41, ev_42, ev_43, ev_45, ev_46, ev_47, ev_48, ev_49, ev_50, ev_51, ev_52, ev_54, ev_55, ev_57, ev_58, ev_59, k2_0, k2_1, k2_2, k3a, k3b, k4, o1_s, xbin_0, xbin_1, xbin_2, xbin_3, xbin_4, xbin_5, xbin_6, xbin_7, xbin_8, xbin_9, xbin_11, xbin_12, xun_0, xun_1, xun_2, xun_3, xun_4, xun_5, k6a, k8, k8b, k9, k20, k20b_0, k20b_1, k20b_2, k20b_3, k20b_4, k20b_5, k21_0, k21_1, k21_2, k21_3, k21_4, k21_5, k23, k24, k25, k27, k28, k40, nz_1, nz_2, nz_3, k31_0, k31_1, k31_2, k31_3, k32u, k33, k34, k35, k35b, k36, k37, k38, k47, k49, k49b_0, k49b_1, k49b_2, k49b_3, k50_0, k50_s, k51_0, k51_s, k55, k58, k58b, rk_0, rk_1, rk_2, rk_9, rk_3, rk_4, rk_5, sw_n, sw_c, xtb_n, xtb_c, lset_0, lset_2, lset_1, lkm_0, lkm_2, lkm_9, lkm_1, lkm_n, if_some1, c_10, c_01, c_x0, c_1x, c_n0, c_nn, List.getElem?_cons_zero, List.getElem?_cons_succ, List.set_cons_zero, List.set_cons_succ, List.length_cons, List.length_nil, Int.reduceToNat, Nat.reduceDiv, Nat.reduceMod, Nat.reduceSub, Nat.reduceAdd, Nat.reduceMul, Nat.reduceLT, Nat.reduceLeDiff, Nat.reduceEqDiff, Int.reduceMod, Int.reduceSub, Int.reduceNeg, Int.reduceAdd, Int.reduceMul, Int.reduceLT, Int.reduceLE, Int.reduceEq, put_ss, if_true, if_false, ite_true, ite_false, reduceIte, eq_self, and_true, true_and, and_false, false_and, or_true, true_or, or_false, false_or, not_true_eq_false, not_false_eq_true, k5_158_21, k34_158_21, k54_158_21, k54b_158_21_0, k5_158_72, k6_194, k35_194, n_194, k5_158_22, k6_168, k35_168, n_168, e3, hk, Int.toNat_natCast, e4, w32_of, c1]
/-- what is kept -/
def kM1 (m : Mem) : Mem := kp1 (put (put m 158 54 1) 158 55 (m 158 41)) (m 158 41).toNat
def kM2 (m : Mem) : Mem := kp2 (put (put (kM1 m) 158 60 (m 158 25)) 158 61 (m 158 24 - 1)) (m 158 25).toNat
def kM3 (m : Mem) (main : Int) : Mem := cpr (put (put (kM2 m) 158 67 main) 158 68 (m 158 74)) 193 (fun j => m 195 j) (m 158 74).toNat
def kMM (m : Mem) (main : Int) : Mem := cpr (put (put (kM3 m main) 158 70 (m 158 75)) 158 71 (m 158 21)) 194 (fun j => m 168 j) (m 158 21).toNat
theorem M_256 (hF : 100000 ≤ F) (h41 : 0 ≤ m 158 41 ∧ m 158 41 ≤ 12000) (ht : ∀ k : Nat, (k : Int) < m 158 41 → m 179 k < 12000) (h25 : 0 ≤ m 158 25 ∧ m 158 25 ≤ 40) (hR : ∀ p : Nat, (p : Int) < m 158 25 → 0 ≤ m 173 p ∧ 0 ≤ m 174 p ∧ m 173 p + m 174 p ≤ 1600 ∧ ∀ k : Nat, (k : Int) < m 174 p → 0 ≤ m 175 (m 173 p + k).toNat ∧ m 175 (m 173 p + k).toNat < 40) (h24 : 0 ≤ m 158 24 ∧ m 158 24 ≤ 5000) (h74 : 0 ≤ m 158 74 ∧ m 158 74 ≤ 6000) (h21 : 0 ≤ m 158 21 ∧ m 158 21 ≤ 60) : Cx F (d + 2) 256 [158, main] (Hp L xs m) = some ([], Hp L xs (kMM m main)) := by
  have y1 := L_256 (F := F) (L := L) (xs := xs) (d := d + 1) (main := main) (m := put (put m 158 54 1) 158 55 (m 158 41)) h41.2 ht (m 158 41).toNat 0 F (by show ((0 : Nat) : Int) + _ = m 158 41; omega) (by omega)
  have z1 : kp1 (put (put m 158 54 1) 158 55 (m 158 41)) 0 = put (put m 158 54 1) 158 55 (m 158 41) := by
    unfold kp1
    rw [cpr_0, cpr_0, cpr_0, cpr_0]
  rw [z1] at y1
  have y1' : LF F (d + 1) la256 lb256 lc256 F ([(2, 158), (0, main), (0, 0), (9, 0)], Hp L xs (put (put m 158 54 1) 158 55 (m 158 41))) = some (0, [], ([(2, 158), (0, main), (0, m 158 41), (9, 0)], Hp L xs (kM1 m))) := y1
  obtain ⟨w', y2⟩ := L_256p (F := F) (L := L) (xs := xs) (d := d) (main := main) (m := put (put (kM1 m) 158 60 (m 158 25)) 158 61 (m 158 24 - 1)) h25.2 hR hF (m 158 25).toNat 0 F (9, 0) (by show ((0 : Nat) : Int) + _ = m 158 25; omega) (by omega)
  have z2 : kp2 (put (put (kM1 m) 158 60 (m 158 25)) 158 61 (m 158 24 - 1)) 0 = put (put (kM1 m) 158 60 (m 158 25)) 158 61 (m 158 24 - 1) := by
    unfold kp2
    rw [cpr_0, cpr_0, cpr_0, cpr_0, cpr_0]
  rw [z2] at y2
  have y2' : LF F (d + 1) la256p lb256p lc256p F ([(2, 158), (0, main), (0, 0), (9, 0)], Hp L xs (put (put (kM1 m) 158 60 (m 158 25)) 158 61 (m 158 24 - 1))) = some (0, [], ([(2, 158), (0, main), (0, m 158 25), w'], Hp L xs (kM2 m))) := y2
  have y3 := L_256c (F := F) (L := L) (xs := xs) (d := d + 1) (main := main) (w := w') (m := put (put (kM2 m) 158 67 main) 158 68 (m 158 74)) h74.2 (m 158 74).toNat 0 F (by show ((0 : Nat) : Int) + _ = m 158 74; omega) (by omega)
  rw [cpr_0] at y3
  have y3' : LF F (d + 1) la256c lb256c lc256c F ([(2, 158), (0, main), (0, 0), w'], Hp L xs (put (put (kM2 m) 158 67 main) 158 68 (m 158 74))) = some (0, [], ([(2, 158), (0, main), (0, m 158 74), w'], Hp L xs (kM3 m main))) := y3
  have y4 := L_256v (F := F) (L := L) (xs := xs) (d := d + 1) (main := main) (w := w') (m := put (put (kM3 m main) 158 70 (m 158 75)) 158 71 (m 158 21)) h21.2 (m 158 21).toNat 0 F (by show ((0 : Nat) : Int) + _ = m 158 21; omega) (by omega)
  rw [cpr_0] at y4
  have y4' : LF F (d + 1) la256v lb256v lc256v F ([(2, 158), (0, main), (0, 0), w'], Hp L xs (put (put (kM3 m main) 158 70 (m 158 75)) 158 71 (m 158 21))) = some (0, [], ([(2, 158), (0, main), (0, m 158 21), w'], Hp L xs (kMM m main))) := y4
  have g25 : kM1 m 158 25 = m 158 25 := rfl
  have g24 : kM1 m 158 24 = m 158 24 := rfl
  have g74 : kM2 m 158 74 = m 158 74 := rfl
  have g75 : kM3 m main 158 75 = m 158 75 := rfl
  have g21 : kM3 m main 158 21 = m 158 21 := rfl
  rw [c_256]
  unfold tr_256
  refine rk_s0 (s1 := ([(2, 158), (0, main), (9, 0), (9, 0)], Hp L xs (put m 158 54 1))) (by simp (disch := omega) only [ev_0, ev_1, ev_16, ev_17, ev_18, ev_2, ev_3, ev_4, ev_5, ev_6, ev_7, ev_8, ev_9, ev_20, ev_21, ev_22, ev_23, ev_24, ev_25, ev_27, ev_28, ev_30, ev_31, ev_32, ev_33, ev_34, ev_35, ev_36, ev_37, ev_38, ev_39, ev_40, ev_41, ev_42, ev_43, ev_45, ev_46, ev_47, ev_48, ev_49, ev_50, ev_51, ev_52, ev_54, ev_55, ev_57, ev_58, ev_59, k2_0, k2_1, k2_2, k3a, k3b, k4, o1_s, xbin_0, xbin_1, xbin_2, xbin_3, xbin_4, xbin_5, xbin_6, xbin_7, xbin_8, xbin_9, xbin_11, xbin_12, xun_0, xun_1, xun_2, xun_3, xun_4, xun_5, k6a, k8, k8b, k9, k20, k20b_0, k20b_1, k20b_2, k20b_3, k20b_4, k20b_5, k21_0, k21_1, k21_2, k21_3, k21_4, k21_5, k23, k24, k25, k27, k28, k40, nz_1, nz_2, nz_3, k31_0, k31_1, k31_2, k31_3, k32u, k33, k34, k35, k35b, k36, k37, k38, k47, k49, k49b_0, k49b_1, k49b_2, k49b_3, k50_0, k50_s, k51_0, k51_s, k55, k58, k58b, rk_0, rk_1, rk_2, rk_9, rk_3, rk_4, rk_5, sw_n, sw_c, xtb_n, xtb_c, lset_0, lset_2, lset_1, lkm_0, lkm_2, lkm_9, lkm_1, lkm_n, if_some1, c_10, c_01, c_x0, c_1x, c_n0, c_nn, List.getElem?_cons_zero, List.getElem?_cons_succ, List.set_cons_zero, List.set_cons_succ, List.length_cons, List.length_nil, Int.reduceToNat, Nat.reduceDiv, Nat.reduceMod, Nat.reduceSub, Nat.reduceAdd, Nat.reduceMul, Nat.reduceLT, Nat.reduceLeDiff, Nat.reduceEqDiff, Int.reduceMod, Int.reduceSub, Int.reduceNeg, Int.reduceAdd, Int.reduceMul, Int.reduceLT, Int.reduceLE, Int.reduceEq, put_ss, if_true, if_false, ite_true, ite_false, reduceIte, eq_self, and_true, true_and, and_false, false_and, or_true, true_or, or_false, false_or, not_true_eq_false, not_false_eq_true, k5_158_54, k34_158_54, k34i_158_54]) ?_
  refine rk_s0 (s1 := ([(2, 158), (0, main), (9, 0), (9, 0)], Hp L xs (put (put m 158 54 1) 158 55 (m 158 41)))) (by simp (disch := omega) only [ev_0, ev_1, ev_16, ev_17, ev_18, ev_2, ev_3, ev_4, ev_5, ev_6, ev_7, ev_8, ev_9, ev_20, ev_21, ev_22, ev_23, ev_24, ev_25, ev_27, ev_28, ev_30, ev_31, ev_32, ev_33, ev_34, ev_35, ev_36, ev_37, ev_38, ev_39, ev_40, ev_41, ev_42, ev_43, ev_45, ev_46, ev_47, ev_48, ev_49, ev_50, ev_51, ev_52, ev_54, ev_55, ev_57, ev_58, ev_59, k2_0, k2_1, k2_2, k3a, k3b, k4, o1_s, xbin_0, xbin_1, xbin_2, xbin_3, xbin_4, xbin_5, xbin_6, xbin_7, xbin_8, xbin_9, xbin_11, xbin_12, xun_0, xun_1, xun_2, xun_3, xun_4, xun_5, k6a, k8, k8b, k9, k20, k20b_0, k20b_1, k20b_2, k20b_3, k20b_4, k20b_5, k21_0, k21_1, k21_2, k21_3, k21_4, k21_5, k23, k24, k25, k27, k28, k40, nz_1, nz_2, nz_3, k31_0, k31_1, k31_2, k31_3, k32u, k33, k34, k35, k35b, k36, k37, k38, k47, k49, k49b_0, k49b_1, k49b_2, k49b_3, k50_0, k50_s, k51_0, k51_s, k55, k58, k58b, rk_0, rk_1, rk_2, rk_9, rk_3, rk_4, rk_5, sw_n, sw_c, xtb_n, xtb_c, lset_0, lset_2, lset_1, lkm_0, lkm_2, lkm_9, lkm_1, lkm_n, if_some1, c_10, c_01, c_x0, c_1x, c_n0, c_nn, List.getElem?_cons_zero, List.getElem?_cons_succ, List.set_cons_zero, List.set_cons_succ, List.length_cons, List.length_nil, Int.reduceToNat, Nat.reduceDiv, Nat.reduceMod, Nat.reduceSub, Nat.reduceAdd, Nat.reduceMul, Nat.reduceLT, Nat.reduceLeDiff, Nat.reduceEqDiff, Int.reduceMod, Int.reduceSub, Int.reduceNeg, Int.reduceAdd, Int.reduceMul, Int.reduceLT, Int.reduceLE, Int.reduceEq, put_ss, if_true, if_false, ite_true, ite_false, reduceIte, eq_self, and_true, true_and, and_false, false_and, or_true, true_or, or_false, false_or, not_true_eq_false, not_false_eq_true, k5_158_41, k34_158_41, k54_158_41, k54b_158_41_0, k5_158_55, k34_158_55]) ?_
  refine rk_s0 (s1 := ([(2, 158), (0, main), (0, m 158 41), (9, 0)], Hp L xs (kM1 m))) (by simp (disch := omega) only [ev_0, ev_1, ev_16, ev_17, ev_18, ev_2, ev_3, ev_4, ev_5, ev_6, ev_7, ev_8, ev_9, ev_20, ev_21, ev_22, ev_23, ev_24, ev_25, ev_27, ev_28, ev_30, ev_31, ev_32, ev_33, ev_34, ev_35, ev_36, ev_37, ev_38, ev_39, ev_40, ev_41, ev_42, ev_43, ev_45, ev_46, ev_47, ev_48, ev_49, ev_50, ev_51, ev_52, ev_54, ev_55, ev_57, ev_58, ev_59, k2_0, k2_1, k2_2, k3a, k3b, k4, o1_s, xbin_0, xbin_1, xbin_2, xbin_3, xbin_4, xbin_5, xbin_6, xbin_7, xbin_8, xbin_9, xbin_11, xbin_12, xun_0, xun_1, xun_2, xun_3, xun_4, xun_5, k6a, k8, k8b, k9, k20, k20b_0, k20b_1, k20b_2, k20b_3, k20b_4, k20b_5, k21_0, k21_1, k21_2, k21_3, k21_4, k21_5, k23, k24, k25, k27, k28, k40, nz_1, nz_2, nz_3, k31_0, k31_1, k31_2, k31_3, k32u, k33, k34, k35, k35b, k36, k37, k38, k47, k49, k49b_0, k49b_1, k49b_2, k49b_3, k50_0, k50_s, k51_0, k51_s, k55, k58, k58b, rk_0, rk_1, rk_2, rk_9, rk_3, rk_4, rk_5, sw_n, sw_c, xtb_n, xtb_c, lset_0, lset_2, lset_1, lkm_0, lkm_2, lkm_9, lkm_1, lkm_n, if_some1, c_10, c_01, c_x0, c_1x, c_n0, c_nn, List.getElem?_cons_zero, List.getElem?_cons_succ, List.set_cons_zero, List.set_cons_succ, List.length_cons, List.length_nil, Int.reduceToNat, Nat.reduceDiv, Nat.reduceMod, Nat.reduceSub, Nat.reduceAdd, Nat.reduceMul, Nat.reduceLT, Nat.reduceLeDiff, Nat.reduceEqDiff, Int.reduceMod, Int.reduceSub, Int.reduceNeg, Int.reduceAdd, Int.reduceMul, Int.reduceLT, Int.reduceLE, Int.reduceEq, put_ss, if_true, if_false, ite_true, ite_false, reduceIte, eq_self, and_true, true_and, and_false, false_and, or_true, true_or, or_false, false_or, not_true_eq_false, not_false_eq_true, y1']) ?_
  refine rk_s0 (s1 := ([(2, 158), (0, main), (0, m 158 41), (9, 0)], Hp L xs (put (kM1 m) 158 60 (m 158 25)))) (by simp (disch := omega) only [ev_0, ev_1, ev_16, ev_17, ev_18, ev_2, ev_3, ev_4, ev_5, ev_6, ev_7, ev_8, ev_9, ev_20, ev_21, ev_22, ev_23, ev_24, ev_25, ev_27, ev_28, ev_30, ev_31, ev_32, ev_33, ev_34, ev_35, ev_36, ev_37, ev_38, ev_39, ev_40, ev_41, ev_42, ev_43, ev_45, ev_46, ev_47, ev_48, ev_49, ev_50, ev_51, ev_52, ev_54, ev_55, ev_57, ev_58, ev_59, k2_0, k2_1, k2_2, k3a, k3b, k4, o1_s, xbin_0, xbin_1, xbin_2, xbin_3, xbin_4, xbin_5, xbin_6, xbin_7, xbin_8, xbin_9, xbin_11, xbin_12, xun_0, xun_1, xun_2, xun_3, xun_4, xun_5, k6a, k8, k8b, k9, k20, k20b_0, k20b_1, k20b_2, k20b_3, k20b_4, k20b_5, k21_0, k21_1, k21_2, k21_3, k21_4, k21_5, k23, k24, k25, k27, k28, k40, nz_1, nz_2, nz_3, k31_0, k31_1, k31_2, k31_3, k32u, k33, k34, k35, k35b, k36, k37, k38, k47, k49, k49b_0, k49b_1, k49b_2, k49b_3, k50_0, k50_s, k51_0, k51_s, k55, k58, k58b, rk_0, rk_1, rk_2, rk_9, rk_3, rk_4, rk_5, sw_n, sw_c, xtb_n, xtb_c, lset_0, lset_2, lset_1, lkm_0, lkm_2, lkm_9, lkm_1, lkm_n, if_some1, c_10, c_01, c_x0, c_1x, c_n0, c_nn, List.getElem?_cons_zero, List.getElem?_cons_succ, List.set_cons_zero, List.set_cons_succ, List.length_cons, List.length_nil, Int.reduceToNat, Nat.reduceDiv, Nat.reduceMod, Nat.reduceSub, Nat.reduceAdd, Nat.reduceMul, Nat.reduceLT, Nat.reduceLeDiff, Nat.reduceEqDiff, Int.reduceMod, Int.reduceSub, Int.reduceNeg, Int.reduceAdd, Int.reduceMul, Int.reduceLT, Int.reduceLE, Int.reduceEq, put_ss, if_true, if_false, ite_true, ite_false, reduceIte, eq_self, and_true, true_and, and_false, false_and, or_true, true_or, or_false, false_or, not_true_eq_false, not_false_eq_true, k5_158_25, k34_158_25, k54_158_25, k54b_158_25_0, k5_158_60, k34_158_60, g25]) ?_
  refine rk_s0 (s1 := ([(2, 158), (0, main), (0, m 158 41), (9, 0)], Hp L xs (put (put (kM1 m) 158 60 (m 158 25)) 158 61 (m 158 24 - 1)))) (by simp (disch := omega) only [ev_0, ev_1, ev_16, ev_17, ev_18, ev_2, ev_3, ev_4, ev_5, ev_6, ev_7, ev_8, ev_9, ev_20, ev_21, ev_22, ev_23, ev_24, ev_25, ev_27, ev_28, ev_30, ev_31, ev_32, ev_33, ev_34, ev_35, ev_36, ev_37, ev_38, ev_39, ev_40, ev_41, ev_42, ev_43, ev_45, ev_46, ev_47, ev_48, ev_49, ev_50, ev_51, ev_52, ev_54, ev_55, ev_57, ev_58, ev_59, k2_0, k2_1, k2_2, k3a, k3b, k4, o1_s, xbin_0, xbin_1, xbin_2, xbin_3, xbin_4, xbin_5, xbin_6, xbin_7, xbin_8, xbin_9, xbin_11, xbin_12, xun_0, xun_1, xun_2, xun_3, xun_4, xun_5, k6a, k8, k8b, k9, k20, k20b_0, k20b_1, k20b_2, k20b_3, k20b_4, k20b_5, k21_0, k21_1, k21_2, k21_3, k21_4, k21_5, k23, k24, k25, k27, k28, k40, nz_1, nz_2, nz_3, k31_0, k31_1, k31_2, k31_3, k32u, k33, k34, k35, k35b, k36, k37, k38, k47, k49, k49b_0, k49b_1, k49b_2, k49b_3, k50_0, k50_s, k51_0, k51_s, k55, k58, k58b, rk_0, rk_1, rk_2, rk_9, rk_3, rk_4, rk_5, sw_n, sw_c, xtb_n, xtb_c, lset_0, lset_2, lset_1, lkm_0, lkm_2, lkm_9, lkm_1, lkm_n, if_some1, c_10, c_01, c_x0, c_1x, c_n0, c_nn, List.getElem?_cons_zero, List.getElem?_cons_succ, List.set_cons_zero, List.set_cons_succ, List.length_cons, List.length_nil, Int.reduceToNat, Nat.reduceDiv, Nat.reduceMod, Nat.reduceSub, Nat.reduceAdd, Nat.reduceMul, Nat.reduceLT, Nat.reduceLeDiff, Nat.reduceEqDiff, Int.reduceMod, Int.reduceSub, Int.reduceNeg, Int.reduceAdd, Int.reduceMul, Int.reduceLT, Int.reduceLE, Int.reduceEq, put_ss, if_true, if_false, ite_true, ite_false, reduceIte, eq_self, and_true, true_and, and_false, false_and, or_true, true_or, or_false, false_or, not_true_eq_false, not_false_eq_true, k5_158_24, k34_158_24, k54_158_24, k54b_158_24_0, k5_158_61, k34_158_61, g24, w32_of]) ?_
  refine rk_s0 (s1 := ([(2, 158), (0, main), (0, m 158 25), w'], Hp L xs (kM2 m))) (by simp (disch := omega) only [ev_0, ev_1, ev_16, ev_17, ev_18, ev_2, ev_3, ev_4, ev_5, ev_6, ev_7, ev_8, ev_9, ev_20, ev_21, ev_22, ev_23, ev_24, ev_25, ev_27, ev_28, ev_30, ev_31, ev_32, ev_33, ev_34, ev_35, ev_36, ev_37, ev_38, ev_39, ev_40, ev_41, ev_42, ev_43, ev_45, ev_46, ev_47, ev_48, ev_49, ev_50, ev_51, ev_52, ev_54, ev_55, ev_57, ev_58, ev_59, k2_0, k2_1, k2_2, k3a, k3b, k4, o1_s, xbin_0, xbin_1, xbin_2, xbin_3, xbin_4, xbin_5, xbin_6, xbin_7, xbin_8, xbin_9, xbin_11, xbin_12, xun_0, xun_1, xun_2, xun_3, xun_4, xun_5, k6a, k8, k8b, k9, k20, k20b_0, k20b_1, k20b_2, k20b_3, k20b_4, k20b_5, k21_0, k21_1, k21_2, k21_3, k21_4, k21_5, k23, k24, k25, k27, k28, k40, nz_1, nz_2, nz_3, k31_0, k31_1, k31_2, k31_3, k32u, k33, k34, k35, k35b, k36, k37, k38, k47, k49, k49b_0, k49b_1, k49b_2, k49b_3, k50_0, k50_s, k51_0, k51_s, k55, k58, k58b, rk_0, rk_1, rk_2, rk_9, rk_3, rk_4, rk_5, sw_n, sw_c, xtb_n, xtb_c, lset_0, lset_2, lset_1, lkm_0, lkm_2, lkm_9, lkm_1, lkm_n, if_some1, c_10, c_01, c_x0, c_1x, c_n0, c_nn, List.getElem?_cons_zero, List.getElem?_cons_succ, List.set_cons_zero, List.set_cons_succ, List.length_cons, List.length_nil, Int.reduceToNat, Nat.reduceDiv, Nat.reduceMod, Nat.reduceSub, Nat.reduceAdd, Nat.reduceMul, Nat.reduceLT, Nat.reduceLeDiff, Nat.reduceEqDiff, Int.reduceMod, Int.reduceSub, Int.reduceNeg, Int.reduceAdd, Int.reduceMul, Int.reduceLT, Int.reduceLE, Int.reduceEq, put_ss, if_true, if_false, ite_true, ite_false, reduceIte, eq_self, and_true, true_and, and_false, false_and, or_true, true_or, or_false, false_or, not_true_eq_false, not_false_eq_true, y2']) ?_
  refine rk_s0 (s1 := ([(2, 158), (0, main), (0, m 158 25), w'], Hp L xs (put (kM2 m) 158 67 main))) (by simp (disch := omega) only [ev_0, ev_1, ev_16, ev_17, ev_18, ev_2, ev_3, ev_4, ev_5, ev_6, ev_7, ev_8, ev_9, ev_20, ev_21, ev_22, ev_23, ev_24, ev_25, ev_27, ev_28, ev_30, ev_31, ev_32, ev_33, ev_34, ev_35, ev_36, ev_37, ev_38, ev_39, ev_40, ev_41, ev_42, ev_43, ev_45, ev_46, ev_47, ev_48, ev_49, ev_50, ev_51, ev_52, ev_54, ev_55, ev_57, ev_58, ev_59, k2_0, k2_1, k2_2, k3a, k3b, k4, o1_s, xbin_0, xbin_1, xbin_2, xbin_3, xbin_4, xbin_5, xbin_6, xbin_7, xbin_8, xbin_9, xbin_11, xbin_12, xun_0, xun_1, xun_2, xun_3, xun_4, xun_5, k6a, k8, k8b, k9, k20, k20b_0, k20b_1, k20b_2, k20b_3, k20b_4, k20b_5, k21_0, k21_1, k21_2, k21_3, k21_4, k21_5, k23, k24, k25, k27, k28, k40, nz_1, nz_2, nz_3, k31_0, k31_1, k31_2, k31_3, k32u, k33, k34, k35, k35b, k36, k37, k38, k47, k49, k49b_0, k49b_1, k49b_2, k49b_3, k50_0, k50_s, k51_0, k51_s, k55, k58, k58b, rk_0, rk_1, rk_2, rk_9, rk_3, rk_4, rk_5, sw_n, sw_c, xtb_n, xtb_c, lset_0, lset_2, lset_1, lkm_0, lkm_2, lkm_9, lkm_1, lkm_n, if_some1, c_10, c_01, c_x0, c_1x, c_n0, c_nn, List.getElem?_cons_zero, List.getElem?_cons_succ, List.set_cons_zero, List.set_cons_succ, List.length_cons, List.length_nil, Int.reduceToNat, Nat.reduceDiv, Nat.reduceMod, Nat.reduceSub, Nat.reduceAdd, Nat.reduceMul, Nat.reduceLT, Nat.reduceLeDiff, Nat.reduceEqDiff, Int.reduceMod, Int.reduceSub, Int.reduceNeg, Int.reduceAdd, Int.reduceMul, Int.reduceLT, Int.reduceLE, Int.reduceEq, put_ss, if_true, if_false, ite_true, ite_false, reduceIte, eq_self, and_true, true_and, and_false, false_and, or_true, true_or, or_false, false_or, not_true_eq_false, not_false_eq_true, k5_158_67, k34_158_67]) ?_
  refine rk_s0 (s1 := ([(2, 158), (0, main), (0, m 158 25), w'], Hp L xs (put (put (kM2 m) 158 67 main) 158 68 (m 158 74)))) (by simp (disch := omega) only [ev_0, ev_1, ev_16, ev_17, ev_18, ev_2, ev_3, ev_4, ev_5, ev_6, ev_7, ev_8, ev_9, ev_20, ev_21, ev_22, ev_23, ev_24, ev_25, ev_27, ev_28, ev_30, ev_31, ev_32, ev_33, ev_34, ev_35, ev_36, ev_37, ev_38, ev_39, ev_40, ev_41, ev_42, ev_43, ev_45, ev_46, ev_47, ev_48, ev_49, ev_50, ev_51, ev_52, ev_54, ev_55, ev_57, ev_58, ev_59, k2_0, k2_1, k2_2, k3a, k3b, k4, o1_s, xbin_0, xbin_1, xbin_2, xbin_3, xbin_4, xbin_5, xbin_6, xbin_7, xbin_8, xbin_9, xbin_11, xbin_12, xun_0, xun_1, xun_2, xun_3, xun_4, xun_5, k6a, k8, k8b, k9, k20, k20b_0, k20b_1, k20b_2, k20b_3, k20b_4, k20b_5, k21_0, k21_1, k21_2, k21_3, k21_4, k21_5, k23, k24, k25, k27, k28, k40, nz_1, nz_2, nz_3, k31_0, k31_1, k31_2, k31_3, k32u, k33, k34, k35, k35b, k36, k37, k38, k47, k49, k49b_0, k49b_1, k49b_2, k49b_3, k50_0, k50_s, k51_0, k51_s, k55, k58, k58b, rk_0, rk_1, rk_2, rk_9, rk_3, rk_4, rk_5, sw_n, sw_c, xtb_n, xtb_c, lset_0, lset_2, lset_1, lkm_0, lkm_2, lkm_9, lkm_1, lkm_n, if_some1, c_10, c_01, c_x0, c_1x, c_n0, c_nn, List.getElem?_cons_zero, List.getElem?_cons_succ, List.set_cons_zero, List.set_cons_succ, List.length_cons, List.length_nil, Int.reduceToNat, Nat.reduceDiv, Nat.reduceMod, Nat.reduceSub, Nat.reduceAdd, Nat.reduceMul, Nat.reduceLT, Nat.reduceLeDiff, Nat.reduceEqDiff, Int.reduceMod, Int.reduceSub, Int.reduceNeg, Int.reduceAdd, Int.reduceMul, Int.reduceLT, Int.reduceLE, Int.reduceEq, put_ss, if_true, if_false, ite_true, ite_false, reduceIte, eq_self, and_true, true_and, and_false, false_and, or_true, true_or, or_false, false_or, not_true_eq_false, not_false_eq_true, k5_158_68, k34_158_68, k5_158_74, k34_158_74, k54_158_74, k54b_158_74_0, g74]) ?_
  refine rk_s0 (s1 := ([(2, 158), (0, main), (0, m 158 74), w'], Hp L xs (kM3 m main))) (by simp (disch := omega) only [ev_0, ev_1, ev_16, ev_17, ev_18, ev_2, ev_3, ev_4, ev_5, ev_6, ev_7, ev_8, ev_9, ev_20, ev_21, ev_22, ev_23, ev_24, ev_25, ev_27, ev_28, ev_30, ev_31, ev_32, ev_33, ev_34, ev_35, ev_36, ev_37, ev_38, ev_39, ev_40, ev_41, ev_42, ev_43, ev_45, ev_46, ev_47, ev_48, ev_49, ev_50, ev_51, ev_52, ev_54, ev_55, ev_57, ev_58, ev_59, k2_0, k2_1, k2_2, k3a, k3b, k4, o1_s, xbin_0, xbin_1, xbin_2, xbin_3, xbin_4, xbin_5, xbin_6, xbin_7, xbin_8, xbin_9, xbin_11, xbin_12, xun_0, xun_1, xun_2, xun_3, xun_4, xun_5, k6a, k8, k8b, k9, k20, k20b_0, k20b_1, k20b_2, k20b_3, k20b_4, k20b_5, k21_0, k21_1, k21_2, k21_3, k21_4, k21_5, k23, k24, k25, k27, k28, k40, nz_1, nz_2, nz_3, k31_0, k31_1, k31_2, k31_3, k32u, k33, k34, k35, k35b, k36, k37, k38, k47, k49, k49b_0, k49b_1, k49b_2, k49b_3, k50_0, k50_s, k51_0, k51_s, k55, k58, k58b, rk_0, rk_1, rk_2, rk_9, rk_3, rk_4, rk_5, sw_n, sw_c, xtb_n, xtb_c, lset_0, lset_2, lset_1, lkm_0, lkm_2, lkm_9, lkm_1, lkm_n, if_some1, c_10, c_01, c_x0, c_1x, c_n0, c_nn, List.getElem?_cons_zero, List.getElem?_cons_succ, List.set_cons_zero, List.set_cons_succ, List.length_cons, List.length_nil, Int.reduceToNat, Nat.reduceDiv, Nat.reduceMod, Nat.reduceSub, Nat.reduceAdd, Nat.reduceMul, Nat.reduceLT, Nat.reduceLeDiff, Nat.reduceEqDiff, Int.reduceMod, Int.reduceSub, Int.reduceNeg, Int.reduceAdd, Int.reduceMul, Int.reduceLT, Int.reduceLE, Int.reduceEq, put_ss, if_true, if_false, ite_true, ite_false, reduceIte, eq_self, and_true, true_and, and_false, false_and, or_true, true_or, or_false, false_or, not_true_eq_false, not_false_eq_true, y3']) ?_
  refine rk_s0 (s1 := ([(2, 158), (0, main), (0, m 158 74), w'], Hp L xs (put (kM3 m main) 158 70 (m 158 75)))) (by simp (disch := omega) only [ev_0, ev_1, ev_16, ev_17, ev_18, ev_2, ev_3, ev_4, ev_5, ev_6, ev_7, ev_8, ev_9, ev_20, ev_21, ev_22, ev_23, ev_24, ev_25, ev_27, ev_28, ev_30, ev_31, ev_32, ev_33, ev_34, ev_35, ev_36, ev_37, ev_38, ev_39, ev_40, ev_41, ev_42, ev_43, ev_45, ev_46, ev_47, ev_48, ev_49, ev_50, ev_51, ev_52, ev_54, ev_55, ev_57, ev_58, ev_59, k2_0, k2_1, k2_2, k3a, k3b, k4, o1_s, xbin_0, xbin_1, xbin_2, xbin_3, xbin_4, xbin_5, xbin_6, xbin_7, xbin_8, xbin_9, xbin_11, xbin_12, xun_0, xun_1, xun_2, xun_3, xun_4, xun_5, k6a, k8, k8b, k9, k20, k20b_0, k20b_1, k20b_2, k20b_3, k20b_4, k20b_5, k21_0, k21_1, k21_2, k21_3, k21_4, k21_5, k23, k24, k25, k27, k28, k40, nz_1, nz_2, nz_3, k31_0, k31_1, k31_2, k31_3, k32u, k33, k34, k35, k35b, k36, k37, k38, k47, k49, k49b_0, k49b_1, k49b_2, k49b_3, k50_0, k50_s, k51_0, k51_s, k55, k58, k58b, rk_0, rk_1, rk_2, rk_9, rk_3, rk_4, rk_5, sw_n, sw_c, xtb_n, xtb_c, lset_0, lset_2, lset_1, lkm_0, lkm_2, lkm_9, lkm_1, lkm_n, if_some1, c_10, c_01, c_x0, c_1x, c_n0, c_nn, List.getElem?_cons_zero, List.getElem?_cons_succ, List.set_cons_zero, List.set_cons_succ, List.length_cons, List.length_nil, Int.reduceToNat, Nat.reduceDiv, Nat.reduceMod, Nat.reduceSub, Nat.reduceAdd, Nat.reduceMul, Nat.reduceLT, Nat.reduceLeDiff, Nat.reduceEqDiff, Int.reduceMod, Int.reduceSub, Int.reduceNeg, Int.reduceAdd, Int.reduceMul, Int.reduceLT, Int.reduceLE, Int.reduceEq, put_ss, if_true, if_false, ite_true, ite_false, reduceIte, eq_self, and_true, true_and, and_false, false_and, or_true, true_or, or_false, false_or, not_true_eq_false, not_false_eq_true, k5_158_70, k34_158_70, k5_158_75, k34_158_75, k54_158_75, k54b_158_75_0, g75]) ?_
  refine rk_s0 (s1 := ([(2, 158), (0, main), (0, m 158 74), w'], Hp L xs (put (put (kM3 m main) 158 70 (m 158 75)) 158 71 (m 158 21)))) (by simp (disch := omega) only [ev_0, ev_1, ev_16, ev_17, ev_18, ev_2, ev_3, ev_4, ev_5, ev_6, ev_7, ev_8, ev_9, ev_20, ev_21, ev_22, ev_23, ev_24, ev_25, ev_27, ev_28, ev_30, ev_31, ev_32, ev_33, ev_34, ev_35, ev_36, ev_37, ev_38, ev_39, ev_40, ev_41, ev_42, ev_43, ev_45, ev_46, ev_47, ev_48, ev_49, ev_50, ev_51, ev_52, ev_54, ev_55, ev_57, ev_58, ev_59, k2_0, k2_1, k2_2, k3a, k3b, k4, o1_s, xbin_0, xbin_1, xbin_2, xbin_3, xbin_4, xbin_5, xbin_6, xbin_7, xbin_8, xbin_9, xbin_11, xbin_12, xun_0, xun_1, xun_2, xun_3, xun_4, xun_5, k6a, k8, k8b, k9, k20, k20b_0, k20b_1, k20b_2, k20b_3, k20b_4, k20b_5, k21_0, k21_1, k21_2, k21_3, k21_4, k21_5, k23, k24, k25, k27, k28, k40, nz_1, nz_2, nz_3, k31_0, k31_1, k31_2, k31_3, k32u, k33, k34, k35, k35b, k36, k37, k38, k47, k49, k49b_0, k49b_1, k49b_2, k49b_3, k50_0, k50_s, k51_0, k51_s, k55, k58, k58b, rk_0, rk_1, rk_2, rk_9, rk_3, rk_4, rk_5, sw_n, sw_c, xtb_n, xtb_c, lset_0, lset_2, lset_1, lkm_0, lkm_2, lkm_9, lkm_1, lkm_n, if_some1, c_10, c_01, c_x0, c_1x, c_n0, c_nn, List.getElem?_cons_zero, List.getElem?_cons_succ, List.set_cons_zero, List.set_cons_succ, List.length_cons, List.length_nil, Int.reduceToNat, Nat.reduceDiv, Nat.reduceMod, Nat.reduceSub, Nat.reduceAdd, Nat.reduceMul, Nat.reduceLT, Nat.reduceLeDiff, Nat.reduceEqDiff, Int.reduceMod, Int.reduceSub, Int.reduceNeg, Int.reduceAdd, Int.reduceMul, Int.reduceLT, Int.reduceLE, Int.reduceEq, put_ss, if_true, if_false, ite_true, ite_false, reduceIte, eq_self, and_true, true_and, and_false, false_and, or_true, true_or, or_false, false_or, not_true_eq_false, not_false_eq_true, k5_158_71, k34_158_71, k5_158_21, k34_158_21, k54_158_21, k54b_158_21_0, g21]) ?_
  refine rk_s0 (s1 := ([(2, 158), (0, main), (0, m 158 21), w'], Hp L xs (kMM m main))) (by simp (disch := omega) only [ev_0, ev_1, ev_16, ev_17, ev_18, ev_2, ev_3, ev_4, ev_5, ev_6, ev_7, ev_8, ev_9, ev_20, ev_21, ev_22, ev_23, ev_24, ev_25, ev_27, ev_28, ev_30, ev_31, ev_32, ev_33, ev_34, ev_35, ev_36, ev_37, ev_38, ev_39, ev_40, ev_41, ev_42, ev_43, ev_45, ev_46, ev_47, ev_48, ev_49, ev_50, ev_51, ev_52, ev_54, ev_55, ev_57, ev_58, ev_59, k2_0, k2_1, k2_2, k3a, k3b, k4, o1_s, xbin_0, xbin_1, xbin_2, xbin_3, xbin_4, xbin_5, xbin_6, xbin_7, xbin_8, xbin_9, xbin_11, xbin_12, xun_0, xun_1, xun_2, xun_3, xun_4, xun_5, k6a, k8, k8b, k9, k20, k20b_0, k20b_1, k20b_2, k20b_3, k20b_4, k20b_5, k21_0, k21_1, k21_2, k21_3, k21_4, k21_5, k23, k24, k25, k27, k28, k40, nz_1, nz_2, nz_3, k31_0, k31_1, k31_2, k31_3, k32u, k33, k34, k35, k35b, k36, k37, k38, k47, k49, k49b_0, k49b_1, k49b_2, k49b_3, k50_0, k50_s, k51_0, k51_s, k55, k58, k58b, rk_0, rk_1, rk_2, rk_9, rk_3, rk_4, rk_5, sw_n, sw_c, xtb_n, xtb_c, lset_0, lset_2, lset_1, lkm_0, lkm_2, lkm_9, lkm_1, lkm_n, if_some1, c_10, c_01, c_x0, c_1x, c_n0, c_nn, List.getElem?_cons_zero, List.getElem?_cons_succ, List.set_cons_zero, List.set_cons_succ, List.length_cons, List.length_nil, Int.reduceToNat, Nat.reduceDiv, Nat.reduceMod, Nat.reduceSub, Nat.reduceAdd, Nat.reduceMul, Nat.reduceLT, Nat.reduceLeDiff, Nat.reduceEqDiff, Int.reduceMod, Int.reduceSub, Int.reduceNeg, Int.reduceAdd, Int.reduceMul, Int.reduceLT, Int.reduceLE, Int.reduceEq, put_ss, if_true, if_false, ite_true, ite_false, reduceIte, eq_self, and_true, true_and, and_false, false_and, or_true, true_or, or_false, false_or, not_true_eq_false, not_false_eq_true, y4']) ?_
  simp (disch := omega) only [ev_0, ev_1, ev_16, ev_17, ev_18, ev_2, ev_3, ev_4, ev_5, ev_6, ev_7, ev_8, ev_9, ev_20, ev_21, ev_22, ev_23, ev_24, ev_25, ev_27, ev_28, ev_30, ev_31, ev_32, ev_33, ev_34, ev_35, ev_36, ev_37, ev_38, ev_39, ev_40, ev_41, ev_42, ev_43, ev_45, ev_46, ev_47, ev_48, ev_49, ev_50, ev_51, ev_52, ev_54, ev_55, ev_57, ev_58, ev_59, k2_0, k2_1, k2_2, k3a, k3b, k4, o1_s, xbin_0, xbin_1, xbin_2, xbin_3, xbin_4, xbin_5, xbin_6, xbin_7, xbin_8, xbin_9, xbin_11, xbin_12, xun_0, xun_1, xun_2, xun_3, xun_4, xun_5, k6a, k8, k8b, k9, k20, k20b_0, k20b_1, k20b_2, k20b_3, k20b_4, k20b_5, k21_0, k21_1, k21_2, k21_3, k21_4, k21_5, k23, k24, k25, k27, k28, k40, nz_1, nz_2, nz_3, k31_0, k31_1, k31_2, k31_3, k32u, k33, k34, k35, k35b, k36, k37, k38, k47, k49, k49b_0, k49b_1, k49b_2, k49b_3, k50_0, k50_s, k51_0, k51_s, k55, k58, k58b, rk_0, rk_1, rk_2, rk_9, rk_3, rk_4, rk_5, sw_n, sw_c, xtb_n, xtb_c, lset_0, lset_2, lset_1, lkm_0, lkm_2, lkm_9, lkm_1, lkm_n, if_some1, c_10, c_01, c_x0, c_1x, c_n0, c_nn, List.getElem?_cons_zero, List.getElem?_cons_succ, List.set_cons_zero, List.set_cons_succ, List.length_cons, List.length_nil, Int.reduceToNat, Nat.reduceDiv, Nat.reduceMod, Nat.reduceSub, Nat.reduceAdd, Nat.reduceMul, Nat.reduceLT, Nat.reduceLeDiff, Nat.reduceEqDiff, Int.reduceMod, Int.reduceSub, Int.reduceNeg, Int.reduceAdd, Int.reduceMul, Int.reduceLT, Int.reduceLE, Int.reduceEq, put_ss, if_true, if_false, ite_true, ite_false, reduceIte, eq_self, and_true, true_and, and_false, false_and, or_true, true_or, or_false, false_or, not_true_eq_false, not_false_eq_true]
end Kp256
