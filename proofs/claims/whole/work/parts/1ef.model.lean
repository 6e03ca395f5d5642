/-! THE MODEL LAYS WORDS: its state, and its w -/
abbrev mSt : Type := Int × (Nat → Int) × Int × (Nat → Int) × (Nat → Int) × Int × (Nat → Int) × (Nat → Int)
def my (T : mSt) (m : Mem) : Mem := fun a k => if a = 158 then (if k = 74 then T.1 else if k = 76 then T.2.2.1 else if k = 80 then T.2.2.2.2.2.1 else m a k) else if a = 195 then T.2.1 k else if a = 196 then T.2.2.2.1 k else if a = 197 then T.2.2.2.2.1 k else if a = 199 then T.2.2.2.2.2.2.1 k else if a = 200 then T.2.2.2.2.2.2.2 k else m a k
def emC : Int → (Nat → Int) → List Int → (Nat → Int)
  | _, C, [] => C
  | A, C, w :: ws => emC (A + 1) (vput C A.toNat w) ws
theorem emC_app : ∀ (l1 l2 : List Int) (A : Int) (C : Nat → Int), emC A C (l1 ++ l2) = emC (A + l1.length) (emC A C l1) l2
  | [], l2, A, C => by
    show emC A C l2 = emC (A + ((0 : Nat) : Int)) C l2
    rw [show A + ((0 : Nat) : Int) = A by omega]
  | w :: l1, l2, A, C => by
    show emC (A + 1) _ (l1 ++ l2) = emC (A + ((l1.length + 1 : Nat) : Int)) (emC (A + 1) _ l1) l2
    rw [emC_app l1 l2, show A + 1 + (l1.length : Int) = A + ((l1.length + 1 : Nat) : Int) by omega]
def tE (ws : List Int) (T : mSt) : mSt := (T.1 + ws.length, emC T.1 T.2.1 ws, T.2.2)
theorem tE_app {l1 l2 : List Int} {T : mSt} : tE l2 (tE l1 T) = tE (l1 ++ l2) T := by
  unfold tE
  simp only
  rw [emC_app, List.length_append, Int.natCast_add, Int.add_assoc]
def TBd (T : mSt) (n : Nat) : Prop := 0 ≤ T.1 ∧ T.1 ≤ 60000 + 10 * n
theorem tb_e {ws : List Int} {T : mSt} {n : Nat} (h : TBd T n) (hl : ws.length ≤ 10) : TBd (tE ws T) (n + 1) := by
  unfold TBd tE at *
  simp only
  omega
section My
variable {T : mSt} {m : Mem} {k : Nat} {v : Int}
theorem my_74 : my T m 158 74 = T.1 := rfl
theorem my_76 : my T m 158 76 = T.2.2.1 := rfl
theorem my_80 : my T m 158 80 = T.2.2.2.2.2.1 := rfl
theorem my_83 : my T m 158 83 = m 158 83 := rfl
theorem my_84 : my T m 158 84 = m 158 84 := rfl
theorem my_85 : my T m 158 85 = m 158 85 := rfl
theorem my_195 : my T m 195 k = T.2.1 k := rfl
theorem my_196 : my T m 196 k = T.2.2.2.1 k := rfl
theorem my_197 : my T m 197 k = T.2.2.2.2.1 k := rfl
theorem my_199 : my T m 199 k = T.2.2.2.2.2.2.1 k := rfl
theorem my_200 : my T m 200 k = T.2.2.2.2.2.2.2 k := rfl
theorem my_o {a : Nat} (h1 : a ≠ 158) (h2 : a ≠ 195) (h3 : a ≠ 196) (h4 : a ≠ 197) (h5 : a ≠ 199) (h6 : a ≠ 200) : my T m a k = m a k := by
  unfold my
  rw [if_neg h1, if_neg h2, if_neg h3, if_neg h4, if_neg h5, if_neg h6]
theorem np_74 : put (my T m) 158 74 v = my (v, T.2.1, T.2.2.1, T.2.2.2.1, T.2.2.2.2.1, T.2.2.2.2.2.1, T.2.2.2.2.2.2.1, T.2.2.2.2.2.2.2) m := by
  funext a k
  unfold my
  rw [put_ss]
  by_cases h : a = 158
  · rw [if_pos h, if_pos h, if_pos h]
    by_cases h2 : k = 74
    · subst h2
      simp only [Nat.reduceEqDiff, if_true, if_false]
    · simp only [h2, if_false]
  · rw [if_neg h, if_neg h, if_neg h]
theorem np_76 : put (my T m) 158 76 v = my (T.1, T.2.1, v, T.2.2.2.1, T.2.2.2.2.1, T.2.2.2.2.2.1, T.2.2.2.2.2.2.1, T.2.2.2.2.2.2.2) m := by
  funext a k
  unfold my
  rw [put_ss]
  by_cases h : a = 158
  · rw [if_pos h, if_pos h, if_pos h]
    by_cases h2 : k = 76
    · subst h2
      simp only [Nat.reduceEqDiff, if_true, if_false]
    · simp only [h2, if_false]
  · rw [if_neg h, if_neg h, if_neg h]
theorem np_80 : put (my T m) 158 80 v = my (T.1, T.2.1, T.2.2.1, T.2.2.2.1, T.2.2.2.2.1, v, T.2.2.2.2.2.2.1, T.2.2.2.2.2.2.2) m := by
  funext a k
  unfold my
  rw [put_ss]
  by_cases h : a = 158
  · rw [if_pos h, if_pos h, if_pos h]
    by_cases h2 : k = 80
    · subst h2
      simp only [Nat.reduceEqDiff, if_true, if_false]
    · simp only [h2, if_false]
  · rw [if_neg h, if_neg h, if_neg h]
theorem np_83 : put (my T m) 158 83 v = my T (put m 158 83 v) := by
  funext a k
  unfold my
  rw [put_ss, put_ss]
  by_cases h : a = 158
  · rw [if_pos h, if_pos h, if_pos h, if_pos h]
    by_cases h2 : k = 83
    · subst h2
      simp only [Nat.reduceEqDiff, if_true, if_false]
    · simp only [h2, if_false]
  · rw [if_neg h, if_neg h, if_neg h, if_neg h]
theorem np_84 : put (my T m) 158 84 v = my T (put m 158 84 v) := by
  funext a k
  unfold my
  rw [put_ss, put_ss]
  by_cases h : a = 158
  · rw [if_pos h, if_pos h, if_pos h, if_pos h]
    by_cases h2 : k = 84
    · subst h2
      simp only [Nat.reduceEqDiff, if_true, if_false]
    · simp only [h2, if_false]
  · rw [if_neg h, if_neg h, if_neg h, if_neg h]
theorem np_85 : put (my T m) 158 85 v = my T (put m 158 85 v) := by
  funext a k
  unfold my
  rw [put_ss, put_ss]
  by_cases h : a = 158
  · rw [if_pos h, if_pos h, if_pos h, if_pos h]
    by_cases h2 : k = 85
    · subst h2
      simp only [Nat.reduceEqDiff, if_true, if_false]
    · simp only [h2, if_false]
  · rw [if_neg h, if_neg h, if_neg h, if_neg h]
theorem np_195 : put (my T m) 195 k v = my (T.1, (vput T.2.1 k v), T.2.2.1, T.2.2.2.1, T.2.2.2.2.1, T.2.2.2.2.2.1, T.2.2.2.2.2.2.1, T.2.2.2.2.2.2.2) m := by
  funext a k'
  unfold my vput
  rw [put_ss]
  by_cases h : a = 195
  · subst h
    simp only [Nat.reduceEqDiff, if_true, if_false]
  · simp only [h, if_false]
theorem np_196 : put (my T m) 196 k v = my (T.1, T.2.1, T.2.2.1, (vput T.2.2.2.1 k v), T.2.2.2.2.1, T.2.2.2.2.2.1, T.2.2.2.2.2.2.1, T.2.2.2.2.2.2.2) m := by
  funext a k'
  unfold my vput
  rw [put_ss]
  by_cases h : a = 196
  · subst h
    simp only [Nat.reduceEqDiff, if_true, if_false]
  · simp only [h, if_false]
theorem np_197 : put (my T m) 197 k v = my (T.1, T.2.1, T.2.2.1, T.2.2.2.1, (vput T.2.2.2.2.1 k v), T.2.2.2.2.2.1, T.2.2.2.2.2.2.1, T.2.2.2.2.2.2.2) m := by
  funext a k'
  unfold my vput
  rw [put_ss]
  by_cases h : a = 197
  · subst h
    simp only [Nat.reduceEqDiff, if_true, if_false]
  · simp only [h, if_false]
theorem np_199 : put (my T m) 199 k v = my (T.1, T.2.1, T.2.2.1, T.2.2.2.1, T.2.2.2.2.1, T.2.2.2.2.2.1, (vput T.2.2.2.2.2.2.1 k v), T.2.2.2.2.2.2.2) m := by
  funext a k'
  unfold my vput
  rw [put_ss]
  by_cases h : a = 199
  · subst h
    simp only [Nat.reduceEqDiff, if_true, if_false]
  · simp only [h, if_false]
theorem np_200 : put (my T m) 200 k v = my (T.1, T.2.1, T.2.2.1, T.2.2.2.1, T.2.2.2.2.1, T.2.2.2.2.2.1, T.2.2.2.2.2.2.1, (vput T.2.2.2.2.2.2.2 k v)) m := by
  funext a k'
  unfold my vput
  rw [put_ss]
  by_cases h : a = 200
  · subst h
    simp only [Nat.reduceEqDiff, if_true, if_false]
  · simp only [h, if_false]
theorem np_180 : put (my T m) 180 k v = my T (put m 180 k v) := by
  funext a k'
  unfold my
  rw [put_ss, put_ss]
  by_cases h : a = 180
  · subst h
    simp only [Nat.reduceEqDiff, if_true, if_false]
  · simp only [h, if_false]
end My
/-- the model's word -/
theorem mW_eq {o r a b x : Int} (ho : 0 ≤ o ∧ o < 16) (hr : 0 ≤ r ∧ r < 8) (ha : 0 ≤ a ∧ a < 8) (hb : 0 ≤ b ∧ b < 8) (hx : 0 ≤ x) (h : x < 8 ∨ (b = 0 ∧ x < 64) ∨ (b = 0 ∧ a = 0 ∧ x < 512) ∨ (b = 0 ∧ a = 0 ∧ r = 0 ∧ x < 4096)) : ior (ior (ior (ior (ishl o 12) (ishl r 9)) (ishl a 6)) (ishl b 3)) x = wrd o r a (b * 8 + x) := by
  rw [ishl_3 hb.1 (by omega), ior_wd ho hr ha (by omega) (Or.inl (by omega))]
  by_cases hb0 : b = 0
  · subst hb0
    have e := ior_wd ho hr ha hx (by omega)
    have e0 := ior_wd ho hr ha (y := 0) (by omega) (Or.inl (by omega))
    have e1 : ior (ior (ior (ishl o 12) (ishl r 9)) (ishl a 6)) 0 = ior (ior (ishl o 12) (ishl r 9)) (ishl a 6) := by
      rw [e0]
      have e3 : ior (ior (ishl o 12) (ishl r 9)) (ishl a 6) = wrd o r a 0 := by
        rw [ishl_12 ho.1 ho.2, ishl_9 hr.1 (by omega), ishl_6 ha.1 (by omega)]
        have z1 : ior (o * 4096) (r * 512) = o * 4096 + r * 512 := ior_add 12 (by decide) ho.1 (by omega) (by show r * 512 < 4096; omega) (by show o * 4096 + r * 512 < 2147483648; omega)
        have z2 : ior (o * 4096 + r * 512) (a * 64) = o * 4096 + r * 512 + a * 64 := by
          have := ior_add 9 (by decide) (a := o * 8 + r) (y := a * 64) (by omega) (by omega) (by show a * 64 < 512; omega) (by show (o * 8 + r) * 512 + a * 64 < 2147483648; omega)
          rw [show (o * 8 + r) * ((2 ^ 9 : Nat) : Int) = o * 4096 + r * 512 from by show (o * 8 + r) * 512 = _; omega] at this
          exact this
        rw [z1, z2]
        unfold wrd
        omega
      exact e3.symm
    rw [show (0 : Int) * 8 = 0 from rfl, ← e0, e1, e]
    rw [Int.zero_add]
  · have := ior_add 3 (by decide) (a := o * 512 + r * 64 + a * 8 + b) (y := x) (by omega) hx (by show x < 8; omega) (by show (o * 512 + r * 64 + a * 8 + b) * 8 + x < 2147483648; omega)
    rw [show (o * 512 + r * 64 + a * 8 + b) * ((2 ^ 3 : Nat) : Int) = wrd o r a (b * 8) from by show (o * 512 + r * 64 + a * 8 + b) * 8 = _; unfold wrd; omega] at this
    rw [this]
    unfold wrd
    omega
section Mput
variable {F L d : Nat} {xs : Nat → Int32} {T : mSt} {m : Mem} {o r a b x l t : Int} {n : Nat}
theorem P_257 {y : Int} (hy : b * 8 + x = y) (hB : TBd T n) (hn : n < 900) (ho : 0 ≤ o ∧ o < 16) (hr : 0 ≤ r ∧ r < 8) (ha : 0 ≤ a ∧ a < 8) (hb : 0 ≤ b ∧ b < 8) (hx : 0 ≤ x) (h : x < 8 ∨ (b = 0 ∧ x < 64) ∨ (b = 0 ∧ a = 0 ∧ x < 512) ∨ (b = 0 ∧ a = 0 ∧ r = 0 ∧ x < 4096)) : Cx F (d + 1) 257 [158, o, r, a, b, x] (Hp L xs (my T m)) = some ([], Hp L xs (my (tE [wrd o r a y] T) m)) := by
  obtain ⟨h0, h1⟩ := hB
  have e := mW_eq ho hr ha hb hx h
  rw [hy] at e
  have fin : put (put (my T m) 195 T.1.toNat (wrd o r a y)) 158 74 (T.1 + 1) = my (tE [wrd o r a y] T) m := by
    rw [np_195, np_74]
    rfl
  simp (disch := omega) only [c_257, tr_257, ev_0, ev_1, ev_16, ev_17, ev_18, ev_2, ev_3, ev_4, ev_5, ev_6, ev_7, ev_8, ev_9, ev_20, ev_21, ev_22, ev_23, ev_24, ev_25, ev_27, ev_28, ev_30, ev_31, ev_32, ev_33, ev_34, ev_35, ev_36, ev_37, ev_38, ev_39, ev_40, ev_41, ev_42, ev_43, ev_45, ev_46, ev_47, ev_48, ev_49, ev_50, ev_51, ev_52, ev_54, ev_55, ev_57, ev_58, ev_59, k2_0, k2_1, k2_2, k3a, k3b, k4, o1_s, xbin_0, xbin_1, xbin_2, xbin_3, xbin_4, xbin_5, xbin_6, xbin_7, xbin_8, xbin_9, xbin_11, xbin_12, xun_0, xun_1, xun_2, xun_3, xun_4, xun_5, k6a, k8, k8b, k9, k20, k20b_0, k20b_1, k20b_2, k20b_3, k20b_4, k20b_5, k21_0, k21_1, k21_2, k21_3, k21_4, k21_5, k23, k24, k25, k27, k28, k40, nz_1, nz_2, nz_3, k31_0, k31_1, k31_2, k31_3, k32u, k33, k34, k35, k35b, k36, k37, k38, k47, k49, k49b_0, k49b_1, k49b_2, k49b_3, k50_0, k50_s, k51_0, k51_s, k55, k58, k58b, rk_0, rk_1, rk_2, rk_9, rk_3, rk_4, rk_5, sw_n, sw_c, xtb_n, xtb_c, lset_0, lset_2, lset_1, lkm_0, lkm_2, lkm_9, lkm_1, lkm_n, if_some1, c_10, c_01, c_x0, c_1x, c_n0, c_nn, List.getElem?_cons_zero, List.getElem?_cons_succ, List.set_cons_zero, List.set_cons_succ, List.length_cons, List.length_nil, Int.reduceToNat, Nat.reduceDiv, Nat.reduceMod, Nat.reduceSub, Nat.reduceAdd, Nat.reduceMul, Nat.reduceLT, Nat.reduceLeDiff, Nat.reduceEqDiff, Int.reduceMod, Int.reduceSub, Int.reduceNeg, Int.reduceAdd, Int.reduceMul, Int.reduceLT, Int.reduceLE, Int.reduceEq, put_ss, if_true, if_false, ite_true, ite_false, reduceIte, eq_self, and_true, true_and, and_false, false_and, or_true, true_or, or_false, false_or, not_true_eq_false, not_false_eq_true, k5_158_73, k6_195, k35_195, k55_195, k55c_195, n_195, k5_158_74, k34_158_74, k54_158_74, k54b_158_74_0, my_74, e, w32_of, fin]
/-- a go, of the longer kind or not -/
def bGo (f : Bool) : List Int := if f then [wrd 6 5 0 0, wrd 7 5 0 0, wrd 13 5 5 0] else [wrd 14 0 0 0]
def goM (f : Bool) (lk : Int) (T : mSt) : mSt := (T.1 + (bGo f).length, emC T.1 T.2.1 (bGo f), T.2.2.1 + 1, vput T.2.2.2.1 T.2.2.1.toNat T.1, vput T.2.2.2.2.1 T.2.2.1.toNat lk, T.2.2.2.2.2)
/-- a place that is told later -/
def ntM (r t : Int) (T : mSt) : mSt := (T.1 + 2, emC T.1 T.2.1 [wrd 6 r 0 0, wrd 7 r 0 0], T.2.2.1, T.2.2.2.1, T.2.2.2.2.1, T.2.2.2.2.2.1 + 1, vput T.2.2.2.2.2.2.1 T.2.2.2.2.2.1.toNat T.1, vput T.2.2.2.2.2.2.2 T.2.2.2.2.2.1.toNat t)
def fM (m : Mem) (g : Int) : Bool := decide (m 198 g.toNat = 1)
theorem tb_g {f : Bool} {lk : Int} (h : TBd T n) : TBd (goM f lk T) (n + 1) := by
  unfold TBd goM bGo at *
  cases f
  · show 0 ≤ T.1 + (([wrd 14 0 0 0].length : Nat) : Int) ∧ T.1 + (([wrd 14 0 0 0].length : Nat) : Int) ≤ _
    rw [List.length_singleton]
    omega
  · show 0 ≤ T.1 + (([wrd 6 5 0 0, wrd 7 5 0 0, wrd 13 5 5 0].length : Nat) : Int) ∧ T.1 + (([wrd 6 5 0 0, wrd 7 5 0 0, wrd 13 5 5 0].length : Nat) : Int) ≤ _
    rw [List.length_cons, List.length_cons, List.length_singleton]
    omega
theorem tb_n (h : TBd T n) : TBd (ntM r t T) (n + 1) := by
  unfold TBd ntM at *
  simp only
  omega
theorem M_266 (hB : TBd T n) (hn : n < 800) (hr : 0 ≤ r ∧ r < 8) (ht : 0 ≤ T.2.2.2.2.2.1 ∧ T.2.2.2.2.2.1 < 35000) : Cx F (d + 4) 266 [158, r, t] (Hp L xs (my T m)) = some ([], Hp L xs (my (ntM r t T) m)) := by
  have ent : put (put (put (my T m) 199 T.2.2.2.2.2.1.toNat T.1) 200 T.2.2.2.2.2.1.toNat t) 158 80 (T.2.2.2.2.2.1 + 1) = my (T.1, T.2.1, T.2.2.1, T.2.2.2.1, T.2.2.2.2.1, T.2.2.2.2.2.1 + 1, vput T.2.2.2.2.2.2.1 T.2.2.2.2.2.1.toNat T.1, vput T.2.2.2.2.2.2.2 T.2.2.2.2.2.1.toNat t) m := by
    rw [np_199, np_200, np_80]
  generalize hT1 : ((T.1, T.2.1, T.2.2.1, T.2.2.2.1, T.2.2.2.2.1, T.2.2.2.2.2.1 + 1, vput T.2.2.2.2.2.2.1 T.2.2.2.2.2.1.toNat T.1, vput T.2.2.2.2.2.2.2 T.2.2.2.2.2.1.toNat t) : mSt) = T1 at *
  have hB1 : TBd T1 n := by rw [← hT1]; exact hB
  have p1 := fun D => P_257 (F := F) (L := L) (xs := xs) (d := D) (m := m) (T := T1) (o := 6) (r := r) (a := 0) (b := 0) (x := 0) (y := 0) rfl hB1 (by omega) (by omega) hr (by omega) (by omega) (by omega) (by omega)
  have p2 := fun D => P_257 (F := F) (L := L) (xs := xs) (d := D) (m := m) (T := tE [wrd 6 r 0 0] T1) (o := 7) (r := r) (a := 0) (b := 0) (x := 0) (y := 0) rfl (tb_e hB1 (Nat.le_of_ble_eq_true rfl)) (by omega) (by omega) hr (by omega) (by omega) (by omega) (by omega)
  have fin : tE [wrd 7 r 0 0] (tE [wrd 6 r 0 0] T1) = ntM r t T := by
    rw [tE_app, ← hT1]
    rfl
  rw [← fin]
  have i0 : ∀ c, iand 0 c = iand 0 c := fun c => rfl
  have z1 : iand (0 : Int) 255 = 0 := by decide
  have z2 : iand (0 : Int) 511 = 0 := by decide
  have z3 : iand (ishr (0 : Int) 8) 255 = 0 := by decide
  simp (disch := omega) only [c_266, tr_266, c_265, tr_265, c_260, tr_260, ev_0, ev_1, ev_16, ev_17, ev_18, ev_2, ev_3, ev_4, ev_5, ev_6, ev_7, ev_8, ev_9, ev_20, ev_21, ev_22, ev_23, ev_24, ev_25, ev_27, ev_28, ev_30, ev_31, ev_32, ev_33, ev_34, ev_35, ev_36, ev_37, ev_38, ev_39, ev_40, ev_41, ev_42, ev_43, ev_45, ev_46, ev_47, ev_48, ev_49, ev_50, ev_51, ev_52, ev_54, ev_55, ev_57, ev_58, ev_59, k2_0, k2_1, k2_2, k3a, k3b, k4, o1_s, xbin_0, xbin_1, xbin_2, xbin_3, xbin_4, xbin_5, xbin_6, xbin_7, xbin_8, xbin_9, xbin_11, xbin_12, xun_0, xun_1, xun_2, xun_3, xun_4, xun_5, k6a, k8, k8b, k9, k20, k20b_0, k20b_1, k20b_2, k20b_3, k20b_4, k20b_5, k21_0, k21_1, k21_2, k21_3, k21_4, k21_5, k23, k24, k25, k27, k28, k40, nz_1, nz_2, nz_3, k31_0, k31_1, k31_2, k31_3, k32u, k33, k34, k35, k35b, k36, k37, k38, k47, k49, k49b_0, k49b_1, k49b_2, k49b_3, k50_0, k50_s, k51_0, k51_s, k55, k58, k58b, rk_0, rk_1, rk_2, rk_9, rk_3, rk_4, rk_5, sw_n, sw_c, xtb_n, xtb_c, lset_0, lset_2, lset_1, lkm_0, lkm_2, lkm_9, lkm_1, lkm_n, if_some1, c_10, c_01, c_x0, c_1x, c_n0, c_nn, List.getElem?_cons_zero, List.getElem?_cons_succ, List.set_cons_zero, List.set_cons_succ, List.length_cons, List.length_nil, Int.reduceToNat, Nat.reduceDiv, Nat.reduceMod, Nat.reduceSub, Nat.reduceAdd, Nat.reduceMul, Nat.reduceLT, Nat.reduceLeDiff, Nat.reduceEqDiff, Int.reduceMod, Int.reduceSub, Int.reduceNeg, Int.reduceAdd, Int.reduceMul, Int.reduceLT, Int.reduceLE, Int.reduceEq, put_ss, if_true, if_false, ite_true, ite_false, reduceIte, eq_self, and_true, true_and, and_false, false_and, or_true, true_or, or_false, false_or, not_true_eq_false, not_false_eq_true, k5_158_80, k34_158_80, k54_158_80, k54b_158_80_0, k5_158_81, k6_199, k35_199, n_199, k5_158_82, k6_200, k35_200, n_200, k5_158_74, k34_158_74, k54_158_74, k54b_158_74_0, my_80, my_74, w32_of, ent, z1, z2, z3, p1, p2]
theorem M_271 (hg : 0 ≤ T.2.2.1 ∧ T.2.2.1 < 35000) (h01 : ∀ k, m 198 k = 0 ∨ m 198 k = 1) : Cx F (d + 1) 271 [158] (Hp L xs (my T m)) = some ([gsz (fM m T.2.2.1)], Hp L xs (my T m)) := by
  unfold fM gsz
  have e198 : ∀ k, my T m 198 k = m 198 k := fun k => my_o (by decide) (by decide) (by decide) (by decide) (by decide) (by decide)
  rcases h01 T.2.2.1.toNat with z | z
  · have e : decide (m 198 T.2.2.1.toNat = 1) = false := decide_eq_false (by omega)
    rw [e]
    simp (disch := omega) only [c_271, tr_271, ev_0, ev_1, ev_16, ev_17, ev_18, ev_2, ev_3, ev_4, ev_5, ev_6, ev_7, ev_8, ev_9, ev_20, ev_21, ev_22, ev_23, ev_24, ev_25, ev_27, ev_28, ev_30, ev_31, ev_32, ev_33, ev_34, ev_35, ev_36, ev_37, ev_38, ev_39, ev_40, ev_41, ev_42, ev_43, ev_45, ev_46, ev_47, ev_48, ev_49, ev_50, ev_51, ev_52, ev_54, ev_55, ev_57, ev_58, ev_59, k2_0, k2_1, k2_2, k3a, k3b, k4, o1_s, xbin_0, xbin_1, xbin_2, xbin_3, xbin_4, xbin_5, xbin_6, xbin_7, xbin_8, xbin_9, xbin_11, xbin_12, xun_0, xun_1, xun_2, xun_3, xun_4, xun_5, k6a, k8, k8b, k9, k20, k20b_0, k20b_1, k20b_2, k20b_3, k20b_4, k20b_5, k21_0, k21_1, k21_2, k21_3, k21_4, k21_5, k23, k24, k25, k27, k28, k40, nz_1, nz_2, nz_3, k31_0, k31_1, k31_2, k31_3, k32u, k33, k34, k35, k35b, k36, k37, k38, k47, k49, k49b_0, k49b_1, k49b_2, k49b_3, k50_0, k50_s, k51_0, k51_s, k55, k58, k58b, rk_0, rk_1, rk_2, rk_9, rk_3, rk_4, rk_5, sw_n, sw_c, xtb_n, xtb_c, lset_0, lset_2, lset_1, lkm_0, lkm_2, lkm_9, lkm_1, lkm_n, if_some1, c_10, c_01, c_x0, c_1x, c_n0, c_nn, List.getElem?_cons_zero, List.getElem?_cons_succ, List.set_cons_zero, List.set_cons_succ, List.length_cons, List.length_nil, Int.reduceToNat, Nat.reduceDiv, Nat.reduceMod, Nat.reduceSub, Nat.reduceAdd, Nat.reduceMul, Nat.reduceLT, Nat.reduceLeDiff, Nat.reduceEqDiff, Int.reduceMod, Int.reduceSub, Int.reduceNeg, Int.reduceAdd, Int.reduceMul, Int.reduceLT, Int.reduceLE, Int.reduceEq, put_ss, if_true, if_false, ite_true, ite_false, reduceIte, eq_self, and_true, true_and, and_false, false_and, or_true, true_or, or_false, false_or, not_true_eq_false, not_false_eq_true, k5_158_79, k6_198, k35_198, n_198, k5_158_76, k34_158_76, k54_158_76, k54b_158_76_0, my_76, e198, z, Bool.false_eq_true]
  · have e : decide (m 198 T.2.2.1.toNat = 1) = true := decide_eq_true z
    rw [e]
    simp (disch := omega) only [c_271, tr_271, ev_0, ev_1, ev_16, ev_17, ev_18, ev_2, ev_3, ev_4, ev_5, ev_6, ev_7, ev_8, ev_9, ev_20, ev_21, ev_22, ev_23, ev_24, ev_25, ev_27, ev_28, ev_30, ev_31, ev_32, ev_33, ev_34, ev_35, ev_36, ev_37, ev_38, ev_39, ev_40, ev_41, ev_42, ev_43, ev_45, ev_46, ev_47, ev_48, ev_49, ev_50, ev_51, ev_52, ev_54, ev_55, ev_57, ev_58, ev_59, k2_0, k2_1, k2_2, k3a, k3b, k4, o1_s, xbin_0, xbin_1, xbin_2, xbin_3, xbin_4, xbin_5, xbin_6, xbin_7, xbin_8, xbin_9, xbin_11, xbin_12, xun_0, xun_1, xun_2, xun_3, xun_4, xun_5, k6a, k8, k8b, k9, k20, k20b_0, k20b_1, k20b_2, k20b_3, k20b_4, k20b_5, k21_0, k21_1, k21_2, k21_3, k21_4, k21_5, k23, k24, k25, k27, k28, k40, nz_1, nz_2, nz_3, k31_0, k31_1, k31_2, k31_3, k32u, k33, k34, k35, k35b, k36, k37, k38, k47, k49, k49b_0, k49b_1, k49b_2, k49b_3, k50_0, k50_s, k51_0, k51_s, k55, k58, k58b, rk_0, rk_1, rk_2, rk_9, rk_3, rk_4, rk_5, sw_n, sw_c, xtb_n, xtb_c, lset_0, lset_2, lset_1, lkm_0, lkm_2, lkm_9, lkm_1, lkm_n, if_some1, c_10, c_01, c_x0, c_1x, c_n0, c_nn, List.getElem?_cons_zero, List.getElem?_cons_succ, List.set_cons_zero, List.set_cons_succ, List.length_cons, List.length_nil, Int.reduceToNat, Nat.reduceDiv, Nat.reduceMod, Nat.reduceSub, Nat.reduceAdd, Nat.reduceMul, Nat.reduceLT, Nat.reduceLeDiff, Nat.reduceEqDiff, Int.reduceMod, Int.reduceSub, Int.reduceNeg, Int.reduceAdd, Int.reduceMul, Int.reduceLT, Int.reduceLE, Int.reduceEq, put_ss, if_true, if_false, ite_true, ite_false, reduceIte, eq_self, and_true, true_and, and_false, false_and, or_true, true_or, or_false, false_or, not_true_eq_false, not_false_eq_true, k5_158_79, k6_198, k35_198, n_198, k5_158_76, k34_158_76, k54_158_76, k54b_158_76_0, my_76, e198, z]
theorem M_272 (hB : TBd T n) (hn : n < 800) (hg : 0 ≤ T.2.2.1 ∧ T.2.2.1 < 35000) (h01 : ∀ k, m 198 k = 0 ∨ m 198 k = 1) (hl : 0 ≤ l ∧ l < 12000) : Cx F (d + 5) 272 [158, l] (Hp L xs (my T m)) = some ([], Hp L xs (my (goM (fM m T.2.2.1) (m 181 l.toNat) T) m)) := by
  have e198 : ∀ k, my T m 198 k = m 198 k := fun k => my_o (by decide) (by decide) (by decide) (by decide) (by decide) (by decide)
  have e181 : ∀ k, my T m 181 k = m 181 k := fun k => my_o (by decide) (by decide) (by decide) (by decide) (by decide) (by decide)
  have ent : put (put (my T m) 196 T.2.2.1.toNat T.1) 197 T.2.2.1.toNat (m 181 l.toNat) = my (T.1, T.2.1, T.2.2.1, vput T.2.2.2.1 T.2.2.1.toNat T.1, vput T.2.2.2.2.1 T.2.2.1.toNat (m 181 l.toNat), T.2.2.2.2.2) m := by
    rw [np_196, np_197]
  generalize hT1 : ((T.1, T.2.1, T.2.2.1, vput T.2.2.2.1 T.2.2.1.toNat T.1, vput T.2.2.2.2.1 T.2.2.1.toNat (m 181 l.toNat), T.2.2.2.2.2) : mSt) = T1 at *
  have hB1 : TBd T1 n := by rw [← hT1]; exact hB
  have g1 : T1.2.2.1 = T.2.2.1 := by rw [← hT1]
  have f198 : ∀ k, my T1 m 198 k = m 198 k := fun k => my_o (by decide) (by decide) (by decide) (by decide) (by decide) (by decide)
  have z1 : iand (0 : Int) 255 = 0 := by decide
  have z2 : iand (0 : Int) 511 = 0 := by decide
  have z3 : iand (ishr (0 : Int) 8) 255 = 0 := by decide
  have z4 : iand (0 : Int) 4095 = 0 := by decide
  rcases h01 T.2.2.1.toNat with z | z
  · have e : fM m T.2.2.1 = false := decide_eq_false (by omega)
    rw [e]
    have p1 := fun D => P_257 (F := F) (L := L) (xs := xs) (d := D) (m := m) (T := T1) (o := 14) (r := 0) (a := 0) (b := 0) (x := 0) (y := 0) rfl hB1 (by omega) (by omega) (by omega) (by omega) (by omega) (by omega) (by omega)
    have g2 : (tE [wrd 14 0 0 0] T1).2.2.1 = T.2.2.1 := by rw [← g1]; rfl
    have fin : put (my (tE [wrd 14 0 0 0] T1) m) 158 76 (T.2.2.1 + 1) = my (goM false (m 181 l.toNat) T) m := by
      rw [np_76, ← hT1]
      rfl
    simp (disch := omega) only [c_272, tr_272, c_264, tr_264, ev_0, ev_1, ev_16, ev_17, ev_18, ev_2, ev_3, ev_4, ev_5, ev_6, ev_7, ev_8, ev_9, ev_20, ev_21, ev_22, ev_23, ev_24, ev_25, ev_27, ev_28, ev_30, ev_31, ev_32, ev_33, ev_34, ev_35, ev_36, ev_37, ev_38, ev_39, ev_40, ev_41, ev_42, ev_43, ev_45, ev_46, ev_47, ev_48, ev_49, ev_50, ev_51, ev_52, ev_54, ev_55, ev_57, ev_58, ev_59, k2_0, k2_1, k2_2, k3a, k3b, k4, o1_s, xbin_0, xbin_1, xbin_2, xbin_3, xbin_4, xbin_5, xbin_6, xbin_7, xbin_8, xbin_9, xbin_11, xbin_12, xun_0, xun_1, xun_2, xun_3, xun_4, xun_5, k6a, k8, k8b, k9, k20, k20b_0, k20b_1, k20b_2, k20b_3, k20b_4, k20b_5, k21_0, k21_1, k21_2, k21_3, k21_4, k21_5, k23, k24, k25, k27, k28, k40, nz_1, nz_2, nz_3, k31_0, k31_1, k31_2, k31_3, k32u, k33, k34, k35, k35b, k36, k37, k38, k47, k49, k49b_0, k49b_1, k49b_2, k49b_3, k50_0, k50_s, k51_0, k51_s, k55, k58, k58b, rk_0, rk_1, rk_2, rk_9, rk_3, rk_4, rk_5, sw_n, sw_c, xtb_n, xtb_c, lset_0, lset_2, lset_1, lkm_0, lkm_2, lkm_9, lkm_1, lkm_n, if_some1, c_10, c_01, c_x0, c_1x, c_n0, c_nn, List.getElem?_cons_zero, List.getElem?_cons_succ, List.set_cons_zero, List.set_cons_succ, List.length_cons, List.length_nil, Int.reduceToNat, Nat.reduceDiv, Nat.reduceMod, Nat.reduceSub, Nat.reduceAdd, Nat.reduceMul, Nat.reduceLT, Nat.reduceLeDiff, Nat.reduceEqDiff, Int.reduceMod, Int.reduceSub, Int.reduceNeg, Int.reduceAdd, Int.reduceMul, Int.reduceLT, Int.reduceLE, Int.reduceEq, put_ss, if_true, if_false, ite_true, ite_false, reduceIte, eq_self, and_true, true_and, and_false, false_and, or_true, true_or, or_false, false_or, not_true_eq_false, not_false_eq_true, k5_158_76, k34_158_76, k54_158_76, k54b_158_76_0, k5_158_77, k6_196, k35_196, n_196, k5_158_78, k6_197, k35_197, n_197, k5_158_79, k6_198, k35_198, n_198, k5_158_74, k34_158_74, k54_158_74, k54b_158_74_0, k5_158_47, k6_181, k35_181, n_181, my_76, my_74, my_o, g1, g2, w32_of, ent, e181, f198, z, z4, p1, fin]
  · have e : fM m T.2.2.1 = true := decide_eq_true z
    rw [e]
    have p1 := fun D => P_257 (F := F) (L := L) (xs := xs) (d := D) (m := m) (T := T1) (o := 6) (r := 5) (a := 0) (b := 0) (x := 0) (y := 0) rfl hB1 (by omega) (by omega) (by omega) (by omega) (by omega) (by omega) (by omega)
    have hB2 := tb_e (ws := [wrd 6 5 0 0]) hB1 (Nat.le_of_ble_eq_true rfl)
    have p2 := fun D => P_257 (F := F) (L := L) (xs := xs) (d := D) (m := m) (T := tE [wrd 6 5 0 0] T1) (o := 7) (r := 5) (a := 0) (b := 0) (x := 0) (y := 0) rfl hB2 (by omega) (by omega) (by omega) (by omega) (by omega) (by omega) (by omega)
    have hB3 := tb_e (ws := [wrd 7 5 0 0]) hB2 (Nat.le_of_ble_eq_true rfl)
    have p3 := fun D => P_257 (F := F) (L := L) (xs := xs) (d := D) (m := m) (T := tE [wrd 7 5 0 0] (tE [wrd 6 5 0 0] T1)) (o := 13) (r := 5) (a := 5) (b := 0) (x := 0) (y := 0) rfl hB3 (by omega) (by omega) (by omega) (by omega) (by omega) (by omega) (by omega)
    have g2 : (tE [wrd 13 5 5 0] (tE [wrd 7 5 0 0] (tE [wrd 6 5 0 0] T1))).2.2.1 = T.2.2.1 := by rw [← g1]; rfl
    have fin : put (my (tE [wrd 13 5 5 0] (tE [wrd 7 5 0 0] (tE [wrd 6 5 0 0] T1))) m) 158 76 (T.2.2.1 + 1) = my (goM true (m 181 l.toNat) T) m := by
      rw [np_76, tE_app, tE_app, ← hT1]
      rfl
    simp (disch := omega) only [c_272, tr_272, c_265, tr_265, c_260, tr_260, c_270, tr_270, c_258, tr_258, ev_0, ev_1, ev_16, ev_17, ev_18, ev_2, ev_3, ev_4, ev_5, ev_6, ev_7, ev_8, ev_9, ev_20, ev_21, ev_22, ev_23, ev_24, ev_25, ev_27, ev_28, ev_30, ev_31, ev_32, ev_33, ev_34, ev_35, ev_36, ev_37, ev_38, ev_39, ev_40, ev_41, ev_42, ev_43, ev_45, ev_46, ev_47, ev_48, ev_49, ev_50, ev_51, ev_52, ev_54, ev_55, ev_57, ev_58, ev_59, k2_0, k2_1, k2_2, k3a, k3b, k4, o1_s, xbin_0, xbin_1, xbin_2, xbin_3, xbin_4, xbin_5, xbin_6, xbin_7, xbin_8, xbin_9, xbin_11, xbin_12, xun_0, xun_1, xun_2, xun_3, xun_4, xun_5, k6a, k8, k8b, k9, k20, k20b_0, k20b_1, k20b_2, k20b_3, k20b_4, k20b_5, k21_0, k21_1, k21_2, k21_3, k21_4, k21_5, k23, k24, k25, k27, k28, k40, nz_1, nz_2, nz_3, k31_0, k31_1, k31_2, k31_3, k32u, k33, k34, k35, k35b, k36, k37, k38, k47, k49, k49b_0, k49b_1, k49b_2, k49b_3, k50_0, k50_s, k51_0, k51_s, k55, k58, k58b, rk_0, rk_1, rk_2, rk_9, rk_3, rk_4, rk_5, sw_n, sw_c, xtb_n, xtb_c, lset_0, lset_2, lset_1, lkm_0, lkm_2, lkm_9, lkm_1, lkm_n, if_some1, c_10, c_01, c_x0, c_1x, c_n0, c_nn, List.getElem?_cons_zero, List.getElem?_cons_succ, List.set_cons_zero, List.set_cons_succ, List.length_cons, List.length_nil, Int.reduceToNat, Nat.reduceDiv, Nat.reduceMod, Nat.reduceSub, Nat.reduceAdd, Nat.reduceMul, Nat.reduceLT, Nat.reduceLeDiff, Nat.reduceEqDiff, Int.reduceMod, Int.reduceSub, Int.reduceNeg, Int.reduceAdd, Int.reduceMul, Int.reduceLT, Int.reduceLE, Int.reduceEq, put_ss, if_true, if_false, ite_true, ite_false, reduceIte, eq_self, and_true, true_and, and_false, false_and, or_true, true_or, or_false, false_or, not_true_eq_false, not_false_eq_true, k5_158_76, k34_158_76, k54_158_76, k54b_158_76_0, k5_158_77, k6_196, k35_196, n_196, k5_158_78, k6_197, k35_197, n_197, k5_158_79, k6_198, k35_198, n_198, k5_158_74, k34_158_74, k54_158_74, k54b_158_74_0, k5_158_47, k6_181, k35_181, n_181, my_76, my_74, my_o, g1, g2, w32_of, ent, e181, f198, z, z1, z2, z3, p1, p2, p3, fin]
end Mput
