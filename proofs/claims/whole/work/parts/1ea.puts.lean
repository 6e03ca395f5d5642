/-! THE WORDS LAID: bits, and the class's puts -/
theorem ior_add (k : Nat) (hk : k ≤ 16) {a y : Int} (ha : 0 ≤ a) (h0 : 0 ≤ y) (h1 : y < ((2 ^ k : Nat) : Int)) (h2 : a * ((2 ^ k : Nat) : Int) + y < 2147483648) : ior (a * ((2 ^ k : Nat) : Int)) y = a * ((2 ^ k : Nat) : Int) + y := by
  obtain ⟨n, rfl⟩ : ∃ n : Nat, a = (n : Int) := ⟨a.toNat, (Int.toNat_of_nonneg ha).symm⟩
  obtain ⟨z, rfl⟩ : ∃ z : Nat, y = (z : Int) := ⟨y.toNat, (Int.toNat_of_nonneg h0).symm⟩
  have hz : z < 2 ^ k := by omega
  have e : ((n : Int) * ((2 ^ k : Nat) : Int)) = ((2 ^ k * n : Nat) : Int) := by
    rw [Int.natCast_mul, Int.mul_comm]
  rw [e] at h2 ⊢
  have hlt : 2 ^ k * n + z < 2147483648 := by omega
  have en := Nat.two_pow_add_eq_or_of_lt hz n
  have hn : (BitVec.ofInt 32 ((2 ^ k * n : Nat) : Int) ||| BitVec.ofInt 32 (z : Int)).toNat = 2 ^ k * n + z := by
    rw [BitVec.toNat_or, bv_nat, bv_nat]
    rw [show (((2 ^ k * n : Nat) : Int) % 4294967296).toNat = 2 ^ k * n by omega, show (((z : Nat) : Int) % 4294967296).toNat = z by omega]
    exact en.symm
  rw [ior_bv, toInt_bv _ (by omega), hn]
  omega
/-- a word, by its parts -/
def wrd (o r a x : Int) : Int := o * 4096 + r * 512 + a * 64 + x
theorem ishl_12 {x : Int} (h0 : 0 ≤ x) (h1 : x < 16) : ishl x 12 = x * 4096 := by
  have := ishl_k 12 (by decide) x
  rw [show ((12 : Nat) : Int) = 12 from rfl] at this
  rw [this]
  exact w32_of (by show -2147483648 ≤ x * 4096; omega) (by show x * 4096 < 2147483648; omega)
theorem ishl_9 {x : Int} (h0 : 0 ≤ x) (h1 : x < 16) : ishl x 9 = x * 512 := by
  have := ishl_k 9 (by decide) x
  rw [show ((9 : Nat) : Int) = 9 from rfl] at this
  rw [this]
  exact w32_of (by show -2147483648 ≤ x * 512; omega) (by show x * 512 < 2147483648; omega)
theorem ishl_6 {x : Int} (h0 : 0 ≤ x) (h1 : x < 16) : ishl x 6 = x * 64 := by
  have := ishl_k 6 (by decide) x
  rw [show ((6 : Nat) : Int) = 6 from rfl] at this
  rw [this]
  exact w32_of (by show -2147483648 ≤ x * 64; omega) (by show x * 64 < 2147483648; omega)
theorem ishl_3 {x : Int} (h0 : 0 ≤ x) (h1 : x < 16) : ishl x 3 = x * 8 := by
  have := ishl_k 3 (by decide) x
  rw [show ((3 : Nat) : Int) = 3 from rfl] at this
  rw [this]
  exact w32_of (by show -2147483648 ≤ x * 8; omega) (by show x * 8 < 2147483648; omega)
/-- three parts and a rest that lies below them -/
theorem ior_wd {o r a y : Int} (ho : 0 ≤ o ∧ o < 16) (hr : 0 ≤ r ∧ r < 8) (ha : 0 ≤ a ∧ a < 8) (hy : 0 ≤ y) (h : y < 64 ∨ (a = 0 ∧ y < 512) ∨ (a = 0 ∧ r = 0 ∧ y < 4096)) : ior (ior (ior (ishl o 12) (ishl r 9)) (ishl a 6)) y = wrd o r a y := by
  rw [ishl_12 ho.1 ho.2, ishl_9 hr.1 (by omega), ishl_6 ha.1 (by omega)]
  have e1 : ior (o * 4096) (r * 512) = o * 4096 + r * 512 := ior_add 12 (by decide) ho.1 (by omega) (by show r * 512 < 4096; omega) (by show o * 4096 + r * 512 < 2147483648; omega)
  have e2 : ior (o * 4096 + r * 512) (a * 64) = o * 4096 + r * 512 + a * 64 := by
    have := ior_add 9 (by decide) (a := o * 8 + r) (y := a * 64) (by omega) (by omega) (by show a * 64 < 512; omega) (by show (o * 8 + r) * 512 + a * 64 < 2147483648; omega)
    rw [show (o * 8 + r) * ((2 ^ 9 : Nat) : Int) = o * 4096 + r * 512 from by show (o * 8 + r) * 512 = _; omega] at this
    exact this
  rw [e1, e2]
  unfold wrd
  rcases h with h | ⟨h, h'⟩ | ⟨h, h'', h'⟩
  · have := ior_add 6 (by decide) (a := o * 64 + r * 8 + a) (y := y) (by omega) hy (by show y < 64; omega) (by show (o * 64 + r * 8 + a) * 64 + y < 2147483648; omega)
    rw [show (o * 64 + r * 8 + a) * ((2 ^ 6 : Nat) : Int) = o * 4096 + r * 512 + a * 64 from by show (o * 64 + r * 8 + a) * 64 = _; omega] at this
    exact this
  · have := ior_add 9 (by decide) (a := o * 8 + r) (y := y) (by omega) hy (by show y < 512; omega) (by show (o * 8 + r) * 512 + y < 2147483648; omega)
    rw [show (o * 8 + r) * ((2 ^ 9 : Nat) : Int) = o * 4096 + r * 512 + a * 64 from by show (o * 8 + r) * 512 = _; omega] at this
    exact this
  · have := ior_add 12 (by decide) (a := o) (y := y) (by omega) hy (by show y < 4096; omega) (by show o * 4096 + y < 2147483648; omega)
    rw [show o * ((2 ^ 12 : Nat) : Int) = o * 4096 + r * 512 + a * 64 from by show o * 4096 = _; omega] at this
    exact this
/-- what of x a word of op o holds -/
def lw (o x : Int) : Int := if o ≤ 4 then x * 8 else if o = 5 ∨ o = 13 ∨ o = 15 then 0 else if o = 7 then x % 256 else if o = 14 then x % 4096 else if o = 8 ∨ o = 9 ∨ o = 10 then x % 64 else x % 512
theorem iand_0 (x : Int) : iand x 0 = 0 := by
  have := iand_m 0 (by decide) x
  rw [show (((2 ^ 0 - 1 : Nat)) : Int) = 0 from rfl, show (((2 ^ 0 : Nat)) : Int) = 1 from rfl] at this
  rw [this]
  omega
theorem iand_56 : ∀ x : Nat, x < 8 → iand ((x : Int) * 8) 56 = (x : Int) * 8 := by decide
theorem cW_eq {o r a x : Int} (ho : 0 ≤ o ∧ o < 16) (hr : 0 ≤ r ∧ r < 8) (ha : 0 ≤ a ∧ a < 8) (hx : o ≤ 4 → 0 ≤ x ∧ x < 8) (h64 : 6 ≤ o → o ≠ 8 → o ≠ 9 → o ≠ 10 → o ≠ 13 → a = 0) (h14 : o = 14 → r = 0) : ior (ior (ior (ishl o 12) (ishl r 9)) (ishl a 6)) (iand (if o ≤ 4 then ishl x 3 else x) (tv_3.getD o.toNat 0)) = wrd o r a (lw o x) := by
  have key : iand (if o ≤ 4 then ishl x 3 else x) (tv_3.getD o.toNat 0) = lw o x := by
    unfold lw
    by_cases h4 : o ≤ 4
    · obtain ⟨x0, x1⟩ := hx h4
      rw [if_pos h4, if_pos h4, ishl_3 x0 (by omega)]
      have e : tv_3.getD o.toNat 0 = 56 := by
        have : o = 0 ∨ o = 1 ∨ o = 2 ∨ o = 3 ∨ o = 4 := by omega
        rcases this with z | z | z | z | z <;> subst z <;> rfl
      rw [e]
      have := iand_56 x.toNat (by omega)
      rw [Int.toNat_of_nonneg x0] at this
      exact this
    · rw [if_neg h4, if_neg h4]
      have : o = 5 ∨ o = 6 ∨ o = 7 ∨ o = 8 ∨ o = 9 ∨ o = 10 ∨ o = 11 ∨ o = 12 ∨ o = 13 ∨ o = 14 ∨ o = 15 := by omega
      rcases this with z | z | z | z | z | z | z | z | z | z | z <;> subst z
      · exact iand_0 x
      · exact iand_511 x
      · exact iand_255 x
      · exact iand_63 x
      · exact iand_63 x
      · exact iand_63 x
      · exact iand_511 x
      · exact iand_511 x
      · exact iand_0 x
      · exact iand_4095 x
      · exact iand_0 x
  rw [key]
  have hb : 0 ≤ lw o x ∧ (lw o x < 64 ∨ (a = 0 ∧ lw o x < 512) ∨ (a = 0 ∧ r = 0 ∧ lw o x < 4096)) := by
    unfold lw
    by_cases h4 : o ≤ 4
    · rw [if_pos h4]
      have := hx h4
      omega
    · rw [if_neg h4]
      split
      · omega
      · split
        · omega
        · split
          · omega
          · split
            · omega
            · omega
  exact ior_wd ho hr ha hb.1 hb.2
/-- words written one behind the other -/
def emW (wr : Int) : Int → (Nat → Int) → List Int → (Nat → Int)
  | _, W, [] => W
  | A, W, w :: ws => emW wr (A + 1) (if wr = 1 ∧ A < 6000 then vput W A.toNat w else W) ws
theorem emW_app {wr : Int} : ∀ (l1 l2 : List Int) (A : Int) (W : Nat → Int), emW wr A W (l1 ++ l2) = emW wr (A + l1.length) (emW wr A W l1) l2
  | [], l2, A, W => by
    show emW wr A W l2 = emW wr (A + ((0 : Nat) : Int)) W l2
    rw [show A + ((0 : Nat) : Int) = A by omega]
  | w :: l1, l2, A, W => by
    show emW wr (A + 1) _ (l1 ++ l2) = emW wr (A + ((l1.length + 1 : Nat) : Int)) (emW wr (A + 1) _ l1) l2
    rw [emW_app l1 l2, show A + 1 + (l1.length : Int) = A + ((l1.length + 1 : Nat) : Int) by omega]
/-- the class as it lays: where it is, its goes, whether a go grew, which are longer, its words -/
def ly (A g ch : Int) (J W : Nat → Int) (cd : Nat) (m : Mem) : Mem := fun a k => if a = 71 then (if k = 2 then A else if k = 4 then ch else if k = 7 then g else m a k) else if a = 72 then J k else if a = cd + 9 then W k else m a k
section Ly
variable {A g ch v : Int} {J W : Nat → Int} {cd : Nat} {m : Mem} {k : Nat}
theorem ly_A : ly A g ch J W cd m 71 2 = A := rfl
theorem ly_c : ly A g ch J W cd m 71 4 = ch := rfl
theorem ly_g : ly A g ch J W cd m 71 7 = g := rfl
theorem ly_1 : ly A g ch J W cd m 71 1 = m 71 1 := rfl
theorem ly_w : ly A g ch J W cd m 71 3 = m 71 3 := rfl
theorem ly_5 : ly A g ch J W cd m 71 5 = m 71 5 := rfl
theorem ly_6 : ly A g ch J W cd m 71 6 = m 71 6 := rfl
theorem ly_J : ly A g ch J W cd m 72 k = J k := rfl
theorem ly_57 : ly A g ch J W 83 m 57 k = m 57 k := rfl
theorem ly_57b : ly A g ch J W 93 m 57 k = m 57 k := rfl
theorem ly_o {a : Nat} (h1 : a ≠ 71) (h2 : a ≠ 72) (h3 : a ≠ cd + 9) : ly A g ch J W cd m a k = m a k := by
  unfold ly
  rw [if_neg h1, if_neg h2, if_neg h3]
theorem lp_A : put (ly A g ch J W cd m) 71 2 v = ly v g ch J W cd m := by
  funext a k
  unfold ly
  rw [put_ss]
  by_cases h : a = 71
  · rw [if_pos h, if_pos h, if_pos h]
    by_cases h2 : k = 2
    · rw [if_pos h2, if_pos h2]
    · rw [if_neg h2, if_neg h2, if_neg h2]
  · rw [if_neg h, if_neg h, if_neg h]
theorem lp_c : put (ly A g ch J W cd m) 71 4 v = ly A g v J W cd m := by
  funext a k
  unfold ly
  rw [put_ss]
  by_cases h : a = 71
  · rw [if_pos h, if_pos h, if_pos h]
    by_cases h2 : k = 4
    · subst h2
      rw [if_pos rfl, if_neg (by decide), if_pos rfl]
    · rw [if_neg h2, if_neg h2, if_neg h2]
  · rw [if_neg h, if_neg h, if_neg h]
theorem lp_g : put (ly A g ch J W cd m) 71 7 v = ly A v ch J W cd m := by
  funext a k
  unfold ly
  rw [put_ss]
  by_cases h : a = 71
  · rw [if_pos h, if_pos h, if_pos h]
    by_cases h2 : k = 7
    · subst h2
      rw [if_pos rfl, if_neg (by decide), if_neg (by decide), if_pos rfl]
    · rw [if_neg h2, if_neg h2, if_neg h2]
  · rw [if_neg h, if_neg h, if_neg h]
theorem lp_J : put (ly A g ch J W cd m) 72 k v = ly A g ch (vput J k v) W cd m := by
  funext a k'
  unfold ly vput
  rw [put_ss]
  by_cases h : a = 72
  · subst h
    simp only [Nat.reduceEqDiff, if_true, if_false]
  · rw [if_neg h]
    by_cases h1 : a = 71
    · rw [if_pos h1, if_pos h1]
    · rw [if_neg h1, if_neg h1, if_neg h, if_neg h]
theorem lp_W (hc : cd = 83 ∨ cd = 93) : put (ly A g ch J W cd m) (cd + 9) k v = ly A g ch J (vput W k v) cd m := by
  funext a k'
  unfold ly vput
  rw [put_ss]
  by_cases h : a = cd + 9
  · subst h
    have h71 : ¬ cd + 9 = 71 := by omega
    have h72 : ¬ cd + 9 = 72 := by omega
    simp only [h71, h72, if_true, if_false]
  · rw [if_neg h]
    by_cases h1 : a = 71
    · rw [if_pos h1, if_pos h1]
    · rw [if_neg h1, if_neg h1, if_neg h, if_neg h]
theorem lp_5 : put (ly A g ch J W cd m) 71 5 v = ly A g ch J W cd (put m 71 5 v) := by
  funext a k
  unfold ly
  rw [put_ss, put_ss]
  by_cases h : a = 71
  · rw [if_pos h, if_pos h, if_pos h, if_pos h]
    by_cases h2 : k = 5
    · subst h2
      simp only [Nat.reduceEqDiff, if_true, if_false]
    · rw [if_neg h2, if_neg h2]
  · rw [if_neg h, if_neg h, if_neg h, if_neg h]
theorem lp_6 : put (ly A g ch J W cd m) 71 6 v = ly A g ch J W cd (put m 71 6 v) := by
  funext a k
  unfold ly
  rw [put_ss, put_ss]
  by_cases h : a = 71
  · rw [if_pos h, if_pos h, if_pos h, if_pos h]
    by_cases h2 : k = 6
    · subst h2
      simp only [Nat.reduceEqDiff, if_true, if_false]
    · rw [if_neg h2, if_neg h2]
  · rw [if_neg h, if_neg h, if_neg h, if_neg h]
end Ly
section Put
variable {F L d : Nat} {xs : Nat → Int32} {A g ch : Int} {J W : Nat → Int} {cd : Nat} {m : Mem} {o r a x y : Int} {Lo : xL}
theorem C_39 (hc : cd = 83 ∨ cd = 93) (h1 : m 71 1 = (cd : Int)) (hw : m 71 3 = 0 ∨ m 71 3 = 1) (hA : 0 ≤ A ∧ A ≤ 1000000) (ho : 0 ≤ o ∧ o < 16) (hr : 0 ≤ r ∧ r < 8) (ha : 0 ≤ a ∧ a < 8) (hx : o ≤ 4 → 0 ≤ x ∧ x < 8) (h64 : 6 ≤ o → o ≠ 8 → o ≠ 9 → o ≠ 10 → o ≠ 13 → a = 0) (h14 : o = 14 → r = 0) : Cx F (d + 1) 39 [71, o, r, a, x] (Hp L xs (ly A g ch J W cd m)) = some ([], Hp L xs (ly (A + 1) g ch J (emW (m 71 3) A W [wrd o r a (lw o x)]) cd m)) := by
  have ew := cW_eq ho hr ha hx h64 h14
  have e9 : emW (m 71 3) A W [wrd o r a (lw o x)] = if m 71 3 = 1 ∧ A < 6000 then vput W A.toNat (wrd o r a (lw o x)) else W := rfl
  rw [e9]
  rcases hw with hw | hw
  · rw [if_neg (by omega)]
    simp (disch := omega) only [c_39, tr_39, ev_0, ev_1, ev_16, ev_17, ev_18, ev_2, ev_3, ev_4, ev_5, ev_6, ev_7, ev_8, ev_9, ev_20, ev_21, ev_22, ev_23, ev_24, ev_25, ev_27, ev_28, ev_30, ev_31, ev_32, ev_33, ev_34, ev_35, ev_36, ev_37, ev_38, ev_39, ev_40, ev_41, ev_42, ev_43, ev_45, ev_46, ev_47, ev_48, ev_49, ev_50, ev_51, ev_52, ev_54, ev_55, ev_57, ev_58, ev_59, k2_0, k2_1, k2_2, k3a, k3b, k4, o1_s, xbin_0, xbin_1, xbin_2, xbin_3, xbin_4, xbin_5, xbin_6, xbin_7, xbin_8, xbin_9, xbin_11, xbin_12, xun_0, xun_1, xun_2, xun_3, xun_4, xun_5, k6a, k8, k8b, k9, k20, k20b_0, k20b_1, k20b_2, k20b_3, k20b_4, k20b_5, k21_0, k21_1, k21_2, k21_3, k21_4, k21_5, k23, k24, k25, k27, k28, k40, nz_1, nz_2, nz_3, k31_0, k31_1, k31_2, k31_3, k32u, k33, k34, k35, k35b, k36, k37, k38, k47, k49, k49b_0, k49b_1, k49b_2, k49b_3, k50_0, k50_s, k51_0, k51_s, k55, k58, k58b, rk_0, rk_1, rk_2, rk_9, rk_3, rk_4, rk_5, sw_n, sw_c, xtb_n, xtb_c, lset_0, lset_2, lset_1, lkm_0, lkm_2, lkm_9, lkm_1, lkm_n, if_some1, c_10, c_01, c_x0, c_1x, c_n0, c_nn, List.getElem?_cons_zero, List.getElem?_cons_succ, List.set_cons_zero, List.set_cons_succ, List.length_cons, List.length_nil, Int.reduceToNat, Nat.reduceDiv, Nat.reduceMod, Nat.reduceSub, Nat.reduceAdd, Nat.reduceMul, Nat.reduceLT, Nat.reduceLeDiff, Nat.reduceEqDiff, Int.reduceMod, Int.reduceSub, Int.reduceNeg, Int.reduceAdd, Int.reduceMul, Int.reduceLT, Int.reduceLE, Int.reduceEq, put_ss, if_true, if_false, ite_true, ite_false, reduceIte, eq_self, and_true, true_and, and_false, false_and, or_true, true_or, or_false, false_or, not_true_eq_false, not_false_eq_true, k5_71_2, k34_71_2, k54_71_2, k54b_71_2_0, k5_71_3, k34_71_3, k34i_71_3, ly_A, ly_w, lp_A, hw, w32_of]
  · by_cases hq : A < 6000
    · rw [if_pos ⟨hw, hq⟩]
      have lw' := fun v => lp_W (A := A) (g := g) (ch := ch) (J := J) (W := W) (cd := cd) (m := m) (k := A.toNat) (v := v) hc
      obtain ⟨hA0, hA1⟩ := hA
      obtain ⟨ho0, ho1⟩ := ho
      by_cases h4 : o ≤ 4
      · rw [if_pos h4] at ew
        rcases hc with z | z <;> subst z
        · rw [show ((83 : Nat) : Int) = 83 from rfl] at h1
          simp (disch := omega) only [c_39, tr_39, ev_0, ev_1, ev_16, ev_17, ev_18, ev_2, ev_3, ev_4, ev_5, ev_6, ev_7, ev_8, ev_9, ev_20, ev_21, ev_22, ev_23, ev_24, ev_25, ev_27, ev_28, ev_30, ev_31, ev_32, ev_33, ev_34, ev_35, ev_36, ev_37, ev_38, ev_39, ev_40, ev_41, ev_42, ev_43, ev_45, ev_46, ev_47, ev_48, ev_49, ev_50, ev_51, ev_52, ev_54, ev_55, ev_57, ev_58, ev_59, k2_0, k2_1, k2_2, k3a, k3b, k4, o1_s, xbin_0, xbin_1, xbin_2, xbin_3, xbin_4, xbin_5, xbin_6, xbin_7, xbin_8, xbin_9, xbin_11, xbin_12, xun_0, xun_1, xun_2, xun_3, xun_4, xun_5, k6a, k8, k8b, k9, k20, k20b_0, k20b_1, k20b_2, k20b_3, k20b_4, k20b_5, k21_0, k21_1, k21_2, k21_3, k21_4, k21_5, k23, k24, k25, k27, k28, k40, nz_1, nz_2, nz_3, k31_0, k31_1, k31_2, k31_3, k32u, k33, k34, k35, k35b, k36, k37, k38, k47, k49, k49b_0, k49b_1, k49b_2, k49b_3, k50_0, k50_s, k51_0, k51_s, k55, k58, k58b, rk_0, rk_1, rk_2, rk_9, rk_3, rk_4, rk_5, sw_n, sw_c, xtb_n, xtb_c, lset_0, lset_2, lset_1, lkm_0, lkm_2, lkm_9, lkm_1, lkm_n, if_some1, c_10, c_01, c_x0, c_1x, c_n0, c_nn, List.getElem?_cons_zero, List.getElem?_cons_succ, List.set_cons_zero, List.set_cons_succ, List.length_cons, List.length_nil, Int.reduceToNat, Nat.reduceDiv, Nat.reduceMod, Nat.reduceSub, Nat.reduceAdd, Nat.reduceMul, Nat.reduceLT, Nat.reduceLeDiff, Nat.reduceEqDiff, Int.reduceMod, Int.reduceSub, Int.reduceNeg, Int.reduceAdd, Int.reduceMul, Int.reduceLT, Int.reduceLE, Int.reduceEq, put_ss, if_true, if_false, ite_true, ite_false, reduceIte, eq_self, and_true, true_and, and_false, false_and, or_true, true_or, or_false, false_or, not_true_eq_false, not_false_eq_true, k5_71_2, k34_71_2, k54_71_2, k54b_71_2_0, k5_71_3, k34_71_3, k34i_71_3, k5_71_1, k34_71_1, k5_83_13, k6_92, k35_92, n_92, ly_A, ly_w, ly_1, lp_A, h1, hw, hA0, hq, ho0, ho1, h4, n_3, k6_3, ew, lw', Nat.reduceAdd, w32_of]
        · rw [show ((93 : Nat) : Int) = 93 from rfl] at h1
          simp (disch := omega) only [c_39, tr_39, ev_0, ev_1, ev_16, ev_17, ev_18, ev_2, ev_3, ev_4, ev_5, ev_6, ev_7, ev_8, ev_9, ev_20, ev_21, ev_22, ev_23, ev_24, ev_25, ev_27, ev_28, ev_30, ev_31, ev_32, ev_33, ev_34, ev_35, ev_36, ev_37, ev_38, ev_39, ev_40, ev_41, ev_42, ev_43, ev_45, ev_46, ev_47, ev_48, ev_49, ev_50, ev_51, ev_52, ev_54, ev_55, ev_57, ev_58, ev_59, k2_0, k2_1, k2_2, k3a, k3b, k4, o1_s, xbin_0, xbin_1, xbin_2, xbin_3, xbin_4, xbin_5, xbin_6, xbin_7, xbin_8, xbin_9, xbin_11, xbin_12, xun_0, xun_1, xun_2, xun_3, xun_4, xun_5, k6a, k8, k8b, k9, k20, k20b_0, k20b_1, k20b_2, k20b_3, k20b_4, k20b_5, k21_0, k21_1, k21_2, k21_3, k21_4, k21_5, k23, k24, k25, k27, k28, k40, nz_1, nz_2, nz_3, k31_0, k31_1, k31_2, k31_3, k32u, k33, k34, k35, k35b, k36, k37, k38, k47, k49, k49b_0, k49b_1, k49b_2, k49b_3, k50_0, k50_s, k51_0, k51_s, k55, k58, k58b, rk_0, rk_1, rk_2, rk_9, rk_3, rk_4, rk_5, sw_n, sw_c, xtb_n, xtb_c, lset_0, lset_2, lset_1, lkm_0, lkm_2, lkm_9, lkm_1, lkm_n, if_some1, c_10, c_01, c_x0, c_1x, c_n0, c_nn, List.getElem?_cons_zero, List.getElem?_cons_succ, List.set_cons_zero, List.set_cons_succ, List.length_cons, List.length_nil, Int.reduceToNat, Nat.reduceDiv, Nat.reduceMod, Nat.reduceSub, Nat.reduceAdd, Nat.reduceMul, Nat.reduceLT, Nat.reduceLeDiff, Nat.reduceEqDiff, Int.reduceMod, Int.reduceSub, Int.reduceNeg, Int.reduceAdd, Int.reduceMul, Int.reduceLT, Int.reduceLE, Int.reduceEq, put_ss, if_true, if_false, ite_true, ite_false, reduceIte, eq_self, and_true, true_and, and_false, false_and, or_true, true_or, or_false, false_or, not_true_eq_false, not_false_eq_true, k5_71_2, k34_71_2, k54_71_2, k54b_71_2_0, k5_71_3, k34_71_3, k34i_71_3, k5_71_1, k34_71_1, k5_93_13, k6_102, k35_102, n_102, ly_A, ly_w, ly_1, lp_A, h1, hw, hA0, hq, ho0, ho1, h4, n_3, k6_3, ew, lw', Nat.reduceAdd, w32_of]
      · rw [if_neg h4] at ew
        rcases hc with z | z <;> subst z
        · rw [show ((83 : Nat) : Int) = 83 from rfl] at h1
          simp (disch := omega) only [c_39, tr_39, ev_0, ev_1, ev_16, ev_17, ev_18, ev_2, ev_3, ev_4, ev_5, ev_6, ev_7, ev_8, ev_9, ev_20, ev_21, ev_22, ev_23, ev_24, ev_25, ev_27, ev_28, ev_30, ev_31, ev_32, ev_33, ev_34, ev_35, ev_36, ev_37, ev_38, ev_39, ev_40, ev_41, ev_42, ev_43, ev_45, ev_46, ev_47, ev_48, ev_49, ev_50, ev_51, ev_52, ev_54, ev_55, ev_57, ev_58, ev_59, k2_0, k2_1, k2_2, k3a, k3b, k4, o1_s, xbin_0, xbin_1, xbin_2, xbin_3, xbin_4, xbin_5, xbin_6, xbin_7, xbin_8, xbin_9, xbin_11, xbin_12, xun_0, xun_1, xun_2, xun_3, xun_4, xun_5, k6a, k8, k8b, k9, k20, k20b_0, k20b_1, k20b_2, k20b_3, k20b_4, k20b_5, k21_0, k21_1, k21_2, k21_3, k21_4, k21_5, k23, k24, k25, k27, k28, k40, nz_1, nz_2, nz_3, k31_0, k31_1, k31_2, k31_3, k32u, k33, k34, k35, k35b, k36, k37, k38, k47, k49, k49b_0, k49b_1, k49b_2, k49b_3, k50_0, k50_s, k51_0, k51_s, k55, k58, k58b, rk_0, rk_1, rk_2, rk_9, rk_3, rk_4, rk_5, sw_n, sw_c, xtb_n, xtb_c, lset_0, lset_2, lset_1, lkm_0, lkm_2, lkm_9, lkm_1, lkm_n, if_some1, c_10, c_01, c_x0, c_1x, c_n0, c_nn, List.getElem?_cons_zero, List.getElem?_cons_succ, List.set_cons_zero, List.set_cons_succ, List.length_cons, List.length_nil, Int.reduceToNat, Nat.reduceDiv, Nat.reduceMod, Nat.reduceSub, Nat.reduceAdd, Nat.reduceMul, Nat.reduceLT, Nat.reduceLeDiff, Nat.reduceEqDiff, Int.reduceMod, Int.reduceSub, Int.reduceNeg, Int.reduceAdd, Int.reduceMul, Int.reduceLT, Int.reduceLE, Int.reduceEq, put_ss, if_true, if_false, ite_true, ite_false, reduceIte, eq_self, and_true, true_and, and_false, false_and, or_true, true_or, or_false, false_or, not_true_eq_false, not_false_eq_true, k5_71_2, k34_71_2, k54_71_2, k54b_71_2_0, k5_71_3, k34_71_3, k34i_71_3, k5_71_1, k34_71_1, k5_83_13, k6_92, k35_92, n_92, ly_A, ly_w, ly_1, lp_A, h1, hw, hA0, hq, ho0, ho1, h4, n_3, k6_3, ew, lw', Nat.reduceAdd, w32_of]
        · rw [show ((93 : Nat) : Int) = 93 from rfl] at h1
          simp (disch := omega) only [c_39, tr_39, ev_0, ev_1, ev_16, ev_17, ev_18, ev_2, ev_3, ev_4, ev_5, ev_6, ev_7, ev_8, ev_9, ev_20, ev_21, ev_22, ev_23, ev_24, ev_25, ev_27, ev_28, ev_30, ev_31, ev_32, ev_33, ev_34, ev_35, ev_36, ev_37, ev_38, ev_39, ev_40, ev_41, ev_42, ev_43, ev_45, ev_46, ev_47, ev_48, ev_49, ev_50, ev_51, ev_52, ev_54, ev_55, ev_57, ev_58, ev_59, k2_0, k2_1, k2_2, k3a, k3b, k4, o1_s, xbin_0, xbin_1, xbin_2, xbin_3, xbin_4, xbin_5, xbin_6, xbin_7, xbin_8, xbin_9, xbin_11, xbin_12, xun_0, xun_1, xun_2, xun_3, xun_4, xun_5, k6a, k8, k8b, k9, k20, k20b_0, k20b_1, k20b_2, k20b_3, k20b_4, k20b_5, k21_0, k21_1, k21_2, k21_3, k21_4, k21_5, k23, k24, k25, k27, k28, k40, nz_1, nz_2, nz_3, k31_0, k31_1, k31_2, k31_3, k32u, k33, k34, k35, k35b, k36, k37, k38, k47, k49, k49b_0, k49b_1, k49b_2, k49b_3, k50_0, k50_s, k51_0, k51_s, k55, k58, k58b, rk_0, rk_1, rk_2, rk_9, rk_3, rk_4, rk_5, sw_n, sw_c, xtb_n, xtb_c, lset_0, lset_2, lset_1, lkm_0, lkm_2, lkm_9, lkm_1, lkm_n, if_some1, c_10, c_01, c_x0, c_1x, c_n0, c_nn, List.getElem?_cons_zero, List.getElem?_cons_succ, List.set_cons_zero, List.set_cons_succ, List.length_cons, List.length_nil, Int.reduceToNat, Nat.reduceDiv, Nat.reduceMod, Nat.reduceSub, Nat.reduceAdd, Nat.reduceMul, Nat.reduceLT, Nat.reduceLeDiff, Nat.reduceEqDiff, Int.reduceMod, Int.reduceSub, Int.reduceNeg, Int.reduceAdd, Int.reduceMul, Int.reduceLT, Int.reduceLE, Int.reduceEq, put_ss, if_true, if_false, ite_true, ite_false, reduceIte, eq_self, and_true, true_and, and_false, false_and, or_true, true_or, or_false, false_or, not_true_eq_false, not_false_eq_true, k5_71_2, k34_71_2, k54_71_2, k54b_71_2_0, k5_71_3, k34_71_3, k34i_71_3, k5_71_1, k34_71_1, k5_93_13, k6_102, k35_102, n_102, ly_A, ly_w, ly_1, lp_A, h1, hw, hA0, hq, ho0, ho1, h4, n_3, k6_3, ew, lw', Nat.reduceAdd, w32_of]
    · rw [if_neg (by omega)]
      simp (disch := omega) only [c_39, tr_39, ev_0, ev_1, ev_16, ev_17, ev_18, ev_2, ev_3, ev_4, ev_5, ev_6, ev_7, ev_8, ev_9, ev_20, ev_21, ev_22, ev_23, ev_24, ev_25, ev_27, ev_28, ev_30, ev_31, ev_32, ev_33, ev_34, ev_35, ev_36, ev_37, ev_38, ev_39, ev_40, ev_41, ev_42, ev_43, ev_45, ev_46, ev_47, ev_48, ev_49, ev_50, ev_51, ev_52, ev_54, ev_55, ev_57, ev_58, ev_59, k2_0, k2_1, k2_2, k3a, k3b, k4, o1_s, xbin_0, xbin_1, xbin_2, xbin_3, xbin_4, xbin_5, xbin_6, xbin_7, xbin_8, xbin_9, xbin_11, xbin_12, xun_0, xun_1, xun_2, xun_3, xun_4, xun_5, k6a, k8, k8b, k9, k20, k20b_0, k20b_1, k20b_2, k20b_3, k20b_4, k20b_5, k21_0, k21_1, k21_2, k21_3, k21_4, k21_5, k23, k24, k25, k27, k28, k40, nz_1, nz_2, nz_3, k31_0, k31_1, k31_2, k31_3, k32u, k33, k34, k35, k35b, k36, k37, k38, k47, k49, k49b_0, k49b_1, k49b_2, k49b_3, k50_0, k50_s, k51_0, k51_s, k55, k58, k58b, rk_0, rk_1, rk_2, rk_9, rk_3, rk_4, rk_5, sw_n, sw_c, xtb_n, xtb_c, lset_0, lset_2, lset_1, lkm_0, lkm_2, lkm_9, lkm_1, lkm_n, if_some1, c_10, c_01, c_x0, c_1x, c_n0, c_nn, List.getElem?_cons_zero, List.getElem?_cons_succ, List.set_cons_zero, List.set_cons_succ, List.length_cons, List.length_nil, Int.reduceToNat, Nat.reduceDiv, Nat.reduceMod, Nat.reduceSub, Nat.reduceAdd, Nat.reduceMul, Nat.reduceLT, Nat.reduceLeDiff, Nat.reduceEqDiff, Int.reduceMod, Int.reduceSub, Int.reduceNeg, Int.reduceAdd, Int.reduceMul, Int.reduceLT, Int.reduceLE, Int.reduceEq, put_ss, if_true, if_false, ite_true, ite_false, reduceIte, eq_self, and_true, true_and, and_false, false_and, or_true, true_or, or_false, false_or, not_true_eq_false, not_false_eq_true, k5_71_2, k34_71_2, k54_71_2, k54b_71_2_0, k5_71_3, k34_71_3, k34i_71_3, ly_A, ly_w, lp_A, hw, hA.1, hq, w32_of]
end Put
