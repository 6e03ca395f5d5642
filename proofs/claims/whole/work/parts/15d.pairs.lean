/-! PAIRS: what the class and the model do with an expression -/
section PL
variable {K V : Int → Int} {i dep p q : Int} {a b : xT} {nt : Nat}
theorem p_1 : P K V (nd 1 i a b) nt dep p q = (nt = 0 ∧ P K V a 1 dep p q ∧ cmpOf (K q) = -1) := (rfl)
theorem p_2 : P K V (nd 2 i a b) nt dep p q = (nt = 0 ∧ ∃ r, P K V a 1 dep p r ∧ cmpOf (K r) = i ∧ i ≠ -1 ∧ P K V b 1 dep (r + 1) q) := (rfl)
theorem p_3 : P K V (nd 3 i a b) nt dep p q = (nt = 1 ∧ ∃ r, P K V a 3 dep p r ∧ P K V b 2 dep r q) := (rfl)
theorem p_4 : P K V (nd 4 i a b) nt dep p q = (nt = 2 ∧ ((i = 8 ∧ K p = 43) ∨ (i = 9 ∧ K p = 45)) ∧ ∃ r, P K V a 3 dep (p + 1) r ∧ P K V b 2 dep r q) := (rfl)
theorem p_5 : P K V (nd 5 i a b) nt dep p q = (nt = 2 ∧ p = q ∧ K p ≠ 43 ∧ K p ≠ 45) := (rfl)
theorem p_6 : P K V (nd 6 i a b) nt dep p q = (nt = 3 ∧ ∃ r, P K V a 5 dep p r ∧ P K V b 4 dep r q) := (rfl)
theorem p_7 : P K V (nd 7 i a b) nt dep p q = (nt = 4 ∧ ((i = 10 ∧ K p = 42) ∨ (i = 11 ∧ K p = 47) ∨ (i = 12 ∧ K p = 37)) ∧ ∃ r, P K V a 5 dep (p + 1) r ∧ P K V b 4 dep r q) := (rfl)
theorem p_8 : P K V (nd 8 i a b) nt dep p q = (nt = 4 ∧ p = q ∧ K p ≠ 42 ∧ K p ≠ 47 ∧ K p ≠ 37) := (rfl)
theorem p_9 : P K V (nd 9 i a b) nt dep p q = (nt = 5 ∧ K p = 45 ∧ dep < 30 ∧ P K V a 5 (dep + 1) (p + 1) q) := (rfl)
theorem p_10 : P K V (nd 10 i a b) nt dep p q = (nt = 5 ∧ K p = 40 ∧ dep < 30 ∧ ∃ r, P K V a 0 (dep + 1) (p + 1) r ∧ K r = 41 ∧ q = r + 1) := (rfl)
theorem p_11 : P K V (nd 11 i a b) nt dep p q = (nt = 5 ∧ K p = 3 ∧ q = p + 1 ∧ i = p) := (rfl)
theorem p_12 : P K V (nd 12 i a b) nt dep p q = (nt = 5 ∧ K p = 16 ∧ q = p + 1) := (rfl)
theorem p_13 : P K V (nd 13 i a b) nt dep p q = (nt = 5 ∧ K p = 2 ∧ q = p + 1 ∧ K q ≠ 91 ∧ K q ≠ 40 ∧ i = p) := (rfl)
theorem p_14 : P K V (nd 14 i a b) nt dep p q = (nt = 5 ∧ K p = 2 ∧ K (p + 1) = 91 ∧ dep < 30 ∧ i = p ∧ ∃ r, P K V a 0 (dep + 1) (p + 2) r ∧ K r = 93 ∧ q = r + 1) := (rfl)
theorem p_15 : P K V (nd 15 i a b) nt dep p q = (nt = 5 ∧ K p = 2 ∧ i = p ∧ P K V a 6 dep (p + 1) q) := (rfl)
theorem p_16 : P K V (nd 16 i a b) nt dep p q = (nt = 6 ∧ K p = 40 ∧ dep < 30 ∧ K (p + 1) = 41 ∧ q = p + 2) := (rfl)
theorem p_17 : P K V (nd 17 i a b) nt dep p q = (nt = 6 ∧ K p = 40 ∧ dep < 30 ∧ K (p + 1) ≠ 41 ∧ ∃ r, P K V a 0 (dep + 1) (p + 1) r ∧ P K V b 7 (dep + 1) r q) := (rfl)
theorem p_18 : P K V (nd 18 i a b) nt dep p q = (nt = 7 ∧ K p = 44 ∧ ∃ r, P K V a 0 dep (p + 1) r ∧ P K V b 7 dep r q) := (rfl)
theorem p_19 : P K V (nd 19 i a b) nt dep p q = (nt = 7 ∧ K p = 41 ∧ q = p + 1) := (rfl)
theorem p_20 : P K V (nd 20 i a b) nt dep p q = (nt = 8 ∧ K p = 123 ∧ dep < 30 ∧ V p = q - 1 ∧ ∃ r, P K V a 9 (dep + 1) (p + 1) r ∧ K r = 125 ∧ q = r + 1) := (rfl)
theorem p_21 : P K V (nd 21 i a b) nt dep p q = (nt = 9 ∧ K p ≠ 125 ∧ ∃ r, P K V a 10 dep p r ∧ P K V b 9 dep r q) := (rfl)
theorem p_22 : P K V (nd 22 i a b) nt dep p q = (nt = 9 ∧ p = q ∧ K p = 125) := (rfl)
theorem p_23 : P K V (nd 23 i a b) nt dep p q = (nt = 10 ∧ K p = 4 ∧ K (p + 1) = 2 ∧ K (p + 2) = 61 ∧ i = p ∧ ∃ r, P K V a 0 dep (p + 3) r ∧ K r = 59 ∧ q = r + 1) := (rfl)
theorem p_24 : P K V (nd 24 i a b) nt dep p q = (nt = 10 ∧ K p = 2 ∧ i = p ∧ ∃ r, P K V a 6 dep (p + 1) r ∧ K r = 59 ∧ q = r + 1) := (rfl)
theorem p_25 : P K V (nd 25 i a b) nt dep p q = (nt = 10 ∧ K p = 2 ∧ K (p + 1) = 61 ∧ i = p ∧ ∃ r, P K V a 0 dep (p + 2) r ∧ K r = 59 ∧ q = r + 1) := (rfl)
theorem p_26 : P K V (nd 26 i a b) nt dep p q = (nt = 10 ∧ K p = 2 ∧ K (p + 1) = 91 ∧ dep < 30 ∧ i = p ∧ ∃ r s, P K V a 0 (dep + 1) (p + 2) r ∧ K r = 93 ∧ K (r + 1) = 61 ∧ P K V b 0 dep (r + 2) s ∧ K s = 59 ∧ q = s + 1) := (rfl)
theorem p_27 : P K V (nd 27 i a b) nt dep p q = (nt = 10 ∧ K p = 8 ∧ ∃ r, P K V a 0 dep (p + 1) r ∧ P K V b 8 dep r q ∧ K q ≠ 9) := (rfl)
theorem p_28 : P K V (nd 28 i a b) nt dep p q = (nt = 10 ∧ K p = 8 ∧ ∃ r, P K V a 0 dep (p + 1) r ∧ P K V b 12 dep r q) := (rfl)
theorem p_29 : P K V (nd 29 i a b) nt dep p q = (nt = 10 ∧ K p = 10 ∧ ∃ r, P K V a 0 dep (p + 1) r ∧ P K V b 8 dep r q) := (rfl)
theorem p_30 : P K V (nd 30 i a b) nt dep p q = (nt = 10 ∧ K p = 11 ∧ ∃ r, P K V a 8 dep (p + 1) r ∧ K r = 12 ∧ P K V b 11 dep r q) := (rfl)
theorem p_31 : P K V (nd 31 i a b) nt dep p q = (nt = 11 ∧ K p = 12 ∧ K (p + 1) = 2 ∧ i = p ∧ ∃ r, P K V a 8 dep (p + 2) r ∧ P K V b 11 dep r q) := (rfl)
theorem p_32 : P K V (nd 32 i a b) nt dep p q = (nt = 11 ∧ p = q ∧ K p ≠ 12) := (rfl)
theorem p_33 : P K V (nd 33 i a b) nt dep p q = (nt = 10 ∧ K p = 13 ∧ K (p + 1) = 2 ∧ K (p + 2) = 59 ∧ i = p ∧ q = p + 3) := (rfl)
theorem p_34 : P K V (nd 34 i a b) nt dep p q = (nt = 10 ∧ K p = 14 ∧ ∃ r, P K V a 0 dep (p + 1) r ∧ K r = 59 ∧ q = r + 1) := (rfl)
theorem p_35 : P K V (nd 35 i a b) nt dep p q = (nt = 10 ∧ K p = 15 ∧ ∃ r, P K V a 0 dep (p + 1) r ∧ K r = 59 ∧ q = r + 1) := (rfl)
theorem p_36 : P K V (nd 36 i a b) nt dep p q = (nt = 12 ∧ ∃ r, P K V a 8 dep p r ∧ K r = 9 ∧ P K V b 8 dep (r + 1) q) := (rfl)
end PL
/-- the tokens of both, up to the one at which all ends -/
def TK (mc mr : Mem) (e : Int) : Prop := 0 ≤ e ∧ e < mc 51 5 ∧ mc 51 5 ≤ 3001 ∧ (∀ i, 0 ≤ i → i < e → 2 ≤ kd mc i) ∧ (kd mc e = 0 ∨ kd mc e = 1) ∧ (∀ i, 0 ≤ i → i ≤ e → TR (kd mc i) (mr 161 i.toNat) (mr 163 i.toNat) ∧ mr 162 i.toNat = mc 54 i.toNat)
theorem TK_lt {mc mr : Mem} {e p : Int} (T : TK mc mr e) (h0 : p ≤ e) (hk : 2 ≤ kd mc p) : p + 1 ≤ e := by
  by_cases h : p = e
  · have := T.2.2.2.2.1
    rw [← h] at this
    omega
  · omega
def cR (F b ci : Nat) (ca : List Int) (mc : Mem) (p q r : Int) : Prop := ∀ (L : Nat) (xs : Nat → Int32) (d : Nat) (V : Nat → Int), b ≤ d → Cx F (d + 10) ci ca (Hp L xs (gv p V mc)) = some ([r], Hp L xs (gv q V mc))
def rR (F b ri : Nat) (ra : List Int) (mr : Mem) (dep p q : Int) : Prop := ∀ (L : Nat) (xs : Nat → Int32) (d : Nat), b ≤ d → Cx F (d + 10) ri ra (Hp L xs (rv p dep mr)) = some ([], Hp L xs (rv q dep mr))
def rN (F b ri : Nat) (ra : List Int) (mr : Mem) (dep p q : Int) : Prop := ∀ (L : Nat) (xs : Nat → Int32) (d : Nat), b ≤ d → ∃ dep', Cx F (d + 10) ri ra (Hp L xs (rv p dep mr)) = some ([], Hp L xs (fl q dep' mr))
/-- both come through to a q of which G holds, or both stop at one token -/
def Pr (F b ci : Nat) (ca : List Int) (ri : Nat) (ra : List Int) (mc mr : Mem) (e dep p : Int) (G : Int → Prop) : Prop := (∃ q, p < q ∧ q ≤ e ∧ G q ∧ cR F b ci ca mc p q 1 ∧ rR F b ri ra mr dep p q) ∨ (∃ q, p ≤ q ∧ q ≤ e ∧ cR F b ci ca mc p q 0 ∧ rN F b ri ra mr dep p q)
def PrE (F b : Nat) (mc mr : Mem) (e dep : Int) : Prop := ∀ p, 0 ≤ p → p ≤ e → Pr F b 29 [67, dep] 236 [158] mc mr e dep p (fun q => ∃ t, ∀ V, P (kd mc) V t 0 dep p q)
def PrF (F b : Nat) (mc mr : Mem) (e dep : Int) : Prop := ∀ p, 0 ≤ p → p ≤ e → Pr F b 32 [67, dep] 239 [158] mc mr e dep p (fun q => ∃ t, ∀ V, P (kd mc) V t 5 dep p q)
def PrT (F b : Nat) (mc mr : Mem) (e dep : Int) : Prop := ∀ p, 0 ≤ p → p ≤ e → Pr F b 31 [67, dep] 238 [158] mc mr e dep p (fun q => ∃ t, ∀ V, P (kd mc) V t 3 dep p q)
def PrS (F b : Nat) (mc mr : Mem) (e dep : Int) : Prop := ∀ p, 0 ≤ p → p ≤ e → Pr F b 30 [67, dep] 237 [158] mc mr e dep p (fun q => ∃ t, ∀ V, P (kd mc) V t 1 dep p q)
section PairE
variable {F b : Nat} {mc mr : Mem} {e dep p : Int}

theorem pr_idx (T : TK mc mr e) (hb : mr 158 15 = 0) (hF : 100000 ≤ F) (hd : 0 ≤ dep ∧ dep ≤ 30) (hE : dep < 30 → PrE F b mc mr e (dep + 1)) (h0 : 0 ≤ p) (he : p ≤ e) (hk : kd mc p = 91) : Pr F (b + 1) 33 [67, dep] 240 [158] mc mr e dep p (fun q => dep < 30 ∧ ∃ r t, (∀ V, P (kd mc) V t 0 (dep + 1) (p + 1) r) ∧ kd mc r = 93 ∧ q = r + 1) := by
  have hN := T.2.2.1
  have hpe := TK_lt T he (by omega)
  have hNe := T.2.1
  by_cases hd30 : dep < 30
  · rcases hE hd30 (p + 1) (by omega) hpe with ⟨r, g1, g2, ⟨t, ht⟩, gc, gr⟩ | ⟨r, g1, g2, gc, gr⟩
    · have hTr := (T.2.2.2.2.2 r (by omega) g2).1
      by_cases h93 : kd mc r = 93
      · left
        have hre := TK_lt T g2 (by omega)
        refine ⟨r + 1, by omega, hre, ⟨hd30, r, t, ht, h93, rfl⟩, fun L xs d V hbd => ?_, fun L xs d hbd => ?_⟩
        · obtain ⟨d, rfl⟩ : ∃ d', d = d' + 1 := ⟨d - 1, by omega⟩
          have c1 := C_21 (L := L) (xs := xs) (F := F) (d := d + 8) (V := V) (m := mc) (p := p) (a1 := 91) (dep := dep) hN (by omega)
          have c2 := gc L xs d V (by omega)
          have c3 := C_20 (L := L) (xs := xs) (F := F) (d := d + 8) (V := V) (m := mc) (p := r) (a1 := 93) hN (by omega)
          simp only [hk, hd30, h93, and_self, if_true] at c1 c3
          simp (disch := omega) only [c_33, tr_33, ev_0, ev_1, ev_16, ev_17, ev_18, ev_2, ev_3, ev_4, ev_5, ev_6, ev_7, ev_8, ev_9, ev_20, ev_21, ev_22, ev_23, ev_24, ev_25, ev_27, ev_28, ev_30, ev_31, ev_32, ev_33, ev_34, ev_35, ev_36, ev_37, ev_38, ev_39, ev_40, ev_41, ev_42, ev_43, ev_45, ev_46, ev_47, ev_48, ev_49, ev_50, ev_51, ev_52, ev_54, ev_55, ev_57, ev_58, ev_59, k2_0, k2_1, k2_2, k3a, k3b, k4, o1_s, xbin_0, xbin_1, xbin_2, xbin_3, xbin_4, xbin_5, xbin_6, xbin_7, xbin_8, xbin_9, xbin_11, xbin_12, xun_0, xun_1, xun_2, xun_3, xun_4, xun_5, k6a, k8, k8b, k9, k20, k20b_0, k20b_1, k20b_2, k20b_3, k20b_4, k20b_5, k21_0, k21_1, k21_2, k21_3, k21_4, k21_5, k23, k24, k25, k27, k28, k40, nz_1, nz_2, nz_3, k31_0, k31_1, k31_2, k31_3, k32u, k33, k34, k35, k35b, k36, k37, k38, k47, k49, k49b_0, k49b_1, k49b_2, k49b_3, k50_0, k50_s, k51_0, k51_s, k55, k58, k58b, rk_0, rk_1, rk_2, rk_9, rk_3, rk_4, rk_5, sw_n, sw_c, xtb_n, xtb_c, lset_0, lset_2, lset_1, lkm_0, lkm_2, lkm_9, lkm_1, lkm_n, if_some1, c_10, c_01, c_x0, c_1x, c_n0, c_nn, List.getElem?_cons_zero, List.getElem?_cons_succ, List.set_cons_zero, List.set_cons_succ, List.length_cons, List.length_nil, Int.reduceToNat, Nat.reduceDiv, Nat.reduceMod, Nat.reduceSub, Nat.reduceAdd, Nat.reduceMul, Nat.reduceLT, Nat.reduceLeDiff, Nat.reduceEqDiff, Int.reduceMod, Int.reduceSub, Int.reduceNeg, Int.reduceAdd, Int.reduceMul, Int.reduceLT, Int.reduceLE, Int.reduceEq, put_ss, if_true, if_false, ite_true, ite_false, reduceIte, eq_self, and_true, true_and, and_false, false_and, or_true, true_or, or_false, false_or, not_true_eq_false, not_false_eq_true, c1, c2, c3, w32_of]
        · obtain ⟨d, rfl⟩ : ∃ d', d = d' + 1 := ⟨d - 1, by omega⟩
          have c1 := N_216 (L := L) (xs := xs) (F := F) (d := d + 7) (m := mr) (p := p) (dep := dep) hb (by omega)
          have c2 := N_212 (L := L) (xs := xs) (F := F) (d := d + 9) (m := mr) (p := p) (dep := dep + 1) hb (by omega)
          have c3 := gr L xs d (by omega)
          have c4 := N_213 (L := L) (xs := xs) (F := F) (d := d + 7) (m := mr) (p := r) (dep := dep + 1) (a1 := 93) hb (by omega) hTr (by omega) h93
          have e1 : dep + 1 - 1 = dep := by omega
          simp (disch := omega) only [c_240, tr_240, ev_0, ev_1, ev_16, ev_17, ev_18, ev_2, ev_3, ev_4, ev_5, ev_6, ev_7, ev_8, ev_9, ev_20, ev_21, ev_22, ev_23, ev_24, ev_25, ev_27, ev_28, ev_30, ev_31, ev_32, ev_33, ev_34, ev_35, ev_36, ev_37, ev_38, ev_39, ev_40, ev_41, ev_42, ev_43, ev_45, ev_46, ev_47, ev_48, ev_49, ev_50, ev_51, ev_52, ev_54, ev_55, ev_57, ev_58, ev_59, k2_0, k2_1, k2_2, k3a, k3b, k4, o1_s, xbin_0, xbin_1, xbin_2, xbin_3, xbin_4, xbin_5, xbin_6, xbin_7, xbin_8, xbin_9, xbin_11, xbin_12, xun_0, xun_1, xun_2, xun_3, xun_4, xun_5, k6a, k8, k8b, k9, k20, k20b_0, k20b_1, k20b_2, k20b_3, k20b_4, k20b_5, k21_0, k21_1, k21_2, k21_3, k21_4, k21_5, k23, k24, k25, k27, k28, k40, nz_1, nz_2, nz_3, k31_0, k31_1, k31_2, k31_3, k32u, k33, k34, k35, k35b, k36, k37, k38, k47, k49, k49b_0, k49b_1, k49b_2, k49b_3, k50_0, k50_s, k51_0, k51_s, k55, k58, k58b, rk_0, rk_1, rk_2, rk_9, rk_3, rk_4, rk_5, sw_n, sw_c, xtb_n, xtb_c, lset_0, lset_2, lset_1, lkm_0, lkm_2, lkm_9, lkm_1, lkm_n, if_some1, c_10, c_01, c_x0, c_1x, c_n0, c_nn, List.getElem?_cons_zero, List.getElem?_cons_succ, List.set_cons_zero, List.set_cons_succ, List.length_cons, List.length_nil, Int.reduceToNat, Nat.reduceDiv, Nat.reduceMod, Nat.reduceSub, Nat.reduceAdd, Nat.reduceMul, Nat.reduceLT, Nat.reduceLeDiff, Nat.reduceEqDiff, Int.reduceMod, Int.reduceSub, Int.reduceNeg, Int.reduceAdd, Int.reduceMul, Int.reduceLT, Int.reduceLE, Int.reduceEq, put_ss, if_true, if_false, ite_true, ite_false, reduceIte, eq_self, and_true, true_and, and_false, false_and, or_true, true_or, or_false, false_or, not_true_eq_false, not_false_eq_true, c1, c2, c3, c4, k5_158_13, k34_158_13, k54_158_13, k54b_158_13_0, k54b_158_13_1, rv_d, rp_d, w32_of, e1]
      · right
        refine ⟨r, by omega, g2, fun L xs d V hbd => ?_, fun L xs d hbd => ?_⟩
        · obtain ⟨d, rfl⟩ : ∃ d', d = d' + 1 := ⟨d - 1, by omega⟩
          have c1 := C_21 (L := L) (xs := xs) (F := F) (d := d + 8) (V := V) (m := mc) (p := p) (a1 := 91) (dep := dep) hN (by omega)
          have c2 := gc L xs d V (by omega)
          have c3 := C_20 (L := L) (xs := xs) (F := F) (d := d + 8) (V := V) (m := mc) (p := r) (a1 := 93) hN (by omega)
          simp only [hk, hd30, h93, and_self, if_true, if_false] at c1 c3
          simp (disch := omega) only [c_33, tr_33, ev_0, ev_1, ev_16, ev_17, ev_18, ev_2, ev_3, ev_4, ev_5, ev_6, ev_7, ev_8, ev_9, ev_20, ev_21, ev_22, ev_23, ev_24, ev_25, ev_27, ev_28, ev_30, ev_31, ev_32, ev_33, ev_34, ev_35, ev_36, ev_37, ev_38, ev_39, ev_40, ev_41, ev_42, ev_43, ev_45, ev_46, ev_47, ev_48, ev_49, ev_50, ev_51, ev_52, ev_54, ev_55, ev_57, ev_58, ev_59, k2_0, k2_1, k2_2, k3a, k3b, k4, o1_s, xbin_0, xbin_1, xbin_2, xbin_3, xbin_4, xbin_5, xbin_6, xbin_7, xbin_8, xbin_9, xbin_11, xbin_12, xun_0, xun_1, xun_2, xun_3, xun_4, xun_5, k6a, k8, k8b, k9, k20, k20b_0, k20b_1, k20b_2, k20b_3, k20b_4, k20b_5, k21_0, k21_1, k21_2, k21_3, k21_4, k21_5, k23, k24, k25, k27, k28, k40, nz_1, nz_2, nz_3, k31_0, k31_1, k31_2, k31_3, k32u, k33, k34, k35, k35b, k36, k37, k38, k47, k49, k49b_0, k49b_1, k49b_2, k49b_3, k50_0, k50_s, k51_0, k51_s, k55, k58, k58b, rk_0, rk_1, rk_2, rk_9, rk_3, rk_4, rk_5, sw_n, sw_c, xtb_n, xtb_c, lset_0, lset_2, lset_1, lkm_0, lkm_2, lkm_9, lkm_1, lkm_n, if_some1, c_10, c_01, c_x0, c_1x, c_n0, c_nn, List.getElem?_cons_zero, List.getElem?_cons_succ, List.set_cons_zero, List.set_cons_succ, List.length_cons, List.length_nil, Int.reduceToNat, Nat.reduceDiv, Nat.reduceMod, Nat.reduceSub, Nat.reduceAdd, Nat.reduceMul, Nat.reduceLT, Nat.reduceLeDiff, Nat.reduceEqDiff, Int.reduceMod, Int.reduceSub, Int.reduceNeg, Int.reduceAdd, Int.reduceMul, Int.reduceLT, Int.reduceLE, Int.reduceEq, put_ss, if_true, if_false, ite_true, ite_false, reduceIte, eq_self, and_true, true_and, and_false, false_and, or_true, true_or, or_false, false_or, not_true_eq_false, not_false_eq_true, c1, c2, c3, w32_of]
        · obtain ⟨d, rfl⟩ : ∃ d', d = d' + 1 := ⟨d - 1, by omega⟩
          have c1 := N_216 (L := L) (xs := xs) (F := F) (d := d + 7) (m := mr) (p := p) (dep := dep) hb (by omega)
          have c2 := N_212 (L := L) (xs := xs) (F := F) (d := d + 9) (m := mr) (p := p) (dep := dep + 1) hb (by omega)
          have c3 := gr L xs d (by omega)
          have c4 := N_213f (L := L) (xs := xs) (F := F) (d := d + 7) (m := mr) (p := r) (dep := dep + 1) (a1 := 93) hb (by omega) hTr (by omega) h93
          have e1 : dep + 1 - 1 = dep := by omega
          refine ⟨dep, ?_⟩
          simp (disch := omega) only [c_240, tr_240, ev_0, ev_1, ev_16, ev_17, ev_18, ev_2, ev_3, ev_4, ev_5, ev_6, ev_7, ev_8, ev_9, ev_20, ev_21, ev_22, ev_23, ev_24, ev_25, ev_27, ev_28, ev_30, ev_31, ev_32, ev_33, ev_34, ev_35, ev_36, ev_37, ev_38, ev_39, ev_40, ev_41, ev_42, ev_43, ev_45, ev_46, ev_47, ev_48, ev_49, ev_50, ev_51, ev_52, ev_54, ev_55, ev_57, ev_58, ev_59, k2_0, k2_1, k2_2, k3a, k3b, k4, o1_s, xbin_0, xbin_1, xbin_2, xbin_3, xbin_4, xbin_5, xbin_6, xbin_7, xbin_8, xbin_9, xbin_11, xbin_12, xun_0, xun_1, xun_2, xun_3, xun_4, xun_5, k6a, k8, k8b, k9, k20, k20b_0, k20b_1, k20b_2, k20b_3, k20b_4, k20b_5, k21_0, k21_1, k21_2, k21_3, k21_4, k21_5, k23, k24, k25, k27, k28, k40, nz_1, nz_2, nz_3, k31_0, k31_1, k31_2, k31_3, k32u, k33, k34, k35, k35b, k36, k37, k38, k47, k49, k49b_0, k49b_1, k49b_2, k49b_3, k50_0, k50_s, k51_0, k51_s, k55, k58, k58b, rk_0, rk_1, rk_2, rk_9, rk_3, rk_4, rk_5, sw_n, sw_c, xtb_n, xtb_c, lset_0, lset_2, lset_1, lkm_0, lkm_2, lkm_9, lkm_1, lkm_n, if_some1, c_10, c_01, c_x0, c_1x, c_n0, c_nn, List.getElem?_cons_zero, List.getElem?_cons_succ, List.set_cons_zero, List.set_cons_succ, List.length_cons, List.length_nil, Int.reduceToNat, Nat.reduceDiv, Nat.reduceMod, Nat.reduceSub, Nat.reduceAdd, Nat.reduceMul, Nat.reduceLT, Nat.reduceLeDiff, Nat.reduceEqDiff, Int.reduceMod, Int.reduceSub, Int.reduceNeg, Int.reduceAdd, Int.reduceMul, Int.reduceLT, Int.reduceLE, Int.reduceEq, put_ss, if_true, if_false, ite_true, ite_false, reduceIte, eq_self, and_true, true_and, and_false, false_and, or_true, true_or, or_false, false_or, not_true_eq_false, not_false_eq_true, c1, c2, c3, c4, k5_158_13, k34_158_13, k54_158_13, k54b_158_13_0, k54b_158_13_1, fl_d, fp_d, w32_of, e1]
    · right
      refine ⟨r, by omega, g2, fun L xs d V hbd => ?_, fun L xs d hbd => ?_⟩
      · obtain ⟨d, rfl⟩ : ∃ d', d = d' + 1 := ⟨d - 1, by omega⟩
        have c1 := C_21 (L := L) (xs := xs) (F := F) (d := d + 8) (V := V) (m := mc) (p := p) (a1 := 91) (dep := dep) hN (by omega)
        have c2 := gc L xs d V (by omega)
        simp only [hk, hd30, and_self, if_true] at c1
        simp (disch := omega) only [c_33, tr_33, ev_0, ev_1, ev_16, ev_17, ev_18, ev_2, ev_3, ev_4, ev_5, ev_6, ev_7, ev_8, ev_9, ev_20, ev_21, ev_22, ev_23, ev_24, ev_25, ev_27, ev_28, ev_30, ev_31, ev_32, ev_33, ev_34, ev_35, ev_36, ev_37, ev_38, ev_39, ev_40, ev_41, ev_42, ev_43, ev_45, ev_46, ev_47, ev_48, ev_49, ev_50, ev_51, ev_52, ev_54, ev_55, ev_57, ev_58, ev_59, k2_0, k2_1, k2_2, k3a, k3b, k4, o1_s, xbin_0, xbin_1, xbin_2, xbin_3, xbin_4, xbin_5, xbin_6, xbin_7, xbin_8, xbin_9, xbin_11, xbin_12, xun_0, xun_1, xun_2, xun_3, xun_4, xun_5, k6a, k8, k8b, k9, k20, k20b_0, k20b_1, k20b_2, k20b_3, k20b_4, k20b_5, k21_0, k21_1, k21_2, k21_3, k21_4, k21_5, k23, k24, k25, k27, k28, k40, nz_1, nz_2, nz_3, k31_0, k31_1, k31_2, k31_3, k32u, k33, k34, k35, k35b, k36, k37, k38, k47, k49, k49b_0, k49b_1, k49b_2, k49b_3, k50_0, k50_s, k51_0, k51_s, k55, k58, k58b, rk_0, rk_1, rk_2, rk_9, rk_3, rk_4, rk_5, sw_n, sw_c, xtb_n, xtb_c, lset_0, lset_2, lset_1, lkm_0, lkm_2, lkm_9, lkm_1, lkm_n, if_some1, c_10, c_01, c_x0, c_1x, c_n0, c_nn, List.getElem?_cons_zero, List.getElem?_cons_succ, List.set_cons_zero, List.set_cons_succ, List.length_cons, List.length_nil, Int.reduceToNat, Nat.reduceDiv, Nat.reduceMod, Nat.reduceSub, Nat.reduceAdd, Nat.reduceMul, Nat.reduceLT, Nat.reduceLeDiff, Nat.reduceEqDiff, Int.reduceMod, Int.reduceSub, Int.reduceNeg, Int.reduceAdd, Int.reduceMul, Int.reduceLT, Int.reduceLE, Int.reduceEq, put_ss, if_true, if_false, ite_true, ite_false, reduceIte, eq_self, and_true, true_and, and_false, false_and, or_true, true_or, or_false, false_or, not_true_eq_false, not_false_eq_true, c1, c2, w32_of]
      · obtain ⟨d, rfl⟩ : ∃ d', d = d' + 1 := ⟨d - 1, by omega⟩
        have c1 := N_216 (L := L) (xs := xs) (F := F) (d := d + 7) (m := mr) (p := p) (dep := dep) hb (by omega)
        have c2 := N_212 (L := L) (xs := xs) (F := F) (d := d + 9) (m := mr) (p := p) (dep := dep + 1) hb (by omega)
        obtain ⟨dp, c3⟩ := gr L xs d (by omega)
        have c4 := B_213 (L := L) (xs := xs) (F := F) (d := d + 7) (m := fl r dp mr) (a1 := 93) rfl (by rw [fl_t]; omega)
        refine ⟨w32 (dp - 1), ?_⟩
        simp (disch := omega) only [c_240, tr_240, ev_0, ev_1, ev_16, ev_17, ev_18, ev_2, ev_3, ev_4, ev_5, ev_6, ev_7, ev_8, ev_9, ev_20, ev_21, ev_22, ev_23, ev_24, ev_25, ev_27, ev_28, ev_30, ev_31, ev_32, ev_33, ev_34, ev_35, ev_36, ev_37, ev_38, ev_39, ev_40, ev_41, ev_42, ev_43, ev_45, ev_46, ev_47, ev_48, ev_49, ev_50, ev_51, ev_52, ev_54, ev_55, ev_57, ev_58, ev_59, k2_0, k2_1, k2_2, k3a, k3b, k4, o1_s, xbin_0, xbin_1, xbin_2, xbin_3, xbin_4, xbin_5, xbin_6, xbin_7, xbin_8, xbin_9, xbin_11, xbin_12, xun_0, xun_1, xun_2, xun_3, xun_4, xun_5, k6a, k8, k8b, k9, k20, k20b_0, k20b_1, k20b_2, k20b_3, k20b_4, k20b_5, k21_0, k21_1, k21_2, k21_3, k21_4, k21_5, k23, k24, k25, k27, k28, k40, nz_1, nz_2, nz_3, k31_0, k31_1, k31_2, k31_3, k32u, k33, k34, k35, k35b, k36, k37, k38, k47, k49, k49b_0, k49b_1, k49b_2, k49b_3, k50_0, k50_s, k51_0, k51_s, k55, k58, k58b, rk_0, rk_1, rk_2, rk_9, rk_3, rk_4, rk_5, sw_n, sw_c, xtb_n, xtb_c, lset_0, lset_2, lset_1, lkm_0, lkm_2, lkm_9, lkm_1, lkm_n, if_some1, c_10, c_01, c_x0, c_1x, c_n0, c_nn, List.getElem?_cons_zero, List.getElem?_cons_succ, List.set_cons_zero, List.set_cons_succ, List.length_cons, List.length_nil, Int.reduceToNat, Nat.reduceDiv, Nat.reduceMod, Nat.reduceSub, Nat.reduceAdd, Nat.reduceMul, Nat.reduceLT, Nat.reduceLeDiff, Nat.reduceEqDiff, Int.reduceMod, Int.reduceSub, Int.reduceNeg, Int.reduceAdd, Int.reduceMul, Int.reduceLT, Int.reduceLE, Int.reduceEq, put_ss, if_true, if_false, ite_true, ite_false, reduceIte, eq_self, and_true, true_and, and_false, false_and, or_true, true_or, or_false, false_or, not_true_eq_false, not_false_eq_true, c1, c2, c3, c4, k5_158_13, k34_158_13, k54_158_13, k54b_158_13_0, k54b_158_13_1, fl_d, fp_d]
  · right
    have h30 : dep = 30 := by omega
    refine ⟨p, by omega, he, fun L xs d V hbd => ?_, fun L xs d hbd => ?_⟩
    · obtain ⟨d, rfl⟩ : ∃ d', d = d' + 1 := ⟨d - 1, by omega⟩
      have c1 := C_21 (L := L) (xs := xs) (F := F) (d := d + 8) (V := V) (m := mc) (p := p) (a1 := 91) (dep := dep) hN (by omega)
      simp only [hd30, false_and, if_false] at c1
      simp (disch := omega) only [c_33, tr_33, ev_0, ev_1, ev_16, ev_17, ev_18, ev_2, ev_3, ev_4, ev_5, ev_6, ev_7, ev_8, ev_9, ev_20, ev_21, ev_22, ev_23, ev_24, ev_25, ev_27, ev_28, ev_30, ev_31, ev_32, ev_33, ev_34, ev_35, ev_36, ev_37, ev_38, ev_39, ev_40, ev_41, ev_42, ev_43, ev_45, ev_46, ev_47, ev_48, ev_49, ev_50, ev_51, ev_52, ev_54, ev_55, ev_57, ev_58, ev_59, k2_0, k2_1, k2_2, k3a, k3b, k4, o1_s, xbin_0, xbin_1, xbin_2, xbin_3, xbin_4, xbin_5, xbin_6, xbin_7, xbin_8, xbin_9, xbin_11, xbin_12, xun_0, xun_1, xun_2, xun_3, xun_4, xun_5, k6a, k8, k8b, k9, k20, k20b_0, k20b_1, k20b_2, k20b_3, k20b_4, k20b_5, k21_0, k21_1, k21_2, k21_3, k21_4, k21_5, k23, k24, k25, k27, k28, k40, nz_1, nz_2, nz_3, k31_0, k31_1, k31_2, k31_3, k32u, k33, k34, k35, k35b, k36, k37, k38, k47, k49, k49b_0, k49b_1, k49b_2, k49b_3, k50_0, k50_s, k51_0, k51_s, k55, k58, k58b, rk_0, rk_1, rk_2, rk_9, rk_3, rk_4, rk_5, sw_n, sw_c, xtb_n, xtb_c, lset_0, lset_2, lset_1, lkm_0, lkm_2, lkm_9, lkm_1, lkm_n, if_some1, c_10, c_01, c_x0, c_1x, c_n0, c_nn, List.getElem?_cons_zero, List.getElem?_cons_succ, List.set_cons_zero, List.set_cons_succ, List.length_cons, List.length_nil, Int.reduceToNat, Nat.reduceDiv, Nat.reduceMod, Nat.reduceSub, Nat.reduceAdd, Nat.reduceMul, Nat.reduceLT, Nat.reduceLeDiff, Nat.reduceEqDiff, Int.reduceMod, Int.reduceSub, Int.reduceNeg, Int.reduceAdd, Int.reduceMul, Int.reduceLT, Int.reduceLE, Int.reduceEq, put_ss, if_true, if_false, ite_true, ite_false, reduceIte, eq_self, and_true, true_and, and_false, false_and, or_true, true_or, or_false, false_or, not_true_eq_false, not_false_eq_true, c1]
    · obtain ⟨d, rfl⟩ : ∃ d', d = d' + 1 := ⟨d - 1, by omega⟩
      have c1 := N_216f (L := L) (xs := xs) (F := F) (d := d + 7) (m := mr) (p := p) (dep := dep) hb (by omega) h30
      have c2 := B_212 (L := L) (xs := xs) (F := F) (d := d + 9) (m := fl p 31 mr) rfl
      have c3 := B_236 (L := L) (xs := xs) (F := F) (d := d + 3) (m := fl p 31 mr) rfl (by rw [fl_t]; omega) hF
      have c4 := B_213 (L := L) (xs := xs) (F := F) (d := d + 7) (m := fl p 31 mr) (a1 := 93) rfl (by rw [fl_t]; omega)
      refine ⟨30, ?_⟩
      simp (disch := omega) only [c_240, tr_240, ev_0, ev_1, ev_16, ev_17, ev_18, ev_2, ev_3, ev_4, ev_5, ev_6, ev_7, ev_8, ev_9, ev_20, ev_21, ev_22, ev_23, ev_24, ev_25, ev_27, ev_28, ev_30, ev_31, ev_32, ev_33, ev_34, ev_35, ev_36, ev_37, ev_38, ev_39, ev_40, ev_41, ev_42, ev_43, ev_45, ev_46, ev_47, ev_48, ev_49, ev_50, ev_51, ev_52, ev_54, ev_55, ev_57, ev_58, ev_59, k2_0, k2_1, k2_2, k3a, k3b, k4, o1_s, xbin_0, xbin_1, xbin_2, xbin_3, xbin_4, xbin_5, xbin_6, xbin_7, xbin_8, xbin_9, xbin_11, xbin_12, xun_0, xun_1, xun_2, xun_3, xun_4, xun_5, k6a, k8, k8b, k9, k20, k20b_0, k20b_1, k20b_2, k20b_3, k20b_4, k20b_5, k21_0, k21_1, k21_2, k21_3, k21_4, k21_5, k23, k24, k25, k27, k28, k40, nz_1, nz_2, nz_3, k31_0, k31_1, k31_2, k31_3, k32u, k33, k34, k35, k35b, k36, k37, k38, k47, k49, k49b_0, k49b_1, k49b_2, k49b_3, k50_0, k50_s, k51_0, k51_s, k55, k58, k58b, rk_0, rk_1, rk_2, rk_9, rk_3, rk_4, rk_5, sw_n, sw_c, xtb_n, xtb_c, lset_0, lset_2, lset_1, lkm_0, lkm_2, lkm_9, lkm_1, lkm_n, if_some1, c_10, c_01, c_x0, c_1x, c_n0, c_nn, List.getElem?_cons_zero, List.getElem?_cons_succ, List.set_cons_zero, List.set_cons_succ, List.length_cons, List.length_nil, Int.reduceToNat, Nat.reduceDiv, Nat.reduceMod, Nat.reduceSub, Nat.reduceAdd, Nat.reduceMul, Nat.reduceLT, Nat.reduceLeDiff, Nat.reduceEqDiff, Int.reduceMod, Int.reduceSub, Int.reduceNeg, Int.reduceAdd, Int.reduceMul, Int.reduceLT, Int.reduceLE, Int.reduceEq, put_ss, if_true, if_false, ite_true, ite_false, reduceIte, eq_self, and_true, true_and, and_false, false_and, or_true, true_or, or_false, false_or, not_true_eq_false, not_false_eq_true, c1, c2, c3, c4, k5_158_13, k34_158_13, k54_158_13, k54b_158_13_0, k54b_158_13_1, fl_d, fp_d, w32_of]
end PairE
