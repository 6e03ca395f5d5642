/-! PAIRS, statements: what the model lays by the way in its first walk is told by a memory of its own, j -/
def jb (j m : Mem) : Mem := fun a k => if a = 158 then (if k = 30 then j a k else if k = 31 then j a k else if k = 39 then j a k else if k = 40 then j a k else if k = 46 then j a k else if k = 48 then j a k else m a k) else if a = 172 then j a k else if a = 181 then j a k else m a k
def JI (j : Mem) (p : Int) : Prop := 0 ≤ j 158 30 ∧ j 158 30 ≤ p ∧ 0 ≤ j 158 46 ∧ j 158 46 ≤ 2 * p ∧ j 158 39 = 0 ∧ j 158 40 = 0
section Jb
variable {p dep q v : Int} {j m : Mem} {k : Nat}
theorem rj_30 : rv p dep (jb j m) 158 30 = j 158 30 := (rfl)
theorem rjp_30 : put (rv p dep (jb j m)) 158 30 v = rv p dep (jb (put j 158 30 v) m) := by
  funext a k'
  simp only [rv, fl, jb, put_ss, Nat.reduceEqDiff, if_false, if_true]
  by_cases h1 : a = 158
  · subst h1
    by_cases h2 : k' = 30
    · subst h2
      simp only [Nat.reduceEqDiff, if_true, if_false]
    · simp only [h2, if_true, if_false]
  · simp only [h1, if_false]
theorem fj_30 : fl p dep (jb j m) 158 30 = j 158 30 := (rfl)
theorem fjp_30 : put (fl p dep (jb j m)) 158 30 v = fl p dep (jb (put j 158 30 v) m) := by
  funext a k'
  simp only [rv, fl, jb, put_ss, Nat.reduceEqDiff, if_false, if_true]
  by_cases h1 : a = 158
  · subst h1
    by_cases h2 : k' = 30
    · subst h2
      simp only [Nat.reduceEqDiff, if_true, if_false]
    · simp only [h2, if_true, if_false]
  · simp only [h1, if_false]
theorem rj_31 : rv p dep (jb j m) 158 31 = j 158 31 := (rfl)
theorem rjp_31 : put (rv p dep (jb j m)) 158 31 v = rv p dep (jb (put j 158 31 v) m) := by
  funext a k'
  simp only [rv, fl, jb, put_ss, Nat.reduceEqDiff, if_false, if_true]
  by_cases h1 : a = 158
  · subst h1
    by_cases h2 : k' = 31
    · subst h2
      simp only [Nat.reduceEqDiff, if_true, if_false]
    · simp only [h2, if_true, if_false]
  · simp only [h1, if_false]
theorem fj_31 : fl p dep (jb j m) 158 31 = j 158 31 := (rfl)
theorem fjp_31 : put (fl p dep (jb j m)) 158 31 v = fl p dep (jb (put j 158 31 v) m) := by
  funext a k'
  simp only [rv, fl, jb, put_ss, Nat.reduceEqDiff, if_false, if_true]
  by_cases h1 : a = 158
  · subst h1
    by_cases h2 : k' = 31
    · subst h2
      simp only [Nat.reduceEqDiff, if_true, if_false]
    · simp only [h2, if_true, if_false]
  · simp only [h1, if_false]
theorem rj_39 : rv p dep (jb j m) 158 39 = j 158 39 := (rfl)
theorem rjp_39 : put (rv p dep (jb j m)) 158 39 v = rv p dep (jb (put j 158 39 v) m) := by
  funext a k'
  simp only [rv, fl, jb, put_ss, Nat.reduceEqDiff, if_false, if_true]
  by_cases h1 : a = 158
  · subst h1
    by_cases h2 : k' = 39
    · subst h2
      simp only [Nat.reduceEqDiff, if_true, if_false]
    · simp only [h2, if_true, if_false]
  · simp only [h1, if_false]
theorem fj_39 : fl p dep (jb j m) 158 39 = j 158 39 := (rfl)
theorem fjp_39 : put (fl p dep (jb j m)) 158 39 v = fl p dep (jb (put j 158 39 v) m) := by
  funext a k'
  simp only [rv, fl, jb, put_ss, Nat.reduceEqDiff, if_false, if_true]
  by_cases h1 : a = 158
  · subst h1
    by_cases h2 : k' = 39
    · subst h2
      simp only [Nat.reduceEqDiff, if_true, if_false]
    · simp only [h2, if_true, if_false]
  · simp only [h1, if_false]
theorem rj_40 : rv p dep (jb j m) 158 40 = j 158 40 := (rfl)
theorem rjp_40 : put (rv p dep (jb j m)) 158 40 v = rv p dep (jb (put j 158 40 v) m) := by
  funext a k'
  simp only [rv, fl, jb, put_ss, Nat.reduceEqDiff, if_false, if_true]
  by_cases h1 : a = 158
  · subst h1
    by_cases h2 : k' = 40
    · subst h2
      simp only [Nat.reduceEqDiff, if_true, if_false]
    · simp only [h2, if_true, if_false]
  · simp only [h1, if_false]
theorem fj_40 : fl p dep (jb j m) 158 40 = j 158 40 := (rfl)
theorem fjp_40 : put (fl p dep (jb j m)) 158 40 v = fl p dep (jb (put j 158 40 v) m) := by
  funext a k'
  simp only [rv, fl, jb, put_ss, Nat.reduceEqDiff, if_false, if_true]
  by_cases h1 : a = 158
  · subst h1
    by_cases h2 : k' = 40
    · subst h2
      simp only [Nat.reduceEqDiff, if_true, if_false]
    · simp only [h2, if_true, if_false]
  · simp only [h1, if_false]
theorem rj_46 : rv p dep (jb j m) 158 46 = j 158 46 := (rfl)
theorem rjp_46 : put (rv p dep (jb j m)) 158 46 v = rv p dep (jb (put j 158 46 v) m) := by
  funext a k'
  simp only [rv, fl, jb, put_ss, Nat.reduceEqDiff, if_false, if_true]
  by_cases h1 : a = 158
  · subst h1
    by_cases h2 : k' = 46
    · subst h2
      simp only [Nat.reduceEqDiff, if_true, if_false]
    · simp only [h2, if_true, if_false]
  · simp only [h1, if_false]
theorem fj_46 : fl p dep (jb j m) 158 46 = j 158 46 := (rfl)
theorem fjp_46 : put (fl p dep (jb j m)) 158 46 v = fl p dep (jb (put j 158 46 v) m) := by
  funext a k'
  simp only [rv, fl, jb, put_ss, Nat.reduceEqDiff, if_false, if_true]
  by_cases h1 : a = 158
  · subst h1
    by_cases h2 : k' = 46
    · subst h2
      simp only [Nat.reduceEqDiff, if_true, if_false]
    · simp only [h2, if_true, if_false]
  · simp only [h1, if_false]
theorem rj_48 : rv p dep (jb j m) 158 48 = j 158 48 := (rfl)
theorem rjp_48 : put (rv p dep (jb j m)) 158 48 v = rv p dep (jb (put j 158 48 v) m) := by
  funext a k'
  simp only [rv, fl, jb, put_ss, Nat.reduceEqDiff, if_false, if_true]
  by_cases h1 : a = 158
  · subst h1
    by_cases h2 : k' = 48
    · subst h2
      simp only [Nat.reduceEqDiff, if_true, if_false]
    · simp only [h2, if_true, if_false]
  · simp only [h1, if_false]
theorem fj_48 : fl p dep (jb j m) 158 48 = j 158 48 := (rfl)
theorem fjp_48 : put (fl p dep (jb j m)) 158 48 v = fl p dep (jb (put j 158 48 v) m) := by
  funext a k'
  simp only [rv, fl, jb, put_ss, Nat.reduceEqDiff, if_false, if_true]
  by_cases h1 : a = 158
  · subst h1
    by_cases h2 : k' = 48
    · subst h2
      simp only [Nat.reduceEqDiff, if_true, if_false]
    · simp only [h2, if_true, if_false]
  · simp only [h1, if_false]
theorem rj_172 : rv p dep (jb j m) 172 k = j 172 k := (rfl)
theorem rjp_172 : put (rv p dep (jb j m)) 172 k v = rv p dep (jb (put j 172 k v) m) := by
  funext a k'
  simp only [rv, fl, jb, put_ss, Nat.reduceEqDiff, if_false, if_true]
  by_cases h1 : a = 172
  · subst h1
    simp only [Nat.reduceEqDiff, if_true, if_false]
  · simp only [h1, if_false]
theorem fj_172 : fl p dep (jb j m) 172 k = j 172 k := (rfl)
theorem fjp_172 : put (fl p dep (jb j m)) 172 k v = fl p dep (jb (put j 172 k v) m) := by
  funext a k'
  simp only [rv, fl, jb, put_ss, Nat.reduceEqDiff, if_false, if_true]
  by_cases h1 : a = 172
  · subst h1
    simp only [Nat.reduceEqDiff, if_true, if_false]
  · simp only [h1, if_false]
theorem rj_181 : rv p dep (jb j m) 181 k = j 181 k := (rfl)
theorem rjp_181 : put (rv p dep (jb j m)) 181 k v = rv p dep (jb (put j 181 k v) m) := by
  funext a k'
  simp only [rv, fl, jb, put_ss, Nat.reduceEqDiff, if_false, if_true]
  by_cases h1 : a = 181
  · subst h1
    simp only [Nat.reduceEqDiff, if_true, if_false]
  · simp only [h1, if_false]
theorem fj_181 : fl p dep (jb j m) 181 k = j 181 k := (rfl)
theorem fjp_181 : put (fl p dep (jb j m)) 181 k v = fl p dep (jb (put j 181 k v) m) := by
  funext a k'
  simp only [rv, fl, jb, put_ss, Nat.reduceEqDiff, if_false, if_true]
  by_cases h1 : a = 181
  · subst h1
    simp only [Nat.reduceEqDiff, if_true, if_false]
  · simp only [h1, if_false]
theorem rj_o : rv p dep (jb j m) 158 41 = m 158 41 := (rfl)
theorem fj_o : fl p dep (jb j m) 158 41 = m 158 41 := (rfl)
theorem rj_p : rv p dep (jb j m) 158 33 = m 158 33 := (rfl)
theorem fj_p : fl p dep (jb j m) 158 33 = m 158 33 := (rfl)
theorem jb_f : jb j m 158 14 = m 158 14 := (rfl)
theorem jb_b : jb j m 158 15 = m 158 15 := (rfl)
theorem jb_v : jb j m 163 k = m 163 k := (rfl)
theorem jb_k : jb j m 161 k = m 161 k := (rfl)
theorem jb_w : jb j m 162 k = m 162 k := (rfl)
end Jb
theorem TK_jb {mc mr j : Mem} {e : Int} (T : TK mc mr e) : TK mc (jb j mr) e := T
theorem cR_det {F b ci : Nat} {ca : List Int} {mc : Mem} {p q r q' r' : Int} (h : cR F b ci ca mc p q r) (h' : cR F b ci ca mc p q' r') : q = q' ∧ r = r' := by
  have e := (h 0 (fun _ => 0) b (fun _ => 0) (Nat.le_refl _)).symm.trans (h' 0 (fun _ => 0) b (fun _ => 0) (Nat.le_refl _))
  have e1 := Option.some.inj e
  have e2 : [r] = [r'] := congrArg Prod.fst e1
  have e3 : Hp 0 (fun _ => 0) (gv q (fun _ => 0) mc) = Hp 0 (fun _ => 0) (gv q' (fun _ => 0) mc) := congrArg Prod.snd e1
  have e4 := congrArg (fun h : xH => h.2.2.2 67 1) e3
  simp only [g_67_1, gv_p] at e4
  exact ⟨e4, by injection e2⟩
/-- an expression, whatever was laid by the way -/
def PuE (F b : Nat) (mc mr : Mem) (e dep : Int) : Prop := ∀ p, 0 ≤ p → p ≤ e → (∃ q t, p < q ∧ q ≤ e ∧ (∀ V, P (kd mc) V t 0 dep p q) ∧ cR F b 29 [67, dep] mc p q 1 ∧ ∀ j, rR F b 236 [158] (jb j mr) dep p q) ∨ (∃ q, p ≤ q ∧ q ≤ e ∧ cR F b 29 [67, dep] mc p q 0 ∧ ∀ j, rN F b 236 [158] (jb j mr) dep p q)
theorem PuE_ok {F b : Nat} {mc mr : Mem} {e dep : Int} (H : ∀ j, PrE F b mc (jb j mr) e dep) : PuE F b mc mr e dep := by
  intro p h0 he
  rcases H mr p h0 he with ⟨q, g1, g2, ⟨t, ht⟩, gc, gr⟩ | ⟨q, g1, g2, gc, gr⟩
  · refine Or.inl ⟨q, t, g1, g2, ht, gc, fun j => ?_⟩
    rcases H j p h0 he with ⟨q', k1, k2, -, kc, kr⟩ | ⟨q', k1, k2, kc, kr⟩
    · rw [(cR_det gc kc).1]; exact kr
    · exact absurd (cR_det gc kc).2 (by decide)
  · refine Or.inr ⟨q, g1, g2, gc, fun j => ?_⟩
    rcases H j p h0 he with ⟨q', k1, k2, -, kc, kr⟩ | ⟨q', k1, k2, kc, kr⟩
    · exact absurd (cR_det gc kc).2 (by decide)
    · rw [(cR_det gc kc).1]; exact kr
def PuI (F b : Nat) (mc mr : Mem) (e dep p : Int) : Prop := (∃ q r t, p < q ∧ q ≤ e ∧ dep < 30 ∧ (∀ V, P (kd mc) V t 0 (dep + 1) (p + 1) r) ∧ kd mc r = 93 ∧ q = r + 1 ∧ cR F b 33 [67, dep] mc p q 1 ∧ ∀ j, rR F b 240 [158] (jb j mr) dep p q) ∨ (∃ q, p ≤ q ∧ q ≤ e ∧ cR F b 33 [67, dep] mc p q 0 ∧ ∀ j, rN F b 240 [158] (jb j mr) dep p q)
theorem PuI_ok {F b : Nat} {mc mr : Mem} {e dep p : Int} (T : TK mc mr e) (hb : mr 158 15 = 0) (hF : 100000 ≤ F) (hd : 0 ≤ dep ∧ dep ≤ 30) (hE : dep < 30 → ∀ j, PrE F b mc (jb j mr) e (dep + 1)) (h0 : 0 ≤ p) (he : p ≤ e) (hk : kd mc p = 91) : PuI F (b + 1) mc mr e dep p := by
  have H := fun j => pr_idx (mr := jb j mr) (TK_jb T) hb hF hd (fun h => hE h j) h0 he hk
  rcases H mr with ⟨q, g1, g2, ⟨hd30, r, t, ht, hr, hq⟩, gc, gr⟩ | ⟨q, g1, g2, gc, gr⟩
  · refine Or.inl ⟨q, r, t, g1, g2, hd30, ht, hr, hq, gc, fun j => ?_⟩
    rcases H j with ⟨q', k1, k2, -, kc, kr⟩ | ⟨q', k1, k2, kc, kr⟩
    · rw [(cR_det gc kc).1]; exact kr
    · exact absurd (cR_det gc kc).2 (by decide)
  · refine Or.inr ⟨q, g1, g2, gc, fun j => ?_⟩
    rcases H j with ⟨q', k1, k2, -, kc, kr⟩ | ⟨q', k1, k2, kc, kr⟩
    · exact absurd (cR_det gc kc).2 (by decide)
    · rw [(cR_det gc kc).1]; exact kr
def PuA (F b : Nat) (mc mr : Mem) (e dep p u : Int) : Prop := (∃ q t, p < q ∧ q ≤ e ∧ (∀ V, P (kd mc) V t 6 dep p q) ∧ cR F b 34 [67, dep] mc p q 1 ∧ ∀ j, rR F b 241 [158, u] (jb j mr) dep p q) ∨ (∃ q, p ≤ q ∧ q ≤ e ∧ cR F b 34 [67, dep] mc p q 0 ∧ ∀ j, rN F b 241 [158, u] (jb j mr) dep p q)
theorem PuA_ok {F b : Nat} {mc mr : Mem} {e dep p : Int} (T : TK mc mr e) (hb : mr 158 15 = 0) (hf : mr 158 14 = 0) (hF : 100000 ≤ F) (hd : 0 ≤ dep ∧ dep ≤ 30) (hE : dep < 30 → ∀ j, PrE F b mc (jb j mr) e (dep + 1)) (h0 : 0 ≤ p) (he : p ≤ e) (hk : kd mc p = 40) (u : Int) : PuA F (b + 1) mc mr e dep p u := by
  have H := fun j => pr_args (mr := jb j mr) (TK_jb T) hb hf hF hd (fun h => hE h j) h0 he hk u
  rcases H mr with ⟨q, g1, g2, ⟨t, ht⟩, gc, gr⟩ | ⟨q, g1, g2, gc, gr⟩
  · refine Or.inl ⟨q, t, g1, g2, ht, gc, fun j => ?_⟩
    rcases H j with ⟨q', k1, k2, -, kc, kr⟩ | ⟨q', k1, k2, kc, kr⟩
    · rw [(cR_det gc kc).1]; exact kr
    · exact absurd (cR_det gc kc).2 (by decide)
  · refine Or.inr ⟨q, g1, g2, gc, fun j => ?_⟩
    rcases H j with ⟨q', k1, k2, -, kc, kr⟩ | ⟨q', k1, k2, kc, kr⟩
    · exact absurd (cR_det gc kc).2 (by decide)
    · rw [(cR_det gc kc).1]; exact kr
section JL
variable {L : Nat} {xs : Nat → Int32} {j m : Mem} {F d : Nat} {p q dep dp a1 a2 : Int}
theorem j_244 (h : -10 ≤ j 158 46 ∧ j 158 46 ≤ 100000) : Cx F (d + 1) 244 [158] (Hp L xs (rv p dep (jb j m))) = some ([j 158 46], Hp L xs (rv p dep (jb (put j 158 46 (j 158 46 + 1)) m))) := by
  have e : j 158 46 + 1 - 1 = j 158 46 := by omega
  simp (disch := omega) only [c_244, tr_244, ev_0, ev_1, ev_16, ev_17, ev_18, ev_2, ev_3, ev_4, ev_5, ev_6, ev_7, ev_8, ev_9, ev_20, ev_21, ev_22, ev_23, ev_24, ev_25, ev_27, ev_28, ev_30, ev_31, ev_32, ev_33, ev_34, ev_35, ev_36, ev_37, ev_38, ev_39, ev_40, ev_41, ev_42, ev_43, ev_45, ev_46, ev_47, ev_48, ev_49, ev_50, ev_51, ev_52, ev_54, ev_55, ev_57, ev_58, ev_59, k2_0, k2_1, k2_2, k3a, k3b, k4, o1_s, xbin_0, xbin_1, xbin_2, xbin_3, xbin_4, xbin_5, xbin_6, xbin_7, xbin_8, xbin_9, xbin_11, xbin_12, xun_0, xun_1, xun_2, xun_3, xun_4, xun_5, k6a, k8, k8b, k9, k20, k20b_0, k20b_1, k20b_2, k20b_3, k20b_4, k20b_5, k21_0, k21_1, k21_2, k21_3, k21_4, k21_5, k23, k24, k25, k27, k28, k40, nz_1, nz_2, nz_3, k31_0, k31_1, k31_2, k31_3, k32u, k33, k34, k35, k35b, k36, k37, k38, k47, k49, k49b_0, k49b_1, k49b_2, k49b_3, k50_0, k50_s, k51_0, k51_s, k55, k58, k58b, rk_0, rk_1, rk_2, rk_9, rk_3, rk_4, rk_5, sw_n, sw_c, xtb_n, xtb_c, lset_0, lset_2, lset_1, lkm_0, lkm_2, lkm_9, lkm_1, lkm_n, if_some1, c_10, c_01, c_x0, c_1x, c_n0, c_nn, List.getElem?_cons_zero, List.getElem?_cons_succ, List.set_cons_zero, List.set_cons_succ, List.length_cons, List.length_nil, Int.reduceToNat, Nat.reduceDiv, Nat.reduceMod, Nat.reduceSub, Nat.reduceAdd, Nat.reduceMul, Nat.reduceLT, Nat.reduceLeDiff, Nat.reduceEqDiff, Int.reduceMod, Int.reduceSub, Int.reduceNeg, Int.reduceAdd, Int.reduceMul, Int.reduceLT, Int.reduceLE, Int.reduceEq, put_ss, if_true, if_false, ite_true, ite_false, reduceIte, eq_self, and_true, true_and, and_false, false_and, or_true, true_or, or_false, false_or, not_true_eq_false, not_false_eq_true, k5_158_46, k34_158_46, k54_158_46, k54b_158_46_0, rj_46, rjp_46, put_ss, w32_of, e]
theorem j_245 (h : 0 ≤ a1 ∧ a1 < 12000) : Cx F (d + 1) 245 [158, a1] (Hp L xs (rv p dep (jb j m))) = some ([], Hp L xs (rv p dep (jb (put j 181 a1.toNat (m 158 41)) m))) := by
  simp (disch := omega) only [c_245, tr_245, ev_0, ev_1, ev_16, ev_17, ev_18, ev_2, ev_3, ev_4, ev_5, ev_6, ev_7, ev_8, ev_9, ev_20, ev_21, ev_22, ev_23, ev_24, ev_25, ev_27, ev_28, ev_30, ev_31, ev_32, ev_33, ev_34, ev_35, ev_36, ev_37, ev_38, ev_39, ev_40, ev_41, ev_42, ev_43, ev_45, ev_46, ev_47, ev_48, ev_49, ev_50, ev_51, ev_52, ev_54, ev_55, ev_57, ev_58, ev_59, k2_0, k2_1, k2_2, k3a, k3b, k4, o1_s, xbin_0, xbin_1, xbin_2, xbin_3, xbin_4, xbin_5, xbin_6, xbin_7, xbin_8, xbin_9, xbin_11, xbin_12, xun_0, xun_1, xun_2, xun_3, xun_4, xun_5, k6a, k8, k8b, k9, k20, k20b_0, k20b_1, k20b_2, k20b_3, k20b_4, k20b_5, k21_0, k21_1, k21_2, k21_3, k21_4, k21_5, k23, k24, k25, k27, k28, k40, nz_1, nz_2, nz_3, k31_0, k31_1, k31_2, k31_3, k32u, k33, k34, k35, k35b, k36, k37, k38, k47, k49, k49b_0, k49b_1, k49b_2, k49b_3, k50_0, k50_s, k51_0, k51_s, k55, k58, k58b, rk_0, rk_1, rk_2, rk_9, rk_3, rk_4, rk_5, sw_n, sw_c, xtb_n, xtb_c, lset_0, lset_2, lset_1, lkm_0, lkm_2, lkm_9, lkm_1, lkm_n, if_some1, c_10, c_01, c_x0, c_1x, c_n0, c_nn, List.getElem?_cons_zero, List.getElem?_cons_succ, List.set_cons_zero, List.set_cons_succ, List.length_cons, List.length_nil, Int.reduceToNat, Nat.reduceDiv, Nat.reduceMod, Nat.reduceSub, Nat.reduceAdd, Nat.reduceMul, Nat.reduceLT, Nat.reduceLeDiff, Nat.reduceEqDiff, Int.reduceMod, Int.reduceSub, Int.reduceNeg, Int.reduceAdd, Int.reduceMul, Int.reduceLT, Int.reduceLE, Int.reduceEq, put_ss, if_true, if_false, ite_true, ite_false, reduceIte, eq_self, and_true, true_and, and_false, false_and, or_true, true_or, or_false, false_or, not_true_eq_false, not_false_eq_true, k5_158_47, k6_181, k35_181, n_181, k5_158_41, k34_158_41, k54_158_41, k54b_158_41_0, rj_o, rjp_181]
theorem jf_245 (h : 0 ≤ a1 ∧ a1 < 12000) : Cx F (d + 1) 245 [158, a1] (Hp L xs (fl p dep (jb j m))) = some ([], Hp L xs (fl p dep (jb (put j 181 a1.toNat (m 158 41)) m))) := by
  simp (disch := omega) only [c_245, tr_245, ev_0, ev_1, ev_16, ev_17, ev_18, ev_2, ev_3, ev_4, ev_5, ev_6, ev_7, ev_8, ev_9, ev_20, ev_21, ev_22, ev_23, ev_24, ev_25, ev_27, ev_28, ev_30, ev_31, ev_32, ev_33, ev_34, ev_35, ev_36, ev_37, ev_38, ev_39, ev_40, ev_41, ev_42, ev_43, ev_45, ev_46, ev_47, ev_48, ev_49, ev_50, ev_51, ev_52, ev_54, ev_55, ev_57, ev_58, ev_59, k2_0, k2_1, k2_2, k3a, k3b, k4, o1_s, xbin_0, xbin_1, xbin_2, xbin_3, xbin_4, xbin_5, xbin_6, xbin_7, xbin_8, xbin_9, xbin_11, xbin_12, xun_0, xun_1, xun_2, xun_3, xun_4, xun_5, k6a, k8, k8b, k9, k20, k20b_0, k20b_1, k20b_2, k20b_3, k20b_4, k20b_5, k21_0, k21_1, k21_2, k21_3, k21_4, k21_5, k23, k24, k25, k27, k28, k40, nz_1, nz_2, nz_3, k31_0, k31_1, k31_2, k31_3, k32u, k33, k34, k35, k35b, k36, k37, k38, k47, k49, k49b_0, k49b_1, k49b_2, k49b_3, k50_0, k50_s, k51_0, k51_s, k55, k58, k58b, rk_0, rk_1, rk_2, rk_9, rk_3, rk_4, rk_5, sw_n, sw_c, xtb_n, xtb_c, lset_0, lset_2, lset_1, lkm_0, lkm_2, lkm_9, lkm_1, lkm_n, if_some1, c_10, c_01, c_x0, c_1x, c_n0, c_nn, List.getElem?_cons_zero, List.getElem?_cons_succ, List.set_cons_zero, List.set_cons_succ, List.length_cons, List.length_nil, Int.reduceToNat, Nat.reduceDiv, Nat.reduceMod, Nat.reduceSub, Nat.reduceAdd, Nat.reduceMul, Nat.reduceLT, Nat.reduceLeDiff, Nat.reduceEqDiff, Int.reduceMod, Int.reduceSub, Int.reduceNeg, Int.reduceAdd, Int.reduceMul, Int.reduceLT, Int.reduceLE, Int.reduceEq, put_ss, if_true, if_false, ite_true, ite_false, reduceIte, eq_self, and_true, true_and, and_false, false_and, or_true, true_or, or_false, false_or, not_true_eq_false, not_false_eq_true, k5_158_47, k6_181, k35_181, n_181, k5_158_41, k34_158_41, k54_158_41, k54b_158_41_0, fj_o, fjp_181]
theorem j_224 (hf : m 158 14 = 0) : Cx F (d + 1) 224 [158, a1] (Hp L xs (rv p dep (jb j m))) = some ([], Hp L xs (rv p dep (jb j m))) := by
  simp only [c_224, tr_224, ev_0, ev_1, ev_16, ev_17, ev_18, ev_2, ev_3, ev_4, ev_5, ev_6, ev_7, ev_8, ev_9, ev_20, ev_21, ev_22, ev_23, ev_24, ev_25, ev_27, ev_28, ev_30, ev_31, ev_32, ev_33, ev_34, ev_35, ev_36, ev_37, ev_38, ev_39, ev_40, ev_41, ev_42, ev_43, ev_45, ev_46, ev_47, ev_48, ev_49, ev_50, ev_51, ev_52, ev_54, ev_55, ev_57, ev_58, ev_59, k2_0, k2_1, k2_2, k3a, k3b, k4, o1_s, xbin_0, xbin_1, xbin_2, xbin_3, xbin_4, xbin_5, xbin_6, xbin_7, xbin_8, xbin_9, xbin_11, xbin_12, xun_0, xun_1, xun_2, xun_3, xun_4, xun_5, k6a, k8, k8b, k9, k20, k20b_0, k20b_1, k20b_2, k20b_3, k20b_4, k20b_5, k21_0, k21_1, k21_2, k21_3, k21_4, k21_5, k23, k24, k25, k27, k28, k40, nz_1, nz_2, nz_3, k31_0, k31_1, k31_2, k31_3, k32u, k33, k34, k35, k35b, k36, k37, k38, k47, k49, k49b_0, k49b_1, k49b_2, k49b_3, k50_0, k50_s, k51_0, k51_s, k55, k58, k58b, rk_0, rk_1, rk_2, rk_9, rk_3, rk_4, rk_5, sw_n, sw_c, xtb_n, xtb_c, lset_0, lset_2, lset_1, lkm_0, lkm_2, lkm_9, lkm_1, lkm_n, if_some1, c_10, c_01, c_x0, c_1x, c_n0, c_nn, List.getElem?_cons_zero, List.getElem?_cons_succ, List.set_cons_zero, List.set_cons_succ, List.length_cons, List.length_nil, Int.reduceToNat, Nat.reduceDiv, Nat.reduceMod, Nat.reduceSub, Nat.reduceAdd, Nat.reduceMul, Nat.reduceLT, Nat.reduceLeDiff, Nat.reduceEqDiff, Int.reduceMod, Int.reduceSub, Int.reduceNeg, Int.reduceAdd, Int.reduceMul, Int.reduceLT, Int.reduceLE, Int.reduceEq, put_ss, if_true, if_false, ite_true, ite_false, reduceIte, eq_self, and_true, true_and, and_false, false_and, or_true, true_or, or_false, false_or, not_true_eq_false, not_false_eq_true, k5_158_14, k34_158_14, k34i_158_14, rv_f, jb_f, hf]
theorem jf_224 (hf : m 158 14 = 0) : Cx F (d + 1) 224 [158, a1] (Hp L xs (fl p dep (jb j m))) = some ([], Hp L xs (fl p dep (jb j m))) := by
  simp only [c_224, tr_224, ev_0, ev_1, ev_16, ev_17, ev_18, ev_2, ev_3, ev_4, ev_5, ev_6, ev_7, ev_8, ev_9, ev_20, ev_21, ev_22, ev_23, ev_24, ev_25, ev_27, ev_28, ev_30, ev_31, ev_32, ev_33, ev_34, ev_35, ev_36, ev_37, ev_38, ev_39, ev_40, ev_41, ev_42, ev_43, ev_45, ev_46, ev_47, ev_48, ev_49, ev_50, ev_51, ev_52, ev_54, ev_55, ev_57, ev_58, ev_59, k2_0, k2_1, k2_2, k3a, k3b, k4, o1_s, xbin_0, xbin_1, xbin_2, xbin_3, xbin_4, xbin_5, xbin_6, xbin_7, xbin_8, xbin_9, xbin_11, xbin_12, xun_0, xun_1, xun_2, xun_3, xun_4, xun_5, k6a, k8, k8b, k9, k20, k20b_0, k20b_1, k20b_2, k20b_3, k20b_4, k20b_5, k21_0, k21_1, k21_2, k21_3, k21_4, k21_5, k23, k24, k25, k27, k28, k40, nz_1, nz_2, nz_3, k31_0, k31_1, k31_2, k31_3, k32u, k33, k34, k35, k35b, k36, k37, k38, k47, k49, k49b_0, k49b_1, k49b_2, k49b_3, k50_0, k50_s, k51_0, k51_s, k55, k58, k58b, rk_0, rk_1, rk_2, rk_9, rk_3, rk_4, rk_5, sw_n, sw_c, xtb_n, xtb_c, lset_0, lset_2, lset_1, lkm_0, lkm_2, lkm_9, lkm_1, lkm_n, if_some1, c_10, c_01, c_x0, c_1x, c_n0, c_nn, List.getElem?_cons_zero, List.getElem?_cons_succ, List.set_cons_zero, List.set_cons_succ, List.length_cons, List.length_nil, Int.reduceToNat, Nat.reduceDiv, Nat.reduceMod, Nat.reduceSub, Nat.reduceAdd, Nat.reduceMul, Nat.reduceLT, Nat.reduceLeDiff, Nat.reduceEqDiff, Int.reduceMod, Int.reduceSub, Int.reduceNeg, Int.reduceAdd, Int.reduceMul, Int.reduceLT, Int.reduceLE, Int.reduceEq, put_ss, if_true, if_false, ite_true, ite_false, reduceIte, eq_self, and_true, true_and, and_false, false_and, or_true, true_or, or_false, false_or, not_true_eq_false, not_false_eq_true, k5_158_14, k34_158_14, k34i_158_14, fl_f, jb_f, hf]
def jadd (j m : Mem) (n : Int) : Mem := put (put (put j 172 (j 158 30).toNat (m 163 n.toNat)) 158 30 (j 158 30 + 1)) 158 31 (if j 158 31 < j 158 30 + 1 then j 158 30 + 1 else j 158 31)
theorem j_225 (hb : m 158 15 = 0) (h : 0 ≤ j 158 30 ∧ j 158 30 < 1600) (hn : 0 ≤ a1 ∧ a1 < 3001) : Cx F (d + 1) 225 [158, a1] (Hp L xs (rv p dep (jb j m))) = some ([], Hp L xs (rv p dep (jb (jadd j m a1) m))) := by
  unfold jadd
  simp (disch := omega) only [c_225, tr_225, ev_0, ev_1, ev_16, ev_17, ev_18, ev_2, ev_3, ev_4, ev_5, ev_6, ev_7, ev_8, ev_9, ev_20, ev_21, ev_22, ev_23, ev_24, ev_25, ev_27, ev_28, ev_30, ev_31, ev_32, ev_33, ev_34, ev_35, ev_36, ev_37, ev_38, ev_39, ev_40, ev_41, ev_42, ev_43, ev_45, ev_46, ev_47, ev_48, ev_49, ev_50, ev_51, ev_52, ev_54, ev_55, ev_57, ev_58, ev_59, k2_0, k2_1, k2_2, k3a, k3b, k4, o1_s, xbin_0, xbin_1, xbin_2, xbin_3, xbin_4, xbin_5, xbin_6, xbin_7, xbin_8, xbin_9, xbin_11, xbin_12, xun_0, xun_1, xun_2, xun_3, xun_4, xun_5, k6a, k8, k8b, k9, k20, k20b_0, k20b_1, k20b_2, k20b_3, k20b_4, k20b_5, k21_0, k21_1, k21_2, k21_3, k21_4, k21_5, k23, k24, k25, k27, k28, k40, nz_1, nz_2, nz_3, k31_0, k31_1, k31_2, k31_3, k32u, k33, k34, k35, k35b, k36, k37, k38, k47, k49, k49b_0, k49b_1, k49b_2, k49b_3, k50_0, k50_s, k51_0, k51_s, k55, k58, k58b, rk_0, rk_1, rk_2, rk_9, rk_3, rk_4, rk_5, sw_n, sw_c, xtb_n, xtb_c, lset_0, lset_2, lset_1, lkm_0, lkm_2, lkm_9, lkm_1, lkm_n, if_some1, c_10, c_01, c_x0, c_1x, c_n0, c_nn, List.getElem?_cons_zero, List.getElem?_cons_succ, List.set_cons_zero, List.set_cons_succ, List.length_cons, List.length_nil, Int.reduceToNat, Nat.reduceDiv, Nat.reduceMod, Nat.reduceSub, Nat.reduceAdd, Nat.reduceMul, Nat.reduceLT, Nat.reduceLeDiff, Nat.reduceEqDiff, Int.reduceMod, Int.reduceSub, Int.reduceNeg, Int.reduceAdd, Int.reduceMul, Int.reduceLT, Int.reduceLE, Int.reduceEq, put_ss, if_true, if_false, ite_true, ite_false, reduceIte, eq_self, and_true, true_and, and_false, false_and, or_true, true_or, or_false, false_or, not_true_eq_false, not_false_eq_true, k5_158_32, k6_172, k35_172, n_172, k5_158_30, k34_158_30, k54_158_30, k54b_158_30_0, k5_158_31, k34_158_31, k5_158_7, k6_163, k35_163, n_163, k5_158_15, k34_158_15, k34i_158_15, rv_b, jb_b, hb, rv_v, jb_v, rj_30, rj_31, rjp_172, rjp_30, rjp_31, w32_of]
theorem jf_225 : Cx F (d + 1) 225 [158, a1] (Hp L xs (fl p dep (jb j m))) = some ([], Hp L xs (fl p dep (jb j m))) := by
  simp (disch := omega) only [c_225, tr_225, ev_0, ev_1, ev_16, ev_17, ev_18, ev_2, ev_3, ev_4, ev_5, ev_6, ev_7, ev_8, ev_9, ev_20, ev_21, ev_22, ev_23, ev_24, ev_25, ev_27, ev_28, ev_30, ev_31, ev_32, ev_33, ev_34, ev_35, ev_36, ev_37, ev_38, ev_39, ev_40, ev_41, ev_42, ev_43, ev_45, ev_46, ev_47, ev_48, ev_49, ev_50, ev_51, ev_52, ev_54, ev_55, ev_57, ev_58, ev_59, k2_0, k2_1, k2_2, k3a, k3b, k4, o1_s, xbin_0, xbin_1, xbin_2, xbin_3, xbin_4, xbin_5, xbin_6, xbin_7, xbin_8, xbin_9, xbin_11, xbin_12, xun_0, xun_1, xun_2, xun_3, xun_4, xun_5, k6a, k8, k8b, k9, k20, k20b_0, k20b_1, k20b_2, k20b_3, k20b_4, k20b_5, k21_0, k21_1, k21_2, k21_3, k21_4, k21_5, k23, k24, k25, k27, k28, k40, nz_1, nz_2, nz_3, k31_0, k31_1, k31_2, k31_3, k32u, k33, k34, k35, k35b, k36, k37, k38, k47, k49, k49b_0, k49b_1, k49b_2, k49b_3, k50_0, k50_s, k51_0, k51_s, k55, k58, k58b, rk_0, rk_1, rk_2, rk_9, rk_3, rk_4, rk_5, sw_n, sw_c, xtb_n, xtb_c, lset_0, lset_2, lset_1, lkm_0, lkm_2, lkm_9, lkm_1, lkm_n, if_some1, c_10, c_01, c_x0, c_1x, c_n0, c_nn, List.getElem?_cons_zero, List.getElem?_cons_succ, List.set_cons_zero, List.set_cons_succ, List.length_cons, List.length_nil, Int.reduceToNat, Nat.reduceDiv, Nat.reduceMod, Nat.reduceSub, Nat.reduceAdd, Nat.reduceMul, Nat.reduceLT, Nat.reduceLeDiff, Nat.reduceEqDiff, Int.reduceMod, Int.reduceSub, Int.reduceNeg, Int.reduceAdd, Int.reduceMul, Int.reduceLT, Int.reduceLE, Int.reduceEq, put_ss, if_true, if_false, ite_true, ite_false, reduceIte, eq_self, and_true, true_and, and_false, false_and, or_true, true_or, or_false, false_or, not_true_eq_false, not_false_eq_true, k5_158_15, k34_158_15, k34i_158_15, fl_b]
theorem j_228 (hf : m 158 14 = 0) : Cx F (d + 1) 228 [158, a1] (Hp L xs (rv p dep (jb j m))) = some ([0], Hp L xs (rv p dep (jb j m))) := by
  simp only [c_228, tr_228, ev_0, ev_1, ev_16, ev_17, ev_18, ev_2, ev_3, ev_4, ev_5, ev_6, ev_7, ev_8, ev_9, ev_20, ev_21, ev_22, ev_23, ev_24, ev_25, ev_27, ev_28, ev_30, ev_31, ev_32, ev_33, ev_34, ev_35, ev_36, ev_37, ev_38, ev_39, ev_40, ev_41, ev_42, ev_43, ev_45, ev_46, ev_47, ev_48, ev_49, ev_50, ev_51, ev_52, ev_54, ev_55, ev_57, ev_58, ev_59, k2_0, k2_1, k2_2, k3a, k3b, k4, o1_s, xbin_0, xbin_1, xbin_2, xbin_3, xbin_4, xbin_5, xbin_6, xbin_7, xbin_8, xbin_9, xbin_11, xbin_12, xun_0, xun_1, xun_2, xun_3, xun_4, xun_5, k6a, k8, k8b, k9, k20, k20b_0, k20b_1, k20b_2, k20b_3, k20b_4, k20b_5, k21_0, k21_1, k21_2, k21_3, k21_4, k21_5, k23, k24, k25, k27, k28, k40, nz_1, nz_2, nz_3, k31_0, k31_1, k31_2, k31_3, k32u, k33, k34, k35, k35b, k36, k37, k38, k47, k49, k49b_0, k49b_1, k49b_2, k49b_3, k50_0, k50_s, k51_0, k51_s, k55, k58, k58b, rk_0, rk_1, rk_2, rk_9, rk_3, rk_4, rk_5, sw_n, sw_c, xtb_n, xtb_c, lset_0, lset_2, lset_1, lkm_0, lkm_2, lkm_9, lkm_1, lkm_n, if_some1, c_10, c_01, c_x0, c_1x, c_n0, c_nn, List.getElem?_cons_zero, List.getElem?_cons_succ, List.set_cons_zero, List.set_cons_succ, List.length_cons, List.length_nil, Int.reduceToNat, Nat.reduceDiv, Nat.reduceMod, Nat.reduceSub, Nat.reduceAdd, Nat.reduceMul, Nat.reduceLT, Nat.reduceLeDiff, Nat.reduceEqDiff, Int.reduceMod, Int.reduceSub, Int.reduceNeg, Int.reduceAdd, Int.reduceMul, Int.reduceLT, Int.reduceLE, Int.reduceEq, put_ss, if_true, if_false, ite_true, ite_false, reduceIte, eq_self, and_true, true_and, and_false, false_and, or_true, true_or, or_false, false_or, not_true_eq_false, not_false_eq_true, k5_158_14, k34_158_14, k34i_158_14, rv_f, jb_f, hf]
theorem jf_228 (hf : m 158 14 = 0) : Cx F (d + 1) 228 [158, a1] (Hp L xs (fl p dep (jb j m))) = some ([0], Hp L xs (fl p dep (jb j m))) := by
  simp only [c_228, tr_228, ev_0, ev_1, ev_16, ev_17, ev_18, ev_2, ev_3, ev_4, ev_5, ev_6, ev_7, ev_8, ev_9, ev_20, ev_21, ev_22, ev_23, ev_24, ev_25, ev_27, ev_28, ev_30, ev_31, ev_32, ev_33, ev_34, ev_35, ev_36, ev_37, ev_38, ev_39, ev_40, ev_41, ev_42, ev_43, ev_45, ev_46, ev_47, ev_48, ev_49, ev_50, ev_51, ev_52, ev_54, ev_55, ev_57, ev_58, ev_59, k2_0, k2_1, k2_2, k3a, k3b, k4, o1_s, xbin_0, xbin_1, xbin_2, xbin_3, xbin_4, xbin_5, xbin_6, xbin_7, xbin_8, xbin_9, xbin_11, xbin_12, xun_0, xun_1, xun_2, xun_3, xun_4, xun_5, k6a, k8, k8b, k9, k20, k20b_0, k20b_1, k20b_2, k20b_3, k20b_4, k20b_5, k21_0, k21_1, k21_2, k21_3, k21_4, k21_5, k23, k24, k25, k27, k28, k40, nz_1, nz_2, nz_3, k31_0, k31_1, k31_2, k31_3, k32u, k33, k34, k35, k35b, k36, k37, k38, k47, k49, k49b_0, k49b_1, k49b_2, k49b_3, k50_0, k50_s, k51_0, k51_s, k55, k58, k58b, rk_0, rk_1, rk_2, rk_9, rk_3, rk_4, rk_5, sw_n, sw_c, xtb_n, xtb_c, lset_0, lset_2, lset_1, lkm_0, lkm_2, lkm_9, lkm_1, lkm_n, if_some1, c_10, c_01, c_x0, c_1x, c_n0, c_nn, List.getElem?_cons_zero, List.getElem?_cons_succ, List.set_cons_zero, List.set_cons_succ, List.length_cons, List.length_nil, Int.reduceToNat, Nat.reduceDiv, Nat.reduceMod, Nat.reduceSub, Nat.reduceAdd, Nat.reduceMul, Nat.reduceLT, Nat.reduceLeDiff, Nat.reduceEqDiff, Int.reduceMod, Int.reduceSub, Int.reduceNeg, Int.reduceAdd, Int.reduceMul, Int.reduceLT, Int.reduceLE, Int.reduceEq, put_ss, if_true, if_false, ite_true, ite_false, reduceIte, eq_self, and_true, true_and, and_false, false_and, or_true, true_or, or_false, false_or, not_true_eq_false, not_false_eq_true, k5_158_14, k34_158_14, k34i_158_14, fl_f, jb_f, hf]
theorem jf_230 (hq : 0 ≤ q ∧ q < 3001) (hF : 100000 ≤ F) : Cx F (d + 5) 230 [158] (Hp L xs (fl q dp (jb j m))) = some ([], Hp L xs (fl q (w32 (w32 (dp + 1) - 1)) (jb (put j 158 30 (j 158 30)) m))) := by
  obtain ⟨n, hn⟩ : ∃ n, F = n + 1 := ⟨F - 1, by omega⟩
  have c3 : ∀ s h, LF F (d + 4) la_230_0 lb_230_0 lc_230_0 F (s, h) = LF F (d + 4) la_230_0 lb_230_0 lc_230_0 (n + 1) (s, h) := fun s h => by rw [← hn]
  simp (disch := omega) only [c_230, tx_230, ev_0, ev_1, ev_16, ev_17, ev_18, ev_2, ev_3, ev_4, ev_5, ev_6, ev_7, ev_8, ev_9, ev_20, ev_21, ev_22, ev_23, ev_24, ev_25, ev_27, ev_28, ev_30, ev_31, ev_32, ev_33, ev_34, ev_35, ev_36, ev_37, ev_38, ev_39, ev_40, ev_41, ev_42, ev_43, ev_45, ev_46, ev_47, ev_48, ev_49, ev_50, ev_51, ev_52, ev_54, ev_55, ev_57, ev_58, ev_59, k2_0, k2_1, k2_2, k3a, k3b, k4, o1_s, xbin_0, xbin_1, xbin_2, xbin_3, xbin_4, xbin_5, xbin_6, xbin_7, xbin_8, xbin_9, xbin_11, xbin_12, xun_0, xun_1, xun_2, xun_3, xun_4, xun_5, k6a, k8, k8b, k9, k20, k20b_0, k20b_1, k20b_2, k20b_3, k20b_4, k20b_5, k21_0, k21_1, k21_2, k21_3, k21_4, k21_5, k23, k24, k25, k27, k28, k40, nz_1, nz_2, nz_3, k31_0, k31_1, k31_2, k31_3, k32u, k33, k34, k35, k35b, k36, k37, k38, k47, k49, k49b_0, k49b_1, k49b_2, k49b_3, k50_0, k50_s, k51_0, k51_s, k55, k58, k58b, rk_0, rk_1, rk_2, rk_9, rk_3, rk_4, rk_5, sw_n, sw_c, xtb_n, xtb_c, lset_0, lset_2, lset_1, lkm_0, lkm_2, lkm_9, lkm_1, lkm_n, if_some1, c_10, c_01, c_x0, c_1x, c_n0, c_nn, List.getElem?_cons_zero, List.getElem?_cons_succ, List.set_cons_zero, List.set_cons_succ, List.length_cons, List.length_nil, Int.reduceToNat, Nat.reduceDiv, Nat.reduceMod, Nat.reduceSub, Nat.reduceAdd, Nat.reduceMul, Nat.reduceLT, Nat.reduceLeDiff, Nat.reduceEqDiff, Int.reduceMod, Int.reduceSub, Int.reduceNeg, Int.reduceAdd, Int.reduceMul, Int.reduceLT, Int.reduceLE, Int.reduceEq, put_ss, if_true, if_false, ite_true, ite_false, reduceIte, eq_self, and_true, true_and, and_false, false_and, or_true, true_or, or_false, false_or, not_true_eq_false, not_false_eq_true, bf_207, bf_209, bf_210, bf_211, bf_212, bf_208, bf_213, bf_214, bf_215, bf_216, bf_246, bf_239, bf_238, bf_237, bf_236, fl_d, fl_b, fl_t, fl_f, fl_h, fl_v, fp_d, c3, lf_s, ea_230_0, eb_230_0, ec_230_0, l1_i, l1_1, l1_0, l2_0, l2_1, l2_2, l2_3, l3_0, w2_0, w2_1, w2_2, w2_3, d1_0, d1_1, d1_2, d1_3, d2_i, d2_1, d2_0, k5_158_30, k34_158_30, k54_158_30, k54b_158_30_0, k5_158_15, k34_158_15, k34i_158_15, k5_158_13, k34_158_13, k54_158_13, k54b_158_13_0, k54b_158_13_1, fj_30, fjp_30]
theorem nj_212 (hb : m 158 15 = 0) (hp : 0 ≤ p ∧ p < 3001) : Cx F (d + 1) 212 [158] (Hp L xs (rv p dep (jb j m))) = some ([], Hp L xs (rv (p + 1) dep (jb j m))) := N_212 hb hp
theorem nj_216 (hb : m 158 15 = 0) (hd : 0 ≤ dep ∧ dep < 30) : Cx F (d + 3) 216 [158] (Hp L xs (rv p dep (jb j m))) = some ([], Hp L xs (rv p (dep + 1) (jb j m))) := N_216 hb hd
theorem nj_208 (hb : m 158 15 = 0) (hp : 0 ≤ p ∧ p < 3001) : Cx F (d + 2) 208 [158] (Hp L xs (rv p dep (jb j m))) = some ([], Hp L xs (fl p dep (jb j m))) := N_208 hb hp
theorem nj_246 {a3 : Int} (hf : m 158 14 = 0) : Cx F (d + 1) 246 [158, a1, a2, a3] (Hp L xs (rv p dep (jb j m))) = some ([], Hp L xs (rv p dep (jb j m))) := rn_246 hf
theorem nj_242 (hf : m 158 14 = 0) : Cx F (d + 1) 242 [158, a1] (Hp L xs (rv p dep (jb j m))) = some ([0], Hp L xs (rv p dep (jb j m))) := rn_242 hf
theorem nj_243 (hf : m 158 14 = 0) : Cx F (d + 1) 243 [158, a1] (Hp L xs (rv p dep (jb j m))) = some ([0], Hp L xs (rv p dep (jb j m))) := rn_243 hf
end JL
