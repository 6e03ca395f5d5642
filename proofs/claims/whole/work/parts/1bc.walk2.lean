/-! CLASS AND MODEL, THE SECOND WALK: its beginning; the whole of it -/
def mI2 (m : Mem) : Mem := put (put (put (put m 158 21 0) 158 24 6) 158 25 0) 158 29 5
theorem TT_in {cd : Nat} {v : Int → Int} {e : Int} {t : xT} {c : wS} {l : List Int} {m : Mem} {D : Int} {G : Prop} (S : SE c.2.2.2 (mI2 m) e) (hb : m 158 15 = 0) (h41 : m 158 41 = 0) (h46 : m 158 46 = 0) (h36 : m 158 36 = 0) (h16 : m 158 16 < 0) (h39 : m 158 39 = 0) (h28 : m 158 28 = 0 ∨ m 158 28 = 1) (hlg : lgT v t → m 158 28 = 1) (hpm : ∀ k : Nat, k < (hnT t).length → m 170 k = (hnT t).getD k 0) (hl5 : l.length = 5) (hTB : TBL m (l ++ cT v t)) (hvv : ∀ i, vlT m i = v i) (c1 : c.1.1 = []) (c2 : c.1.2.2.2.1 = D) (c3 : c.1.2.2.2.2 = 3001) (y1 : c.2.1.1 = []) (y2 : c.2.1.2.1 = 0) (y3 : ∀ id : Int, 0 ≤ id → id < c.2.2.2 57 4 → c.2.1.2.2.1 id.toNat = -1) (y4 : 0 ≤ c.2.1.2.2.2.2 ∧ c.2.1.2.2.2.2 ≤ 1600) (h68 : c.2.2.2 68 4 = 0) (h15 : c.2.2.2 68 15 = 0) (hD : D = if dT v t l = -1 then 3001 else c.2.2.2 54 (dT v t l).toNat) : TT cd v e t 0 c l [] [] (mI2 m) id D G := by
  have hlen : c.1.1.length = 0 := by rw [c1]; rfl
  have hlab : c.2.1.1.length = 0 := by rw [y1]; rfl
  refine ⟨S, ?_, hb, trivial, by show m 158 41 ≤ 0; omega, by omega, by show 0 ≤ m 158 36 ∧ m 158 36 ≤ 0; omega, by show 0 ≤ (0 : Int) ∧ (0 : Int) ≤ 0; decide, by show 0 ≤ (0 : Int) ∧ (0 : Int) ≤ 0; decide, by show 0 ≤ (6 : Int) ∧ (6 : Int) ≤ 0 + 6; decide, by show (5 : Int) = (l.length : Int) ∧ (l.length : Int) ≤ 0 + 5; omega, ⟨hTB.1, hTB.2⟩, hvv, fun k hk => ?_, ⟨h28, hlg⟩, hD, fun k hk => absurd hk (by show ¬ (k : Int) < 0; omega), ⟨Or.inl h15, fun z => by omega, fun z => ?_⟩, ?_, ?_⟩
  · refine ⟨⟨?_, fun _ k hk => absurd hk (by omega), fun _ _ => ⟨rfl, rfl⟩, c2, fun _ => Or.inl ⟨h16, c3⟩⟩, fun k hk => absurd hk (by omega), ?_, fun k h0 h1 => absurd h1 (by omega), fun j k j0 j1 => absurd j1 (by omega), fun k hk => absurd hk (by omega), rfl, rfl, by omega, y2, ⟨by show (0 : Int) ≤ 0; omega, by show 2 * (0 : Int) ≤ 0; omega⟩, fun j hj => absurd hj (by show ¬ (j : Int) < 0; omega), fun id h0 h1 => ?_, fun j hj => absurd hj (by show ¬ (j : Int) < 0; omega), ⟨rfl, by show (0 : Int) ≤ c.2.1.2.2.2.2; omega, by show c.2.1.2.2.2.2 ≤ 1600; omega⟩, h68, ?_⟩
    · show (c.1.1.length : Int) = m 158 41
      omega
    · show (c.2.1.1.length : Int) = m 158 46
      omega
    · rw [y3 id h0 h1]
      rfl
    · show 0 ≤ m 158 39 ∧ 3 * m 158 39 ≤ 0
      omega
  · show m 170 (0 + (k : Int)).toNat = _
    have e1 : (0 + (k : Int)).toNat = k := by omega
    rw [e1]
    exact hpm k hk
  · obtain ⟨k, k1, k2⟩ := z
    exact absurd k1 (by show ¬ (k : Int) < 0; omega)
  · exact ⟨rfl, h36, fun k hk => absurd hk (Nat.not_lt_zero _), fun k hk => absurd hk (Nat.not_lt_zero _)⟩
  · exact ⟨rfl, fun k hk => absurd hk (Nat.not_lt_zero _)⟩
theorem m_rv2 (m : Mem) : m = rv (m 158 12) (m 158 13) m := by
  funext a k
  unfold rv
  by_cases h1 : a = 158
  · subst h1
    by_cases h2 : k = 12
    · subst h2; rfl
    · by_cases h3 : k = 13
      · subst h3; rfl
      · simp only [h2, h3, if_true, if_false]
  · simp only [h1, if_false]
theorem W_220 {F L d : Nat} {xs : Nat → Int32} {cd : Nat} {v V : Int → Int} {e D : Int} {G : Prop} {t : xT} {c : wS} {l : List Int} {m : Mem} (hF : 100000 ≤ F) (hc : cd = 83 ∨ cd = 93) (hd : 700 ≤ d) (h : PT (kd c.2.2.2) V t 0 e) (T : TT cd v e t 0 c l [] [] (mI2 m) id D G) : ∃ p' m', Cx F (d + 14) 220 [158] (Hp L xs m) = some ([], Hp L xs (rv p' 0 m')) ∧ FT m m' ∧ ((∃ σ', TT cd v e (nd 40 0 xz xz) e (xTo cd t c) (l ++ cT v t) (rT t) (vwT v t) m' σ' D G ∧ E7 (mI2 m) m' (kT t)) ∨ Br c.2.2.2 m' (xTo cd t c).1 0 e) := by
  have el := T.se.el
  obtain ⟨p', m', c1, F1, Y⟩ := Pg_ok (F := F) (L := L) (xs := xs) (d := d) (V := V) hF hc hd (tsz t + 1) t (by omega) 0 c l [] [] (mI2 m) id F h (by omega) T (by omega)
  have F0 : FT m (mI2 m) := FT_put (FT_put (FT_put (FT_put FT_rf rfl) rfl) rfl) rfl
  refine ⟨p', m', ?_, FT_tr F0 F1, Y⟩
  have hin : Hp L xs m = Hp L xs (rv (m 158 12) (m 158 13) m) := congrArg (Hp L xs) (m_rv2 m)
  rw [hin]
  unfold mI2 at c1
  simp (disch := first | omega | assumption) only [c_220, tx_220, ev_0, ev_1, ev_16, ev_17, ev_18, ev_2, ev_3, ev_4, ev_5, ev_6, ev_7, ev_8, ev_9, ev_20, ev_21, ev_22, ev_23, ev_24, ev_25, ev_27, ev_28, ev_30, ev_31, ev_32, ev_33, ev_34, ev_35, ev_36, ev_37, ev_38, ev_39, ev_40, ev_41, ev_42, ev_43, ev_45, ev_46, ev_47, ev_48, ev_49, ev_50, ev_51, ev_52, ev_54, ev_55, ev_57, ev_58, ev_59, k2_0, k2_1, k2_2, k3a, k3b, k4, o1_s, xbin_0, xbin_1, xbin_2, xbin_3, xbin_4, xbin_5, xbin_6, xbin_7, xbin_8, xbin_9, xbin_11, xbin_12, xun_0, xun_1, xun_2, xun_3, xun_4, xun_5, k6a, k8, k8b, k9, k20, k20b_0, k20b_1, k20b_2, k20b_3, k20b_4, k20b_5, k21_0, k21_1, k21_2, k21_3, k21_4, k21_5, k23, k24, k25, k27, k28, k40, nz_1, nz_2, nz_3, k31_0, k31_1, k31_2, k31_3, k32u, k33, k34, k35, k35b, k36, k37, k38, k47, k49, k49b_0, k49b_1, k49b_2, k49b_3, k50_0, k50_s, k51_0, k51_s, k55, k58, k58b, rk_0, rk_1, rk_2, rk_9, rk_3, rk_4, rk_5, sw_n, sw_c, xtb_n, xtb_c, lset_0, lset_2, lset_1, lkm_0, lkm_2, lkm_9, lkm_1, lkm_n, if_some1, c_10, c_01, c_x0, c_1x, c_n0, c_nn, List.getElem?_cons_zero, List.getElem?_cons_succ, List.set_cons_zero, List.set_cons_succ, List.length_cons, List.length_nil, Int.reduceToNat, Nat.reduceDiv, Nat.reduceMod, Nat.reduceSub, Nat.reduceAdd, Nat.reduceMul, Nat.reduceLT, Nat.reduceLeDiff, Nat.reduceEqDiff, Int.reduceMod, Int.reduceSub, Int.reduceNeg, Int.reduceAdd, Int.reduceMul, Int.reduceLT, Int.reduceLE, Int.reduceEq, put_ss, if_true, if_false, ite_true, ite_false, reduceIte, eq_self, and_true, true_and, and_false, false_and, or_true, true_or, or_false, false_or, not_true_eq_false, not_false_eq_true, rp_t, rp_d, rp_y, k5_158_12, k34_158_12, k54_158_12, k54b_158_12_0, k5_158_13, k34_158_13, k54_158_13, k54b_158_13_0, k54b_158_13_1, k5_158_21, k34_158_21, k54_158_21, k54b_158_21_0, k5_158_24, k34_158_24, k54_158_24, k54b_158_24_0, k5_158_25, k34_158_25, k54_158_25, k54b_158_25_0, k5_158_29, k34_158_29, k54_158_29, k54b_158_29_0, c1]
