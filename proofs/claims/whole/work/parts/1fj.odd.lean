/-! THE CLASS'S WRITING TURN -/
section Odd
variable {F L d : Nat} {xs : Nat → Int32} {S : lS} {cd : Nat} {m : Mem} {n N : Nat} {mn turn i5 p6 w3 sz : Int} {Q : Nat → Int} {y : Nat × Int}
theorem vput_id {Q : Nat → Int} {i : Nat} {v : Int} (h : Q i = v) : vput Q i v = Q := by
  funext k
  unfold vput
  split
  · next e => rw [e, h]
  · rfl
theorem clI_mo {p0 : Int} {J : Nat → Int} {i : Nat} : ∀ n, i ≤ n → (clI m cd p0 J i).length ≤ (clI m cd p0 J n).length
  | 0 => fun h => by
    have : i = 0 := by omega
    subst this
    exact Nat.le_refl _
  | n + 1 => fun h => by
    by_cases c : i = n + 1
    · subst c
      exact Nat.le_refl _
    · have z := clI_mo (p0 := p0) (J := J) (i := i) n (by omega)
      show _ ≤ (clI m cd p0 J n ++ dC m cd p0 (J n) n).length
      rw [List.length_append]
      omega
theorem T_odd (hF : 100000 ≤ F) (K : LLy m cd n mn) (ht : 0 ≤ turn ∧ turn < 12002) (ht2 : turn % 2 = 1) (hw : w3 = 0 ∨ w3 = 1) (hsz : 82 + ((clI m cd p6 S.2.2.2.1 n).length : Int) = sz) (hQ : ∀ k : Nat, 0 ≤ Q k ∧ Q k ≤ 1000000) (hQn : ∀ k, k < n → Q k = 82 + ((clI m cd p6 S.2.2.2.1 k).length : Int)) (hi5 : 0 ≤ i5 ∧ i5 < 3000) (hp6 : -1000000 ≤ p6 ∧ p6 ≤ 1000000) (hJ : ∀ i, 0 ≤ S.2.2.2.1 i ∧ S.2.2.2.1 i < 4) (hfit : sz + m 57 8 ≤ 6000) : ∃ (g i6 : Int) (W : Nat → Int), (0 ≤ i6 ∧ i6 < 3000) ∧ WdOk (Pw (uv cd 1 sz m) cd Q) (Nw (uv cd 1 sz m) cd Q) W (hdI (ENc m cd mn) ++ clI m cd p6 S.2.2.2.1 n) 0 ∧ (∀ k : Nat, sz ≤ (k : Int) → W k = S.2.2.2.2 k) ∧ LF F (d + 13) la_36_0 lb_36_0 lc_36_0 (N + 1) ([(2, 71), (2, (cd : Int)), (0, turn), y], Hp L xs (lyS S cd (qv cd Q i5 p6 (uv cd w3 sz m)))) = if cX (Pw (uv cd 1 sz m) cd Q) (clI m cd p6 S.2.2.2.1 n) 82 = true then LF F (d + 13) la_36_0 lb_36_0 lc_36_0 N ([(2, 71), (2, (cd : Int)), (0, turn + 1), (0, (n : Int))], Hp L xs (lyS (sz, g, 1, Jw (uv cd 1 sz m) cd p6 82 Q S.2.2.2.1 n, W) cd (qv cd Q i6 (cpC m cd p6 n) (uv cd 1 sz m)))) else some (3, [1], ([(2, 71), (2, (cd : Int)), (0, turn), (0, (n : Int))], Hp L xs (lyS (sz, g, 0, Jw (uv cd 1 sz m) cd p6 82 Q S.2.2.2.1 n, W) cd (qv cd Q i6 (cpC m cd p6 n) (uv cd 1 sz m))))) := by
  obtain ⟨hK, h71, hPA, k1, k2, k3, k4, k5, k6⟩ := K
  have hsb : 0 ≤ sz ∧ sz ≤ 6000 := by omega
  have K0 := hK 1 sz (Or.inr rfl) hsb.1 (by omega)
  have hc := K0.1
  have hn3 := K0.2.2.1
  have X0 := K0.2.2.2.2.2.2.2 Q i5 p6 hQ hi5 hp6
  have e3 : put (lyS S cd (qv cd Q i5 p6 (uv cd w3 sz m))) 71 3 1 = lyS S cd (qv cd Q i5 p6 (uv cd 1 sz m)) := by rw [ly_u3, qv_u3, uv_3]
  have e4 : put (lyS S cd (qv cd Q i5 p6 (uv cd 1 sz m))) 71 4 0 = lyS (S.1, S.2.1, 0, S.2.2.2.1, S.2.2.2.2) cd (qv cd Q i5 p6 (uv cd 1 sz m)) := lp_c
  have e2 : put (lyS (S.1, S.2.1, 0, S.2.2.2.1, S.2.2.2.2) cd (qv cd Q i5 p6 (uv cd 1 sz m))) 71 2 0 = lyS (0, S.2.1, 0, S.2.2.2.1, S.2.2.2.2) cd (qv cd Q i5 p6 (uv cd 1 sz m)) := lp_A
  have hh := C_hd (F := F) (L := L) (xs := xs) (d := d + 3) (S := (0, S.2.1, 0, S.2.2.2.1, S.2.2.2.2)) (mn := mn) X0 hF ⟨by show (0 : Int) ≤ 0; omega, by show (0 : Int) ≤ 800000; omega⟩ (by rcases hc with rfl | rfl <;> exact k1) (by rcases hc with rfl | rfl <;> exact k2) (by have := K0.2.2.2.2.2.2.1; rcases hc with rfl | rfl <;> exact this) (by rcases hc with rfl | rfl <;> exact k3) (k4 Q i5 p6 1 sz) (by rcases hc with rfl | rfl <;> exact k5)
  have hE : ENc (qv cd Q i5 p6 (uv cd 1 sz m)) cd mn = ENc m cd mn := by rcases hc with rfl | rfl <;> rfl
  have hC := hd_C (m := qv cd Q i5 p6 (uv cd 1 sz m)) (cd := cd) (cur := 0) (mn := mn) (S := (0, S.2.1, 0, S.2.2.2.1, S.2.2.2.2)) (by rw [hE]; exact k6)
  have h713 : qv cd Q i5 p6 (uv cd 1 sz m) 71 3 = 1 := rfl
  rw [h713, hE, Pw_e hc, Nw_e hc] at hC
  obtain ⟨W2, hW2, ok2, fr2⟩ := hd_W (P := Pw (uv cd 1 sz m) cd Q) (N := Nw (uv cd 1 sz m) cd Q) (cur := 0) (e := ENc m cd mn) (g := S.2.1) (J := S.2.2.2.1) (W := S.2.2.2.2)
  rw [hW2] at hC
  obtain ⟨c1, c2, c3⟩ := hh
  rw [h713] at c2 c3
  rw [hC] at c3
  have hpb := cpC_b (m := uv cd 1 sz m) (cd := cd) (p0 := p6) (n := 0) (fun p => by have := hPA p; rcases hc with rfl | rfl <;> exact this) hp6
  have sok := SSw_ok (m := uv cd 1 sz m) (cd := cd) (p0 := p6) (Q := Q) (A0 := 82) (J := S.2.2.2.1) (ch := 0) (S0 := (82, S.2.1, 0, S.2.2.2.1, W2)) rfl (by omega) rfl rfl (n := n) (by rw [clI_u hc]; omega) (fun i hi => clI_mo n hi)
  have l1 := L_36_1 (F := F) (L := L) (d := d + 1) (xs := xs) (turn := turn) (p0 := p6) (n := n) (m := uv cd 1 sz m) (cd := cd) (SS := SSw (uv cd 1 sz m) cd p6 Q (82, S.2.1, 0, S.2.2.2.1, W2)) (QQ := fun i => Q) (ii := fun i => match i with | 0 => i5 | i + 1 => (i : Int)) hF K0 h71 (fun i _ => by rw [Pw_e hc, Nw_e hc]; rfl) (fun i hi => by
    obtain ⟨g, W, e, _⟩ := sok i (by omega)
    rw [e]
    refine (vput_id ?_).symm
    rw [clI_u hc]
    exact hQn i hi) (fun i => rfl) (fun i hi => by
    obtain ⟨g, W, e, _⟩ := sok i hi
    rw [e]
    refine ⟨by show (0 : Int) ≤ 82 + _; omega, ?_⟩
    show 82 + ((clI (uv cd 1 sz m) cd p6 S.2.2.2.1 i).length : Int) ≤ 900000 + 10 * ((0 : Nat) : Int)
    rw [clI_u hc]
    have := clI_mo (m := m) (cd := cd) (p0 := p6) (J := S.2.2.2.1) n hi
    omega) (fun i hi k => hQ k) hpb (fun i hi => by
    obtain ⟨g, W, e, _⟩ := sok i (by omega)
    rw [e]
    show 0 ≤ Jw (uv cd 1 sz m) cd p6 82 Q S.2.2.2.1 i i ∧ Jw (uv cd 1 sz m) cd p6 82 Q S.2.2.2.1 i i < 4
    unfold Jw
    rw [if_neg (by omega)]
    exact hJ i) n 0 F (by omega) (by omega)
  have ez : ((0 : Nat) : Int) = 0 := rfl
  have es0 : SSw (uv cd 1 sz m) cd p6 Q (82, S.2.1, 0, S.2.2.2.1, W2) 0 = (82, S.2.1, 0, S.2.2.2.1, W2) := rfl
  have ecp : cpC (uv cd 1 sz m) cd p6 0 = p6 := rfl
  obtain ⟨g, W, en, wok, wfr⟩ := sok n (Nat.le_refl _)
  simp only at l1
  rw [es0, ecp, ez, en, cpC_u hc, clI_u hc, hsz] at l1
  rw [clI_u hc] at wok
  rw [clI_u hc, hsz] at wfr
  generalize hi6 : (match n with | 0 => i5 | i + 1 => (i : Int)) = i6 at l1
  refine ⟨g, i6, W, ?_, ?_, ?_, ?_⟩
  · rw [← hi6]
    cases n with
    | zero => exact hi5
    | succ k => exact ⟨by show (0 : Int) ≤ (k : Int); omega, by show (k : Int) < 3000; omega⟩
  · rw [WdOk_app, hdI_l]
    refine ⟨WdOk_fr _ 0 (Int.le_refl 0) (fun k k0 k1 => wfr k (Or.inl ?_)) ok2, wok⟩
    rw [hdI_l] at k1
    have z82 : ((82 : Nat) : Int) = 82 := rfl
    omega
  · intro k hk
    rw [wfr k (Or.inr hk)]
    exact fr2 k (by omega)
  · generalize Jw (uv cd 1 sz m) cd p6 82 Q S.2.2.2.1 n = J2 at *
    have hlt : turn < 12002 := ht.2
    have htm : turn.tmod 2 = 1 := by rw [Int.tmod_eq_emod_of_nonneg ht.1]; exact ht2
    have hif : (if turn.tmod 2 = 1 then (1 : Int) else 0) = 1 := by rw [htm]; rfl
    have q12 := fun (v : Int) (Lo : xL) (m : Mem) => kc34_12 (L := L) (xs := xs) (m := m) (Lo := Lo) (w := v) hc
    have hfit2 : ¬ (6000 < sz + m 57 8) := by omega
    have v2 : ∀ ch, lyS (sz, g, ch, J2, W) cd (qv cd Q i6 (cpC m cd p6 n) (uv cd 1 sz m)) 71 2 = sz := fun _ => rfl
    have v8 : ∀ ch, lyS (sz, g, ch, J2, W) cd (qv cd Q i6 (cpC m cd p6 n) (uv cd 1 sz m)) 57 8 = m 57 8 := fun _ => by rcases hc with rfl | rfl <;> rfl
    have v1 : ∀ ch, lyS (sz, g, ch, J2, W) cd (qv cd Q i6 (cpC m cd p6 n) (uv cd 1 sz m)) 71 1 = (cd : Int) := fun _ => h71
    have v3 : ∀ ch, lyS (sz, g, ch, J2, W) cd (qv cd Q i6 (cpC m cd p6 n) (uv cd 1 sz m)) 71 3 = 1 := fun _ => rfl
    have v4 : ∀ ch, lyS (sz, g, ch, J2, W) cd (qv cd Q i6 (cpC m cd p6 n) (uv cd 1 sz m)) 71 4 = ch := fun _ => rfl
    have e12 : ∀ ch, put (lyS (sz, g, ch, J2, W) cd (qv cd Q i6 (cpC m cd p6 n) (uv cd 1 sz m))) cd 12 sz = lyS (sz, g, ch, J2, W) cd (qv cd Q i6 (cpC m cd p6 n) (uv cd 1 sz m)) := fun _ => by rw [ly_12 hc, qv_12 hc, uv_12 hc]
    cases hx : cX (Pw (uv cd 1 sz m) cd Q) (clI m cd p6 S.2.2.2.1 n) 82 with
    | true =>
      rw [hx, if_pos rfl] at l1
      rw [if_pos rfl, lf_s]
      simp (disch := omega) only [ea_36_0, eb_36_0, ec_36_0, l1_i, l1_1, l1_0, l2_0, l2_1, l2_2, l2_3, l3_0, w2_0, w2_1, w2_2, w2_3, d1_0, d1_1, d1_2, d1_3, d2_i, d2_1, d2_0, ev_0, ev_1, ev_16, ev_17, ev_18, ev_2, ev_3, ev_4, ev_5, ev_6, ev_7, ev_8, ev_9, ev_20, ev_21, ev_22, ev_23, ev_24, ev_25, ev_27, ev_28, ev_30, ev_31, ev_32, ev_33, ev_34, ev_35, ev_36, ev_37, ev_38, ev_39, ev_40, ev_41, ev_42, ev_43, ev_45, ev_46, ev_47, ev_48, ev_49, ev_50, ev_51, ev_52, ev_54, ev_55, ev_57, ev_58, ev_59, k2_0, k2_1, k2_2, k3a, k3b, k4, o1_s, xbin_0, xbin_1, xbin_2, xbin_3, xbin_4, xbin_5, xbin_6, xbin_7, xbin_8, xbin_9, xbin_11, xbin_12, xun_0, xun_1, xun_2, xun_3, xun_4, xun_5, k6a, k8, k8b, k9, k20, k20b_0, k20b_1, k20b_2, k20b_3, k20b_4, k20b_5, k21_0, k21_1, k21_2, k21_3, k21_4, k21_5, k23, k24, k25, k27, k28, k40, nz_1, nz_2, nz_3, k31_0, k31_1, k31_2, k31_3, k32u, k33, k34, k35, k35b, k36, k37, k38, k47, k49, k49b_0, k49b_1, k49b_2, k49b_3, k50_0, k50_s, k51_0, k51_s, k55, k58, k58b, rk_0, rk_1, rk_2, rk_9, rk_3, rk_4, rk_5, sw_n, sw_c, xtb_n, xtb_c, lset_0, lset_2, lset_1, lkm_0, lkm_2, lkm_9, lkm_1, lkm_n, if_some1, c_10, c_01, c_x0, c_1x, c_n0, c_nn, List.getElem?_cons_zero, List.getElem?_cons_succ, List.set_cons_zero, List.set_cons_succ, List.length_cons, List.length_nil, Int.reduceToNat, Nat.reduceDiv, Nat.reduceMod, Nat.reduceSub, Nat.reduceAdd, Nat.reduceMul, Nat.reduceLT, Nat.reduceLeDiff, Nat.reduceEqDiff, Int.reduceMod, Int.reduceSub, Int.reduceNeg, Int.reduceAdd, Int.reduceMul, Int.reduceLT, Int.reduceLE, Int.reduceEq, put_ss, if_true, if_false, ite_true, ite_false, reduceIte, eq_self, and_true, true_and, and_false, false_and, or_true, true_or, or_false, false_or, not_true_eq_false, not_false_eq_true, k5_71_1, k34_71_1, k5_71_2, k34_71_2, k54_71_2, k54b_71_2_0, k5_71_3, k34_71_3, k34i_71_3, k5_71_4, k34_71_4, k34i_71_4, k5_71_0, k5_57_8, k34_57_8, k54_57_8, k54b_57_8_0, hlt, hif, q12, e3, e4, e2, c1, c2, c3, l1, v2, v8, v1, v3, v4, e12, hfit2, w32_of]
    | false =>
      rw [hx, if_neg (fun w => Bool.noConfusion w)] at l1
      rw [if_neg (fun w => Bool.noConfusion w), lf_s]
      simp (disch := omega) only [ea_36_0, eb_36_0, ec_36_0, l1_i, l1_1, l1_0, l2_0, l2_1, l2_2, l2_3, l3_0, w2_0, w2_1, w2_2, w2_3, d1_0, d1_1, d1_2, d1_3, d2_i, d2_1, d2_0, ev_0, ev_1, ev_16, ev_17, ev_18, ev_2, ev_3, ev_4, ev_5, ev_6, ev_7, ev_8, ev_9, ev_20, ev_21, ev_22, ev_23, ev_24, ev_25, ev_27, ev_28, ev_30, ev_31, ev_32, ev_33, ev_34, ev_35, ev_36, ev_37, ev_38, ev_39, ev_40, ev_41, ev_42, ev_43, ev_45, ev_46, ev_47, ev_48, ev_49, ev_50, ev_51, ev_52, ev_54, ev_55, ev_57, ev_58, ev_59, k2_0, k2_1, k2_2, k3a, k3b, k4, o1_s, xbin_0, xbin_1, xbin_2, xbin_3, xbin_4, xbin_5, xbin_6, xbin_7, xbin_8, xbin_9, xbin_11, xbin_12, xun_0, xun_1, xun_2, xun_3, xun_4, xun_5, k6a, k8, k8b, k9, k20, k20b_0, k20b_1, k20b_2, k20b_3, k20b_4, k20b_5, k21_0, k21_1, k21_2, k21_3, k21_4, k21_5, k23, k24, k25, k27, k28, k40, nz_1, nz_2, nz_3, k31_0, k31_1, k31_2, k31_3, k32u, k33, k34, k35, k35b, k36, k37, k38, k47, k49, k49b_0, k49b_1, k49b_2, k49b_3, k50_0, k50_s, k51_0, k51_s, k55, k58, k58b, rk_0, rk_1, rk_2, rk_9, rk_3, rk_4, rk_5, sw_n, sw_c, xtb_n, xtb_c, lset_0, lset_2, lset_1, lkm_0, lkm_2, lkm_9, lkm_1, lkm_n, if_some1, c_10, c_01, c_x0, c_1x, c_n0, c_nn, List.getElem?_cons_zero, List.getElem?_cons_succ, List.set_cons_zero, List.set_cons_succ, List.length_cons, List.length_nil, Int.reduceToNat, Nat.reduceDiv, Nat.reduceMod, Nat.reduceSub, Nat.reduceAdd, Nat.reduceMul, Nat.reduceLT, Nat.reduceLeDiff, Nat.reduceEqDiff, Int.reduceMod, Int.reduceSub, Int.reduceNeg, Int.reduceAdd, Int.reduceMul, Int.reduceLT, Int.reduceLE, Int.reduceEq, put_ss, if_true, if_false, ite_true, ite_false, reduceIte, eq_self, and_true, true_and, and_false, false_and, or_true, true_or, or_false, false_or, not_true_eq_false, not_false_eq_true, k5_71_1, k34_71_1, k5_71_2, k34_71_2, k54_71_2, k54b_71_2_0, k5_71_3, k34_71_3, k34i_71_3, k5_71_4, k34_71_4, k34i_71_4, k5_71_0, k5_57_8, k34_57_8, k54_57_8, k54b_57_8_0, hlt, hif, q12, e3, e4, e2, c1, c2, c3, l1, v2, v8, v1, v3, v4, e12, hfit2, w32_of]
end Odd
