/-! LAYALL AGAIN, with the places bounded; what laying leaves fits it again -/
section Al2
variable {F L d : Nat} {xs : Nat → Int32} {main : Int}
theorem M_289q {m M : Mem} {e : Int} {n v : Nat} (hF : 100000 ≤ F) (K : LM M e n) (hM : put (put m 158 83 8) 158 84 38 = M) (hm : 0 ≤ main ∧ main < 1600) (he : M 182 main.toNat = e) (hfl : b01 (m 198)) (hQ : ∀ k : Nat, 0 ≤ m 180 k ∧ m 180 k ≤ 1000000) (hc : 0 ≤ m 158 85 ∧ m 158 85 < 1600) (hv : M 158 21 = (v : Int)) (hv2 : v ≤ 1600) (hs : ∀ k, k ≤ v → 0 ≤ vsm M k ∧ vsm M k ≤ 900000) (h169 : ∀ k : Nat, 0 ≤ M 169 k ∧ M 169 k ≤ 1000000) (hNt : ∀ E, b01 E → ∀ i, i ∈ itA M E e n → i.2.1 = 4 → (0 ≤ i.2.2 ∧ i.2.2 < 12000) ∨ i.2.2 = -1 ∨ (0 ≤ -10 - i.2.2 ∧ -10 - i.2.2 < 1600)) (hnn : ∀ E, b01 E → nno (itA M E e n) < 29000) : ∃ (T : mSt) (Q : Nat → Int), (∀ k : Nat, 0 ≤ Q k ∧ Q k ≤ 1000000) ∧ b01 (eEnd m M e n) ∧ chE M e n (eEnd m M e n) = false ∧ Cx F (d + 30) 289 [158, main] (Hp L xs m) = some ([], Hp L xs (cv (patN (ntv (yEnd T Q m M e n v)) (itA M (eEnd m M e n) e n) 0 (patG (gP (yEnd T Q m M e n v)) (itA M (eEnd m M e n) e n) 0 (mI (itA M (eEnd m M e n) e n) (rs T)).2.1)) (yEnd T Q m M e n v))) := by
  obtain ⟨hO, hn, hn3, h0, hX, hB, hL⟩ := K
  have K : LM M e n := ⟨hO, hn, hn3, h0, hX, hB, hL⟩
  have hM84 : M 158 83 = 8 ∧ M 158 84 = 38 := by rw [← hM]; exact ⟨rfl, rfl⟩
  have gb := gsm_b (M := M) n
  have zb := zc_b (E := fz (m 198) 36000) (gsm M n)
  have hE1 : b01 (fz (m 198) 36000) := fun q => by
    unfold fz
    split
    · exact Or.inl rfl
    · exact hfl q
  have l0 := fun D => L_289_0 (F := F) (L := L) (xs := xs) (d := D) (main := main) (m := m) (E := m 198) (y1 := (9, 0)) (y2 := (9, 0)) 36000 0 F (by omega) (by omega)
  have ez : ((0 : Nat) : Int) = 0 := rfl
  rw [fz_0, fv_id, ez] at l0
  obtain ⟨T, Q, y3, hQ2, hE2, hch, l1⟩ := L_289_1 (F := F) (L := L) (d := d + 4) (xs := xs) (main := main) (y2 := (9, 0)) hF K hM84 hm he 6000 (myT m) (m 180) (fz (m 198) 36000) (m 158 85) m (9, 0) F hM (by omega) hE1 hc hQ (by omega)
  rw [← fv_sp] at l1
  refine ⟨T, Q, hQ2, hE2, hch, ?_⟩
  have hEe : itr M e n (6000 + 1) (fz (m 198) 36000) = eEnd m M e n := rfl
  rw [hEe] at l1 hE2 hch
  have hyd : yEnd T Q m M e n v = vvw (vsm M v) (vfn (lyd T Q M (eEnd m M e n) e n) (lyd T Q M (eEnd m M e n) e n 169) v) (lyd T Q M (eEnd m M e n) e n) := rfl
  generalize eEnd m M e n = Ee at *
  have hX4 := mI_n (itA M Ee e n) (rs T)
  have hok := mI_ok (itA M Ee e n) (rs T) (Int.le_refl 0) (Int.le_refl 0) (Int.le_refl 0)
  have hg := ngo_A (E := Ee) (e := e) hO
  have hlen : ((itA M Ee e n).length : Int) ≤ 60000 := by
    unfold itA
    rw [List.length_append, hdI_l]
    have := hB Ee hE2 n (Nat.le_refl _)
    omega
  have hs74 : lyd T Q M Ee e n 158 74 = ((itA M Ee e n).length : Int) := by
    have z := hX4.1
    have z2 : (rs T).1 = 0 := rfl
    rw [z2, Int.zero_add] at z
    exact z
  have i76 : lyd T Q M Ee e n 158 76 = ((gsm M n : Nat) : Int) := by
    have z := hX4.2.1
    have z2 : (rs T).2.2.1 = 0 := rfl
    rw [z2, hg, Int.zero_add] at z
    exact z
  have i80 : lyd T Q M Ee e n 158 80 = ((nno (itA M Ee e n) : Nat) : Int) := by
    have z := hX4.2.2
    have z2 : (rs T).2.2.2.2.2.1 = 0 := rfl
    rw [z2, Int.zero_add] at z
    exact z
  have hPl : ∀ k : Nat, 0 ≤ lyd T Q M Ee e n 180 k ∧ lyd T Q M Ee e n 180 k ≤ 1000000 := plq_b hQ2 (hB Ee hE2)
  have w0 : put (lyd T Q M Ee e n) 158 75 0 = vvw (vsm (lyd T Q M Ee e n) 0) (vfn (lyd T Q M Ee e n) (lyd T Q M Ee e n 169) 0) (lyd T Q M Ee e n) := by
    rw [vfn_0]
    funext a q
    rw [put_ss]
    unfold vvw
    by_cases h : a = 158
    · rw [if_pos h, if_pos h]
      rfl
    · rw [if_neg h, if_neg h]
      by_cases h2 : a = 169
      · rw [if_pos h2, h2]
      · rw [if_neg h2]
  have l3 := fun D => L_289_3 (F := F) (L := L) (xs := xs) (d := D) (main := main) (more := 0) (z := (9, 0)) (m := lyd T Q M Ee e n) (V0 := lyd T Q M Ee e n 169) (n := v) hv hv2 (by rw [hs74]; omega) (fun k hk => by rw [vs_ly]; have := hs k hk; omega) v 0 F (by omega) (by omega)
  rw [← w0, vs_ly, ← hyd, ez] at l3
  generalize hY : yEnd T Q m M e n v = Y at *
  have y180 : Y 180 = lyd T Q M Ee e n 180 := by rw [hyd]; rfl
  have y198 : ∀ k, Y 198 k = Ee k := fun k => by rw [hyd]; rfl
  have y196 : Y 196 = (mI (itA M Ee e n) (rs T)).2.2.2.1 := by rw [hyd]; rfl
  have y197 : Y 197 = (mI (itA M Ee e n) (rs T)).2.2.2.2.1 := by rw [hyd]; rfl
  have y199 : Y 199 = (mI (itA M Ee e n) (rs T)).2.2.2.2.2.2.1 := by rw [hyd]; rfl
  have y200 : Y 200 = (mI (itA M Ee e n) (rs T)).2.2.2.2.2.2.2 := by rw [hyd]; rfl
  have y195 : Y 195 = (mI (itA M Ee e n) (rs T)).2.1 := by rw [hyd]; rfl
  have y76 : Y 158 76 = ((gsm M n : Nat) : Int) := by rw [hyd]; exact i76
  have y80 : Y 158 80 = ((nno (itA M Ee e n) : Nat) : Int) := by rw [hyd]; exact i80
  have y74 : Y 158 74 = ((itA M Ee e n).length : Int) := by rw [hyd]; exact hs74
  have y75 : Y 158 75 = vsm M v := by rw [hyd]; rfl
  have y169 : ∀ k : Nat, 0 ≤ Y 169 k ∧ Y 169 k ≤ 1000000 := fun k => by
    rw [hyd]
    show 0 ≤ vfn (lyd T Q M Ee e n) (lyd T Q M Ee e n 169) v k ∧ vfn (lyd T Q M Ee e n) (lyd T Q M Ee e n 169) v k ≤ 1000000
    unfold vfn
    split
    · rw [hs74, vs_ly]
      have := hs k (by omega)
      omega
    · exact h169 k
  have hkO : kO (fun q => fM Y (q : Int)) (itA M Ee e n) 0 := by
    have z := kO_A (M := M) (E := Ee) (e := e) hO
    have ef : (fun q : Nat => fM Y (q : Int)) = fun q => decide (Ee q = 1) := by
      funext q
      unfold fM
      rw [Int.toNat_natCast, y198]
    rw [ef]
    exact z
  obtain ⟨z4, l4⟩ := L_289_4 (F := F) (L := L) (xs := xs) (d := d + 26) (main := main) (more := 0) (m := Y) (by rw [y180]; exact hPl) (fun k => by rw [y198]; exact hE2 k) (itA M Ee e n) 0 0 (Y 195) F (9, 0) (by rw [y196, y197]; exact hok.2.1) hkO (fun i hi hgi => by have := hL Ee hE2 i hi hgi; omega) (Int.le_refl 0) (by omega) (by rw [y76, hg]; omega) (by omega) (by omega)
  obtain ⟨z5, l5⟩ := L_289_5 (F := F) (L := L) (xs := xs) (d := d + 26) (main := main) (more := 0) (m := Y) (by rw [y180]; exact hPl) (fun k => by have := y169 k; omega) (by rw [y74]; omega) (by rw [y75]; have := hs v (Nat.le_refl _); omega) (itA M Ee e n) 0 0 (patG (gP Y) (itA M Ee e n) 0 (Y 195)) F z4 (by rw [y199, y200]; exact hok.2.2) (hNt Ee hE2) (Int.le_refl 0) (by omega) (by rw [y80]; omega) (by have := hnn Ee hE2; omega) (by have := hnn Ee hE2; omega)
  rw [cv_id, ez] at l4
  rw [ez] at l5
  rw [y195] at l4 l5
  simp (disch := omega) only [c_289, tx_289, ev_0, ev_1, ev_16, ev_17, ev_18, ev_2, ev_3, ev_4, ev_5, ev_6, ev_7, ev_8, ev_9, ev_20, ev_21, ev_22, ev_23, ev_24, ev_25, ev_27, ev_28, ev_30, ev_31, ev_32, ev_33, ev_34, ev_35, ev_36, ev_37, ev_38, ev_39, ev_40, ev_41, ev_42, ev_43, ev_45, ev_46, ev_47, ev_48, ev_49, ev_50, ev_51, ev_52, ev_54, ev_55, ev_57, ev_58, ev_59, k2_0, k2_1, k2_2, k3a, k3b, k4, o1_s, xbin_0, xbin_1, xbin_2, xbin_3, xbin_4, xbin_5, xbin_6, xbin_7, xbin_8, xbin_9, xbin_11, xbin_12, xun_0, xun_1, xun_2, xun_3, xun_4, xun_5, k6a, k8, k8b, k9, k20, k20b_0, k20b_1, k20b_2, k20b_3, k20b_4, k20b_5, k21_0, k21_1, k21_2, k21_3, k21_4, k21_5, k23, k24, k25, k27, k28, k40, nz_1, nz_2, nz_3, k31_0, k31_1, k31_2, k31_3, k32u, k33, k34, k35, k35b, k36, k37, k38, k47, k49, k49b_0, k49b_1, k49b_2, k49b_3, k50_0, k50_s, k51_0, k51_s, k55, k58, k58b, rk_0, rk_1, rk_2, rk_9, rk_3, rk_4, rk_5, sw_n, sw_c, xtb_n, xtb_c, lset_0, lset_2, lset_1, lkm_0, lkm_2, lkm_9, lkm_1, lkm_n, if_some1, c_10, c_01, c_x0, c_1x, c_n0, c_nn, List.getElem?_cons_zero, List.getElem?_cons_succ, List.set_cons_zero, List.set_cons_succ, List.length_cons, List.length_nil, Int.reduceToNat, Nat.reduceDiv, Nat.reduceMod, Nat.reduceSub, Nat.reduceAdd, Nat.reduceMul, Nat.reduceLT, Nat.reduceLeDiff, Nat.reduceEqDiff, Int.reduceMod, Int.reduceSub, Int.reduceNeg, Int.reduceAdd, Int.reduceMul, Int.reduceLT, Int.reduceLE, Int.reduceEq, put_ss, if_true, if_false, ite_true, ite_false, reduceIte, eq_self, and_true, true_and, and_false, false_and, or_true, true_or, or_false, false_or, not_true_eq_false, not_false_eq_true, l1_i, l1_1, l1_0, l2_0, l2_1, l2_2, l2_3, l3_0, w2_0, w2_1, w2_2, w2_3, d1_0, d1_1, d1_2, d1_3, d2_i, d2_1, d2_0, k5_158_75, k34_158_75, k54_158_75, k54b_158_75_0, l0, l1, l3, l4, l5]
  try rfl
theorem MyB_y {m M : Mem} {e : Int} {n v : Nat} {T : mSt} {Q : Nat → Int} (K : LM M e n) (hs : ∀ k, k ≤ v → 0 ≤ vsm M k ∧ vsm M k ≤ 900000) (h169 : ∀ k : Nat, 0 ≤ M 169 k ∧ M 169 k ≤ 1000000) (hQ : ∀ k : Nat, 0 ≤ Q k ∧ Q k ≤ 1000000) (hE : b01 (eEnd m M e n)) : MyB (yEnd T Q m M e n v) := by
  obtain ⟨hO, hn, hn3, h0, hX, hB, hL⟩ := K
  have hlen : ((itA M (eEnd m M e n) e n).length : Int) ≤ 60000 := by
    unfold itA
    rw [List.length_append, hdI_l]
    have := hB _ hE n (Nat.le_refl _)
    omega
  have hs74 : lyd T Q M (eEnd m M e n) e n 158 74 = ((itA M (eEnd m M e n) e n).length : Int) := by
    have z := (mI_n (itA M (eEnd m M e n) e n) (rs T)).1
    have z2 : (rs T).1 = 0 := rfl
    rw [z2, Int.zero_add] at z
    exact z
  refine ⟨hE, plq_b hQ (hB _ hE), ?_, fun k => ?_⟩
  · show 0 ≤ cq (fv (eEnd m M e n) M) 0 n ∧ cq (fv (eEnd m M e n) M) 0 n < 1600
    rw [cq_fv]
    exact cq_b hO (by omega) n (Nat.le_refl _)
  · show 0 ≤ vfn (lyd T Q M (eEnd m M e n) e n) (lyd T Q M (eEnd m M e n) e n 169) v k ∧ vfn (lyd T Q M (eEnd m M e n) e n) (lyd T Q M (eEnd m M e n) e n 169) v k ≤ 1000000
    unfold vfn
    split
    · rw [hs74, vs_ly]
      have := hs k (by omega)
      omega
    · exact h169 k
end Al2
