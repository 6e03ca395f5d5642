/-! THE MODEL'S SECOND WALK: factors, and all expressions -/
section QmN
variable {F : Nat} {K : Int → Int} {e : Int}
theorem QmC_ok {t : xT} (he : e < 3000) (hF : 100000 ≤ F) (hX : ∀ a, tsz a < tsz t → Qm 236 7 0 F K e a) (hT : ∀ a, tsz a < tsz t → QmA F K e a) : QmC F K e t := by
  intro V dep p q u h hd0 hd1 hp hq hu0 hu1 L xs d m N h41 hb hD
  have l0 := P_le t h
  have h30 : dep < 30 := by
    rcases inv_6 h with ⟨i, a, b, rfl, ho, h30, -⟩ | ⟨i, a, b, rfl, ho, h30, -⟩ <;> exact h30
  unfold caM
  by_cases hk : isK m (vlT m u) 4 ∧ lcK m (vlT m u) < 0
  · obtain ⟨e1, e2⟩ := clM_y hb hk
    rw [e1, e2]
    obtain ⟨p', k1, k2, k3, c1⟩ := Cl_y hF N he hu0 hu1 hp (by omega) ⟨hd0, h30⟩ hb hk h hq h41 hX hT hD
    refine ⟨p', k1, k2, fun z => k3 ?_, c1⟩
    have f1 := Fm_eM (tsz t + 1) t (by omega) _ _ _ _ (by decide) h m (En_b N)
    have f2 := Fm_thM (n := u) (p := inX m (vlT m u)) (k := nA t) f1.2.2.2.2
    have z1 := emG_nb f2.2.2.2.2 z
    rcases f1.2.2.2.2 with g | g
    · exact g
    · rw [thM_b g] at z1
      exact z1
  · obtain ⟨e1, e2⟩ := clM_n hb hk
    have b1 : bkF m (plT m u) 158 15 = 1 := rfl
    rw [e1, eM_b _ _ b1, thM_b b1, emH_b b1]
    exact ⟨p, hp, by omega, fun z => by omega, Cl_n hF N he hu0 hu1 hp (by omega) ⟨hd0, h30⟩ hb hk⟩
theorem N_210n {L d : Nat} {xs : Nat → Int32} {m : Mem} {p dep a1 c : Int} (hb : m 158 15 = 0) (hp : 0 ≤ p ∧ p < 3001) (hT : TR c (m 161 p.toNat) (m 163 p.toNat)) (hs : 0 ≤ a1 ∧ a1 ≤ 12) (hc : ¬ c = a1 + 4) : Cx F (d + 1) 210 [158, a1] (Hp L xs (rv p dep m)) = some ([0], Hp L xs (rv p dep m)) := by
  rw [N_210 hb hp hT hs, if_neg hc]
theorem QmF_ok {t : xT} (he : e < 3000) (hF : 100000 ≤ F) (hX : ∀ a, tsz a < tsz t → Qm 236 7 0 F K e a) (hG : ∀ a, tsz a < tsz t → Qm 239 4 5 F K e a) (hC : ∀ a, tsz a < tsz t → QmC F K e a) : Qm 239 4 5 F K e t := by
  intro V dep p q h hd0 hd1 hp hq L xs d m pos N hn hp0 hp1 hpos hd
  rcases En_b N with hb | hb
  · have hpp := hpos hb
    subst hpp
    obtain ⟨d, rfl⟩ : ∃ d', d = d' + 3 := ⟨d - 3, by omega⟩
    have hT := N.2.2 pos hp0 hp1
    have hN := N.1.2.2.2.2.2.2
    have hX1 : ∀ n, isK m (vlT m n) 1 → 0 ≤ inX m (vlT m n) ∧ inX m (vlT m n) ≤ 3000 := fun n z => by
      have := N.2.1 (vlT m n) z.1
      omega
    rcases inv_5 h with ⟨i, a, b, rfl, ho, h30, h1⟩ | ⟨i, a, b, rfl, ho, h30, r, h1, h3, h5⟩ | ⟨i, a, b, rfl, ho, h1, h3⟩ | ⟨i, a, b, rfl, ho, h1⟩ | ⟨i, a, b, rfl, ho, h1, h3, h5, h6⟩ | ⟨i, a, b, rfl, ho, h91, h30, hi, r, h1, h3, h5⟩ | ⟨i, a, b, rfl, ho, hi, h1⟩
    · have sa : tsz a < tsz (nd 9 i a b) := by rw [tsz_nd]; omega
      have l1 := P_le a h1
      rw [ho] at hT
      have i1 := fun D => N_209y (F := F) (L := L) (xs := xs) (d := D) (m := m) (p := pos) (dep := dep) (a1 := 45) hb (by omega) (by omega) hT
      have x1 := fun D => R_216 (F := F) (L := L) (xs := xs) (d := D) (p := pos) (dep := dep) N.1 ⟨hd0, h30⟩
      have x2 := fun D D1 => N_212 (F := F) (L := L) (xs := xs) (d := D) (m := m) (p := pos) (dep := D1) hb (by omega)
      obtain ⟨p1, k1, k2, k3, c1⟩ := hG a sa V (dep + 1) (pos + 1) q h1 (by omega) (by omega) (by omega) hq L xs (d + 2) m (pos + 1) N (by omega) (by omega) (by omega) (fun _ => rfl) (by omega)
      have f1 := Fm_eM (tsz a + 1) a (by omega) _ _ _ _ (by decide) h1 m (En_b N)
      have f41 := f1.2.2.2.1
      have N1 := En_Fm N f1 (by omega)
      have x3 := fun D D1 => R_246_13 (F := F) (L := L) (xs := xs) (d := D) (p := p1) (dep := D1) (a := 0) (l := eM a m 158 48) N1.1
      have e5 : emG (eM a m) 13 0 (eM a m 158 48) 0 false = eM (nd 9 i a b) m := rfl
      rw [e5] at x3
      have e1 : dep + 1 - 1 = dep := by omega
      refine ⟨p1, k1, k2, fun z => k3 (emG_nb (En_b N1) (by rw [← e5] at z; exact z)), ?_⟩
      rw [c_239]
      simp (disch := first | omega | assumption) only [tr_239, ev_0, ev_1, ev_16, ev_17, ev_18, ev_2, ev_3, ev_4, ev_5, ev_6, ev_7, ev_8, ev_9, ev_20, ev_21, ev_22, ev_23, ev_24, ev_25, ev_27, ev_28, ev_30, ev_31, ev_32, ev_33, ev_34, ev_35, ev_36, ev_37, ev_38, ev_39, ev_40, ev_41, ev_42, ev_43, ev_45, ev_46, ev_47, ev_48, ev_49, ev_50, ev_51, ev_52, ev_54, ev_55, ev_57, ev_58, ev_59, k2_0, k2_1, k2_2, k3a, k3b, k4, o1_s, xbin_0, xbin_1, xbin_2, xbin_3, xbin_4, xbin_5, xbin_6, xbin_7, xbin_8, xbin_9, xbin_11, xbin_12, xun_0, xun_1, xun_2, xun_3, xun_4, xun_5, k6a, k8, k8b, k9, k20, k20b_0, k20b_1, k20b_2, k20b_3, k20b_4, k20b_5, k21_0, k21_1, k21_2, k21_3, k21_4, k21_5, k23, k24, k25, k27, k28, k40, nz_1, nz_2, nz_3, k31_0, k31_1, k31_2, k31_3, k32u, k33, k34, k35, k35b, k36, k37, k38, k47, k49, k49b_0, k49b_1, k49b_2, k49b_3, k50_0, k50_s, k51_0, k51_s, k55, k58, k58b, rk_0, rk_1, rk_2, rk_9, rk_3, rk_4, rk_5, sw_n, sw_c, xtb_n, xtb_c, lset_0, lset_2, lset_1, lkm_0, lkm_2, lkm_9, lkm_1, lkm_n, if_some1, c_10, c_01, c_x0, c_1x, c_n0, c_nn, List.getElem?_cons_zero, List.getElem?_cons_succ, List.set_cons_zero, List.set_cons_succ, List.length_cons, List.length_nil, Int.reduceToNat, Nat.reduceDiv, Nat.reduceMod, Nat.reduceSub, Nat.reduceAdd, Nat.reduceMul, Nat.reduceLT, Nat.reduceLeDiff, Nat.reduceEqDiff, Int.reduceMod, Int.reduceSub, Int.reduceNeg, Int.reduceAdd, Int.reduceMul, Int.reduceLT, Int.reduceLE, Int.reduceEq, put_ss, if_true, if_false, ite_true, ite_false, reduceIte, eq_self, and_true, true_and, and_false, false_and, or_true, true_or, or_false, false_or, not_true_eq_false, not_false_eq_true, k5_158_14, k34_158_14, k34i_158_14, k5_158_15, k34_158_15, k34i_158_15, k5_158_13, k34_158_13, k54_158_13, k54b_158_13_0, k54b_158_13_1, k5_158_48, k34_158_48, k5_158_5, k6_161, k35_161, n_161, k5_158_7, k6_163, k35_163, n_163, k5_158_12, k34_158_12, k54_158_12, k54b_158_12_0, rv_t, rv_d, rv_x, rv_y, rp_t, rp_d, rp_x, rp_y, w32_of, i1, x1, x2, c1, x3, e1, hb]
    · have sa : tsz a < tsz (nd 10 i a b) := by rw [tsz_nd]; omega
      have l1 := P_le a h1
      rw [ho] at hT
      have i1 := fun D => N_209n (F := F) (L := L) (xs := xs) (d := D) (m := m) (p := pos) (dep := dep) (a1 := 45) hb (by omega) hT (by omega) (by decide)
      have i2 := fun D => N_209y (F := F) (L := L) (xs := xs) (d := D) (m := m) (p := pos) (dep := dep) (a1 := 40) hb (by omega) (by omega) hT
      have i3 := fun D => N_210n (F := F) (L := L) (xs := xs) (d := D) (m := m) (p := pos) (dep := dep) (a1 := 12) hb (by omega) hT (by omega) (by decide)
      have k2' : ¬ m 161 pos.toNat = 2 := by
        unfold TR at hT
        omega
      have x1 := fun D => R_216 (F := F) (L := L) (xs := xs) (d := D) (p := pos) (dep := dep) N.1 ⟨hd0, h30⟩
      have x2 := fun D D1 => N_212 (F := F) (L := L) (xs := xs) (d := D) (m := m) (p := pos) (dep := D1) hb (by omega)
      obtain ⟨p1, k1, k2, k3, c1⟩ := hX a sa V (dep + 1) (pos + 1) r h1 (by omega) (by omega) (by omega) (by omega) L xs (d + 2) m (pos + 1) N (by omega) (by omega) (by omega) (fun _ => rfl) (by omega)
      have f1 := Fm_eM (tsz a + 1) a (by omega) _ _ _ _ (by decide) h1 m (En_b N)
      have f41 := f1.2.2.2.1
      have N1 := En_Fm N f1 (by omega)
      have x4 := fun D D1 => R_213 (F := F) (L := L) (xs := xs) (d := D) (m := eM a m) (p := p1) (dep := D1) (a1 := 41) N1.1 (by omega) (by omega) (fun z => by
        have hz2 := k3 z
        subst hz2
        have T2 := N1.2.2 p1 k1 k2
        rw [h3] at T2
        exact T2)
      have eh : eM (nd 10 i a b) m = eM a m := rfl
      rw [eh]
      have e1 : dep + 1 - 1 = dep := by omega
      refine ⟨nxP (eM a m) p1, ?_, ?_, ?_, ?_⟩
      · unfold nxP; split <;> omega
      · unfold nxP; split
        · have := k3 (by assumption)
          omega
        · omega
      · intro z
        rw [nxP_y z, k3 z]; omega
      · simp (disch := first | omega | assumption) only [c_239, tr_239, ev_0, ev_1, ev_16, ev_17, ev_18, ev_2, ev_3, ev_4, ev_5, ev_6, ev_7, ev_8, ev_9, ev_20, ev_21, ev_22, ev_23, ev_24, ev_25, ev_27, ev_28, ev_30, ev_31, ev_32, ev_33, ev_34, ev_35, ev_36, ev_37, ev_38, ev_39, ev_40, ev_41, ev_42, ev_43, ev_45, ev_46, ev_47, ev_48, ev_49, ev_50, ev_51, ev_52, ev_54, ev_55, ev_57, ev_58, ev_59, k2_0, k2_1, k2_2, k3a, k3b, k4, o1_s, xbin_0, xbin_1, xbin_2, xbin_3, xbin_4, xbin_5, xbin_6, xbin_7, xbin_8, xbin_9, xbin_11, xbin_12, xun_0, xun_1, xun_2, xun_3, xun_4, xun_5, k6a, k8, k8b, k9, k20, k20b_0, k20b_1, k20b_2, k20b_3, k20b_4, k20b_5, k21_0, k21_1, k21_2, k21_3, k21_4, k21_5, k23, k24, k25, k27, k28, k40, nz_1, nz_2, nz_3, k31_0, k31_1, k31_2, k31_3, k32u, k33, k34, k35, k35b, k36, k37, k38, k47, k49, k49b_0, k49b_1, k49b_2, k49b_3, k50_0, k50_s, k51_0, k51_s, k55, k58, k58b, rk_0, rk_1, rk_2, rk_9, rk_3, rk_4, rk_5, sw_n, sw_c, xtb_n, xtb_c, lset_0, lset_2, lset_1, lkm_0, lkm_2, lkm_9, lkm_1, lkm_n, if_some1, c_10, c_01, c_x0, c_1x, c_n0, c_nn, List.getElem?_cons_zero, List.getElem?_cons_succ, List.set_cons_zero, List.set_cons_succ, List.length_cons, List.length_nil, Int.reduceToNat, Nat.reduceDiv, Nat.reduceMod, Nat.reduceSub, Nat.reduceAdd, Nat.reduceMul, Nat.reduceLT, Nat.reduceLeDiff, Nat.reduceEqDiff, Int.reduceMod, Int.reduceSub, Int.reduceNeg, Int.reduceAdd, Int.reduceMul, Int.reduceLT, Int.reduceLE, Int.reduceEq, put_ss, if_true, if_false, ite_true, ite_false, reduceIte, eq_self, and_true, true_and, and_false, false_and, or_true, true_or, or_false, false_or, not_true_eq_false, not_false_eq_true, k5_158_14, k34_158_14, k34i_158_14, k5_158_15, k34_158_15, k34i_158_15, k5_158_13, k34_158_13, k54_158_13, k54b_158_13_0, k54b_158_13_1, k5_158_48, k34_158_48, k5_158_5, k6_161, k35_161, n_161, k5_158_7, k6_163, k35_163, n_163, k5_158_12, k34_158_12, k54_158_12, k54b_158_12_0, rv_t, rv_d, rv_x, rv_y, rp_t, rp_d, rp_x, rp_y, w32_of, i1, i2, i3, k2', x1, x2, c1, x4, e1, hb]
    · subst h3
      have hq1 : q = i + 1 := h1
      subst hq1
      rw [ho] at hT
      exact ⟨i + 1, by omega, by omega, fun _ => rfl, E_11 (d := d + 9) N.1 hb (by omega) hT⟩
    · have hq1 : q = pos + 1 := h1
      subst hq1
      rw [ho] at hT
      exact ⟨pos + 1, by omega, by omega, fun _ => rfl, E_12 (d := d + 9) N.1 hb (by omega) hT⟩
    · subst h6
      subst h1
      rw [ho] at hT
      exact ⟨i + 1, by omega, by omega, fun _ => rfl, E_13 (d := d + 9) hF N.1 hb (by omega) hT (N.2.2 (i + 1) (by omega) (by omega)) h3 h5 (hX1 i)⟩
    · subst hi
      have sa : tsz a < tsz (nd 14 i a b) := by rw [tsz_nd]; omega
      have l1 := P_le a h1
      rw [ho] at hT
      have hT2 := N.2.2 (i + 1) (by omega) (by omega)
      rw [h91] at hT2
      have i1 := fun D => N_209n (F := F) (L := L) (xs := xs) (d := D) (m := m) (p := i) (dep := dep) (a1 := 45) hb (by omega) hT (by omega) (by decide)
      have i2 := fun D => N_209n (F := F) (L := L) (xs := xs) (d := D) (m := m) (p := i) (dep := dep) (a1 := 40) hb (by omega) hT (by omega) (by decide)
      have i3 := fun D => N_210n (F := F) (L := L) (xs := xs) (d := D) (m := m) (p := i) (dep := dep) (a1 := 12) hb (by omega) hT (by omega) (by decide)
      have i4 := N_211 (F := F) (L := L) (xs := xs) (d := d + 11) (m := m) (p := i) (dep := dep) hb (by omega) hT
      rw [if_pos rfl] at i4
      have i5 := fun D => N_215 (F := F) (L := L) (xs := xs) (d := D) (m := m) (p := i) (dep := dep) hb (by omega) hT rfl
      have i6 := fun D => N_209y (F := F) (L := L) (xs := xs) (d := D) (m := m) (p := i + 1) (dep := dep) (a1 := 91) hb (by omega) (by omega) hT2
      have k2' : ¬ m 161 i.toNat = 2 := by
        unfold TR at hT
        omega
      have c0 := fun D => R_243 (F := F) (L := L) (xs := xs) (d := D) (p := i + 1) (dep := dep) (a := i) hF N.1 hp0 (by omega)
      have f0 := Fm_arM (n := i) (En_b N)
      have f40 := f0.2.2.2.1
      have N0 := En_Fm N f0 (by omega)
      have eh : eM (nd 14 i a b) m = emH (eM a (arM m i)) 6 (arV m i) 0 := rfl
      rw [eh]
      generalize hm0 : arM m i = m0 at *
      have x1 := fun D => R_216 (F := F) (L := L) (xs := xs) (d := D) (p := i + 1) (dep := dep) N0.1 ⟨hd0, h30⟩
      have x2 := fun D D1 => R_212 (F := F) (L := L) (xs := xs) (d := D) (m := m0) (p := i + 1) (dep := D1) N0.1 (by omega)
      have nx1 : 0 ≤ nxP m0 (i + 1) ∧ nxP m0 (i + 1) ≤ e := by
        unfold nxP; split <;> omega
      obtain ⟨p1, k1, k2, k3, c1⟩ := hX a sa V (dep + 1) (i + 2) r h1 (by omega) (by omega) (by omega) (by omega) L xs (d + 1) m0 (nxP m0 (i + 1)) N0 (by omega) nx1.1 nx1.2 (fun z => by rw [nxP_y z]; omega) (by omega)
      have f1 := Fm_eM (tsz a + 1) a (by omega) _ _ _ _ (by decide) h1 m0 (En_b N0)
      have f41 := f1.2.2.2.1
      have N1 := En_Fm N0 f1 (by omega)
      have x4 := fun D D1 => R_213 (F := F) (L := L) (xs := xs) (d := D) (m := eM a m0) (p := p1) (dep := D1) (a1 := 93) N1.1 (by omega) (by omega) (fun z => by
        have hz2 := k3 z
        subst hz2
        have T2 := N1.2.2 p1 k1 k2
        rw [h3] at T2
        exact T2)
      have x5 := fun D D1 P1 => R_246_6 (F := F) (L := L) (xs := xs) (d := D) (p := P1) (dep := D1) (a := arV m i) (l := eM a m0 158 48) N1.1
      have e5 : emG (eM a m0) 6 (arV m i) (eM a m0 158 48) 0 false = emH (eM a m0) 6 (arV m i) 0 := rfl
      rw [e5] at x5
      have e1 : dep + 1 - 1 = dep := by omega
      refine ⟨nxP (eM a m0) p1, ?_, ?_, ?_, ?_⟩
      · unfold nxP; split <;> omega
      · unfold nxP; split
        · have := k3 (by assumption)
          omega
        · omega
      · intro z
        have z := emG_nb (En_b N1) z
        rw [nxP_y z, k3 z]; omega
      · simp (disch := first | omega | assumption) only [c_239, tr_239, c_240, tr_240, ev_0, ev_1, ev_16, ev_17, ev_18, ev_2, ev_3, ev_4, ev_5, ev_6, ev_7, ev_8, ev_9, ev_20, ev_21, ev_22, ev_23, ev_24, ev_25, ev_27, ev_28, ev_30, ev_31, ev_32, ev_33, ev_34, ev_35, ev_36, ev_37, ev_38, ev_39, ev_40, ev_41, ev_42, ev_43, ev_45, ev_46, ev_47, ev_48, ev_49, ev_50, ev_51, ev_52, ev_54, ev_55, ev_57, ev_58, ev_59, k2_0, k2_1, k2_2, k3a, k3b, k4, o1_s, xbin_0, xbin_1, xbin_2, xbin_3, xbin_4, xbin_5, xbin_6, xbin_7, xbin_8, xbin_9, xbin_11, xbin_12, xun_0, xun_1, xun_2, xun_3, xun_4, xun_5, k6a, k8, k8b, k9, k20, k20b_0, k20b_1, k20b_2, k20b_3, k20b_4, k20b_5, k21_0, k21_1, k21_2, k21_3, k21_4, k21_5, k23, k24, k25, k27, k28, k40, nz_1, nz_2, nz_3, k31_0, k31_1, k31_2, k31_3, k32u, k33, k34, k35, k35b, k36, k37, k38, k47, k49, k49b_0, k49b_1, k49b_2, k49b_3, k50_0, k50_s, k51_0, k51_s, k55, k58, k58b, rk_0, rk_1, rk_2, rk_9, rk_3, rk_4, rk_5, sw_n, sw_c, xtb_n, xtb_c, lset_0, lset_2, lset_1, lkm_0, lkm_2, lkm_9, lkm_1, lkm_n, if_some1, c_10, c_01, c_x0, c_1x, c_n0, c_nn, List.getElem?_cons_zero, List.getElem?_cons_succ, List.set_cons_zero, List.set_cons_succ, List.length_cons, List.length_nil, Int.reduceToNat, Nat.reduceDiv, Nat.reduceMod, Nat.reduceSub, Nat.reduceAdd, Nat.reduceMul, Nat.reduceLT, Nat.reduceLeDiff, Nat.reduceEqDiff, Int.reduceMod, Int.reduceSub, Int.reduceNeg, Int.reduceAdd, Int.reduceMul, Int.reduceLT, Int.reduceLE, Int.reduceEq, put_ss, if_true, if_false, ite_true, ite_false, reduceIte, eq_self, and_true, true_and, and_false, false_and, or_true, true_or, or_false, false_or, not_true_eq_false, not_false_eq_true, k5_158_14, k34_158_14, k34i_158_14, k5_158_15, k34_158_15, k34i_158_15, k5_158_13, k34_158_13, k54_158_13, k54b_158_13_0, k54b_158_13_1, k5_158_48, k34_158_48, k5_158_5, k6_161, k35_161, n_161, k5_158_7, k6_163, k35_163, n_163, k5_158_12, k34_158_12, k54_158_12, k54b_158_12_0, rv_t, rv_d, rv_x, rv_y, rp_t, rp_d, rp_x, rp_y, w32_of, i1, i2, i3, i4, i5, i6, k2', c0, x1, x2, c1, x4, x5, e1, hb]
    · subst hi
      have sa : tsz a < tsz (nd 15 i a b) := by rw [tsz_nd]; omega
      have l1 := P_le a h1
      have h40 : K (i + 1) = 40 := by
        rcases inv_6 h1 with ⟨j, a1, b1, -, g, -⟩ | ⟨j, a1, b1, -, g, -⟩ <;> exact g
      rw [ho] at hT
      have hT2 := N.2.2 (i + 1) (by omega) (by omega)
      rw [h40] at hT2
      have i1 := fun D => N_209n (F := F) (L := L) (xs := xs) (d := D) (m := m) (p := i) (dep := dep) (a1 := 45) hb (by omega) hT (by omega) (by decide)
      have i2 := fun D => N_209n (F := F) (L := L) (xs := xs) (d := D) (m := m) (p := i) (dep := dep) (a1 := 40) hb (by omega) hT (by omega) (by decide)
      have i3 := fun D => N_210n (F := F) (L := L) (xs := xs) (d := D) (m := m) (p := i) (dep := dep) (a1 := 12) hb (by omega) hT (by omega) (by decide)
      have i4 := N_211 (F := F) (L := L) (xs := xs) (d := d + 11) (m := m) (p := i) (dep := dep) hb (by omega) hT
      rw [if_pos rfl] at i4
      have i5 := fun D => N_215 (F := F) (L := L) (xs := xs) (d := D) (m := m) (p := i) (dep := dep) hb (by omega) hT rfl
      have i6 := fun D => N_209n (F := F) (L := L) (xs := xs) (d := D) (m := m) (p := i + 1) (dep := dep) (a1 := 91) hb (by omega) hT2 (by omega) (by decide)
      have i7 := fun D => N_209y (F := F) (L := L) (xs := xs) (d := D) (m := m) (p := i + 1) (dep := dep) (a1 := 40) hb (by omega) (by omega) hT2
      have k2' : ¬ m 161 i.toNat = 2 := by
        unfold TR at hT
        omega
      obtain ⟨p1, k1, k2, k3, c1⟩ := hC a sa V dep (i + 1) q i h1 hd0 hd1 (by omega) hq (by omega) (by omega) L xs (d + 2) m N (by omega) hb (by omega)
      have eh : eM (nd 15 i a b) m = caM i a m := rfl
      rw [eh]
      refine ⟨p1, k1, k2, k3, ?_⟩
      simp (disch := first | omega | assumption) only [c_239, tr_239, ev_0, ev_1, ev_16, ev_17, ev_18, ev_2, ev_3, ev_4, ev_5, ev_6, ev_7, ev_8, ev_9, ev_20, ev_21, ev_22, ev_23, ev_24, ev_25, ev_27, ev_28, ev_30, ev_31, ev_32, ev_33, ev_34, ev_35, ev_36, ev_37, ev_38, ev_39, ev_40, ev_41, ev_42, ev_43, ev_45, ev_46, ev_47, ev_48, ev_49, ev_50, ev_51, ev_52, ev_54, ev_55, ev_57, ev_58, ev_59, k2_0, k2_1, k2_2, k3a, k3b, k4, o1_s, xbin_0, xbin_1, xbin_2, xbin_3, xbin_4, xbin_5, xbin_6, xbin_7, xbin_8, xbin_9, xbin_11, xbin_12, xun_0, xun_1, xun_2, xun_3, xun_4, xun_5, k6a, k8, k8b, k9, k20, k20b_0, k20b_1, k20b_2, k20b_3, k20b_4, k20b_5, k21_0, k21_1, k21_2, k21_3, k21_4, k21_5, k23, k24, k25, k27, k28, k40, nz_1, nz_2, nz_3, k31_0, k31_1, k31_2, k31_3, k32u, k33, k34, k35, k35b, k36, k37, k38, k47, k49, k49b_0, k49b_1, k49b_2, k49b_3, k50_0, k50_s, k51_0, k51_s, k55, k58, k58b, rk_0, rk_1, rk_2, rk_9, rk_3, rk_4, rk_5, sw_n, sw_c, xtb_n, xtb_c, lset_0, lset_2, lset_1, lkm_0, lkm_2, lkm_9, lkm_1, lkm_n, if_some1, c_10, c_01, c_x0, c_1x, c_n0, c_nn, List.getElem?_cons_zero, List.getElem?_cons_succ, List.set_cons_zero, List.set_cons_succ, List.length_cons, List.length_nil, Int.reduceToNat, Nat.reduceDiv, Nat.reduceMod, Nat.reduceSub, Nat.reduceAdd, Nat.reduceMul, Nat.reduceLT, Nat.reduceLeDiff, Nat.reduceEqDiff, Int.reduceMod, Int.reduceSub, Int.reduceNeg, Int.reduceAdd, Int.reduceMul, Int.reduceLT, Int.reduceLE, Int.reduceEq, put_ss, if_true, if_false, ite_true, ite_false, reduceIte, eq_self, and_true, true_and, and_false, false_and, or_true, true_or, or_false, false_or, not_true_eq_false, not_false_eq_true, k5_158_14, k34_158_14, k34i_158_14, k5_158_15, k34_158_15, k34i_158_15, k5_158_13, k34_158_13, k54_158_13, k54b_158_13_0, k54b_158_13_1, k5_158_48, k34_158_48, k5_158_5, k6_161, k35_161, n_161, k5_158_7, k6_163, k35_163, n_163, k5_158_12, k34_158_12, k54_158_12, k54b_158_12_0, rv_t, rv_d, rv_x, rv_y, rp_t, rp_d, rp_x, rp_y, w32_of, i1, i2, i3, i4, i5, i6, i7, k2', c1, hb]
  · refine ⟨pos, hp0, hp1, fun z => ?_, ?_⟩
    · rw [eM_b t m hb] at z; omega
    · rw [eM_b t m hb]
      exact B_239 (m := rv pos dep m) hb ⟨hp0, by show pos < 3001; omega⟩
theorem QmAll (he : e < 3000) (hF : 100000 ≤ F) : ∀ (n : Nat) (t : xT), tsz t < n → Qm 236 7 0 F K e t ∧ Qm 237 6 1 F K e t ∧ QmS F K e t ∧ Qm 238 5 3 F K e t ∧ QmT F K e t ∧ Qm 239 4 5 F K e t ∧ QmC F K e t ∧ QmA F K e t
  | 0, _, h => absurd h (Nat.not_lt_zero _)
  | n + 1, t, hn => by
    have ih : ∀ a, tsz a < tsz t → _ := fun a ha => QmAll he hF n a (by omega)
    exact ⟨QmE_ok he hF (fun a ha => (ih a ha).2.1), QmS_ok he hF (fun a ha => (ih a ha).2.2.2.1) (fun a ha => (ih a ha).2.2.1), QmLS_ok he hF (fun a ha => (ih a ha).2.2.2.1) (fun a ha => (ih a ha).2.2.1), QmT_ok he hF (fun a ha => (ih a ha).2.2.2.2.2.1) (fun a ha => (ih a ha).2.2.2.2.1), QmLT_ok he hF (fun a ha => (ih a ha).2.2.2.2.2.1) (fun a ha => (ih a ha).2.2.2.2.1), QmF_ok he hF (fun a ha => (ih a ha).1) (fun a ha => (ih a ha).2.2.2.2.2.1) (fun a ha => (ih a ha).2.2.2.2.2.2.1), QmC_ok he hF (fun a ha => (ih a ha).1) (fun a ha => (ih a ha).2.2.2.2.2.2.2), QmLA_ok he hF (fun a ha => (ih a ha).1) (fun a ha => (ih a ha).2.2.2.2.2.2.2)⟩
end QmN
