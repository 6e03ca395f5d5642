/-! CLASS AND MODEL, THE SECOND WALK: the whens of a try, walked -/
def QsW (F : Nat) (mc : Mem) (e : Int) (t : xT) : Prop := ∀ (V : Int → Int) (dep p q : Int), P (kd mc) V t 11 dep p q → kd mc p = 12 → 0 ≤ dep → dep ≤ 30 → 0 ≤ p → q ≤ e → ∀ (L : Nat) (xs : Nat → Int32) (d : Nat) (m : Mem) (s : xSt) (y : yS) (σ : Int → Int) (D D1 H : Int) (G G1 : Prop) (w : List Int) (x1 x2 lm x4 x5 cn l : Int) (l7 l8 l9 : Nat × Int) (n : Nat), SE mc m e → SR mc s y m σ D1 G1 H p → s.2.1 = 0 → m 158 15 = 0 → m 158 41 + 2 * (q - p) - nW t < 2900 → (y.1.length : Int) + 2 * (q - p) - nW t < 2900 → (∀ j, 0 ≤ j → j < q → mc 54 j.toNat < D) → ((bwT mc t w = -1 ∧ D1 = D ∧ G1 = G) ∨ (p < bwT mc t w ∧ D1 = mc 54 (bwT mc t w).toNat)) → HWs mc m e w → 0 ≤ l → l < (y.1.length : Int) → lm = σ l → 0 ≤ x4 → 0 ≤ cn → x4 + cn + nW t ≤ (y.1.length : Int) → (∀ k, x4 + cn ≤ k → k < x4 + cn + nW t → σ k = k) → 3 * m 158 39 + 3 ≤ p → 300 + 4 * (31 - dep).toNat + 1 ≤ d → q - p < n → ∃ p' m' cn' l7' l8' l9', LD F (d + 10) la_234_3 lb_234_3 n ([(2, 158), (0, x1), (0, x2), (0, lm), (0, x4), (0, x5), (0, cn), l7, l8, l9], Hp L xs (rv p dep m)) = some (0, [], ([(2, 158), (0, x1), (0, x2), (0, lm), (0, x4), (0, x5), (0, cn'), l7', l8', l9'], Hp L xs (rv p' dep m'))) ∧ Pwt mc e (stS mc t H l (x4 + cn) (s, y)) y m m' σ D G H p q p' (nW t + 2) (nW t + 2)
section Wlk
variable {F : Nat} {mc : Mem} {e : Int}
theorem QsW_ok {t : xT} (hF : 100000 ≤ F) (hB : ∀ a, tsz a < tsz t → Qst 230 8 0 2 F mc e a) (hT : ∀ a, tsz a < tsz t → QsW F mc e a) : QsW F mc e t := by
  intro V dep p q h h12 hd0 hd1 hp hq L xs d m s y σ D D1 H G G1 w x1 x2 lm x4 x5 cn l l7 l8 l9 n S R hs0 hb h41 hlab hD pend HW hl0 hl1 hlm hx4 hcn hxl hsk h39 hd hn
  have el := S.el
  have l0 := P_le t h
  obtain ⟨n, rfl⟩ : ∃ n', n = n' + 1 := ⟨n - 1, by omega⟩
  rcases inv_11 h with ⟨i, a, b, rfl, g1, g2, g3, r, g4, g5⟩ | ⟨i, a, b, rfl, hpq, ho⟩
  case inr => exact absurd h12 (by rw [hpq] at h12 ⊢; exact fun z => (hpq ▸ ho) z)
  subst g3
  have sa : tsz a < tsz (nd 31 i a b) := by rw [tsz_nd]; omega
  have sb : tsz b < tsz (nd 31 i a b) := by rw [tsz_nd]; omega
  have l1 : i + 2 + 2 ≤ r := by
    obtain ⟨i', a', b', rfl, ho, h30, hv, r', h1, h3, hq2⟩ := inv_8 g4
    have := P_le a' h1
    omega
  have l2 := P_le b g5
  have eW : nW (nd 31 i a b) = nW b + 1 := rfl
  rw [eW] at hxl hsk h41 hlab ⊢
  have hbn := (P11_q (tsz b + 1) b (by omega) _ _ _ g5).2
  have N := SR_En S R (by omega) (Or.inl hb) (by omega)
  have hf := S.fu
  have hT0 := S.tr i hp (by omega)
  have hT1 := S.tr (i + 1) (by omega) (by omega)
  rw [g1] at hT0
  rw [g2] at hT1
  have z1 := fun D => N_214 (F := F) (L := L) (xs := xs) (d := D) (m := m) (p := i) (dep := dep) (a1 := 8) hb (by omega) hT0 (by omega) rfl
  have z2 := fun D => N_215 (F := F) (L := L) (xs := xs) (d := D) (m := m) (p := i + 1) (dep := dep) hb (by omega) hT1 rfl
  have e2 : i + 1 + 1 = i + 2 := by omega
  rw [e2] at z2
  have z3 := fun D => R_228 (F := F) (L := L) (xs := xs) (d := D) (m := m) (p := i + 2) (dep := dep) (a := i + 1) hF N.1 (by omega) (by omega)
  have hwh := R.wh
  obtain ⟨w1, w2, w3, w4⟩ := id HW
  have ec : stS mc (nd 31 i a b) H l (x4 + cn) (s, y) = stS mc b H l (w32 (x4 + cn + 1)) (em 15 0 l (stS mc a H 0 0 (s, slb (x4 + cn) (s.1.length : Int) y)).1, (stS mc a H 0 0 (s, slb (x4 + cn) (s.1.length : Int) y)).2) := rfl
  have ew : w32 (x4 + cn + 1) = x4 + cn + 1 := w32_of (by omega) (by omega)
  rw [ec, ew]
  have e4 : bwT mc (nd 31 i a b) w = if kI mc (idT mc (i + 1)) = 3 ∧ (∀ j ∈ w, idT mc j ≠ idT mc (i + 1)) then bwT mc b (w ++ [i + 1]) else i + 1 := rfl
  rw [e4] at pend
  obtain ⟨n1, n2, n3, n4, n5, n6, n7⟩ := S.nm (i + 1) (by omega) (by omega) g2
  have k3 := n1 3 (by decide)
  have hnn : (w.length : Nat) < F := by omega
  -- what a bad name brings
  have bad : (¬ (kI mc (idT mc (i + 1)) = 3 ∧ (∀ j ∈ w, idT mc j ≠ idT mc (i + 1)))) → Pwt mc e (stS mc b H l (x4 + cn + 1) (em 15 0 l (stS mc a H 0 0 (s, slb (x4 + cn) (s.1.length : Int) y)).1, (stS mc a H 0 0 (s, slb (x4 + cn) (s.1.length : Int) y)).2)) y m (bkF m (plT m (i + 1))) σ D G H i q (i + 2) ((nW b + 1 : Nat) + 2) ((nW b + 1 : Nat) + 2) := by
    intro hg
    rw [if_neg hg] at pend
    have hD1 : D1 = mc 54 (i + 1).toNat := by
      rcases pend with z | z
      · omega
      · exact z.2
    refine ⟨FS_bkF, by omega, by omega, σ, fun _ _ => rfl, Or.inr ⟨WU_bk N.1, rfl, rfl, i + 1, by omega, by omega, (S.pl (i + 1) (by omega) (by omega)).1.symm, ?_⟩⟩
    rw [← hD1]
    refine stS_nf (tsz b + 1) b (by omega) 11 dep r q (by decide) (by decide) g5 (fun j j1 j2 => by rw [hD1]; exact S.mo _ _ (by omega) (by omega) (by omega)) H l _ _ ?_
    exact stS_nf (tsz a + 1) a (by omega) 8 dep (i + 2) r (by decide) (by decide) g4 (fun j j1 j2 => by rw [hD1]; exact S.mo _ _ (by omega) (by omega) (by omega)) H 0 0 _ R.rx.nf
  have W1 : WU (bkF m (plT m (i + 1))) := WU_bk N.1
  have y1 := fun D D1 => B_230 (F := F) (L := L) (xs := xs) (d := D) (m := bkF m (plT m (i + 1))) (p := i + 2) (dep := dep) W1 hF rfl ⟨by omega, by omega⟩ ⟨hd0, hd1⟩
  have y2 := fun D o1 a1 l1 => B_246 (F := F) (L := L) (xs := xs) (d := D) (m := rv (i + 2) dep (bkF m (plT m (i + 1)))) (a1 := o1) (a2 := a1) (a3 := l1) rfl
  have y3 := fun D s => B_210 (F := F) (L := L) (xs := xs) (d := D) (m := rv (i + 2) dep (bkF m (plT m (i + 1)))) (a1 := s) rfl
  have b15 : bkF m (plT m (i + 1)) 158 15 = 1 := rfl
  have b14 : bkF m (plT m (i + 1)) 158 14 = 1 := hf
  have b40 : bkF m (plT m (i + 1)) 158 40 = m 158 40 := rfl
  have b39 : bkF m (plT m (i + 1)) 158 39 = m 158 39 := rfl
  by_cases hk : isK m (vlT m (i + 1)) 3
  · have q1 : cdM m (i + 1) = m := by unfold cdM; rw [if_pos hb, if_pos hk]
    have q2 : cdV m (i + 1) = inX m (vlT m (i + 1)) := by unfold cdV; rw [if_pos hb, if_pos hk]
    rw [q1, q2] at z3
    have z4 := fun y6 => L_w4 (F := F) (L := L) (xs := xs) (d := d) (x1 := x1) (x2 := x2) (x3 := lm) (x4 := x4) (x5 := x5) (x6 := y6) (x := i + 1) (c := inX m (vlT m (i + 1))) (p := i + 2) (dep := dep) (m := m) hb hf (by omega) (by omega) w.length (m 158 40) F w2 w1 hnn
    have hdup := HWs_dup S HW (i := i + 1) (by omega) (by omega) g2 hk
    by_cases hd2 : ∀ j ∈ w, idT mc j ≠ idT mc (i + 1)
    · -- good
      rw [hdup.2 hd2, if_pos rfl] at z4
      have hgood : kI mc (idT mc (i + 1)) = 3 ∧ (∀ j ∈ w, idT mc j ≠ idT mc (i + 1)) := ⟨k3.2 hk, hd2⟩
      rw [if_pos hgood] at pend
      generalize hcx : inX m (vlT m (i + 1)) = cx at *
      have R1 := SR_w39 (k := (m 158 39).toNat) (c := cx) (p' := i + 2) R rfl (by omega) (by omega)
      have hσ : σ (x4 + cn) = x4 + cn := hsk _ (Int.le_refl _) (by omega)
      have R2 := SR_st R1 (l := x4 + cn) (by omega) (by omega)
      rw [hσ] at R2
      have e41 : put (put m 176 (m 158 39).toNat cx) 158 39 (m 158 39 + 1) 158 41 = m 158 41 := rfl
      rw [e41] at R2
      have z5 := fun D => M_245 (F := F) (L := L) (xs := xs) (d := D) (m := put (put m 176 (m 158 39).toNat cx) 158 39 (m 158 39 + 1)) (p := i + 2) (dep := dep) (l := x4 + cn) (by omega) (by omega)
      rw [e41] at z5
      generalize hm2 : put (put (put m 176 (m 158 39).toNat cx) 158 39 (m 158 39 + 1)) 181 (x4 + cn).toNat (m 158 41) = m2 at *
      have F2 : FS m m2 := by rw [← hm2]; exact FS_put (FS_put (FS_put FS_rf rfl) rfl) rfl
      have hb2 : m2 158 15 = 0 := by rw [← hm2]; exact hb
      have v41 : m2 158 41 = m 158 41 := by rw [← hm2]; rfl
      have v30 : m2 158 30 = m 158 30 := by rw [← hm2]; rfl
      have v39 : m2 158 39 = m 158 39 + 1 := by rw [← hm2]; rfl
      have v40 : m2 158 40 = m 158 40 := by rw [← hm2]; rfl
      have v176 : ∀ k, m2 176 k = if k = (m 158 39).toNat then cx else m 176 k := by rw [← hm2]; exact fun _ => rfl
      have hyl : (slb (x4 + cn) (s.1.length : Int) y).1.length = y.1.length := by
        unfold slb
        split
        · exact List.length_set
        · rfl
      have S2 := SE_FS S F2
      have hbw := bwT_r (mc := mc) (V := V) (tsz b + 1) b (by omega) dep r q g5 (w ++ [i + 1])
      have hDD : ∀ j, 0 ≤ j → j < r → mc 54 j.toNat < D1 := fun j j1 j2 => by
        rcases pend with ⟨_, z, _⟩ | ⟨z0, z⟩
        · rw [z]; exact hD j j1 (by omega)
        · rw [z]
          rcases hbw with z3 | z3
          · omega
          · exact S.ms _ _ j1 (by omega) (by omega)
      obtain ⟨p3, m3, c3, X3⟩ := hB a sa V dep (i + 2) r g4 hd0 hd1 (by omega) (by omega) L xs d m2 s (slb (x4 + cn) (s.1.length : Int) y) σ D1 H G1 S2 R2 hs0 hb2 (by omega) (by rw [hyl]; omega) hDD (by omega)
      generalize hcA : stS mc a H 0 0 (s, slb (x4 + cn) (s.1.length : Int) y) = cA at *
      obtain ⟨F3, q0, q1', σ3, e3, Y⟩ := X3
      have S3 := SE_FS S2 F3
      rcases Y with ⟨Y, hp3⟩ | ⟨W3, B3⟩
      · subst hp3
        have y41 := Y.o41
        have ylc := Y.lc
        have yly := Y.ly
        have y30 := Y.l30
        have y39 := Y.w39
        have y40 := Y.w40
        rw [hyl] at ylc yly
        have W3 := SR_WU S3 Y.sr (by omega) (Or.inl Y.b0) (by omega)
        have z6 := fun D => R_246_15 (F := F) (L := L) (xs := xs) (d := D) (p := p3) (dep := dep) (a := 0) (l := lm) W3
        have b2 : w32 (cA.1.2.1 + 0) = 0 := by rw [Y.pz]; decide
        have hl3 : lm = σ3 l := by rw [hlm, e3 l (by rw [hyl]; omega)]
        have R4 := SR_emz (o := 15) (a := 0) (u := 0) (l := l) (lm := lm) Y.sr Y.b0 (by omega) rfl b2 hl3 (by omega)
        have g4' := (Fm_emG (m := m3) (o := 15) (a := 0) (l := lm) (u := 0) (z := true) (Or.inl Y.b0)).2.2.2.1
        have E4 := FE_emG (m := m3) (o := 15) (a := 0) (l := lm) (u := 0) (z := true)
        have hb4 : emG m3 15 0 lm 0 true 158 15 = 0 := emG_ok Y.b0
        have F4 : FS m (emG m3 15 0 lm 0 true) := FS_tr (FS_tr F2 F3) FS_emG
        have S4 := SE_FS S F4
        generalize hm4 : emG m3 15 0 lm 0 true = m4 at *
        have hT3 := S4.tr p3 (by omega) (by omega)
        have z7 := fun D => N_210 (F := F) (L := L) (xs := xs) (d := D) (m := m4) (p := p3) (dep := dep) (a1 := 8) hb4 (by omega) hT3 (by omega)
        have t40 : m4 158 40 = m 158 40 := by rw [E4 158 40 rfl]; omega
        have t39 : m4 158 39 = m 158 39 + 1 := by rw [E4 158 39 rfl]; omega
        have t30 : m4 158 30 = m3 158 30 := E4 158 30 rfl
        have t176 : ∀ k : Nat, (k : Int) < m 158 39 + 1 → m4 176 k = m2 176 k := fun k hk => (E4 176 k rfl).trans (Y.c176 k (by omega))
        have ez : (em 15 0 l cA.1).2.1 = 0 := b2
        by_cases ho : kd mc p3 = 12
        · have HW4 : HWs mc m4 e (w ++ [i + 1]) := by
            refine ⟨?_, by omega, fun j hj => ?_, fun k hk2 => ?_⟩
            · rw [List.length_append, List.length_singleton]
              omega
            · rcases List.mem_append.1 hj with hj | hj
              · obtain ⟨j0, j1, j2, j3⟩ := w3 j hj
                rw [vlT_FS F4]
                exact ⟨j0, j1, j2, (isK_FS F4).2 j3⟩
              · rw [List.mem_singleton.1 hj, vlT_FS F4]
                exact ⟨by omega, by omega, g2, (isK_FS F4).2 hk⟩
            · rw [List.length_append, List.length_singleton] at hk2
              rw [t40, t176 _ (by omega), v176, inX_FS F4, vlT_FS F4, List.getD_eq_getElem?_getD]
              by_cases hk3 : k < w.length
              · rw [if_neg (by omega), w4 k hk3, List.getElem?_append_left hk3, ← List.getD_eq_getElem?_getD]
              · have : k = w.length := by omega
                subst this
                rw [if_pos (by omega), List.getElem?_append_right (Nat.le_refl _), Nat.sub_self]
                exact hcx.symm
          obtain ⟨p5, m5, cn5, a7, a8, a9, c5, X5⟩ := hT b sb V dep p3 q g5 ho hd0 hd1 q0 hq L xs d m4 (em 15 0 l cA.1) cA.2 σ3 D D1 H G G1 (w ++ [i + 1]) x1 x2 lm x4 x5 (cn + 1) l (0, i + 1) (0, cx) (0, m 158 39) n S4 (SR_p R4 (Int.le_refl _)) ez hb4 (by omega) (by omega) hD (by
            rcases pend with z | ⟨z0, z⟩
            · exact Or.inl z
            · rcases hbw with z3 | z3
              · omega
              · exact Or.inr ⟨z3.1, z⟩) HW4 hl0 (by omega) hl3 hx4 (by omega) (by omega) (fun k k1 k2 => by rw [e3 k (by rw [hyl]; omega)]; exact hsk k (by omega) (by omega)) (by omega) hd (by omega)
          have ecn : x4 + (cn + 1) = x4 + cn + 1 := by omega
          rw [ecn] at X5
          refine ⟨p5, m5, cn5, a7, a8, a9, ?_, ?_⟩
          · rw [ld_s]
            simp (disch := first | omega | assumption) only [ea_234_3, ev_0, ev_1, ev_16, ev_17, ev_18, ev_2, ev_3, ev_4, ev_5, ev_6, ev_7, ev_8, ev_9, ev_20, ev_21, ev_22, ev_23, ev_24, ev_25, ev_27, ev_28, ev_30, ev_31, ev_32, ev_33, ev_34, ev_35, ev_36, ev_37, ev_38, ev_39, ev_40, ev_41, ev_42, ev_43, ev_45, ev_46, ev_47, ev_48, ev_49, ev_50, ev_51, ev_52, ev_54, ev_55, ev_57, ev_58, ev_59, k2_0, k2_1, k2_2, k3a, k3b, k4, o1_s, xbin_0, xbin_1, xbin_2, xbin_3, xbin_4, xbin_5, xbin_6, xbin_7, xbin_8, xbin_9, xbin_11, xbin_12, xun_0, xun_1, xun_2, xun_3, xun_4, xun_5, k6a, k8, k8b, k9, k20, k20b_0, k20b_1, k20b_2, k20b_3, k20b_4, k20b_5, k21_0, k21_1, k21_2, k21_3, k21_4, k21_5, k23, k24, k25, k27, k28, k40, nz_1, nz_2, nz_3, k31_0, k31_1, k31_2, k31_3, k32u, k33, k34, k35, k35b, k36, k37, k38, k47, k49, k49b_0, k49b_1, k49b_2, k49b_3, k50_0, k50_s, k51_0, k51_s, k55, k58, k58b, rk_0, rk_1, rk_2, rk_9, rk_3, rk_4, rk_5, sw_n, sw_c, xtb_n, xtb_c, lset_0, lset_2, lset_1, lkm_0, lkm_2, lkm_9, lkm_1, lkm_n, if_some1, c_10, c_01, c_x0, c_1x, c_n0, c_nn, List.getElem?_cons_zero, List.getElem?_cons_succ, List.set_cons_zero, List.set_cons_succ, List.length_cons, List.length_nil, Int.reduceToNat, Nat.reduceDiv, Nat.reduceMod, Nat.reduceSub, Nat.reduceAdd, Nat.reduceMul, Nat.reduceLT, Nat.reduceLeDiff, Nat.reduceEqDiff, Int.reduceMod, Int.reduceSub, Int.reduceNeg, Int.reduceAdd, Int.reduceMul, Int.reduceLT, Int.reduceLE, Int.reduceEq, put_ss, if_true, if_false, ite_true, ite_false, reduceIte, eq_self, and_true, true_and, and_false, false_and, or_true, true_or, or_false, false_or, not_true_eq_false, not_false_eq_true, k5_158_14, k34_158_14, k34i_158_14, k5_158_15, k34_158_15, k34i_158_15, k5_158_13, k34_158_13, k54_158_13, k54b_158_13_0, k54b_158_13_1, k5_158_48, k34_158_48, k5_158_5, k6_161, k35_161, n_161, k5_158_7, k6_163, k35_163, n_163, k5_158_12, k34_158_12, k54_158_12, k54b_158_12_0, k5_158_39, k34_158_39, k54_158_39, k54b_158_39_0, k5_158_40, k34_158_40, k5_158_38, k6_176, k35_176, n_176, k5_158_6, k6_162, k35_162, n_162, rv_t, rv_d, rv_x, rv_y, rp_t, rp_d, rp_x, rp_y, w32_of, eb_234_3, l1_i, l1_1, l1_0, l2_0, l2_1, l2_2, l2_3, l3_0, w2_0, w2_1, w2_2, w2_3, d1_0, d1_1, d1_2, d1_3, d2_i, d2_1, d2_0, z1, z2, z3, z4, z5, hb, hf, c3, z6, z7, ho, c5]
          · obtain ⟨F5, h50, h51, σ5, e5, Y5⟩ := X5
            refine ⟨FS_tr F4 F5, h50, h51, σ5, fun k hk => (e5 k (by omega)).trans (e3 k (by rw [hyl]; exact hk)), ?_⟩
            rcases Y5 with ⟨Y5, hp5⟩ | ⟨W5, B5⟩
            · left
              have u41 := Y5.o41
              have ulc := Y5.lc
              have uly := Y5.ly
              have u30 := Y5.l30
              exact ⟨⟨Y5.b0, Y5.sr, Y5.pz, by omega, by omega, by omega, by omega, by have := Y5.w40; omega, fun k hk => ((Y5.c176 k (by omega)).trans (t176 k (by omega))).trans ((v176 k).trans (if_neg (by omega)))⟩, hp5⟩
            · exact Or.inr ⟨W5, Br_le B5 (by omega) (Int.le_refl _)⟩
        · rcases inv_11 g5 with ⟨i', a', b', rfl, k1, _⟩ | ⟨i', a', b', rfl, hpq, ho'⟩
          · exact absurd k1 ho
          · have ez2 : stS mc (nd 32 i' a' b') H l (x4 + cn + 1) (em 15 0 l cA.1, cA.2) = (em 15 0 l cA.1, cA.2) := rfl
            have en2 : nW (nd 32 i' a' b') = 0 := rfl
            have eb2 : bwT mc (nd 32 i' a' b') (w ++ [i + 1]) = -1 := rfl
            rw [eb2] at pend
            have pend2 : D1 = D ∧ G1 = G := by
              rcases pend with ⟨_, z⟩ | ⟨z0, z⟩
              · exact z
              · omega
            rw [ez2, en2]
            subst hpq
            obtain ⟨rfl, rfl⟩ := pend2
            refine ⟨p3, m4, cn + 1, (0, i + 1), (0, cx), (0, m 158 39), ?_, F4, q0, hq, σ3, fun k hk => e3 k (by rw [hyl]; exact hk), Or.inl ⟨⟨hb4, SR_p R4 (Int.le_refl _), ez, by omega, by show (cA.2.1.length : Int) ≤ _; omega, by show _ ≤ (cA.2.1.length : Int); omega, by omega, by omega, fun k hk => (t176 k (by omega)).trans ((v176 k).trans (if_neg (by omega)))⟩, rfl⟩⟩
            rw [ld_s]
            simp (disch := first | omega | assumption) only [ea_234_3, ev_0, ev_1, ev_16, ev_17, ev_18, ev_2, ev_3, ev_4, ev_5, ev_6, ev_7, ev_8, ev_9, ev_20, ev_21, ev_22, ev_23, ev_24, ev_25, ev_27, ev_28, ev_30, ev_31, ev_32, ev_33, ev_34, ev_35, ev_36, ev_37, ev_38, ev_39, ev_40, ev_41, ev_42, ev_43, ev_45, ev_46, ev_47, ev_48, ev_49, ev_50, ev_51, ev_52, ev_54, ev_55, ev_57, ev_58, ev_59, k2_0, k2_1, k2_2, k3a, k3b, k4, o1_s, xbin_0, xbin_1, xbin_2, xbin_3, xbin_4, xbin_5, xbin_6, xbin_7, xbin_8, xbin_9, xbin_11, xbin_12, xun_0, xun_1, xun_2, xun_3, xun_4, xun_5, k6a, k8, k8b, k9, k20, k20b_0, k20b_1, k20b_2, k20b_3, k20b_4, k20b_5, k21_0, k21_1, k21_2, k21_3, k21_4, k21_5, k23, k24, k25, k27, k28, k40, nz_1, nz_2, nz_3, k31_0, k31_1, k31_2, k31_3, k32u, k33, k34, k35, k35b, k36, k37, k38, k47, k49, k49b_0, k49b_1, k49b_2, k49b_3, k50_0, k50_s, k51_0, k51_s, k55, k58, k58b, rk_0, rk_1, rk_2, rk_9, rk_3, rk_4, rk_5, sw_n, sw_c, xtb_n, xtb_c, lset_0, lset_2, lset_1, lkm_0, lkm_2, lkm_9, lkm_1, lkm_n, if_some1, c_10, c_01, c_x0, c_1x, c_n0, c_nn, List.getElem?_cons_zero, List.getElem?_cons_succ, List.set_cons_zero, List.set_cons_succ, List.length_cons, List.length_nil, Int.reduceToNat, Nat.reduceDiv, Nat.reduceMod, Nat.reduceSub, Nat.reduceAdd, Nat.reduceMul, Nat.reduceLT, Nat.reduceLeDiff, Nat.reduceEqDiff, Int.reduceMod, Int.reduceSub, Int.reduceNeg, Int.reduceAdd, Int.reduceMul, Int.reduceLT, Int.reduceLE, Int.reduceEq, put_ss, if_true, if_false, ite_true, ite_false, reduceIte, eq_self, and_true, true_and, and_false, false_and, or_true, true_or, or_false, false_or, not_true_eq_false, not_false_eq_true, k5_158_14, k34_158_14, k34i_158_14, k5_158_15, k34_158_15, k34i_158_15, k5_158_13, k34_158_13, k54_158_13, k54b_158_13_0, k54b_158_13_1, k5_158_48, k34_158_48, k5_158_5, k6_161, k35_161, n_161, k5_158_7, k6_163, k35_163, n_163, k5_158_12, k34_158_12, k54_158_12, k54b_158_12_0, k5_158_39, k34_158_39, k54_158_39, k54b_158_39_0, k5_158_40, k34_158_40, k5_158_38, k6_176, k35_176, n_176, k5_158_6, k6_162, k35_162, n_162, rv_t, rv_d, rv_x, rv_y, rp_t, rp_d, rp_x, rp_y, w32_of, eb_234_3, l1_i, l1_1, l1_0, l2_0, l2_1, l2_2, l2_3, l3_0, w2_0, w2_1, w2_2, w2_3, d1_0, d1_1, d1_2, d1_3, d2_i, d2_1, d2_0, z1, z2, z3, z4, z5, hb, hf, c3, z6, z7, ho]
      · have z6 := fun D o1 a1 l1 => B_246 (F := F) (L := L) (xs := xs) (d := D) (m := rv p3 dep m3) (a1 := o1) (a2 := a1) (a3 := l1) B3.1
        have z7 := fun D s => B_210 (F := F) (L := L) (xs := xs) (d := D) (m := rv p3 dep m3) (a1 := s) B3.1
        refine ⟨p3, m3, cn + 1, (0, i + 1), (0, cx), (0, m 158 39), ?_, FS_tr F2 F3, q0, q1', σ, fun _ _ => rfl, Or.inr ⟨W3, ?_⟩⟩
        · rw [ld_s]
          simp (disch := first | omega | assumption) only [ea_234_3, ev_0, ev_1, ev_16, ev_17, ev_18, ev_2, ev_3, ev_4, ev_5, ev_6, ev_7, ev_8, ev_9, ev_20, ev_21, ev_22, ev_23, ev_24, ev_25, ev_27, ev_28, ev_30, ev_31, ev_32, ev_33, ev_34, ev_35, ev_36, ev_37, ev_38, ev_39, ev_40, ev_41, ev_42, ev_43, ev_45, ev_46, ev_47, ev_48, ev_49, ev_50, ev_51, ev_52, ev_54, ev_55, ev_57, ev_58, ev_59, k2_0, k2_1, k2_2, k3a, k3b, k4, o1_s, xbin_0, xbin_1, xbin_2, xbin_3, xbin_4, xbin_5, xbin_6, xbin_7, xbin_8, xbin_9, xbin_11, xbin_12, xun_0, xun_1, xun_2, xun_3, xun_4, xun_5, k6a, k8, k8b, k9, k20, k20b_0, k20b_1, k20b_2, k20b_3, k20b_4, k20b_5, k21_0, k21_1, k21_2, k21_3, k21_4, k21_5, k23, k24, k25, k27, k28, k40, nz_1, nz_2, nz_3, k31_0, k31_1, k31_2, k31_3, k32u, k33, k34, k35, k35b, k36, k37, k38, k47, k49, k49b_0, k49b_1, k49b_2, k49b_3, k50_0, k50_s, k51_0, k51_s, k55, k58, k58b, rk_0, rk_1, rk_2, rk_9, rk_3, rk_4, rk_5, sw_n, sw_c, xtb_n, xtb_c, lset_0, lset_2, lset_1, lkm_0, lkm_2, lkm_9, lkm_1, lkm_n, if_some1, c_10, c_01, c_x0, c_1x, c_n0, c_nn, List.getElem?_cons_zero, List.getElem?_cons_succ, List.set_cons_zero, List.set_cons_succ, List.length_cons, List.length_nil, Int.reduceToNat, Nat.reduceDiv, Nat.reduceMod, Nat.reduceSub, Nat.reduceAdd, Nat.reduceMul, Nat.reduceLT, Nat.reduceLeDiff, Nat.reduceEqDiff, Int.reduceMod, Int.reduceSub, Int.reduceNeg, Int.reduceAdd, Int.reduceMul, Int.reduceLT, Int.reduceLE, Int.reduceEq, put_ss, if_true, if_false, ite_true, ite_false, reduceIte, eq_self, and_true, true_and, and_false, false_and, or_true, true_or, or_false, false_or, not_true_eq_false, not_false_eq_true, k5_158_14, k34_158_14, k34i_158_14, k5_158_15, k34_158_15, k34i_158_15, k5_158_13, k34_158_13, k54_158_13, k54b_158_13_0, k54b_158_13_1, k5_158_48, k34_158_48, k5_158_5, k6_161, k35_161, n_161, k5_158_7, k6_163, k35_163, n_163, k5_158_12, k34_158_12, k54_158_12, k54b_158_12_0, k5_158_39, k34_158_39, k54_158_39, k54b_158_39_0, k5_158_40, k34_158_40, k5_158_38, k6_176, k35_176, n_176, k5_158_6, k6_162, k35_162, n_162, rv_t, rv_d, rv_x, rv_y, rp_t, rp_d, rp_x, rp_y, w32_of, eb_234_3, l1_i, l1_1, l1_0, l2_0, l2_1, l2_2, l2_3, l3_0, w2_0, w2_1, w2_2, w2_3, d1_0, d1_1, d1_2, d1_3, d2_i, d2_1, d2_0, z1, z2, z3, z4, z5, hb, hf, c3, z6, z7]
        · exact Br_stS (s := em 15 0 l cA.1) (y := cA.2) S.mo (Br_le B3 (by omega) (Int.le_refl _)) hp (by decide) (by decide) g5 (Int.le_refl _) hq
    · -- a second time
      have hnd : ¬ fst1 (m 176) (inX m (vlT m (i + 1))) (m 158 40) w.length = -1 := fun z => hd2 (hdup.1 z)
      rw [if_neg hnd] at z4
      refine ⟨i + 2, bkF m (plT m (i + 1)), cn + 1, (0, i + 1), (0, inX m (vlT m (i + 1))), (0, m 158 39), ?_, bad (fun z => hd2 z.2)⟩
      rw [ld_s]
      simp (disch := first | omega | assumption) only [ea_234_3, ev_0, ev_1, ev_16, ev_17, ev_18, ev_2, ev_3, ev_4, ev_5, ev_6, ev_7, ev_8, ev_9, ev_20, ev_21, ev_22, ev_23, ev_24, ev_25, ev_27, ev_28, ev_30, ev_31, ev_32, ev_33, ev_34, ev_35, ev_36, ev_37, ev_38, ev_39, ev_40, ev_41, ev_42, ev_43, ev_45, ev_46, ev_47, ev_48, ev_49, ev_50, ev_51, ev_52, ev_54, ev_55, ev_57, ev_58, ev_59, k2_0, k2_1, k2_2, k3a, k3b, k4, o1_s, xbin_0, xbin_1, xbin_2, xbin_3, xbin_4, xbin_5, xbin_6, xbin_7, xbin_8, xbin_9, xbin_11, xbin_12, xun_0, xun_1, xun_2, xun_3, xun_4, xun_5, k6a, k8, k8b, k9, k20, k20b_0, k20b_1, k20b_2, k20b_3, k20b_4, k20b_5, k21_0, k21_1, k21_2, k21_3, k21_4, k21_5, k23, k24, k25, k27, k28, k40, nz_1, nz_2, nz_3, k31_0, k31_1, k31_2, k31_3, k32u, k33, k34, k35, k35b, k36, k37, k38, k47, k49, k49b_0, k49b_1, k49b_2, k49b_3, k50_0, k50_s, k51_0, k51_s, k55, k58, k58b, rk_0, rk_1, rk_2, rk_9, rk_3, rk_4, rk_5, sw_n, sw_c, xtb_n, xtb_c, lset_0, lset_2, lset_1, lkm_0, lkm_2, lkm_9, lkm_1, lkm_n, if_some1, c_10, c_01, c_x0, c_1x, c_n0, c_nn, List.getElem?_cons_zero, List.getElem?_cons_succ, List.set_cons_zero, List.set_cons_succ, List.length_cons, List.length_nil, Int.reduceToNat, Nat.reduceDiv, Nat.reduceMod, Nat.reduceSub, Nat.reduceAdd, Nat.reduceMul, Nat.reduceLT, Nat.reduceLeDiff, Nat.reduceEqDiff, Int.reduceMod, Int.reduceSub, Int.reduceNeg, Int.reduceAdd, Int.reduceMul, Int.reduceLT, Int.reduceLE, Int.reduceEq, put_ss, if_true, if_false, ite_true, ite_false, reduceIte, eq_self, and_true, true_and, and_false, false_and, or_true, true_or, or_false, false_or, not_true_eq_false, not_false_eq_true, k5_158_14, k34_158_14, k34i_158_14, k5_158_15, k34_158_15, k34i_158_15, k5_158_13, k34_158_13, k54_158_13, k54b_158_13_0, k54b_158_13_1, k5_158_48, k34_158_48, k5_158_5, k6_161, k35_161, n_161, k5_158_7, k6_163, k35_163, n_163, k5_158_12, k34_158_12, k54_158_12, k54b_158_12_0, k5_158_39, k34_158_39, k54_158_39, k54b_158_39_0, k5_158_40, k34_158_40, k5_158_38, k6_176, k35_176, n_176, k5_158_6, k6_162, k35_162, n_162, rv_t, rv_d, rv_x, rv_y, rp_t, rp_d, rp_x, rp_y, w32_of, eb_234_3, l1_i, l1_1, l1_0, l2_0, l2_1, l2_2, l2_3, l3_0, w2_0, w2_1, w2_2, w2_3, d1_0, d1_1, d1_2, d1_3, d2_i, d2_1, d2_0, z1, z2, z3, z4, b15, b14, b40, b39, y1, y2, y3, hb, hf]
  · have q1 : cdM m (i + 1) = bkF m (plT m (i + 1)) := by unfold cdM; rw [if_pos hb, if_neg hk]
    have q2 : cdV m (i + 1) = 0 := by unfold cdV; rw [if_pos hb, if_neg hk]
    rw [q1, q2] at z3
    have z4 := fun y6 => L_w4b (F := F) (L := L) (xs := xs) (d := d) (x1 := x1) (x2 := x2) (x3 := lm) (x4 := x4) (x5 := x5) (x6 := y6) (x := i + 1) (c := 0) (p := i + 2) (dep := dep) (m := bkF m (plT m (i + 1))) rfl hf (by omega) (by show m 158 39 ≤ 800; omega) w.length (m 158 40) F w2 w1 hnn
    rw [b39] at z4
    refine ⟨i + 2, bkF m (plT m (i + 1)), cn + 1, (0, i + 1), (0, 0), (0, m 158 39), ?_, bad (fun z => hk (k3.1 z.1))⟩
    rw [ld_s]
    simp (disch := first | omega | assumption) only [ea_234_3, ev_0, ev_1, ev_16, ev_17, ev_18, ev_2, ev_3, ev_4, ev_5, ev_6, ev_7, ev_8, ev_9, ev_20, ev_21, ev_22, ev_23, ev_24, ev_25, ev_27, ev_28, ev_30, ev_31, ev_32, ev_33, ev_34, ev_35, ev_36, ev_37, ev_38, ev_39, ev_40, ev_41, ev_42, ev_43, ev_45, ev_46, ev_47, ev_48, ev_49, ev_50, ev_51, ev_52, ev_54, ev_55, ev_57, ev_58, ev_59, k2_0, k2_1, k2_2, k3a, k3b, k4, o1_s, xbin_0, xbin_1, xbin_2, xbin_3, xbin_4, xbin_5, xbin_6, xbin_7, xbin_8, xbin_9, xbin_11, xbin_12, xun_0, xun_1, xun_2, xun_3, xun_4, xun_5, k6a, k8, k8b, k9, k20, k20b_0, k20b_1, k20b_2, k20b_3, k20b_4, k20b_5, k21_0, k21_1, k21_2, k21_3, k21_4, k21_5, k23, k24, k25, k27, k28, k40, nz_1, nz_2, nz_3, k31_0, k31_1, k31_2, k31_3, k32u, k33, k34, k35, k35b, k36, k37, k38, k47, k49, k49b_0, k49b_1, k49b_2, k49b_3, k50_0, k50_s, k51_0, k51_s, k55, k58, k58b, rk_0, rk_1, rk_2, rk_9, rk_3, rk_4, rk_5, sw_n, sw_c, xtb_n, xtb_c, lset_0, lset_2, lset_1, lkm_0, lkm_2, lkm_9, lkm_1, lkm_n, if_some1, c_10, c_01, c_x0, c_1x, c_n0, c_nn, List.getElem?_cons_zero, List.getElem?_cons_succ, List.set_cons_zero, List.set_cons_succ, List.length_cons, List.length_nil, Int.reduceToNat, Nat.reduceDiv, Nat.reduceMod, Nat.reduceSub, Nat.reduceAdd, Nat.reduceMul, Nat.reduceLT, Nat.reduceLeDiff, Nat.reduceEqDiff, Int.reduceMod, Int.reduceSub, Int.reduceNeg, Int.reduceAdd, Int.reduceMul, Int.reduceLT, Int.reduceLE, Int.reduceEq, put_ss, if_true, if_false, ite_true, ite_false, reduceIte, eq_self, and_true, true_and, and_false, false_and, or_true, true_or, or_false, false_or, not_true_eq_false, not_false_eq_true, k5_158_14, k34_158_14, k34i_158_14, k5_158_15, k34_158_15, k34i_158_15, k5_158_13, k34_158_13, k54_158_13, k54b_158_13_0, k54b_158_13_1, k5_158_48, k34_158_48, k5_158_5, k6_161, k35_161, n_161, k5_158_7, k6_163, k35_163, n_163, k5_158_12, k34_158_12, k54_158_12, k54b_158_12_0, k5_158_39, k34_158_39, k54_158_39, k54b_158_39_0, k5_158_40, k34_158_40, k5_158_38, k6_176, k35_176, n_176, k5_158_6, k6_162, k35_162, n_162, rv_t, rv_d, rv_x, rv_y, rp_t, rp_d, rp_x, rp_y, w32_of, eb_234_3, l1_i, l1_1, l1_0, l2_0, l2_1, l2_2, l2_3, l3_0, w2_0, w2_1, w2_2, w2_3, d1_0, d1_1, d1_2, d1_3, d2_i, d2_1, d2_0, z1, z2, z3, z4, b15, b14, b40, b39, y1, y2, y3, hb, hf]
end Wlk
