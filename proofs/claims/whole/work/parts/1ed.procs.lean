/-! THE CLASS LAYS: proc's begin and end, its head, its tables -/
section Ord2
variable {F L d : Nat} {xs : Nat → Int32} {S : lS} {cd : Nat} {m M M2 : Mem} {i x v : Int} {n : Nat} {Lo : xL} {y : Int} {A g ch : Int} {J W : Nat → Int}
def o_0 (m : Mem) (cd : Nat) (x : Int) (S : lS) : lS := (eS (m 71 3) [wrd 10 7 7 (lw 10 (FRc m cd x - m 71 6))] (eS (m 71 3) [wrd 10 6 7 (lw 10 (-m 71 6))] (eS (m 71 3) [wrd 9 6 7 (lw 9 1)] (eS (m 71 3) [wrd 9 5 7 (lw 9 0)] (eS (m 71 3) [wrd 15 0 0 (lw 15 0)] (eS (m 71 3) [wrd 6 4 0 (lw 6 (-1))] (eS (m 71 3) [wrd 11 2 0 (lw 11 2)] (eS (m 71 3) [wrd 4 2 3 (lw 4 7)] (eS (m 71 3) (cCo 3 (8192 - WAc m cd x)) S)))))))))
theorem O_0 (X0 : LX cd M2) (hM2 : put m 71 5 i = M2) (X : LX cd M) (hM : put M2 71 6 (PAc M2 cd x) = M) (hb : LBd S n) (hn : n < 4000) (hi : 0 ≤ i) (hi2 : i < M2 cd 0) (hop : M2 (cd + 1) i.toNat = 0) (hx : M2 (cd + 2) i.toNat = x) (hxb : -1000000 ≤ x ∧ x ≤ 1000000) : Cx F (d + 10) 50 [71, i] (Hp L xs (lyS S cd m)) = some ([], Hp L xs (lyS (o_0 M cd x (S.1, 0, S.2.2)) cd M)) := by
  have hc := X.1.1
  have h1 : M 71 1 = (cd : Int) := X.1.2.1
  have h1m2 : M2 71 1 = (cd : Int) := X0.1.2.1
  have h1m : m 71 1 = (cd : Int) := by rw [← h1m2, ← hM2]; rfl
  have hO := X0.2.2.1
  have h0m : m cd 0 = M2 cd 0 := by rw [← hM2, put_ss, if_neg (by omega)]
  have hrF := X.2.2.2.2.2.2.2.2.2.1 x
  have hrW := X.2.2.2.2.2.2.2.2.2.2.1 x
  have hr6 := X.2.2.2.2.2.2.2.2.2.2.2
  have h0 : LBd (S.1, 0, S.2.2) n := hb
  have hj1 : ¬ i < 0 := by omega
  have hj2 : ¬ M2 cd 0 ≤ i := by omega
  generalize hS0 : ((S.1, 0, S.2.2) : lS) = S0 at *
  have c1 := fun D => C_41 (F := F) (L := L) (xs := xs) (d := D) (S := S0) (r := 3) (v := 8192 - WAc M cd x) X.1 (h0) (by omega) (by omega) (by omega)
  have c2 := fun D => P_39 (F := F) (L := L) (xs := xs) (d := D) (S := (eS (M 71 3) (cCo 3 (8192 - WAc M cd x)) S0)) (o := 4) (r := 2) (a := 3) (x := 7) X.1 (lb_e (wr := M 71 3) (ws := (cCo 3 (8192 - WAc M cd x))) (h0) (cCo_l)) (by omega) (by omega) (by omega) (by omega) (by omega) (by omega) (by omega)
  have c3 := fun D => P_39 (F := F) (L := L) (xs := xs) (d := D) (S := (eS (M 71 3) [wrd 4 2 3 (lw 4 7)] (eS (M 71 3) (cCo 3 (8192 - WAc M cd x)) S0))) (o := 11) (r := 2) (a := 0) (x := 2) X.1 (lb_e (wr := M 71 3) (ws := [wrd 4 2 3 (lw 4 7)]) (lb_e (wr := M 71 3) (ws := (cCo 3 (8192 - WAc M cd x))) (h0) (cCo_l)) (Nat.le_of_ble_eq_true rfl)) (by omega) (by omega) (by omega) (by omega) (by omega) (fun _ _ _ _ _ => rfl) (by omega)
  have c4 := fun D => P_39 (F := F) (L := L) (xs := xs) (d := D) (S := (eS (M 71 3) [wrd 11 2 0 (lw 11 2)] (eS (M 71 3) [wrd 4 2 3 (lw 4 7)] (eS (M 71 3) (cCo 3 (8192 - WAc M cd x)) S0)))) (o := 6) (r := 4) (a := 0) (x := -1) X.1 (lb_e (wr := M 71 3) (ws := [wrd 11 2 0 (lw 11 2)]) (lb_e (wr := M 71 3) (ws := [wrd 4 2 3 (lw 4 7)]) (lb_e (wr := M 71 3) (ws := (cCo 3 (8192 - WAc M cd x))) (h0) (cCo_l)) (Nat.le_of_ble_eq_true rfl)) (Nat.le_of_ble_eq_true rfl)) (by omega) (by omega) (by omega) (by omega) (by omega) (fun _ _ _ _ _ => rfl) (by omega)
  have c5 := fun D => P_39 (F := F) (L := L) (xs := xs) (d := D) (S := (eS (M 71 3) [wrd 6 4 0 (lw 6 (-1))] (eS (M 71 3) [wrd 11 2 0 (lw 11 2)] (eS (M 71 3) [wrd 4 2 3 (lw 4 7)] (eS (M 71 3) (cCo 3 (8192 - WAc M cd x)) S0))))) (o := 15) (r := 0) (a := 0) (x := 0) X.1 (lb_e (wr := M 71 3) (ws := [wrd 6 4 0 (lw 6 (-1))]) (lb_e (wr := M 71 3) (ws := [wrd 11 2 0 (lw 11 2)]) (lb_e (wr := M 71 3) (ws := [wrd 4 2 3 (lw 4 7)]) (lb_e (wr := M 71 3) (ws := (cCo 3 (8192 - WAc M cd x))) (h0) (cCo_l)) (Nat.le_of_ble_eq_true rfl)) (Nat.le_of_ble_eq_true rfl)) (Nat.le_of_ble_eq_true rfl)) (by omega) (by omega) (by omega) (by omega) (by omega) (fun _ _ _ _ _ => rfl) (by omega)
  have c6 := fun D => P_39 (F := F) (L := L) (xs := xs) (d := D) (S := (eS (M 71 3) [wrd 15 0 0 (lw 15 0)] (eS (M 71 3) [wrd 6 4 0 (lw 6 (-1))] (eS (M 71 3) [wrd 11 2 0 (lw 11 2)] (eS (M 71 3) [wrd 4 2 3 (lw 4 7)] (eS (M 71 3) (cCo 3 (8192 - WAc M cd x)) S0)))))) (o := 9) (r := 5) (a := 7) (x := 0) X.1 (lb_e (wr := M 71 3) (ws := [wrd 15 0 0 (lw 15 0)]) (lb_e (wr := M 71 3) (ws := [wrd 6 4 0 (lw 6 (-1))]) (lb_e (wr := M 71 3) (ws := [wrd 11 2 0 (lw 11 2)]) (lb_e (wr := M 71 3) (ws := [wrd 4 2 3 (lw 4 7)]) (lb_e (wr := M 71 3) (ws := (cCo 3 (8192 - WAc M cd x))) (h0) (cCo_l)) (Nat.le_of_ble_eq_true rfl)) (Nat.le_of_ble_eq_true rfl)) (Nat.le_of_ble_eq_true rfl)) (Nat.le_of_ble_eq_true rfl)) (by omega) (by omega) (by omega) (by omega) (by omega) (by omega) (by omega)
  have c7 := fun D => P_39 (F := F) (L := L) (xs := xs) (d := D) (S := (eS (M 71 3) [wrd 9 5 7 (lw 9 0)] (eS (M 71 3) [wrd 15 0 0 (lw 15 0)] (eS (M 71 3) [wrd 6 4 0 (lw 6 (-1))] (eS (M 71 3) [wrd 11 2 0 (lw 11 2)] (eS (M 71 3) [wrd 4 2 3 (lw 4 7)] (eS (M 71 3) (cCo 3 (8192 - WAc M cd x)) S0))))))) (o := 9) (r := 6) (a := 7) (x := 1) X.1 (lb_e (wr := M 71 3) (ws := [wrd 9 5 7 (lw 9 0)]) (lb_e (wr := M 71 3) (ws := [wrd 15 0 0 (lw 15 0)]) (lb_e (wr := M 71 3) (ws := [wrd 6 4 0 (lw 6 (-1))]) (lb_e (wr := M 71 3) (ws := [wrd 11 2 0 (lw 11 2)]) (lb_e (wr := M 71 3) (ws := [wrd 4 2 3 (lw 4 7)]) (lb_e (wr := M 71 3) (ws := (cCo 3 (8192 - WAc M cd x))) (h0) (cCo_l)) (Nat.le_of_ble_eq_true rfl)) (Nat.le_of_ble_eq_true rfl)) (Nat.le_of_ble_eq_true rfl)) (Nat.le_of_ble_eq_true rfl)) (Nat.le_of_ble_eq_true rfl)) (by omega) (by omega) (by omega) (by omega) (by omega) (by omega) (by omega)
  have c8 := fun D => P_39 (F := F) (L := L) (xs := xs) (d := D) (S := (eS (M 71 3) [wrd 9 6 7 (lw 9 1)] (eS (M 71 3) [wrd 9 5 7 (lw 9 0)] (eS (M 71 3) [wrd 15 0 0 (lw 15 0)] (eS (M 71 3) [wrd 6 4 0 (lw 6 (-1))] (eS (M 71 3) [wrd 11 2 0 (lw 11 2)] (eS (M 71 3) [wrd 4 2 3 (lw 4 7)] (eS (M 71 3) (cCo 3 (8192 - WAc M cd x)) S0)))))))) (o := 10) (r := 6) (a := 7) (x := -M 71 6) X.1 (lb_e (wr := M 71 3) (ws := [wrd 9 6 7 (lw 9 1)]) (lb_e (wr := M 71 3) (ws := [wrd 9 5 7 (lw 9 0)]) (lb_e (wr := M 71 3) (ws := [wrd 15 0 0 (lw 15 0)]) (lb_e (wr := M 71 3) (ws := [wrd 6 4 0 (lw 6 (-1))]) (lb_e (wr := M 71 3) (ws := [wrd 11 2 0 (lw 11 2)]) (lb_e (wr := M 71 3) (ws := [wrd 4 2 3 (lw 4 7)]) (lb_e (wr := M 71 3) (ws := (cCo 3 (8192 - WAc M cd x))) (h0) (cCo_l)) (Nat.le_of_ble_eq_true rfl)) (Nat.le_of_ble_eq_true rfl)) (Nat.le_of_ble_eq_true rfl)) (Nat.le_of_ble_eq_true rfl)) (Nat.le_of_ble_eq_true rfl)) (Nat.le_of_ble_eq_true rfl)) (by omega) (by omega) (by omega) (by omega) (by omega) (by omega) (by omega)
  have c9 := fun D => P_39 (F := F) (L := L) (xs := xs) (d := D) (S := (eS (M 71 3) [wrd 10 6 7 (lw 10 (-M 71 6))] (eS (M 71 3) [wrd 9 6 7 (lw 9 1)] (eS (M 71 3) [wrd 9 5 7 (lw 9 0)] (eS (M 71 3) [wrd 15 0 0 (lw 15 0)] (eS (M 71 3) [wrd 6 4 0 (lw 6 (-1))] (eS (M 71 3) [wrd 11 2 0 (lw 11 2)] (eS (M 71 3) [wrd 4 2 3 (lw 4 7)] (eS (M 71 3) (cCo 3 (8192 - WAc M cd x)) S0))))))))) (o := 10) (r := 7) (a := 7) (x := FRc M cd x - M 71 6) X.1 (lb_e (wr := M 71 3) (ws := [wrd 10 6 7 (lw 10 (-M 71 6))]) (lb_e (wr := M 71 3) (ws := [wrd 9 6 7 (lw 9 1)]) (lb_e (wr := M 71 3) (ws := [wrd 9 5 7 (lw 9 0)]) (lb_e (wr := M 71 3) (ws := [wrd 15 0 0 (lw 15 0)]) (lb_e (wr := M 71 3) (ws := [wrd 6 4 0 (lw 6 (-1))]) (lb_e (wr := M 71 3) (ws := [wrd 11 2 0 (lw 11 2)]) (lb_e (wr := M 71 3) (ws := [wrd 4 2 3 (lw 4 7)]) (lb_e (wr := M 71 3) (ws := (cCo 3 (8192 - WAc M cd x))) (h0) (cCo_l)) (Nat.le_of_ble_eq_true rfl)) (Nat.le_of_ble_eq_true rfl)) (Nat.le_of_ble_eq_true rfl)) (Nat.le_of_ble_eq_true rfl)) (Nat.le_of_ble_eq_true rfl)) (Nat.le_of_ble_eq_true rfl)) (Nat.le_of_ble_eq_true rfl)) (by omega) (by omega) (by omega) (by omega) (by omega) (by omega) (by omega)
  unfold o_0
  have ent : put (lyS S cd m) 71 5 i = ly S.1 S.2.1 S.2.2.1 S.2.2.2.1 S.2.2.2.2 cd M2 := by rw [← hM2]; exact lp_5
  have ent2 : put (ly S.1 S.2.1 S.2.2.1 S.2.2.2.1 S.2.2.2.2 cd M2) 71 7 0 = lyS S0 cd M2 := by rw [← hS0]; exact lp_g
  have ent3 : put (lyS S0 cd M2) 71 6 (PAc M2 cd x) = lyS S0 cd M := by rw [← hM]; exact lp_6
  simp (disch := omega) only [c_50, tr_50, c_54, tr_54, ev_0, ev_1, ev_16, ev_17, ev_18, ev_2, ev_3, ev_4, ev_5, ev_6, ev_7, ev_8, ev_9, ev_20, ev_21, ev_22, ev_23, ev_24, ev_25, ev_27, ev_28, ev_30, ev_31, ev_32, ev_33, ev_34, ev_35, ev_36, ev_37, ev_38, ev_39, ev_40, ev_41, ev_42, ev_43, ev_45, ev_46, ev_47, ev_48, ev_49, ev_50, ev_51, ev_52, ev_54, ev_55, ev_57, ev_58, ev_59, k2_0, k2_1, k2_2, k3a, k3b, k4, o1_s, xbin_0, xbin_1, xbin_2, xbin_3, xbin_4, xbin_5, xbin_6, xbin_7, xbin_8, xbin_9, xbin_11, xbin_12, xun_0, xun_1, xun_2, xun_3, xun_4, xun_5, k6a, k8, k8b, k9, k20, k20b_0, k20b_1, k20b_2, k20b_3, k20b_4, k20b_5, k21_0, k21_1, k21_2, k21_3, k21_4, k21_5, k23, k24, k25, k27, k28, k40, nz_1, nz_2, nz_3, k31_0, k31_1, k31_2, k31_3, k32u, k33, k34, k35, k35b, k36, k37, k38, k47, k49, k49b_0, k49b_1, k49b_2, k49b_3, k50_0, k50_s, k51_0, k51_s, k55, k58, k58b, rk_0, rk_1, rk_2, rk_9, rk_3, rk_4, rk_5, sw_n, sw_c, xtb_n, xtb_c, lset_0, lset_2, lset_1, lkm_0, lkm_2, lkm_9, lkm_1, lkm_n, if_some1, c_10, c_01, c_x0, c_1x, c_n0, c_nn, List.getElem?_cons_zero, List.getElem?_cons_succ, List.set_cons_zero, List.set_cons_succ, List.length_cons, List.length_nil, Int.reduceToNat, Nat.reduceDiv, Nat.reduceMod, Nat.reduceSub, Nat.reduceAdd, Nat.reduceMul, Nat.reduceLT, Nat.reduceLeDiff, Nat.reduceEqDiff, Int.reduceMod, Int.reduceSub, Int.reduceNeg, Int.reduceAdd, Int.reduceMul, Int.reduceLT, Int.reduceLE, Int.reduceEq, put_ss, if_true, if_false, ite_true, ite_false, reduceIte, eq_self, and_true, true_and, and_false, false_and, or_true, true_or, or_false, false_or, not_true_eq_false, not_false_eq_true, k5_71_1, k34_71_1, k5_71_5, k34_71_5, k5_71_7, k34_71_7, k54_71_7, k54b_71_7_0, k5_71_0, k5_71_6, k34_71_6, kc_0, kc_12, kc_1, kc_2, kc6_1, kc6_2, ly_1, ly_6, ly_o, h1, h1m, h1m2, h0m, hj1, hj2, ent, ent2, ent3, hop, hx, D_13 X0, D_14 X, D_15 X, w32_of, c1, c2, c3, c4, c5, c6, c7, c8, c9]
/-- one condition behind raises, k of them left -/
def mtS (wr c k : Int) (S : lS) : lS := eS wr [wrd 11 0 0 (lw 11 (3 * k - 2))] (eS wr [wrd 3 0 0 (lw 3 4)] (eS wr [wrd 6 0 0 (lw 6 c)] S))
def lvS (wr : Int) : List Int → lS → lS
  | [], S => S
  | c :: cs, S => lvS wr cs (mtS wr c ((c :: cs).length : Int) S)
theorem lb_m {wr c k : Int} {S : lS} {n : Nat} (h : LBd S n) : LBd (mtS wr c k S) (n + 3) := lb_e (lb_e (lb_e h (Nat.le_of_ble_eq_true rfl)) (Nat.le_of_ble_eq_true rfl)) (Nat.le_of_ble_eq_true rfl)
theorem lb_v {wr : Int} : ∀ (cs : List Int) (S : lS) (n : Nat), LBd S n → LBd (lvS wr cs S) (n + 3 * cs.length)
  | [], S, n, h => h
  | c :: cs, S, n, h => by
    have := lb_v (wr := wr) cs (mtS wr c ((c :: cs).length : Int) S) (n + 3) (lb_m h)
    rw [show n + 3 + 3 * cs.length = n + 3 * (c :: cs).length from by rw [List.length_cons]; omega] at this
    exact this
/-- the conditions behind the raises of a proc, as the class tells them -/
def rcL (m : Mem) (f : Int) : Nat → List Int
  | 0 => []
  | j + 1 => nmI m (m 65 f.toNat) :: rcL m (f + 1) j
theorem rcL_l (m : Mem) : ∀ (j : Nat) (f : Int), (rcL m f j).length = j
  | 0, f => rfl
  | j + 1, f => congrArg (· + 1) (rcL_l m j (f + 1))
theorem nmI_l (hc : cd = 83 ∨ cd = 93) : nmI (ly A g ch J W cd m) x = nmI m x := by
  unfold nmI
  rw [ly_o (by decide) (by decide) (by omega), ly_o (by decide) (by decide) (by omega)]
def o_L (m : Mem) (cs : List Int) (S : lS) : lS := (fun S => (eS (m 71 3) [wrd 13 5 5 (lw 13 0)] (eS (m 71 3) [wrd 10 6 3 (lw 10 0)] (eS (m 71 3) [wrd 10 7 6 (lw 10 0)] (eS (m 71 3) [wrd 8 3 6 (lw 8 (m 71 6 + 1))] (eS (m 71 3) [wrd 8 5 6 (lw 8 (m 71 6))] (eS (m 71 3) [wrd 6 4 0 (lw 6 5)] S))))))) (lvS (m 71 3) cs S)
theorem L_66 (X : LX cd M) (h4 : M 57 4 ≤ 1510) (hx : ∀ f : Int, -1000000 ≤ nmI M f ∧ nmI M f ≤ 1000000) : ∀ (j : Nat) (f to : Int) (S : lS) (n N : Nat), 0 ≤ f → f + j = to → to ≤ 1510 → LBd S n → n + 3 * j < 4900 → j < N → LF F (d + 2) la_66_0 lb_66_0 lc_66_0 N ([(2, 71), (0, x), (0, to), (0, f)], Hp L xs (lyS S cd M)) = some (0, [], ([(2, 71), (0, x), (0, to), (0, to)], Hp L xs (lyS (lvS (M 71 3) (rcL M f j) S) cd M))) := by
  intro j
  induction j with
  | zero =>
    intro f to S n N h0 h h2 hb hn hN
    obtain ⟨N, rfl⟩ : ∃ n', N = n' + 1 := ⟨N - 1, by omega⟩
    have e : f = to := by omega
    subst e
    rw [lf_s]
    simp (disch := omega) only [ea_66_0, eb_66_0, ec_66_0, l1_i, l1_1, l1_0, l2_0, l2_1, l2_2, l2_3, l3_0, w2_0, w2_1, w2_2, w2_3, d1_0, d1_1, d1_2, d1_3, d2_i, d2_1, d2_0, ev_0, ev_1, ev_16, ev_17, ev_18, ev_2, ev_3, ev_4, ev_5, ev_6, ev_7, ev_8, ev_9, ev_20, ev_21, ev_22, ev_23, ev_24, ev_25, ev_27, ev_28, ev_30, ev_31, ev_32, ev_33, ev_34, ev_35, ev_36, ev_37, ev_38, ev_39, ev_40, ev_41, ev_42, ev_43, ev_45, ev_46, ev_47, ev_48, ev_49, ev_50, ev_51, ev_52, ev_54, ev_55, ev_57, ev_58, ev_59, k2_0, k2_1, k2_2, k3a, k3b, k4, o1_s, xbin_0, xbin_1, xbin_2, xbin_3, xbin_4, xbin_5, xbin_6, xbin_7, xbin_8, xbin_9, xbin_11, xbin_12, xun_0, xun_1, xun_2, xun_3, xun_4, xun_5, k6a, k8, k8b, k9, k20, k20b_0, k20b_1, k20b_2, k20b_3, k20b_4, k20b_5, k21_0, k21_1, k21_2, k21_3, k21_4, k21_5, k23, k24, k25, k27, k28, k40, nz_1, nz_2, nz_3, k31_0, k31_1, k31_2, k31_3, k32u, k33, k34, k35, k35b, k36, k37, k38, k47, k49, k49b_0, k49b_1, k49b_2, k49b_3, k50_0, k50_s, k51_0, k51_s, k55, k58, k58b, rk_0, rk_1, rk_2, rk_9, rk_3, rk_4, rk_5, sw_n, sw_c, xtb_n, xtb_c, lset_0, lset_2, lset_1, lkm_0, lkm_2, lkm_9, lkm_1, lkm_n, if_some1, c_10, c_01, c_x0, c_1x, c_n0, c_nn, List.getElem?_cons_zero, List.getElem?_cons_succ, List.set_cons_zero, List.set_cons_succ, List.length_cons, List.length_nil, Int.reduceToNat, Nat.reduceDiv, Nat.reduceMod, Nat.reduceSub, Nat.reduceAdd, Nat.reduceMul, Nat.reduceLT, Nat.reduceLeDiff, Nat.reduceEqDiff, Int.reduceMod, Int.reduceSub, Int.reduceNeg, Int.reduceAdd, Int.reduceMul, Int.reduceLT, Int.reduceLE, Int.reduceEq, put_ss, if_true, if_false, ite_true, ite_false, reduceIte, eq_self, and_true, true_and, and_false, false_and, or_true, true_or, or_false, false_or, not_true_eq_false, not_false_eq_true, Int.lt_irrefl]
    rfl
  | succ j ih =>
    intro f to S n N h0 h h2 hb hn hN
    obtain ⟨N, rfl⟩ : ∃ n', N = n' + 1 := ⟨N - 1, by omega⟩
    have hc := X.1.1
    have hk : f < to := by omega
    have c1 := ih (f + 1) to (mtS (M 71 3) (nmI M (M 65 f.toNat)) ((rcL M f (j + 1)).length : Int) S) (n + 3) N (by omega) (by omega) h2 (lb_m hb) (by omega) (by omega)
    have e1 : lvS (M 71 3) (rcL M f (j + 1)) S = lvS (M 71 3) (rcL M (f + 1) j) (mtS (M 71 3) (nmI M (M 65 f.toNat)) ((rcL M f (j + 1)).length : Int) S) := rfl
    rw [e1]
    have el : ((rcL M f (j + 1)).length : Int) = to - f := by rw [rcL_l]; omega
    rw [el] at c1 ⊢
    obtain ⟨x1, x2⟩ := hx (M 65 f.toNat)
    have e65 : ∀ k, ly S.1 S.2.1 S.2.2.1 S.2.2.2.1 S.2.2.2.2 cd M 65 k = M 65 k := fun k => ly_o (by decide) (by decide) (by omega)
    have c2 : ∀ D, Cx F (D + 1) 150 [57, M 65 f.toNat] (Hp L xs (lyS S cd M)) = some ([nmI M (M 65 f.toNat)], Hp L xs (lyS S cd M)) := fun D => by
      have := C_150 (F := F) (L := L) (xs := xs) (d := D) (m := lyS S cd M) (a1 := M 65 f.toNat) (by rw [show lyS S cd M 57 4 = M 57 4 from ly_o (by decide) (by decide) (by omega)]; exact h4)
      rw [nmI_l hc] at this
      exact this
    generalize nmI M (M 65 f.toNat) = c at *
    have p1 := fun D => P_39 (F := F) (L := L) (xs := xs) (d := D) (S := S) (o := 6) (r := 0) (a := 0) (x := c) X.1 hb (by omega) (by omega) (by omega) (by omega) (by omega) (fun _ _ _ _ _ => rfl) (by omega)
    have hb1 := lb_e (wr := M 71 3) (ws := [wrd 6 0 0 (lw 6 c)]) hb (Nat.le_of_ble_eq_true rfl)
    have p2 := fun D => P_39 (F := F) (L := L) (xs := xs) (d := D) (S := eS (M 71 3) [wrd 6 0 0 (lw 6 c)] S) (o := 3) (r := 0) (a := 0) (x := 4) X.1 hb1 (by omega) (by omega) (by omega) (by omega) (by omega) (fun _ _ _ _ _ => rfl) (by omega)
    have hb2 := lb_e (wr := M 71 3) (ws := [wrd 3 0 0 (lw 3 4)]) hb1 (Nat.le_of_ble_eq_true rfl)
    have p3 := fun D => P_39 (F := F) (L := L) (xs := xs) (d := D) (S := eS (M 71 3) [wrd 3 0 0 (lw 3 4)] (eS (M 71 3) [wrd 6 0 0 (lw 6 c)] S)) (o := 11) (r := 0) (a := 0) (x := 3 * (to - f) - 2) X.1 hb2 (by omega) (by omega) (by omega) (by omega) (by omega) (fun _ _ _ _ _ => rfl) (by omega)
    unfold mtS at c1
    rw [lf_s]
    simp (disch := omega) only [ea_66_0, eb_66_0, ec_66_0, c_65, tr_65, l1_i, l1_1, l1_0, l2_0, l2_1, l2_2, l2_3, l3_0, w2_0, w2_1, w2_2, w2_3, d1_0, d1_1, d1_2, d1_3, d2_i, d2_1, d2_0, ev_0, ev_1, ev_16, ev_17, ev_18, ev_2, ev_3, ev_4, ev_5, ev_6, ev_7, ev_8, ev_9, ev_20, ev_21, ev_22, ev_23, ev_24, ev_25, ev_27, ev_28, ev_30, ev_31, ev_32, ev_33, ev_34, ev_35, ev_36, ev_37, ev_38, ev_39, ev_40, ev_41, ev_42, ev_43, ev_45, ev_46, ev_47, ev_48, ev_49, ev_50, ev_51, ev_52, ev_54, ev_55, ev_57, ev_58, ev_59, k2_0, k2_1, k2_2, k3a, k3b, k4, o1_s, xbin_0, xbin_1, xbin_2, xbin_3, xbin_4, xbin_5, xbin_6, xbin_7, xbin_8, xbin_9, xbin_11, xbin_12, xun_0, xun_1, xun_2, xun_3, xun_4, xun_5, k6a, k8, k8b, k9, k20, k20b_0, k20b_1, k20b_2, k20b_3, k20b_4, k20b_5, k21_0, k21_1, k21_2, k21_3, k21_4, k21_5, k23, k24, k25, k27, k28, k40, nz_1, nz_2, nz_3, k31_0, k31_1, k31_2, k31_3, k32u, k33, k34, k35, k35b, k36, k37, k38, k47, k49, k49b_0, k49b_1, k49b_2, k49b_3, k50_0, k50_s, k51_0, k51_s, k55, k58, k58b, rk_0, rk_1, rk_2, rk_9, rk_3, rk_4, rk_5, sw_n, sw_c, xtb_n, xtb_c, lset_0, lset_2, lset_1, lkm_0, lkm_2, lkm_9, lkm_1, lkm_n, if_some1, c_10, c_01, c_x0, c_1x, c_n0, c_nn, List.getElem?_cons_zero, List.getElem?_cons_succ, List.set_cons_zero, List.set_cons_succ, List.length_cons, List.length_nil, Int.reduceToNat, Nat.reduceDiv, Nat.reduceMod, Nat.reduceSub, Nat.reduceAdd, Nat.reduceMul, Nat.reduceLT, Nat.reduceLeDiff, Nat.reduceEqDiff, Int.reduceMod, Int.reduceSub, Int.reduceNeg, Int.reduceAdd, Int.reduceMul, Int.reduceLT, Int.reduceLE, Int.reduceEq, put_ss, if_true, if_false, ite_true, ite_false, reduceIte, eq_self, and_true, true_and, and_false, false_and, or_true, true_or, or_false, false_or, not_true_eq_false, not_false_eq_true, k5_71_0, k5_57_12, k6_65, k35_65, n_65, e65, hk, c2, p1, p2, p3, w32_of, c1]
    rfl
theorem O_26 (X : LX cd M) (hM : put m 71 5 i = M) (hF : 100000 ≤ F) (hb : LBd S n) (hn : n < 3000) (hi : 0 ≤ i) (hi2 : i < M cd 0) (hop : M (cd + 1) i.toNat = 26) (hx : M (cd + 2) i.toNat = x) (h4 : M 57 4 ≤ 1510) (hnm : ∀ f : Int, -1000000 ≤ nmI M f ∧ nmI M f ≤ 1000000) (hp : 0 ≤ x ∧ x < M 57 7) (h7 : M 57 7 ≤ 300) (hf : 0 ≤ M 66 x.toNat) (ht : M 66 (x + 1).toNat ≤ M 57 14) (hft : M 66 x.toNat ≤ M 66 (x + 1).toNat) (ht2 : M 66 (x + 1).toNat ≤ 300) : Cx F (d + 10) 50 [71, i] (Hp L xs (lyS S cd m)) = some ([], Hp L xs (lyS (o_L M (rcL M (M 66 x.toNat) (M 66 (x + 1).toNat - M 66 x.toNat).toNat) (S.1, 0, S.2.2)) cd M)) := by
  have hc := X.1.1
  have h1 : M 71 1 = (cd : Int) := X.1.2.1
  have h1m : m 71 1 = (cd : Int) := by rw [← h1, ← hM]; rfl
  have hO := X.2.2.1
  have h0m : m cd 0 = M cd 0 := by rw [← hM, put_ss, if_neg (by omega)]
  have hr6 := X.2.2.2.2.2.2.2.2.2.2.2
  have hb0 : LBd (S.1, 0, S.2.2) n := hb
  have hj1 : ¬ i < 0 := by omega
  have hj2 : ¬ M cd 0 ≤ i := by omega
  obtain ⟨p0, p1⟩ := hp
  generalize hS1 : ((S.1, 0, S.2.2) : lS) = S1 at *
  generalize hf0 : M 66 x.toNat = f at *
  generalize ht0 : M 66 (x + 1).toNat = to at *
  have y1 := fun D => L_66 (F := F) (L := L) (xs := xs) (d := D) (x := x) X h4 hnm (to - f).toNat f to S1 n F hf (by omega) (by omega) hb0 (by omega) (by omega)
  have hb1 := lb_v (wr := M 71 3) (rcL M f (to - f).toNat) S1 n hb0
  rw [rcL_l] at hb1
  have h0 : LBd (lvS (M 71 3) (rcL M f (to - f).toNat) S1) (n + 3 * (to - f).toNat) := hb1
  unfold o_L
  generalize lvS (M 71 3) (rcL M f (to - f).toNat) S1 = S0 at *
  have c1 := fun D => P_39 (F := F) (L := L) (xs := xs) (d := D) (S := S0) (o := 6) (r := 4) (a := 0) (x := 5) X.1 (h0) (by omega) (by omega) (by omega) (by omega) (by omega) (fun _ _ _ _ _ => rfl) (by omega)
  have c2 := fun D => P_39 (F := F) (L := L) (xs := xs) (d := D) (S := (eS (M 71 3) [wrd 6 4 0 (lw 6 5)] S0)) (o := 8) (r := 5) (a := 6) (x := M 71 6) X.1 (lb_e (wr := M 71 3) (ws := [wrd 6 4 0 (lw 6 5)]) (h0) (Nat.le_of_ble_eq_true rfl)) (by omega) (by omega) (by omega) (by omega) (by omega) (by omega) (by omega)
  have c3 := fun D => P_39 (F := F) (L := L) (xs := xs) (d := D) (S := (eS (M 71 3) [wrd 8 5 6 (lw 8 (M 71 6))] (eS (M 71 3) [wrd 6 4 0 (lw 6 5)] S0))) (o := 8) (r := 3) (a := 6) (x := M 71 6 + 1) X.1 (lb_e (wr := M 71 3) (ws := [wrd 8 5 6 (lw 8 (M 71 6))]) (lb_e (wr := M 71 3) (ws := [wrd 6 4 0 (lw 6 5)]) (h0) (Nat.le_of_ble_eq_true rfl)) (Nat.le_of_ble_eq_true rfl)) (by omega) (by omega) (by omega) (by omega) (by omega) (by omega) (by omega)
  have c4 := fun D => P_39 (F := F) (L := L) (xs := xs) (d := D) (S := (eS (M 71 3) [wrd 8 3 6 (lw 8 (M 71 6 + 1))] (eS (M 71 3) [wrd 8 5 6 (lw 8 (M 71 6))] (eS (M 71 3) [wrd 6 4 0 (lw 6 5)] S0)))) (o := 10) (r := 7) (a := 6) (x := 0) X.1 (lb_e (wr := M 71 3) (ws := [wrd 8 3 6 (lw 8 (M 71 6 + 1))]) (lb_e (wr := M 71 3) (ws := [wrd 8 5 6 (lw 8 (M 71 6))]) (lb_e (wr := M 71 3) (ws := [wrd 6 4 0 (lw 6 5)]) (h0) (Nat.le_of_ble_eq_true rfl)) (Nat.le_of_ble_eq_true rfl)) (Nat.le_of_ble_eq_true rfl)) (by omega) (by omega) (by omega) (by omega) (by omega) (by omega) (by omega)
  have c5 := fun D => P_39 (F := F) (L := L) (xs := xs) (d := D) (S := (eS (M 71 3) [wrd 10 7 6 (lw 10 0)] (eS (M 71 3) [wrd 8 3 6 (lw 8 (M 71 6 + 1))] (eS (M 71 3) [wrd 8 5 6 (lw 8 (M 71 6))] (eS (M 71 3) [wrd 6 4 0 (lw 6 5)] S0))))) (o := 10) (r := 6) (a := 3) (x := 0) X.1 (lb_e (wr := M 71 3) (ws := [wrd 10 7 6 (lw 10 0)]) (lb_e (wr := M 71 3) (ws := [wrd 8 3 6 (lw 8 (M 71 6 + 1))]) (lb_e (wr := M 71 3) (ws := [wrd 8 5 6 (lw 8 (M 71 6))]) (lb_e (wr := M 71 3) (ws := [wrd 6 4 0 (lw 6 5)]) (h0) (Nat.le_of_ble_eq_true rfl)) (Nat.le_of_ble_eq_true rfl)) (Nat.le_of_ble_eq_true rfl)) (Nat.le_of_ble_eq_true rfl)) (by omega) (by omega) (by omega) (by omega) (by omega) (by omega) (by omega)
  have c6 := fun D => P_39 (F := F) (L := L) (xs := xs) (d := D) (S := (eS (M 71 3) [wrd 10 6 3 (lw 10 0)] (eS (M 71 3) [wrd 10 7 6 (lw 10 0)] (eS (M 71 3) [wrd 8 3 6 (lw 8 (M 71 6 + 1))] (eS (M 71 3) [wrd 8 5 6 (lw 8 (M 71 6))] (eS (M 71 3) [wrd 6 4 0 (lw 6 5)] S0)))))) (o := 13) (r := 5) (a := 5) (x := 0) X.1 (lb_e (wr := M 71 3) (ws := [wrd 10 6 3 (lw 10 0)]) (lb_e (wr := M 71 3) (ws := [wrd 10 7 6 (lw 10 0)]) (lb_e (wr := M 71 3) (ws := [wrd 8 3 6 (lw 8 (M 71 6 + 1))]) (lb_e (wr := M 71 3) (ws := [wrd 8 5 6 (lw 8 (M 71 6))]) (lb_e (wr := M 71 3) (ws := [wrd 6 4 0 (lw 6 5)]) (h0) (Nat.le_of_ble_eq_true rfl)) (Nat.le_of_ble_eq_true rfl)) (Nat.le_of_ble_eq_true rfl)) (Nat.le_of_ble_eq_true rfl)) (Nat.le_of_ble_eq_true rfl)) (by omega) (by omega) (by omega) (by omega) (by omega) (by omega) (by omega)
  have ent : put (lyS S cd m) 71 5 i = ly S.1 S.2.1 S.2.2.1 S.2.2.2.1 S.2.2.2.2 cd M := by rw [← hM]; exact lp_5
  have ent2 : put (ly S.1 S.2.1 S.2.2.1 S.2.2.2.1 S.2.2.2.2 cd M) 71 7 0 = lyS S1 cd M := by rw [← hS1]; exact lp_g
  have e66 : ∀ k, ly S1.1 S1.2.1 S1.2.2.1 S1.2.2.2.1 S1.2.2.2.2 cd M 66 k = M 66 k := fun k => ly_o (by decide) (by decide) (by omega)
  have e57 : ∀ k, ly S1.1 S1.2.1 S1.2.2.1 S1.2.2.2.1 S1.2.2.2.2 cd M 57 k = M 57 k := fun k => ly_o (by decide) (by decide) (by omega)
  have em : imin to (M 57 14) = to := if_pos ht
  have ex : imax f 0 = f := by unfold imax; split <;> omega
  simp (disch := omega) only [c_50, tr_50, c_66, tx_66, c_64, tr_64, ev_0, ev_1, ev_16, ev_17, ev_18, ev_2, ev_3, ev_4, ev_5, ev_6, ev_7, ev_8, ev_9, ev_20, ev_21, ev_22, ev_23, ev_24, ev_25, ev_27, ev_28, ev_30, ev_31, ev_32, ev_33, ev_34, ev_35, ev_36, ev_37, ev_38, ev_39, ev_40, ev_41, ev_42, ev_43, ev_45, ev_46, ev_47, ev_48, ev_49, ev_50, ev_51, ev_52, ev_54, ev_55, ev_57, ev_58, ev_59, k2_0, k2_1, k2_2, k3a, k3b, k4, o1_s, xbin_0, xbin_1, xbin_2, xbin_3, xbin_4, xbin_5, xbin_6, xbin_7, xbin_8, xbin_9, xbin_11, xbin_12, xun_0, xun_1, xun_2, xun_3, xun_4, xun_5, k6a, k8, k8b, k9, k20, k20b_0, k20b_1, k20b_2, k20b_3, k20b_4, k20b_5, k21_0, k21_1, k21_2, k21_3, k21_4, k21_5, k23, k24, k25, k27, k28, k40, nz_1, nz_2, nz_3, k31_0, k31_1, k31_2, k31_3, k32u, k33, k34, k35, k35b, k36, k37, k38, k47, k49, k49b_0, k49b_1, k49b_2, k49b_3, k50_0, k50_s, k51_0, k51_s, k55, k58, k58b, rk_0, rk_1, rk_2, rk_9, rk_3, rk_4, rk_5, sw_n, sw_c, xtb_n, xtb_c, lset_0, lset_2, lset_1, lkm_0, lkm_2, lkm_9, lkm_1, lkm_n, if_some1, c_10, c_01, c_x0, c_1x, c_n0, c_nn, List.getElem?_cons_zero, List.getElem?_cons_succ, List.set_cons_zero, List.set_cons_succ, List.length_cons, List.length_nil, Int.reduceToNat, Nat.reduceDiv, Nat.reduceMod, Nat.reduceSub, Nat.reduceAdd, Nat.reduceMul, Nat.reduceLT, Nat.reduceLeDiff, Nat.reduceEqDiff, Int.reduceMod, Int.reduceSub, Int.reduceNeg, Int.reduceAdd, Int.reduceMul, Int.reduceLT, Int.reduceLE, Int.reduceEq, put_ss, if_true, if_false, ite_true, ite_false, reduceIte, eq_self, and_true, true_and, and_false, false_and, or_true, true_or, or_false, false_or, not_true_eq_false, not_false_eq_true, k5_71_1, k34_71_1, k5_71_5, k34_71_5, k5_71_7, k34_71_7, k54_71_7, k54b_71_7_0, k5_71_0, k5_71_6, k34_71_6, k5_57_13, k6_66, k35_66, n_66, k5_57_14, k34_57_14, k54_57_14, k54b_57_14_0, k5_57_7, k34_57_7, k54_57_7, k54b_57_7_0, kc_0, kc_12, kc_1, kc_2, kc6_1, kc6_2, ly_1, ly_6, ly_o, h1, h1m, h0m, hj1, hj2, ent, ent2, hop, hx, p0, p1, e66, e57, hf0, ht0, C_344, C_343, em, ex, y1, w32_of, c1, c2, c3, c4, c5, c6]
end Ord2
