/-! THE MODEL'S SECOND WALK: expressions over the trees, the frame of it -/
def nxP (m : Mem) (p : Int) : Int := if m 158 15 = 0 then p + 1 else p
section Rsp
variable {F L d : Nat} {m : Mem} {xs : Nat → Int32} {p dep a1 c : Int}
theorem R_212 (U : WU m) (hp : 0 ≤ p ∧ p < 3001) : Cx F (d + 1) 212 [158] (Hp L xs (rv p dep m)) = some ([], Hp L xs (rv (nxP m p) dep m)) := by
  unfold nxP
  rcases U.2.2.2.2.2.1 with hb | hb
  · rw [if_pos hb]; exact N_212 hb hp
  · rw [if_neg (by omega)]; exact B_212 (m := rv p dep m) hb
theorem R_213 (U : WU m) (hp : 0 ≤ p ∧ p < 3001) (hs : 33 ≤ a1 ∧ a1 ≤ 255 ∨ 300 ≤ a1 ∧ a1 ≤ 303) (hT : m 158 15 = 0 → TR (sgn a1) (m 161 p.toNat) (m 163 p.toNat)) : Cx F (d + 3) 213 [158, a1] (Hp L xs (rv p dep m)) = some ([], Hp L xs (rv (nxP m p) dep m)) := by
  unfold nxP
  rcases U.2.2.2.2.2.1 with hb | hb
  · rw [if_pos hb]; exact N_213 hb hp (hT hb) hs rfl
  · rw [if_neg (by omega)]; exact B_213 (m := rv p dep m) hb hp
theorem R_216 (U : WU m) (hd : 0 ≤ dep ∧ dep < 30) : Cx F (d + 3) 216 [158] (Hp L xs (rv p dep m)) = some ([], Hp L xs (rv p (dep + 1) m)) := by
  rcases U.2.2.2.2.2.1 with hb | hb
  · exact N_216 hb hd
  · have h1 := B_216 (F := F) (L := L) (xs := xs) (d := d + 2) (m := rv p dep m) hb
    rw [h1, rp_d, rv_d, w32_of (by omega) (by omega)]
theorem N_209y (hb : m 158 15 = 0) (hp : 0 ≤ p ∧ p < 3001) (hs : 33 ≤ a1 ∧ a1 ≤ 255 ∨ 300 ≤ a1 ∧ a1 ≤ 303) (hT : TR (sgn a1) (m 161 p.toNat) (m 163 p.toNat)) : Cx F (d + 1) 209 [158, a1] (Hp L xs (rv p dep m)) = some ([1], Hp L xs (rv p dep m)) := by
  rw [N_209 hb hp hT hs, if_pos rfl]
theorem N_209n (hb : m 158 15 = 0) (hp : 0 ≤ p ∧ p < 3001) (hT : TR c (m 161 p.toNat) (m 163 p.toNat)) (hs : 33 ≤ a1 ∧ a1 ≤ 255 ∨ 300 ≤ a1 ∧ a1 ≤ 303) (hc : ¬ c = sgn a1) : Cx F (d + 1) 209 [158, a1] (Hp L xs (rv p dep m)) = some ([0], Hp L xs (rv p dep m)) := by
  rw [N_209 hb hp hT hs, if_neg hc]
end Rsp
def En (K : Int → Int) (e : Int) (m : Mem) : Prop := WU m ∧ (∀ c, 0 ≤ topK m c → 0 ≤ inX m c ∧ inX m c < 1600) ∧ (∀ j, 0 ≤ j → j ≤ e → TR (K j) (m 161 j.toNat) (m 163 j.toNat))
theorem En_Fm {K : Int → Int} {e n : Int} {m m' : Mem} (N : En K e m) (f : Fm m m' n) (h : m 158 41 + n < 11900) : En K e m' := by
  refine ⟨WU_Fm N.1 f h, fun c hc => ?_, fun j h0 h1 => TR_Fm f (N.2.2 j h0 h1)⟩
  rw [topK_Fm f] at hc
  rw [inX_Fm f]
  exact N.2.1 c hc
theorem En_b {K : Int → Int} {e : Int} {m : Mem} (N : En K e m) : m 158 15 = 0 ∨ m 158 15 = 1 := N.1.2.2.2.2.2.1
/-- the claim of a construct of kind nt that method i walks -/
def Qm (i c nt : Nat) (F : Nat) (K : Int → Int) (e : Int) (t : xT) : Prop := ∀ (V : Int → Int) (dep p q : Int), P K V t nt dep p q → 0 ≤ dep → dep ≤ 30 → 0 ≤ p → q ≤ e → ∀ (L : Nat) (xs : Nat → Int32) (d : Nat) (m : Mem) (pos : Int), En K e m → m 158 41 + (q - p) < 11900 → 0 ≤ pos → pos ≤ e → (m 158 15 = 0 → pos = p) → 8 * (31 - dep).toNat + c ≤ d → ∃ p', 0 ≤ p' ∧ p' ≤ e ∧ (eM t m 158 15 = 0 → p' = q) ∧ Cx F (d + 10) i [158] (Hp L xs (rv pos dep m)) = some ([], Hp L xs (rv p' dep (eM t m)))
def QmS (F : Nat) (K : Int → Int) (e : Int) (t : xT) : Prop := ∀ (V : Int → Int) (dep p q : Int), P K V t 2 dep p q → 0 ≤ dep → dep ≤ 30 → 0 ≤ p → q ≤ e → ∀ (L : Nat) (xs : Nat → Int32) (d : Nat) (m : Mem) (pos : Int) (z : Nat × Int) (n : Nat), En K e m → m 158 41 + (q - p) < 11900 → 0 ≤ pos → pos ≤ e → (m 158 15 = 0 → pos = p) → 8 * (31 - dep).toNat + 5 ≤ d → (z.1 = 9 ∨ z.1 = 0) → e - p < n → ∃ p' z', 0 ≤ p' ∧ p' ≤ e ∧ (eM t m 158 15 = 0 → p' = q) ∧ LF F (d + 10) la_237_0 lb_237_0 lc_237_0 n ([(2, 158), z], Hp L xs (rv pos dep m)) = some (0, [], ([(2, 158), z'], Hp L xs (rv p' dep (eM t m))))
def QmT (F : Nat) (K : Int → Int) (e : Int) (t : xT) : Prop := ∀ (V : Int → Int) (dep p q : Int), P K V t 4 dep p q → 0 ≤ dep → dep ≤ 30 → 0 ≤ p → q ≤ e → ∀ (L : Nat) (xs : Nat → Int32) (d : Nat) (m : Mem) (pos : Int) (z : Nat × Int) (n : Nat), En K e m → m 158 41 + (q - p) < 11900 → 0 ≤ pos → pos ≤ e → (m 158 15 = 0 → pos = p) → 8 * (31 - dep).toNat + 4 ≤ d → (z.1 = 9 ∨ z.1 = 0) → e - p < n → ∃ p' z', 0 ≤ p' ∧ p' ≤ e ∧ (eM t m 158 15 = 0 → p' = q) ∧ LF F (d + 10) la_238_0 lb_238_0 lc_238_0 n ([(2, 158), z], Hp L xs (rv pos dep m)) = some (0, [], ([(2, 158), z'], Hp L xs (rv p' dep (eM t m))))
def QmA (F : Nat) (K : Int → Int) (e : Int) (t : xT) : Prop := ∀ (V : Int → Int) (dep p q : Int), P K V t 7 dep p q → 0 ≤ dep → dep ≤ 30 → 0 ≤ p → q ≤ e → ∀ (L : Nat) (xs : Nat → Int32) (d : Nat) (m : Mem) (pos u w g : Int) (n : Nat), En K e m → m 158 41 + (q - p) < 11900 → 0 ≤ pos → pos ≤ e → (m 158 15 = 0 → pos = p) → 8 * (31 - dep).toNat + 7 ≤ d → e - p < n → 0 ≤ g → g ≤ p → ∃ p' g', 0 ≤ p' ∧ p' ≤ e ∧ (eM t m 158 15 = 0 → p' = q - 1 ∧ g' = g + nA t) ∧ LF F (d + 10) la_241_0 lb_241_0 lc_241_0 n ([(2, 158), (0, u), (0, w), (0, g)], Hp L xs (rv pos dep m)) = some (0, [], ([(2, 158), (0, u), (0, w), (0, g')], Hp L xs (rv p' dep (eM t m))))
/-- a call of the name at u -/
def caM (u : Int) (t : xT) (m : Mem) : Mem := emH (thM (eM t (clM m u)) u (clV m u) (nA t)) 17 (clV m u) (w32 (1 - (thM (eM t (clM m u)) u (clV m u) (nA t)) 170 (clV m u).toNat))
def QmC (F : Nat) (K : Int → Int) (e : Int) (t : xT) : Prop := ∀ (V : Int → Int) (dep p q u : Int), P K V t 6 dep p q → 0 ≤ dep → dep ≤ 30 → 0 ≤ p → q ≤ e → 0 ≤ u → u ≤ e → ∀ (L : Nat) (xs : Nat → Int32) (d : Nat) (m : Mem), En K e m → m 158 41 + (q - p) < 11900 → m 158 15 = 0 → 8 * (31 - dep).toNat + 1 ≤ d → ∃ p', 0 ≤ p' ∧ p' ≤ e ∧ (caM u t m 158 15 = 0 → p' = q) ∧ Cx F (d + 10) 241 [158, u] (Hp L xs (rv p dep m)) = some ([], Hp L xs (rv p' dep (caM u t m)))
theorem emG_nb {m : Mem} {o a l u : Int} {z : Bool} (h : m 158 15 = 0 ∨ m 158 15 = 1) (g : emG m o a l u z 158 15 = 0) : m 158 15 = 0 := by
  rcases h with h | h
  · exact h
  · rw [emG_b h] at g; exact g
theorem cm_n {c : Int} (h : cmpOf c = -1) : ¬ c = 60 ∧ ¬ c = 62 ∧ ¬ c = 317 ∧ ¬ c = 289 ∧ ¬ c = 316 ∧ ¬ c = 318 := by
  unfold cmpOf at h
  omega
theorem cm_y {c i : Int} (h : cmpOf c = i) (hi : i ≠ -1) : (i = 0 ∧ c = 60) ∨ (i = 1 ∧ c = 62) ∨ (i = 2 ∧ c = 316) ∨ (i = 3 ∧ c = 318) ∨ (i = 4 ∧ c = 317) ∨ (i = 5 ∧ c = 289) := by
  unfold cmpOf at h
  omega
section QmL
variable {F : Nat} {K : Int → Int} {e : Int}
theorem QmS_ok {t : xT} (he : e < 3000) (hF : 100000 ≤ F) (hX : ∀ a, tsz a < tsz t → Qm 238 5 3 F K e a) (hT : ∀ a, tsz a < tsz t → QmS F K e a) : Qm 237 6 1 F K e t := by
  intro V dep p q h hd0 hd1 hp hq L xs d m pos N hn hp0 hp1 hpos hd
  rcases En_b N with hb | hb
  · have hpp := hpos hb
    subst hpp
    obtain ⟨i, a, b, rfl, r, h1, h3⟩ := inv_1 h
    have l1 := P_le a h1
    have l2 := P_le b h3
    have sa : tsz a < tsz (nd 3 i a b) := by rw [tsz_nd]; omega
    have sb : tsz b < tsz (nd 3 i a b) := by rw [tsz_nd]; omega
    obtain ⟨d, rfl⟩ : ∃ d', d = d' + 1 := ⟨d - 1, by omega⟩
    obtain ⟨p1, k1, k2, k3, c1⟩ := hX a sa V dep pos r h1 hd0 hd1 hp (by omega) L xs d m pos N (by omega) hp0 hp1 (fun _ => rfl) (by omega)
    have f1 := Fm_eM (tsz a + 1) a (by omega) _ _ _ _ (by decide) h1 m (En_b N)
    have N1 := En_Fm N f1 (by omega)
    have f41 := f1.2.2.2.1
    obtain ⟨p2, z2, j1, j2, j3, c2⟩ := hT b sb V dep r q h3 hd0 hd1 (by omega) hq L xs d (eM a m) p1 (9, 0) F N1 (by omega) k1 k2 k3 (by omega) (Or.inl rfl) (by omega)
    refine ⟨p2, j1, j2, j3, ?_⟩
    have e1 : eM (nd 3 i a b) m = eM b (eM a m) := rfl
    rw [e1]
    simp (disch := first | omega | assumption) only [c_237, tx_237, ev_0, ev_1, ev_16, ev_17, ev_18, ev_2, ev_3, ev_4, ev_5, ev_6, ev_7, ev_8, ev_9, ev_20, ev_21, ev_22, ev_23, ev_24, ev_25, ev_27, ev_28, ev_30, ev_31, ev_32, ev_33, ev_34, ev_35, ev_36, ev_37, ev_38, ev_39, ev_40, ev_41, ev_42, ev_43, ev_45, ev_46, ev_47, ev_48, ev_49, ev_50, ev_51, ev_52, ev_54, ev_55, ev_57, ev_58, ev_59, k2_0, k2_1, k2_2, k3a, k3b, k4, o1_s, xbin_0, xbin_1, xbin_2, xbin_3, xbin_4, xbin_5, xbin_6, xbin_7, xbin_8, xbin_9, xbin_11, xbin_12, xun_0, xun_1, xun_2, xun_3, xun_4, xun_5, k6a, k8, k8b, k9, k20, k20b_0, k20b_1, k20b_2, k20b_3, k20b_4, k20b_5, k21_0, k21_1, k21_2, k21_3, k21_4, k21_5, k23, k24, k25, k27, k28, k40, nz_1, nz_2, nz_3, k31_0, k31_1, k31_2, k31_3, k32u, k33, k34, k35, k35b, k36, k37, k38, k47, k49, k49b_0, k49b_1, k49b_2, k49b_3, k50_0, k50_s, k51_0, k51_s, k55, k58, k58b, rk_0, rk_1, rk_2, rk_9, rk_3, rk_4, rk_5, sw_n, sw_c, xtb_n, xtb_c, lset_0, lset_2, lset_1, lkm_0, lkm_2, lkm_9, lkm_1, lkm_n, if_some1, c_10, c_01, c_x0, c_1x, c_n0, c_nn, List.getElem?_cons_zero, List.getElem?_cons_succ, List.set_cons_zero, List.set_cons_succ, List.length_cons, List.length_nil, Int.reduceToNat, Nat.reduceDiv, Nat.reduceMod, Nat.reduceSub, Nat.reduceAdd, Nat.reduceMul, Nat.reduceLT, Nat.reduceLeDiff, Nat.reduceEqDiff, Int.reduceMod, Int.reduceSub, Int.reduceNeg, Int.reduceAdd, Int.reduceMul, Int.reduceLT, Int.reduceLE, Int.reduceEq, put_ss, if_true, if_false, ite_true, ite_false, reduceIte, eq_self, and_true, true_and, and_false, false_and, or_true, true_or, or_false, false_or, not_true_eq_false, not_false_eq_true, k5_158_14, k34_158_14, k34i_158_14, k5_158_15, k34_158_15, k34i_158_15, k5_158_13, k34_158_13, k54_158_13, k54b_158_13_0, k54b_158_13_1, k5_158_48, k34_158_48, k5_158_5, k6_161, k35_161, n_161, k5_158_7, k6_163, k35_163, n_163, k5_158_12, k34_158_12, k54_158_12, k54b_158_12_0, rv_t, rv_d, rv_x, rv_y, rp_t, rp_d, w32_of, c1, c2]
  · refine ⟨pos, hp0, hp1, fun z => ?_, ?_⟩
    · rw [eM_b t m hb] at z; omega
    · rw [eM_b t m hb]
      exact B_237 (m := rv pos dep m) hb ⟨hp0, by show pos < 3001; omega⟩ hF
theorem QmT_ok {t : xT} (he : e < 3000) (hF : 100000 ≤ F) (hX : ∀ a, tsz a < tsz t → Qm 239 4 5 F K e a) (hT : ∀ a, tsz a < tsz t → QmT F K e a) : Qm 238 5 3 F K e t := by
  intro V dep p q h hd0 hd1 hp hq L xs d m pos N hn hp0 hp1 hpos hd
  rcases En_b N with hb | hb
  · have hpp := hpos hb
    subst hpp
    obtain ⟨i, a, b, rfl, r, h1, h3⟩ := inv_3 h
    have l1 := P_le a h1
    have l2 := P_le b h3
    have sa : tsz a < tsz (nd 6 i a b) := by rw [tsz_nd]; omega
    have sb : tsz b < tsz (nd 6 i a b) := by rw [tsz_nd]; omega
    obtain ⟨d, rfl⟩ : ∃ d', d = d' + 1 := ⟨d - 1, by omega⟩
    obtain ⟨p1, k1, k2, k3, c1⟩ := hX a sa V dep pos r h1 hd0 hd1 hp (by omega) L xs d m pos N (by omega) hp0 hp1 (fun _ => rfl) (by omega)
    have f1 := Fm_eM (tsz a + 1) a (by omega) _ _ _ _ (by decide) h1 m (En_b N)
    have N1 := En_Fm N f1 (by omega)
    have f41 := f1.2.2.2.1
    obtain ⟨p2, z2, j1, j2, j3, c2⟩ := hT b sb V dep r q h3 hd0 hd1 (by omega) hq L xs d (eM a m) p1 (9, 0) F N1 (by omega) k1 k2 k3 (by omega) (Or.inl rfl) (by omega)
    refine ⟨p2, j1, j2, j3, ?_⟩
    have e1 : eM (nd 6 i a b) m = eM b (eM a m) := rfl
    rw [e1]
    simp (disch := first | omega | assumption) only [c_238, tx_238, ev_0, ev_1, ev_16, ev_17, ev_18, ev_2, ev_3, ev_4, ev_5, ev_6, ev_7, ev_8, ev_9, ev_20, ev_21, ev_22, ev_23, ev_24, ev_25, ev_27, ev_28, ev_30, ev_31, ev_32, ev_33, ev_34, ev_35, ev_36, ev_37, ev_38, ev_39, ev_40, ev_41, ev_42, ev_43, ev_45, ev_46, ev_47, ev_48, ev_49, ev_50, ev_51, ev_52, ev_54, ev_55, ev_57, ev_58, ev_59, k2_0, k2_1, k2_2, k3a, k3b, k4, o1_s, xbin_0, xbin_1, xbin_2, xbin_3, xbin_4, xbin_5, xbin_6, xbin_7, xbin_8, xbin_9, xbin_11, xbin_12, xun_0, xun_1, xun_2, xun_3, xun_4, xun_5, k6a, k8, k8b, k9, k20, k20b_0, k20b_1, k20b_2, k20b_3, k20b_4, k20b_5, k21_0, k21_1, k21_2, k21_3, k21_4, k21_5, k23, k24, k25, k27, k28, k40, nz_1, nz_2, nz_3, k31_0, k31_1, k31_2, k31_3, k32u, k33, k34, k35, k35b, k36, k37, k38, k47, k49, k49b_0, k49b_1, k49b_2, k49b_3, k50_0, k50_s, k51_0, k51_s, k55, k58, k58b, rk_0, rk_1, rk_2, rk_9, rk_3, rk_4, rk_5, sw_n, sw_c, xtb_n, xtb_c, lset_0, lset_2, lset_1, lkm_0, lkm_2, lkm_9, lkm_1, lkm_n, if_some1, c_10, c_01, c_x0, c_1x, c_n0, c_nn, List.getElem?_cons_zero, List.getElem?_cons_succ, List.set_cons_zero, List.set_cons_succ, List.length_cons, List.length_nil, Int.reduceToNat, Nat.reduceDiv, Nat.reduceMod, Nat.reduceSub, Nat.reduceAdd, Nat.reduceMul, Nat.reduceLT, Nat.reduceLeDiff, Nat.reduceEqDiff, Int.reduceMod, Int.reduceSub, Int.reduceNeg, Int.reduceAdd, Int.reduceMul, Int.reduceLT, Int.reduceLE, Int.reduceEq, put_ss, if_true, if_false, ite_true, ite_false, reduceIte, eq_self, and_true, true_and, and_false, false_and, or_true, true_or, or_false, false_or, not_true_eq_false, not_false_eq_true, k5_158_14, k34_158_14, k34i_158_14, k5_158_15, k34_158_15, k34i_158_15, k5_158_13, k34_158_13, k54_158_13, k54b_158_13_0, k54b_158_13_1, k5_158_48, k34_158_48, k5_158_5, k6_161, k35_161, n_161, k5_158_7, k6_163, k35_163, n_163, k5_158_12, k34_158_12, k54_158_12, k54b_158_12_0, rv_t, rv_d, rv_x, rv_y, rp_t, rp_d, w32_of, c1, c2]
  · refine ⟨pos, hp0, hp1, fun z => ?_, ?_⟩
    · rw [eM_b t m hb] at z; omega
    · rw [eM_b t m hb]
      exact B_238 (m := rv pos dep m) hb ⟨hp0, by show pos < 3001; omega⟩ hF
theorem QmE_ok {t : xT} (he : e < 3000) (hF : 100000 ≤ F) (hX : ∀ a, tsz a < tsz t → Qm 237 6 1 F K e a) : Qm 236 7 0 F K e t := by
  intro V dep p q h hd0 hd1 hp hq L xs d m pos N hn hp0 hp1 hpos hd
  rcases En_b N with hb | hb
  · have hpp := hpos hb
    subst hpp
    obtain ⟨d, rfl⟩ : ∃ d', d = d' + 1 := ⟨d - 1, by omega⟩
    rcases inv_0 h with ⟨i, a, b, rfl, h1, h3⟩ | ⟨i, a, b, rfl, r, h1, h3, h5, h6⟩
    · have sa : tsz a < tsz (nd 1 i a b) := by rw [tsz_nd]; omega
      obtain ⟨p1, k1, k2, k3, c1⟩ := hX a sa V dep pos q h1 hd0 hd1 hp (by omega) L xs d m pos N (by omega) hp0 hp1 (fun _ => rfl) (by omega)
      have e1 : eM (nd 1 i a b) m = eM a m := rfl
      rw [e1]
      refine ⟨p1, k1, k2, k3, ?_⟩
      have f1 := Fm_eM (tsz a + 1) a (by omega) _ _ _ _ (by decide) h1 m (En_b N)
      have N1 := En_Fm N f1 (by omega)
      rcases En_b N1 with hb1 | hb1
      · have hpp := k3 hb1
        subst hpp
        have i_p := fun (s dd : Int) (D : Nat) (hs : 33 ≤ s ∧ s ≤ 255 ∨ 300 ≤ s ∧ s ≤ 303) => N_209 (L := L) (xs := xs) (F := F) (d := D) (dep := dd) (a1 := s) (m := eM a m) hb1 (by omega) (N1.2.2 p1 (by omega) (by omega)) hs
        have hc := cm_n h3
        obtain ⟨u0, u1, u2, u3, u4, u5⟩ := hc
        simp (disch := first | omega | assumption) only [c_236, tr_236, ev_0, ev_1, ev_16, ev_17, ev_18, ev_2, ev_3, ev_4, ev_5, ev_6, ev_7, ev_8, ev_9, ev_20, ev_21, ev_22, ev_23, ev_24, ev_25, ev_27, ev_28, ev_30, ev_31, ev_32, ev_33, ev_34, ev_35, ev_36, ev_37, ev_38, ev_39, ev_40, ev_41, ev_42, ev_43, ev_45, ev_46, ev_47, ev_48, ev_49, ev_50, ev_51, ev_52, ev_54, ev_55, ev_57, ev_58, ev_59, k2_0, k2_1, k2_2, k3a, k3b, k4, o1_s, xbin_0, xbin_1, xbin_2, xbin_3, xbin_4, xbin_5, xbin_6, xbin_7, xbin_8, xbin_9, xbin_11, xbin_12, xun_0, xun_1, xun_2, xun_3, xun_4, xun_5, k6a, k8, k8b, k9, k20, k20b_0, k20b_1, k20b_2, k20b_3, k20b_4, k20b_5, k21_0, k21_1, k21_2, k21_3, k21_4, k21_5, k23, k24, k25, k27, k28, k40, nz_1, nz_2, nz_3, k31_0, k31_1, k31_2, k31_3, k32u, k33, k34, k35, k35b, k36, k37, k38, k47, k49, k49b_0, k49b_1, k49b_2, k49b_3, k50_0, k50_s, k51_0, k51_s, k55, k58, k58b, rk_0, rk_1, rk_2, rk_9, rk_3, rk_4, rk_5, sw_n, sw_c, xtb_n, xtb_c, lset_0, lset_2, lset_1, lkm_0, lkm_2, lkm_9, lkm_1, lkm_n, if_some1, c_10, c_01, c_x0, c_1x, c_n0, c_nn, List.getElem?_cons_zero, List.getElem?_cons_succ, List.set_cons_zero, List.set_cons_succ, List.length_cons, List.length_nil, Int.reduceToNat, Nat.reduceDiv, Nat.reduceMod, Nat.reduceSub, Nat.reduceAdd, Nat.reduceMul, Nat.reduceLT, Nat.reduceLeDiff, Nat.reduceEqDiff, Int.reduceMod, Int.reduceSub, Int.reduceNeg, Int.reduceAdd, Int.reduceMul, Int.reduceLT, Int.reduceLE, Int.reduceEq, put_ss, if_true, if_false, ite_true, ite_false, reduceIte, eq_self, and_true, true_and, and_false, false_and, or_true, true_or, or_false, false_or, not_true_eq_false, not_false_eq_true, k5_158_14, k34_158_14, k34i_158_14, k5_158_15, k34_158_15, k34i_158_15, k5_158_13, k34_158_13, k54_158_13, k54b_158_13_0, k54b_158_13_1, k5_158_48, k34_158_48, k5_158_5, k6_161, k35_161, n_161, k5_158_7, k6_163, k35_163, n_163, k5_158_12, k34_158_12, k54_158_12, k54b_158_12_0, rv_t, rv_d, rv_x, rv_y, rp_t, rp_d, w32_of, c1, i_p, sgn, u0, u1, u2, u3, u4, u5]
      · have i_p := fun (s : Int) (D : Nat) => B_209 (L := L) (xs := xs) (F := F) (d := D) (m := rv p1 dep (eM a m)) (a1 := s) hb1
        simp (disch := first | omega | assumption) only [c_236, tr_236, ev_0, ev_1, ev_16, ev_17, ev_18, ev_2, ev_3, ev_4, ev_5, ev_6, ev_7, ev_8, ev_9, ev_20, ev_21, ev_22, ev_23, ev_24, ev_25, ev_27, ev_28, ev_30, ev_31, ev_32, ev_33, ev_34, ev_35, ev_36, ev_37, ev_38, ev_39, ev_40, ev_41, ev_42, ev_43, ev_45, ev_46, ev_47, ev_48, ev_49, ev_50, ev_51, ev_52, ev_54, ev_55, ev_57, ev_58, ev_59, k2_0, k2_1, k2_2, k3a, k3b, k4, o1_s, xbin_0, xbin_1, xbin_2, xbin_3, xbin_4, xbin_5, xbin_6, xbin_7, xbin_8, xbin_9, xbin_11, xbin_12, xun_0, xun_1, xun_2, xun_3, xun_4, xun_5, k6a, k8, k8b, k9, k20, k20b_0, k20b_1, k20b_2, k20b_3, k20b_4, k20b_5, k21_0, k21_1, k21_2, k21_3, k21_4, k21_5, k23, k24, k25, k27, k28, k40, nz_1, nz_2, nz_3, k31_0, k31_1, k31_2, k31_3, k32u, k33, k34, k35, k35b, k36, k37, k38, k47, k49, k49b_0, k49b_1, k49b_2, k49b_3, k50_0, k50_s, k51_0, k51_s, k55, k58, k58b, rk_0, rk_1, rk_2, rk_9, rk_3, rk_4, rk_5, sw_n, sw_c, xtb_n, xtb_c, lset_0, lset_2, lset_1, lkm_0, lkm_2, lkm_9, lkm_1, lkm_n, if_some1, c_10, c_01, c_x0, c_1x, c_n0, c_nn, List.getElem?_cons_zero, List.getElem?_cons_succ, List.set_cons_zero, List.set_cons_succ, List.length_cons, List.length_nil, Int.reduceToNat, Nat.reduceDiv, Nat.reduceMod, Nat.reduceSub, Nat.reduceAdd, Nat.reduceMul, Nat.reduceLT, Nat.reduceLeDiff, Nat.reduceEqDiff, Int.reduceMod, Int.reduceSub, Int.reduceNeg, Int.reduceAdd, Int.reduceMul, Int.reduceLT, Int.reduceLE, Int.reduceEq, put_ss, if_true, if_false, ite_true, ite_false, reduceIte, eq_self, and_true, true_and, and_false, false_and, or_true, true_or, or_false, false_or, not_true_eq_false, not_false_eq_true, k5_158_14, k34_158_14, k34i_158_14, k5_158_15, k34_158_15, k34i_158_15, k5_158_13, k34_158_13, k54_158_13, k54b_158_13_0, k54b_158_13_1, k5_158_48, k34_158_48, k5_158_5, k6_161, k35_161, n_161, k5_158_7, k6_163, k35_163, n_163, k5_158_12, k34_158_12, k54_158_12, k54b_158_12_0, rv_t, rv_d, rv_x, rv_y, rp_t, rp_d, w32_of, c1, i_p]
    · have sa : tsz a < tsz (nd 2 i a b) := by rw [tsz_nd]; omega
      have sb : tsz b < tsz (nd 2 i a b) := by rw [tsz_nd]; omega
      have l1 := P_le a h1
      have l2 := P_le b h6
      obtain ⟨p1, k1, k2, k3, c1⟩ := hX a sa V dep pos r h1 hd0 hd1 hp (by omega) L xs d m pos N (by omega) hp0 hp1 (fun _ => rfl) (by omega)
      have f1 := Fm_eM (tsz a + 1) a (by omega) _ _ _ _ (by decide) h1 m (En_b N)
      have f41 := f1.2.2.2.1
      have N1 := En_Fm N f1 (by omega)
      have e1 : eM (nd 2 i a b) m = emG (eM b (eM a m)) 14 i (-1) (-1) false := rfl
      rw [e1]
      rcases En_b N1 with hb1 | hb1
      · have hpp := k3 hb1
        subst hpp
        obtain ⟨p2, j1, j2, j3, c2⟩ := hX b sb V dep (p1 + 1) q h6 hd0 hd1 (by omega) (by omega) L xs d (eM a m) (p1 + 1) N1 (by omega) (by omega) (by omega) (fun _ => rfl) (by omega)
        have f2 := Fm_eM (tsz b + 1) b (by omega) _ _ _ _ (by decide) h6 (eM a m) (En_b N1)
        have N2 := En_Fm N1 f2 (by omega)
        have c3 := fun D x => R_246_14 (F := F) (L := L) (xs := xs) (d := D) (p := p2) (dep := dep) (a := x) (l := -1) N2.1
        refine ⟨p2, j1, j2, fun z => j3 ?_, ?_⟩
        · exact emG_nb (En_b N2) z
        · have i_p := fun (s dd : Int) (D : Nat) (hs : 33 ≤ s ∧ s ≤ 255 ∨ 300 ≤ s ∧ s ≤ 303) => N_209 (L := L) (xs := xs) (F := F) (d := D) (dep := dd) (a1 := s) (m := eM a m) hb1 (by omega) (N1.2.2 p1 (by omega) (by omega)) hs
          have c4 := fun D => N_212 (F := F) (L := L) (xs := xs) (d := D) (m := eM a m) (p := p1) (dep := dep) hb1 (by omega)
          rcases cm_y h3 h5 with ⟨rfl, hc⟩ | ⟨rfl, hc⟩ | ⟨rfl, hc⟩ | ⟨rfl, hc⟩ | ⟨rfl, hc⟩ | ⟨rfl, hc⟩ <;> simp (disch := first | omega | assumption) only [c_236, tr_236, ev_0, ev_1, ev_16, ev_17, ev_18, ev_2, ev_3, ev_4, ev_5, ev_6, ev_7, ev_8, ev_9, ev_20, ev_21, ev_22, ev_23, ev_24, ev_25, ev_27, ev_28, ev_30, ev_31, ev_32, ev_33, ev_34, ev_35, ev_36, ev_37, ev_38, ev_39, ev_40, ev_41, ev_42, ev_43, ev_45, ev_46, ev_47, ev_48, ev_49, ev_50, ev_51, ev_52, ev_54, ev_55, ev_57, ev_58, ev_59, k2_0, k2_1, k2_2, k3a, k3b, k4, o1_s, xbin_0, xbin_1, xbin_2, xbin_3, xbin_4, xbin_5, xbin_6, xbin_7, xbin_8, xbin_9, xbin_11, xbin_12, xun_0, xun_1, xun_2, xun_3, xun_4, xun_5, k6a, k8, k8b, k9, k20, k20b_0, k20b_1, k20b_2, k20b_3, k20b_4, k20b_5, k21_0, k21_1, k21_2, k21_3, k21_4, k21_5, k23, k24, k25, k27, k28, k40, nz_1, nz_2, nz_3, k31_0, k31_1, k31_2, k31_3, k32u, k33, k34, k35, k35b, k36, k37, k38, k47, k49, k49b_0, k49b_1, k49b_2, k49b_3, k50_0, k50_s, k51_0, k51_s, k55, k58, k58b, rk_0, rk_1, rk_2, rk_9, rk_3, rk_4, rk_5, sw_n, sw_c, xtb_n, xtb_c, lset_0, lset_2, lset_1, lkm_0, lkm_2, lkm_9, lkm_1, lkm_n, if_some1, c_10, c_01, c_x0, c_1x, c_n0, c_nn, List.getElem?_cons_zero, List.getElem?_cons_succ, List.set_cons_zero, List.set_cons_succ, List.length_cons, List.length_nil, Int.reduceToNat, Nat.reduceDiv, Nat.reduceMod, Nat.reduceSub, Nat.reduceAdd, Nat.reduceMul, Nat.reduceLT, Nat.reduceLeDiff, Nat.reduceEqDiff, Int.reduceMod, Int.reduceSub, Int.reduceNeg, Int.reduceAdd, Int.reduceMul, Int.reduceLT, Int.reduceLE, Int.reduceEq, put_ss, if_true, if_false, ite_true, ite_false, reduceIte, eq_self, and_true, true_and, and_false, false_and, or_true, true_or, or_false, false_or, not_true_eq_false, not_false_eq_true, k5_158_14, k34_158_14, k34i_158_14, k5_158_15, k34_158_15, k34i_158_15, k5_158_13, k34_158_13, k54_158_13, k54b_158_13_0, k54b_158_13_1, k5_158_48, k34_158_48, k5_158_5, k6_161, k35_161, n_161, k5_158_7, k6_163, k35_163, n_163, k5_158_12, k34_158_12, k54_158_12, k54b_158_12_0, rv_t, rv_d, rv_x, rv_y, rp_t, rp_d, w32_of, c1, i_p, sgn, hc, c4, c2, c3]
      · refine ⟨p1, k1, k2, fun z => ?_, ?_⟩
        · rw [eM_b b _ hb1, emG_b hb1] at z; omega
        · rw [eM_b b _ hb1, emG_b hb1]
          have i_p := fun (s : Int) (D : Nat) => B_209 (L := L) (xs := xs) (F := F) (d := D) (m := rv p1 dep (eM a m)) (a1 := s) hb1
          simp (disch := first | omega | assumption) only [c_236, tr_236, ev_0, ev_1, ev_16, ev_17, ev_18, ev_2, ev_3, ev_4, ev_5, ev_6, ev_7, ev_8, ev_9, ev_20, ev_21, ev_22, ev_23, ev_24, ev_25, ev_27, ev_28, ev_30, ev_31, ev_32, ev_33, ev_34, ev_35, ev_36, ev_37, ev_38, ev_39, ev_40, ev_41, ev_42, ev_43, ev_45, ev_46, ev_47, ev_48, ev_49, ev_50, ev_51, ev_52, ev_54, ev_55, ev_57, ev_58, ev_59, k2_0, k2_1, k2_2, k3a, k3b, k4, o1_s, xbin_0, xbin_1, xbin_2, xbin_3, xbin_4, xbin_5, xbin_6, xbin_7, xbin_8, xbin_9, xbin_11, xbin_12, xun_0, xun_1, xun_2, xun_3, xun_4, xun_5, k6a, k8, k8b, k9, k20, k20b_0, k20b_1, k20b_2, k20b_3, k20b_4, k20b_5, k21_0, k21_1, k21_2, k21_3, k21_4, k21_5, k23, k24, k25, k27, k28, k40, nz_1, nz_2, nz_3, k31_0, k31_1, k31_2, k31_3, k32u, k33, k34, k35, k35b, k36, k37, k38, k47, k49, k49b_0, k49b_1, k49b_2, k49b_3, k50_0, k50_s, k51_0, k51_s, k55, k58, k58b, rk_0, rk_1, rk_2, rk_9, rk_3, rk_4, rk_5, sw_n, sw_c, xtb_n, xtb_c, lset_0, lset_2, lset_1, lkm_0, lkm_2, lkm_9, lkm_1, lkm_n, if_some1, c_10, c_01, c_x0, c_1x, c_n0, c_nn, List.getElem?_cons_zero, List.getElem?_cons_succ, List.set_cons_zero, List.set_cons_succ, List.length_cons, List.length_nil, Int.reduceToNat, Nat.reduceDiv, Nat.reduceMod, Nat.reduceSub, Nat.reduceAdd, Nat.reduceMul, Nat.reduceLT, Nat.reduceLeDiff, Nat.reduceEqDiff, Int.reduceMod, Int.reduceSub, Int.reduceNeg, Int.reduceAdd, Int.reduceMul, Int.reduceLT, Int.reduceLE, Int.reduceEq, put_ss, if_true, if_false, ite_true, ite_false, reduceIte, eq_self, and_true, true_and, and_false, false_and, or_true, true_or, or_false, false_or, not_true_eq_false, not_false_eq_true, k5_158_14, k34_158_14, k34i_158_14, k5_158_15, k34_158_15, k34i_158_15, k5_158_13, k34_158_13, k54_158_13, k54b_158_13_0, k54b_158_13_1, k5_158_48, k34_158_48, k5_158_5, k6_161, k35_161, n_161, k5_158_7, k6_163, k35_163, n_163, k5_158_12, k34_158_12, k54_158_12, k54b_158_12_0, rv_t, rv_d, rv_x, rv_y, rp_t, rp_d, w32_of, c1, i_p]
  · refine ⟨pos, hp0, hp1, fun z => ?_, ?_⟩
    · rw [eM_b t m hb] at z; omega
    · rw [eM_b t m hb]
      exact B_236 (m := rv pos dep m) hb ⟨hp0, by show pos < 3001; omega⟩ hF
end QmL
