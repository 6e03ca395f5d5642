/-! EACH ORDER ON THE PROCESSOR -/
theorem vp_b {Y : Nat → Int} {t v : Int} : ∀ k : Nat, (k : Int) < t → vput Y t.toNat v k = Y k := fun k hk => by
  unfold vput
  rw [if_neg (by omega)]
theorem vp_e {Y : Nat → Int} {j : Nat} {v : Int} : vput Y j v j = v := by
  unfold vput
  rw [if_pos rfl]
theorem cgf {P : Int → Int} {f : Bool} {lk pc : Int} (h : cX P (iGo f lk) pc = false) : f = false → ¬ outR (P lk) pc := fun e => by
  subst e
  have z : (decide ((1 : Int) = 1 ∧ outR (P lk) pc) || false) = false := h
  rw [Bool.or_false, decide_eq_false_iff_not] at z
  exact fun w => z ⟨rfl, w⟩
theorem ixor_0 {x y : Int} (hx : 0 ≤ x ∧ x < 65536) (hy : 0 ≤ y ∧ y < 65536) : ixor x y = 0 ↔ x = y := by
  rw [ixor_n hx hy]
  constructor
  · intro w
    have z : x.toNat ^^^ y.toNat = 0 := by omega
    have e : x.toNat = y.toNat := by
      apply Nat.eq_of_testBit_eq
      intro i
      have t := Nat.testBit_xor x.toNat y.toNat i
      rw [z, Nat.zero_testBit] at t
      cases hx : x.toNat.testBit i <;> cases hy : y.toNat.testBit i <;> rw [hx, hy] at t <;> first | rfl | exact absurd t (by decide)
    omega
  · intro w
    rw [w, Nat.xor_self]
    rfl
theorem add_o {a b : Int} (ha : 0 ≤ a ∧ a < 65536) (hb : 0 ≤ b ∧ b < 65536) : 32767 < iand (ixor a ((a + b) % 65536)) (ixor b ((a + b) % 65536)) ↔ ¬ (-32768 ≤ sg a + sg b ∧ sg a + sg b ≤ 32767) := by
  have hs : 0 ≤ (a + b) % 65536 ∧ (a + b) % 65536 < 65536 := by omega
  rw [and_s (ixor_b ha hs) (ixor_b hb hs), xor_s ha hs, xor_s hb hs, sg_v ha, sg_v hb]
  split <;> split <;> omega
theorem sub_o {a b : Int} (ha : 0 ≤ a ∧ a < 65536) (hb : 0 ≤ b ∧ b < 65536) : 32767 < iand (ixor a b) (ixor a ((a - b) % 65536)) ↔ ¬ (-32768 ≤ sg a - sg b ∧ sg a - sg b ≤ 32767) := by
  have hs : 0 ≤ (a - b) % 65536 ∧ (a - b) % 65536 < 65536 := by omega
  rw [and_s (ixor_b ha hb) (ixor_b ha hs), xor_s ha hb, xor_s ha hs, sg_v ha, sg_v hb]
  split <;> split <;> omega
section Ord
variable {n : Nat} {W : Nat → Int} {ni : Int} {ip : Nat → Int} {A E tk ou x y y2 y3 lk r0 r1 r2 r3 r4 r5 r6 r7 : Int} {Y sn : Nat → Int} {P N : Int → Int} {f0 f1 : Bool}
theorem Q_1 (hn : n ≤ 8192) (hA : 0 ≤ A) (h : WdOk P N W (it_1 f0 f1 lk x y y2 y3) A) (hc : cX P (it_1 f0 f1 lk x y y2 y3) A = false) (hE : A + ((it_1 f0 f1 lk x y y2 y3).length : Int) = E) (hEn : E ≤ n) (hx : 0 ≤ x ∧ x ≤ 32767) (h7 : (n : Int) ≤ r7 ∧ r7 < 8192) : ∃ s0 s1 s2 s3 s5 Y', Rn n W ni ip (A, R8 r0 r1 r2 r3 r4 r5 r6 r7, Y, tk, ou, sn) (E, R8 s0 s1 s2 s3 r4 s5 r6 (r7 + 1), Y', tk, ou, sn) ∧ Y' (r7).toNat = x ∧ ∀ k : Nat, (k : Int) < r7 → Y' k = Y k := by
  unfold it_1 at h hc hE
  simp only [List.append_assoc, WdOk_app, cX_app, List.length_append, Int.natCast_add, Bool.or_eq_false_iff, l_off, l_on, l_pl, l_iL, l_nt, l_go, l_co] at h hc hE
  obtain ⟨w0, w1⟩ := h
  have hcl := clv_b (v := x)
  refine ⟨x, r1, r2, r3, r5, vput Y r7.toNat x, ?_, vp_e, vp_b⟩
  refine Rn_tr (T := (A + clv (x), R8 x r1 r2 r3 r4 r5 r6 r7, Y, tk, ou, sn)) (X_co (d := 0) (v := x) hn ⟨by omega, by omega, by omega⟩ (by decide) w0 (by omega) v8_0) ?_
  exact X_on (d := 0) (x := r7) (v := x) hn ⟨by omega, by omega, by omega⟩ (by decide) w1 rfl (by omega) rfl rfl v8_7
theorem Q_2 (hn : n ≤ 8192) (hA : 0 ≤ A) (h : WdOk P N W (it_2 f0 f1 lk x y y2 y3) A) (hc : cX P (it_2 f0 f1 lk x y y2 y3) A = false) (hE : A + ((it_2 f0 f1 lk x y y2 y3).length : Int) = E) (hEn : E ≤ n) (hy : 0 ≤ y ∧ y ≤ 31) (ha : (n : Int) ≤ r6 + y ∧ r6 + y < 8192) (h7 : (n : Int) ≤ r7 ∧ r7 < 8192) : ∃ s0 s1 s2 s3 s5 Y', Rn n W ni ip (A, R8 r0 r1 r2 r3 r4 r5 r6 r7, Y, tk, ou, sn) (E, R8 s0 s1 s2 s3 r4 s5 r6 (r7 + 1), Y', tk, ou, sn) ∧ Y' (r7).toNat = Y (r6 + y).toNat ∧ ∀ k : Nat, (k : Int) < r7 → Y' k = Y k := by
  unfold it_2 at h hc hE
  simp only [List.append_assoc, WdOk_app, cX_app, List.length_append, Int.natCast_add, Bool.or_eq_false_iff, l_off, l_on, l_pl, l_iL, l_nt, l_go, l_co] at h hc hE
  obtain ⟨w0, w1⟩ := h
  refine ⟨Y (r6 + y).toNat, r1, r2, r3, r5, vput Y r7.toNat (Y (r6 + y).toNat), ?_, vp_e, vp_b⟩
  refine Rn_tr (T := (A + 1, R8 (Y (r6 + y).toNat) r1 r2 r3 r4 r5 r6 r7, Y, tk, ou, sn)) (J_ld (d := 0) (a := 6) (x := y) (A := (r6 + y)) hn ⟨by omega, by omega, by omega⟩ (by decide) (by omega) (wl w0) rfl (by omega) rfl v8_0) ?_
  exact X_on (d := 0) (x := r7) (v := (Y (r6 + y).toNat)) hn ⟨by omega, by omega, by omega⟩ (by decide) w1 rfl (by omega) rfl rfl v8_7
theorem Q_3 (hn : n ≤ 8192) (hA : 0 ≤ A) (h : WdOk P N W (it_3 f0 f1 lk x y y2 y3) A) (hc : cX P (it_3 f0 f1 lk x y y2 y3) A = false) (hE : A + ((it_3 f0 f1 lk x y y2 y3).length : Int) = E) (hEn : E ≤ n) (hy : 0 ≤ y ∧ y ≤ 31) (ha : (n : Int) ≤ r6 + y ∧ r6 + y < 8192) (h7 : (n : Int) ≤ r7 - 1 ∧ r7 - 1 < 8192) : ∃ s0 s1 s2 s3 s5, Rn n W ni ip (A, R8 r0 r1 r2 r3 r4 r5 r6 r7, Y, tk, ou, sn) (E, R8 s0 s1 s2 s3 r4 s5 r6 (r7 - 1), vput Y (r6 + y).toNat (Y (r7 - 1).toNat), tk, ou, sn) := by
  unfold it_3 at h hc hE
  simp only [List.append_assoc, WdOk_app, cX_app, List.length_append, Int.natCast_add, Bool.or_eq_false_iff, l_off, l_on, l_pl, l_iL, l_nt, l_go, l_co] at h hc hE
  obtain ⟨w0, w1⟩ := h
  refine ⟨Y (r7 - 1).toNat, r1, r2, r3, r5, ?_⟩
  refine Rn_tr (T := (A + 2, R8 (Y (r7 - 1).toNat) r1 r2 r3 r4 r5 r6 (r7 - 1), Y, tk, ou, sn)) (X_off (d := 0) (x := (r7 - 1)) hn ⟨by omega, by omega, by omega⟩ (by decide) w0 (by show r7 - 1 = (r7 - 1); omega) (by omega) rfl v8_7 v8_0) ?_
  exact J_st (d := 0) (a := 6) (x := y) (A := (r6 + y)) hn ⟨by omega, by omega, by omega⟩ (by decide) (by omega) (wl w1) rfl (by omega) rfl
theorem Q_4 (hn : n ≤ 8192) (hA : 0 ≤ A) (h : WdOk P N W (it_4 f0 f1 lk x y y2 y3) A) (hc : cX P (it_4 f0 f1 lk x y y2 y3) A = false) (hE : A + ((it_4 f0 f1 lk x y y2 y3).length : Int) = E) (hEn : E ≤ n) {g : Int} (hN : N (-10 - x) = g) (hg : (n : Int) ≤ g ∧ g < 8192) (h7 : (n : Int) ≤ r7 ∧ r7 < 8192) : ∃ s0 s1 s2 s3 s5 Y', Rn n W ni ip (A, R8 r0 r1 r2 r3 r4 r5 r6 r7, Y, tk, ou, sn) (E, R8 s0 s1 s2 s3 r4 s5 r6 (r7 + 1), Y', tk, ou, sn) ∧ Y' (r7).toNat = Y g.toNat ∧ ∀ k : Nat, (k : Int) < r7 → Y' k = Y k := by
  unfold it_4 at h hc hE
  simp only [List.append_assoc, WdOk_app, cX_app, List.length_append, Int.natCast_add, Bool.or_eq_false_iff, l_off, l_on, l_pl, l_iL, l_nt, l_go, l_co] at h hc hE
  obtain ⟨w0, w1, w2⟩ := h
  refine ⟨Y g.toNat, g, r2, r3, r5, vput Y r7.toNat (Y g.toNat), ?_, vp_e, vp_b⟩
  refine Rn_tr (T := (A + 2, R8 r0 g r2 r3 r4 r5 r6 r7, Y, tk, ou, sn)) (X_nt (d := 1) (v := g) hn ⟨by omega, by omega, by omega⟩ (by decide) w0 hN (by omega) v8_1) ?_
  refine Rn_tr (T := (A + 2 + 1, R8 (Y g.toNat) g r2 r3 r4 r5 r6 r7, Y, tk, ou, sn)) (J_ld (d := 0) (a := 1) (x := 0) (A := g) hn ⟨by omega, by omega, by omega⟩ (by decide) (by omega) (wl w1) (by show g + 0 = g; omega) (by omega) rfl v8_0) ?_
  exact X_on (d := 0) (x := r7) (v := (Y g.toNat)) hn ⟨by omega, by omega, by omega⟩ (by decide) w2 rfl (by omega) rfl rfl v8_7
theorem Q_5 (hn : n ≤ 8192) (hA : 0 ≤ A) (h : WdOk P N W (it_5 f0 f1 lk x y y2 y3) A) (hc : cX P (it_5 f0 f1 lk x y y2 y3) A = false) (hE : A + ((it_5 f0 f1 lk x y y2 y3).length : Int) = E) (hEn : E ≤ n) {g : Int} (hN : N (-10 - x) = g) (hg : (n : Int) ≤ g ∧ g < 8192) (h7 : (n : Int) ≤ r7 - 1 ∧ r7 - 1 < 8192) : ∃ s0 s1 s2 s3 s5, Rn n W ni ip (A, R8 r0 r1 r2 r3 r4 r5 r6 r7, Y, tk, ou, sn) (E, R8 s0 s1 s2 s3 r4 s5 r6 (r7 - 1), vput Y g.toNat (Y (r7 - 1).toNat), tk, ou, sn) := by
  unfold it_5 at h hc hE
  simp only [List.append_assoc, WdOk_app, cX_app, List.length_append, Int.natCast_add, Bool.or_eq_false_iff, l_off, l_on, l_pl, l_iL, l_nt, l_go, l_co] at h hc hE
  obtain ⟨w0, w1, w2⟩ := h
  refine ⟨Y (r7 - 1).toNat, g, r2, r3, r5, ?_⟩
  refine Rn_tr (T := (A + 2, R8 (Y (r7 - 1).toNat) r1 r2 r3 r4 r5 r6 (r7 - 1), Y, tk, ou, sn)) (X_off (d := 0) (x := (r7 - 1)) hn ⟨by omega, by omega, by omega⟩ (by decide) w0 (by show r7 - 1 = (r7 - 1); omega) (by omega) rfl v8_7 v8_0) ?_
  refine Rn_tr (T := (A + 2 + 2, R8 (Y (r7 - 1).toNat) g r2 r3 r4 r5 r6 (r7 - 1), Y, tk, ou, sn)) (X_nt (d := 1) (v := g) hn ⟨by omega, by omega, by omega⟩ (by decide) w1 hN (by omega) v8_1) ?_
  exact J_st (d := 0) (a := 1) (x := 0) (A := g) hn ⟨by omega, by omega, by omega⟩ (by decide) (by omega) (wl w2) (by show g + 0 = g; omega) (by omega) rfl
theorem Q_6f (hn : n ≤ 8192) (hA : 0 ≤ A) (h : WdOk P N W (it_6 f0 f1 lk x y y2 y3) A) (hc : cX P (it_6 f0 f1 lk x y y2 y3) A = false) (hE : A + ((it_6 f0 f1 lk x y y2 y3).length : Int) = E) (hEn : E ≤ n) {a g : Int} (hP : 0 ≤ P lk ∧ P lk < 65536) (hy : 1 ≤ y ∧ y ≤ 500) (ha : 0 ≤ a ∧ a < 65536) (h7 : (n : Int) ≤ r7 - 1 ∧ r7 - 1 < 8192) (hYa : Y (r7 - 1).toNat = a) (hb : ¬ (a ≤ 32767 ∧ a < y)) : ∃ s0 s1 s2 s3 s5 Y', Rn n W ni ip (A, R8 r0 r1 r2 r3 r4 r5 r6 r7, Y, tk, ou, sn) (P lk, R8 s0 s1 s2 s3 2 s5 r6 (r7 - 1), Y', tk, ou, sn) ∧ ∀ k : Nat, (k : Int) < r7 - 1 → Y' k = Y k := by
  unfold it_6 at h hc hE
  simp only [List.append_assoc, WdOk_app, cX_app, List.length_append, Int.natCast_add, Bool.or_eq_false_iff, l_off, l_on, l_pl, l_iL, l_nt, l_go, l_co] at h hc hE
  obtain ⟨w0, w1, w2, w3, w4, w5, w6, w7, w8, w9, w10, w11⟩ := h
  obtain ⟨-, -, -, -, -, -, -, c7, -, -, -, -⟩ := hc
  have hcl := clv_b (v := y)
  have hgf0 := gsz_q (f := f0)
  by_cases c1 : 32767 < a
  · have step : Rn n W ni ip (A, R8 r0 r1 r2 r3 r4 r5 r6 r7, Y, tk, ou, sn) (A + 2 + clv (y) + 1 + 1 + 1 + 1 + 1, R8 a y r2 r3 2 r5 r6 (r7 - 1), Y, tk, ou, sn) := by
      refine Rn_tr (T := (A + 2, R8 a r1 r2 r3 r4 r5 r6 (r7 - 1), Y, tk, ou, sn)) (X_off (d := 0) (x := (r7 - 1)) hn ⟨by omega, by omega, by omega⟩ (by decide) w0 (by show r7 - 1 = (r7 - 1); omega) (by omega) hYa v8_7 v8_0) ?_
      refine Rn_tr (T := (A + 2 + clv (y), R8 a y r2 r3 r4 r5 r6 (r7 - 1), Y, tk, ou, sn)) (X_co (d := 1) (v := y) hn ⟨by omega, by omega, by omega⟩ (by decide) w1 (by omega) v8_1) ?_
      refine Rn_tr (T := (A + 2 + clv (y) + 1 + 1 + 1 + 1, R8 a y r2 r3 r4 r5 r6 (r7 - 1), Y, tk, ou, sn)) (J_jn1 (d := 0) (x := 3) hn ⟨by omega, by omega, by omega⟩ (by decide) (by omega) (wl w2) c1 (by omega)) ?_
      exact J_li (d := 4) (x := 2) hn ⟨by omega, by omega, by omega⟩ (by decide) (by omega) (wl w6) (by omega) v8_4
    obtain ⟨g5, hg⟩ := X_go (n := n) (W := W) (ni := ni) (ip := ip) (Y := Y) (z := (tk, ou, sn)) (P := P) (N := N) (r0 := a) (r1 := y) (r2 := r2) (r3 := r3) (r4 := 2) (r5 := r5) (r6 := r6) (r7 := (r7 - 1)) hn ⟨by omega, by omega⟩ w7 rfl hP (cgf c7)
    exact ⟨_, _, _, _, _, Y, Rn_tr step hg, fun _ _ => rfl⟩
  · have e1 : sg a = a := by rw [sg_v (by omega), if_neg c1]
    have e2 : sg y = y := by rw [sg_v (by omega), if_neg (by omega)]
    have step : Rn n W ni ip (A, R8 r0 r1 r2 r3 r4 r5 r6 r7, Y, tk, ou, sn) (A + 2 + clv (y) + 1 + 1 + 1 + 1 + 1, R8 a y 0 r3 2 r5 r6 (r7 - 1), Y, tk, ou, sn) := by
      refine Rn_tr (T := (A + 2, R8 a r1 r2 r3 r4 r5 r6 (r7 - 1), Y, tk, ou, sn)) (X_off (d := 0) (x := (r7 - 1)) hn ⟨by omega, by omega, by omega⟩ (by decide) w0 (by show r7 - 1 = (r7 - 1); omega) (by omega) hYa v8_7 v8_0) ?_
      refine Rn_tr (T := (A + 2 + clv (y), R8 a y r2 r3 r4 r5 r6 (r7 - 1), Y, tk, ou, sn)) (X_co (d := 1) (v := y) hn ⟨by omega, by omega, by omega⟩ (by decide) w1 (by omega) v8_1) ?_
      refine Rn_tr (T := (A + 2 + clv (y) + 1, R8 a y r2 r3 r4 r5 r6 (r7 - 1), Y, tk, ou, sn)) (J_jn0 (d := 0) (x := 3) hn ⟨by omega, by omega, by omega⟩ (by decide) (by omega) (wl w2) c1 (by omega)) ?_
      refine Rn_tr (T := (A + 2 + clv (y) + 1 + 1, R8 a y 0 r3 r4 r5 r6 (r7 - 1), Y, tk, ou, sn)) (J_less (d := 2) (a := 0) (b := 1) hn ⟨by omega, by omega, by omega⟩ (by decide) (wl w3) (by show (if sg a < sg y then 1 else 0) = (0 : Int); rw [e1, e2, if_neg (by omega)]) v8_2) ?_
      refine Rn_tr (T := (A + 2 + clv (y) + 1 + 1 + 1 + 1, R8 a y 0 r3 r4 r5 r6 (r7 - 1), Y, tk, ou, sn)) (J_jz1 (d := 2) (x := 1) hn ⟨by omega, by omega, by omega⟩ (by decide) (by omega) (wl w4) rfl (by omega)) ?_
      exact J_li (d := 4) (x := 2) hn ⟨by omega, by omega, by omega⟩ (by decide) (by omega) (wl w6) (by omega) v8_4
    obtain ⟨g5, hg⟩ := X_go (n := n) (W := W) (ni := ni) (ip := ip) (Y := Y) (z := (tk, ou, sn)) (P := P) (N := N) (r0 := a) (r1 := y) (r2 := 0) (r3 := r3) (r4 := 2) (r5 := r5) (r6 := r6) (r7 := (r7 - 1)) hn ⟨by omega, by omega⟩ w7 rfl hP (cgf c7)
    exact ⟨_, _, _, _, _, Y, Rn_tr step hg, fun _ _ => rfl⟩
theorem Q_6 (hn : n ≤ 8192) (hA : 0 ≤ A) (h : WdOk P N W (it_6 f0 f1 lk x y y2 y3) A) (hc : cX P (it_6 f0 f1 lk x y y2 y3) A = false) (hE : A + ((it_6 f0 f1 lk x y y2 y3).length : Int) = E) (hEn : E ≤ n) {a g : Int} (hP : 0 ≤ P lk ∧ P lk < 65536) (hy : 1 ≤ y ∧ y ≤ 500) (ha : 0 ≤ a ∧ a < 65536) (hN : N (-10 - x) = g) (hg : (n : Int) ≤ g ∧ g + a < 8192) (h7 : (n : Int) ≤ r7 - 1 ∧ r7 - 1 < 8192) (hYa : Y (r7 - 1).toNat = a) (hb : a ≤ 32767 ∧ a < y) : ∃ s0 s1 s2 s3 s5 Y', Rn n W ni ip (A, R8 r0 r1 r2 r3 r4 r5 r6 r7, Y, tk, ou, sn) (E, R8 s0 s1 s2 s3 r4 s5 r6 ((r7 - 1) + 1), Y', tk, ou, sn) ∧ Y' ((r7 - 1)).toNat = Y (g + a).toNat ∧ ∀ k : Nat, (k : Int) < (r7 - 1) → Y' k = Y k := by
  unfold it_6 at h hc hE
  simp only [List.append_assoc, WdOk_app, cX_app, List.length_append, Int.natCast_add, Bool.or_eq_false_iff, l_off, l_on, l_pl, l_iL, l_nt, l_go, l_co] at h hc hE
  obtain ⟨w0, w1, w2, w3, w4, w5, w6, w7, w8, w9, w10, w11⟩ := h
  obtain ⟨-, -, -, -, -, -, -, c7, -, -, -, -⟩ := hc
  have hcl := clv_b (v := y)
  have hgf0 := gsz_q (f := f0)
  have e1 : sg a = a := by rw [sg_v (by omega), if_neg (by omega)]
  have e2 : sg y = y := by rw [sg_v (by omega), if_neg (by omega)]
  refine ⟨Y (g + a).toNat, g + a, 1, r3, r5, vput Y (r7 - 1).toNat (Y (g + a).toNat), ?_, vp_e, vp_b⟩
  refine Rn_tr (T := (A + 2, R8 a r1 r2 r3 r4 r5 r6 (r7 - 1), Y, tk, ou, sn)) (X_off (d := 0) (x := (r7 - 1)) hn ⟨by omega, by omega, by omega⟩ (by decide) w0 (by show r7 - 1 = (r7 - 1); omega) (by omega) hYa v8_7 v8_0) ?_
  refine Rn_tr (T := (A + 2 + clv (y), R8 a y r2 r3 r4 r5 r6 (r7 - 1), Y, tk, ou, sn)) (X_co (d := 1) (v := y) hn ⟨by omega, by omega, by omega⟩ (by decide) w1 (by omega) v8_1) ?_
  refine Rn_tr (T := (A + 2 + clv (y) + 1, R8 a y r2 r3 r4 r5 r6 (r7 - 1), Y, tk, ou, sn)) (J_jn0 (d := 0) (x := 3) hn ⟨by omega, by omega, by omega⟩ (by decide) (by omega) (wl w2) (by show ¬ 32767 < a; omega) (by omega)) ?_
  refine Rn_tr (T := (A + 2 + clv (y) + 1 + 1, R8 a y 1 r3 r4 r5 r6 (r7 - 1), Y, tk, ou, sn)) (J_less (d := 2) (a := 0) (b := 1) hn ⟨by omega, by omega, by omega⟩ (by decide) (wl w3) (by show (if sg a < sg y then 1 else 0) = (1 : Int); rw [e1, e2, if_pos (by omega)]) v8_2) ?_
  refine Rn_tr (T := (A + 2 + clv (y) + 1 + 1 + 1, R8 a y 1 r3 r4 r5 r6 (r7 - 1), Y, tk, ou, sn)) (J_jz0 (d := 2) (x := 1) hn ⟨by omega, by omega, by omega⟩ (by decide) (by omega) (wl w4) (by show (1 : Int) ≠ 0; decide) (by omega)) ?_
  refine Rn_tr (T := (A + 2 + clv (y) + 1 + 1 + 1 + 1 + 1 + gsz f0, R8 a y 1 r3 r4 r5 r6 (r7 - 1), Y, tk, ou, sn)) (J_ju (x := (1 + gsz f0)) hn ⟨by omega, by omega, by omega⟩ (by omega) (wl w5) (by omega)) ?_
  refine Rn_tr (T := (A + 2 + clv (y) + 1 + 1 + 1 + 1 + 1 + gsz f0 + 2, R8 a g 1 r3 r4 r5 r6 (r7 - 1), Y, tk, ou, sn)) (X_nt (d := 1) (v := g) hn ⟨by omega, by omega, by omega⟩ (by decide) w8 hN (by omega) v8_1) ?_
  refine Rn_tr (T := (A + 2 + clv (y) + 1 + 1 + 1 + 1 + 1 + gsz f0 + 2 + 1, R8 a (g + a) 1 r3 r4 r5 r6 (r7 - 1), Y, tk, ou, sn)) (J_add (d := 1) (a := 1) (b := 0) hn ⟨by omega, by omega, by omega⟩ (by decide) (wl w9) (by show (g + a) % 65536 = _; omega) v8_1) ?_
  refine Rn_tr (T := (A + 2 + clv (y) + 1 + 1 + 1 + 1 + 1 + gsz f0 + 2 + 1 + 1, R8 (Y (g + a).toNat) (g + a) 1 r3 r4 r5 r6 (r7 - 1), Y, tk, ou, sn)) (J_ld (d := 0) (a := 1) (x := 0) (A := (g + a)) hn ⟨by omega, by omega, by omega⟩ (by decide) (by omega) (wl w10) (by show (g + a) + 0 = g + a; omega) (by omega) rfl v8_0) ?_
  exact X_on (d := 0) (x := (r7 - 1)) (v := (Y (g + a).toNat)) hn ⟨by omega, by omega, by omega⟩ (by decide) w11 rfl (by omega) rfl rfl v8_7
theorem Q_7f (hn : n ≤ 8192) (hA : 0 ≤ A) (h : WdOk P N W (it_7 f0 f1 lk x y y2 y3) A) (hc : cX P (it_7 f0 f1 lk x y y2 y3) A = false) (hE : A + ((it_7 f0 f1 lk x y y2 y3).length : Int) = E) (hEn : E ≤ n) {a g v : Int} (hP : 0 ≤ P lk ∧ P lk < 65536) (hy : 1 ≤ y ∧ y ≤ 500) (ha : 0 ≤ a ∧ a < 65536) (h7 : (n : Int) ≤ r7 - 2 ∧ r7 - 1 < 8192) (hYv : Y (r7 - 1).toNat = v) (hYa : Y (r7 - 2).toNat = a) (hb : ¬ (a ≤ 32767 ∧ a < y)) : ∃ s0 s1 s2 s3 s5 Y', Rn n W ni ip (A, R8 r0 r1 r2 r3 r4 r5 r6 r7, Y, tk, ou, sn) (P lk, R8 s0 s1 s2 s3 2 s5 r6 (r7 - 2), Y', tk, ou, sn) ∧ ∀ k : Nat, (k : Int) < r7 - 2 → Y' k = Y k := by
  unfold it_7 at h hc hE
  simp only [List.append_assoc, WdOk_app, cX_app, List.length_append, Int.natCast_add, Bool.or_eq_false_iff, l_off, l_on, l_pl, l_iL, l_nt, l_go, l_co] at h hc hE
  obtain ⟨w0, w1, w2, w3, w4, w5, w6, w7, w8, w9, w10, w11⟩ := h
  obtain ⟨-, -, -, -, -, -, -, -, c8, -, -, -⟩ := hc
  have hcl := clv_b (v := y)
  have hgf0 := gsz_q (f := f0)
  by_cases c1 : 32767 < a
  · have step : Rn n W ni ip (A, R8 r0 r1 r2 r3 r4 r5 r6 r7, Y, tk, ou, sn) (A + 2 + 2 + clv (y) + 1 + 1 + 1 + 1 + 1, R8 a y r2 v 2 r5 r6 (r7 - 2), Y, tk, ou, sn) := by
      refine Rn_tr (T := (A + 2, R8 r0 r1 r2 v r4 r5 r6 (r7 - 1), Y, tk, ou, sn)) (X_off (d := 3) (x := (r7 - 1)) hn ⟨by omega, by omega, by omega⟩ (by decide) w0 (by show r7 - 1 = (r7 - 1); omega) (by omega) hYv v8_7 v8_3) ?_
      refine Rn_tr (T := (A + 2 + 2, R8 a r1 r2 v r4 r5 r6 (r7 - 2), Y, tk, ou, sn)) (X_off (d := 0) (x := (r7 - 2)) hn ⟨by omega, by omega, by omega⟩ (by decide) w1 (by show (r7 - 1) - 1 = (r7 - 2); omega) (by omega) hYa v8_7 v8_0) ?_
      refine Rn_tr (T := (A + 2 + 2 + clv (y), R8 a y r2 v r4 r5 r6 (r7 - 2), Y, tk, ou, sn)) (X_co (d := 1) (v := y) hn ⟨by omega, by omega, by omega⟩ (by decide) w2 (by omega) v8_1) ?_
      refine Rn_tr (T := (A + 2 + 2 + clv (y) + 1 + 1 + 1 + 1, R8 a y r2 v r4 r5 r6 (r7 - 2), Y, tk, ou, sn)) (J_jn1 (d := 0) (x := 3) hn ⟨by omega, by omega, by omega⟩ (by decide) (by omega) (wl w3) c1 (by omega)) ?_
      exact J_li (d := 4) (x := 2) hn ⟨by omega, by omega, by omega⟩ (by decide) (by omega) (wl w7) (by omega) v8_4
    obtain ⟨g5, hg⟩ := X_go (n := n) (W := W) (ni := ni) (ip := ip) (Y := Y) (z := (tk, ou, sn)) (P := P) (N := N) (r0 := a) (r1 := y) (r2 := r2) (r3 := v) (r4 := 2) (r5 := r5) (r6 := r6) (r7 := (r7 - 2)) hn ⟨by omega, by omega⟩ w8 rfl hP (cgf c8)
    exact ⟨_, _, _, _, _, Y, Rn_tr step hg, fun _ _ => rfl⟩
  · have e1 : sg a = a := by rw [sg_v (by omega), if_neg c1]
    have e2 : sg y = y := by rw [sg_v (by omega), if_neg (by omega)]
    have step : Rn n W ni ip (A, R8 r0 r1 r2 r3 r4 r5 r6 r7, Y, tk, ou, sn) (A + 2 + 2 + clv (y) + 1 + 1 + 1 + 1 + 1, R8 a y 0 v 2 r5 r6 (r7 - 2), Y, tk, ou, sn) := by
      refine Rn_tr (T := (A + 2, R8 r0 r1 r2 v r4 r5 r6 (r7 - 1), Y, tk, ou, sn)) (X_off (d := 3) (x := (r7 - 1)) hn ⟨by omega, by omega, by omega⟩ (by decide) w0 (by show r7 - 1 = (r7 - 1); omega) (by omega) hYv v8_7 v8_3) ?_
      refine Rn_tr (T := (A + 2 + 2, R8 a r1 r2 v r4 r5 r6 (r7 - 2), Y, tk, ou, sn)) (X_off (d := 0) (x := (r7 - 2)) hn ⟨by omega, by omega, by omega⟩ (by decide) w1 (by show (r7 - 1) - 1 = (r7 - 2); omega) (by omega) hYa v8_7 v8_0) ?_
      refine Rn_tr (T := (A + 2 + 2 + clv (y), R8 a y r2 v r4 r5 r6 (r7 - 2), Y, tk, ou, sn)) (X_co (d := 1) (v := y) hn ⟨by omega, by omega, by omega⟩ (by decide) w2 (by omega) v8_1) ?_
      refine Rn_tr (T := (A + 2 + 2 + clv (y) + 1, R8 a y r2 v r4 r5 r6 (r7 - 2), Y, tk, ou, sn)) (J_jn0 (d := 0) (x := 3) hn ⟨by omega, by omega, by omega⟩ (by decide) (by omega) (wl w3) c1 (by omega)) ?_
      refine Rn_tr (T := (A + 2 + 2 + clv (y) + 1 + 1, R8 a y 0 v r4 r5 r6 (r7 - 2), Y, tk, ou, sn)) (J_less (d := 2) (a := 0) (b := 1) hn ⟨by omega, by omega, by omega⟩ (by decide) (wl w4) (by show (if sg a < sg y then 1 else 0) = (0 : Int); rw [e1, e2, if_neg (by omega)]) v8_2) ?_
      refine Rn_tr (T := (A + 2 + 2 + clv (y) + 1 + 1 + 1 + 1, R8 a y 0 v r4 r5 r6 (r7 - 2), Y, tk, ou, sn)) (J_jz1 (d := 2) (x := 1) hn ⟨by omega, by omega, by omega⟩ (by decide) (by omega) (wl w5) rfl (by omega)) ?_
      exact J_li (d := 4) (x := 2) hn ⟨by omega, by omega, by omega⟩ (by decide) (by omega) (wl w7) (by omega) v8_4
    obtain ⟨g5, hg⟩ := X_go (n := n) (W := W) (ni := ni) (ip := ip) (Y := Y) (z := (tk, ou, sn)) (P := P) (N := N) (r0 := a) (r1 := y) (r2 := 0) (r3 := v) (r4 := 2) (r5 := r5) (r6 := r6) (r7 := (r7 - 2)) hn ⟨by omega, by omega⟩ w8 rfl hP (cgf c8)
    exact ⟨_, _, _, _, _, Y, Rn_tr step hg, fun _ _ => rfl⟩
theorem Q_7 (hn : n ≤ 8192) (hA : 0 ≤ A) (h : WdOk P N W (it_7 f0 f1 lk x y y2 y3) A) (hc : cX P (it_7 f0 f1 lk x y y2 y3) A = false) (hE : A + ((it_7 f0 f1 lk x y y2 y3).length : Int) = E) (hEn : E ≤ n) {a g v : Int} (hP : 0 ≤ P lk ∧ P lk < 65536) (hy : 1 ≤ y ∧ y ≤ 500) (ha : 0 ≤ a ∧ a < 65536) (hN : N (-10 - x) = g) (hg : (n : Int) ≤ g ∧ g + a < 8192) (h7 : (n : Int) ≤ r7 - 2 ∧ r7 - 1 < 8192) (hYv : Y (r7 - 1).toNat = v) (hYa : Y (r7 - 2).toNat = a) (hb : a ≤ 32767 ∧ a < y) : ∃ s0 s1 s2 s3 s5, Rn n W ni ip (A, R8 r0 r1 r2 r3 r4 r5 r6 r7, Y, tk, ou, sn) (E, R8 s0 s1 s2 s3 r4 s5 r6 (r7 - 2), vput Y (g + a).toNat v, tk, ou, sn) := by
  unfold it_7 at h hc hE
  simp only [List.append_assoc, WdOk_app, cX_app, List.length_append, Int.natCast_add, Bool.or_eq_false_iff, l_off, l_on, l_pl, l_iL, l_nt, l_go, l_co] at h hc hE
  obtain ⟨w0, w1, w2, w3, w4, w5, w6, w7, w8, w9, w10, w11⟩ := h
  obtain ⟨-, -, -, -, -, -, -, -, c8, -, -, -⟩ := hc
  have hcl := clv_b (v := y)
  have hgf0 := gsz_q (f := f0)
  have e1 : sg a = a := by rw [sg_v (by omega), if_neg (by omega)]
  have e2 : sg y = y := by rw [sg_v (by omega), if_neg (by omega)]
  refine ⟨a, g + a, 1, v, r5, ?_⟩
  refine Rn_tr (T := (A + 2, R8 r0 r1 r2 v r4 r5 r6 (r7 - 1), Y, tk, ou, sn)) (X_off (d := 3) (x := (r7 - 1)) hn ⟨by omega, by omega, by omega⟩ (by decide) w0 (by show r7 - 1 = (r7 - 1); omega) (by omega) hYv v8_7 v8_3) ?_
  refine Rn_tr (T := (A + 2 + 2, R8 a r1 r2 v r4 r5 r6 (r7 - 2), Y, tk, ou, sn)) (X_off (d := 0) (x := (r7 - 2)) hn ⟨by omega, by omega, by omega⟩ (by decide) w1 (by show (r7 - 1) - 1 = (r7 - 2); omega) (by omega) hYa v8_7 v8_0) ?_
  refine Rn_tr (T := (A + 2 + 2 + clv (y), R8 a y r2 v r4 r5 r6 (r7 - 2), Y, tk, ou, sn)) (X_co (d := 1) (v := y) hn ⟨by omega, by omega, by omega⟩ (by decide) w2 (by omega) v8_1) ?_
  refine Rn_tr (T := (A + 2 + 2 + clv (y) + 1, R8 a y r2 v r4 r5 r6 (r7 - 2), Y, tk, ou, sn)) (J_jn0 (d := 0) (x := 3) hn ⟨by omega, by omega, by omega⟩ (by decide) (by omega) (wl w3) (by show ¬ 32767 < a; omega) (by omega)) ?_
  refine Rn_tr (T := (A + 2 + 2 + clv (y) + 1 + 1, R8 a y 1 v r4 r5 r6 (r7 - 2), Y, tk, ou, sn)) (J_less (d := 2) (a := 0) (b := 1) hn ⟨by omega, by omega, by omega⟩ (by decide) (wl w4) (by show (if sg a < sg y then 1 else 0) = (1 : Int); rw [e1, e2, if_pos (by omega)]) v8_2) ?_
  refine Rn_tr (T := (A + 2 + 2 + clv (y) + 1 + 1 + 1, R8 a y 1 v r4 r5 r6 (r7 - 2), Y, tk, ou, sn)) (J_jz0 (d := 2) (x := 1) hn ⟨by omega, by omega, by omega⟩ (by decide) (by omega) (wl w5) (by show (1 : Int) ≠ 0; decide) (by omega)) ?_
  refine Rn_tr (T := (A + 2 + 2 + clv (y) + 1 + 1 + 1 + 1 + 1 + gsz f0, R8 a y 1 v r4 r5 r6 (r7 - 2), Y, tk, ou, sn)) (J_ju (x := (1 + gsz f0)) hn ⟨by omega, by omega, by omega⟩ (by omega) (wl w6) (by omega)) ?_
  refine Rn_tr (T := (A + 2 + 2 + clv (y) + 1 + 1 + 1 + 1 + 1 + gsz f0 + 2, R8 a g 1 v r4 r5 r6 (r7 - 2), Y, tk, ou, sn)) (X_nt (d := 1) (v := g) hn ⟨by omega, by omega, by omega⟩ (by decide) w9 hN (by omega) v8_1) ?_
  refine Rn_tr (T := (A + 2 + 2 + clv (y) + 1 + 1 + 1 + 1 + 1 + gsz f0 + 2 + 1, R8 a (g + a) 1 v r4 r5 r6 (r7 - 2), Y, tk, ou, sn)) (J_add (d := 1) (a := 1) (b := 0) hn ⟨by omega, by omega, by omega⟩ (by decide) (wl w10) (by show (g + a) % 65536 = _; omega) v8_1) ?_
  exact J_st (d := 3) (a := 1) (x := 0) (A := (g + a)) hn ⟨by omega, by omega, by omega⟩ (by decide) (by omega) (wl w11) (by show (g + a) + 0 = g + a; omega) (by omega) rfl
theorem Q_8f (hn : n ≤ 8192) (hA : 0 ≤ A) (h : WdOk P N W (it_8 f0 f1 lk x y y2 y3) A) (hc : cX P (it_8 f0 f1 lk x y y2 y3) A = false) (hE : A + ((it_8 f0 f1 lk x y y2 y3).length : Int) = E) (hEn : E ≤ n) {a b : Int} (hP : 0 ≤ P lk ∧ P lk < 65536) (ha : 0 ≤ a ∧ a < 65536) (hb : 0 ≤ b ∧ b < 65536) (h7 : (n : Int) ≤ r7 - 2 ∧ r7 - 1 < 8192) (hYb : Y (r7 - 1).toNat = b) (hYa : Y (r7 - 2).toNat = a) (hr : ¬ (-32768 ≤ sg a + sg b ∧ sg a + sg b ≤ 32767)) : ∃ s0 s1 s2 s3 s5 Y', Rn n W ni ip (A, R8 r0 r1 r2 r3 r4 r5 r6 r7, Y, tk, ou, sn) (P lk, R8 s0 s1 s2 s3 1 s5 r6 (r7 - 2), Y', tk, ou, sn) ∧ ∀ k : Nat, (k : Int) < r7 - 2 → Y' k = Y k := by
  unfold it_8 at h hc hE
  simp only [List.append_assoc, WdOk_app, cX_app, List.length_append, Int.natCast_add, Bool.or_eq_false_iff, l_off, l_on, l_pl, l_iL, l_nt, l_go, l_co] at h hc hE
  obtain ⟨w0, w1, w2, w3, w4, w5, w6, w7, w8, w9, w10⟩ := h
  obtain ⟨-, -, -, -, -, -, -, -, -, c9, -⟩ := hc
  have hgf0 := gsz_q (f := f0)
  have hov := (add_o ha hb).2 hr
  have step : Rn n W ni ip (A, R8 r0 r1 r2 r3 r4 r5 r6 r7, Y, tk, ou, sn) (A + 2 + 2 + 1 + 1 + 1 + 1 + 1 + 1 + 1, R8 a (ixor b ((a + b) % 65536)) ((a + b) % 65536) (iand (ixor a ((a + b) % 65536)) (ixor b ((a + b) % 65536))) 1 r5 r6 (r7 - 2), Y, tk, ou, sn) := by
    refine Rn_tr (T := (A + 2, R8 r0 b r2 r3 r4 r5 r6 (r7 - 1), Y, tk, ou, sn)) (X_off (d := 1) (x := (r7 - 1)) hn ⟨by omega, by omega, by omega⟩ (by decide) w0 (by show r7 - 1 = (r7 - 1); omega) (by omega) hYb v8_7 v8_1) ?_
    refine Rn_tr (T := (A + 2 + 2, R8 a b r2 r3 r4 r5 r6 (r7 - 2), Y, tk, ou, sn)) (X_off (d := 0) (x := (r7 - 2)) hn ⟨by omega, by omega, by omega⟩ (by decide) w1 (by show (r7 - 1) - 1 = (r7 - 2); omega) (by omega) hYa v8_7 v8_0) ?_
    refine Rn_tr (T := (A + 2 + 2 + 1, R8 a b ((a + b) % 65536) r3 r4 r5 r6 (r7 - 2), Y, tk, ou, sn)) (J_add (d := 2) (a := 0) (b := 1) hn ⟨by omega, by omega, by omega⟩ (by decide) (wl w2) rfl v8_2) ?_
    refine Rn_tr (T := (A + 2 + 2 + 1 + 1, R8 a b ((a + b) % 65536) (ixor a ((a + b) % 65536)) r4 r5 r6 (r7 - 2), Y, tk, ou, sn)) (J_xor (d := 3) (a := 0) (b := 2) hn ⟨by omega, by omega, by omega⟩ (by decide) (wl w3) rfl v8_3) ?_
    refine Rn_tr (T := (A + 2 + 2 + 1 + 1 + 1, R8 a (ixor b ((a + b) % 65536)) ((a + b) % 65536) (ixor a ((a + b) % 65536)) r4 r5 r6 (r7 - 2), Y, tk, ou, sn)) (J_xor (d := 1) (a := 1) (b := 2) hn ⟨by omega, by omega, by omega⟩ (by decide) (wl w4) rfl v8_1) ?_
    refine Rn_tr (T := (A + 2 + 2 + 1 + 1 + 1 + 1, R8 a (ixor b ((a + b) % 65536)) ((a + b) % 65536) (iand (ixor a ((a + b) % 65536)) (ixor b ((a + b) % 65536))) r4 r5 r6 (r7 - 2), Y, tk, ou, sn)) (J_and (d := 3) (a := 3) (b := 1) hn ⟨by omega, by omega, by omega⟩ (by decide) (wl w5) rfl v8_3) ?_
    refine Rn_tr (T := (A + 2 + 2 + 1 + 1 + 1 + 1 + 1 + 1, R8 a (ixor b ((a + b) % 65536)) ((a + b) % 65536) (iand (ixor a ((a + b) % 65536)) (ixor b ((a + b) % 65536))) r4 r5 r6 (r7 - 2), Y, tk, ou, sn)) (J_jn1 (d := 3) (x := 1) hn ⟨by omega, by omega, by omega⟩ (by decide) (by omega) (wl w6) hov (by omega)) ?_
    exact J_li (d := 4) (x := 1) hn ⟨by omega, by omega, by omega⟩ (by decide) (by omega) (wl w8) (by omega) v8_4
  obtain ⟨g5, hg⟩ := X_go (n := n) (W := W) (ni := ni) (ip := ip) (Y := Y) (z := (tk, ou, sn)) (P := P) (N := N) (r0 := a) (r1 := (ixor b ((a + b) % 65536))) (r2 := ((a + b) % 65536)) (r3 := (iand (ixor a ((a + b) % 65536)) (ixor b ((a + b) % 65536)))) (r4 := 1) (r5 := r5) (r6 := r6) (r7 := (r7 - 2)) hn ⟨by omega, by omega⟩ w9 rfl hP (cgf c9)
  exact ⟨_, _, _, _, _, Y, Rn_tr step hg, fun _ _ => rfl⟩
theorem Q_8 (hn : n ≤ 8192) (hA : 0 ≤ A) (h : WdOk P N W (it_8 f0 f1 lk x y y2 y3) A) (hc : cX P (it_8 f0 f1 lk x y y2 y3) A = false) (hE : A + ((it_8 f0 f1 lk x y y2 y3).length : Int) = E) (hEn : E ≤ n) {a b : Int} (hP : 0 ≤ P lk ∧ P lk < 65536) (ha : 0 ≤ a ∧ a < 65536) (hb : 0 ≤ b ∧ b < 65536) (h7 : (n : Int) ≤ r7 - 2 ∧ r7 - 1 < 8192) (hYb : Y (r7 - 1).toNat = b) (hYa : Y (r7 - 2).toNat = a) (hr : (-32768 ≤ sg a + sg b ∧ sg a + sg b ≤ 32767)) : ∃ s0 s1 s2 s3 s5 Y', Rn n W ni ip (A, R8 r0 r1 r2 r3 r4 r5 r6 r7, Y, tk, ou, sn) (E, R8 s0 s1 s2 s3 r4 s5 r6 ((r7 - 2) + 1), Y', tk, ou, sn) ∧ Y' ((r7 - 2)).toNat = ((a + b) % 65536) ∧ ∀ k : Nat, (k : Int) < (r7 - 2) → Y' k = Y k := by
  unfold it_8 at h hc hE
  simp only [List.append_assoc, WdOk_app, cX_app, List.length_append, Int.natCast_add, Bool.or_eq_false_iff, l_off, l_on, l_pl, l_iL, l_nt, l_go, l_co] at h hc hE
  obtain ⟨w0, w1, w2, w3, w4, w5, w6, w7, w8, w9, w10⟩ := h
  obtain ⟨-, -, -, -, -, -, -, -, -, c9, -⟩ := hc
  have hgf0 := gsz_q (f := f0)
  have hov : ¬ 32767 < (iand (ixor a ((a + b) % 65536)) (ixor b ((a + b) % 65536))) := fun w => (add_o ha hb).1 w hr
  refine ⟨a, (ixor b ((a + b) % 65536)), ((a + b) % 65536), (iand (ixor a ((a + b) % 65536)) (ixor b ((a + b) % 65536))), r5, vput Y (r7 - 2).toNat ((a + b) % 65536), ?_, vp_e, vp_b⟩
  refine Rn_tr (T := (A + 2, R8 r0 b r2 r3 r4 r5 r6 (r7 - 1), Y, tk, ou, sn)) (X_off (d := 1) (x := (r7 - 1)) hn ⟨by omega, by omega, by omega⟩ (by decide) w0 (by show r7 - 1 = (r7 - 1); omega) (by omega) hYb v8_7 v8_1) ?_
  refine Rn_tr (T := (A + 2 + 2, R8 a b r2 r3 r4 r5 r6 (r7 - 2), Y, tk, ou, sn)) (X_off (d := 0) (x := (r7 - 2)) hn ⟨by omega, by omega, by omega⟩ (by decide) w1 (by show (r7 - 1) - 1 = (r7 - 2); omega) (by omega) hYa v8_7 v8_0) ?_
  refine Rn_tr (T := (A + 2 + 2 + 1, R8 a b ((a + b) % 65536) r3 r4 r5 r6 (r7 - 2), Y, tk, ou, sn)) (J_add (d := 2) (a := 0) (b := 1) hn ⟨by omega, by omega, by omega⟩ (by decide) (wl w2) rfl v8_2) ?_
  refine Rn_tr (T := (A + 2 + 2 + 1 + 1, R8 a b ((a + b) % 65536) (ixor a ((a + b) % 65536)) r4 r5 r6 (r7 - 2), Y, tk, ou, sn)) (J_xor (d := 3) (a := 0) (b := 2) hn ⟨by omega, by omega, by omega⟩ (by decide) (wl w3) rfl v8_3) ?_
  refine Rn_tr (T := (A + 2 + 2 + 1 + 1 + 1, R8 a (ixor b ((a + b) % 65536)) ((a + b) % 65536) (ixor a ((a + b) % 65536)) r4 r5 r6 (r7 - 2), Y, tk, ou, sn)) (J_xor (d := 1) (a := 1) (b := 2) hn ⟨by omega, by omega, by omega⟩ (by decide) (wl w4) rfl v8_1) ?_
  refine Rn_tr (T := (A + 2 + 2 + 1 + 1 + 1 + 1, R8 a (ixor b ((a + b) % 65536)) ((a + b) % 65536) (iand (ixor a ((a + b) % 65536)) (ixor b ((a + b) % 65536))) r4 r5 r6 (r7 - 2), Y, tk, ou, sn)) (J_and (d := 3) (a := 3) (b := 1) hn ⟨by omega, by omega, by omega⟩ (by decide) (wl w5) rfl v8_3) ?_
  refine Rn_tr (T := (A + 2 + 2 + 1 + 1 + 1 + 1 + 1, R8 a (ixor b ((a + b) % 65536)) ((a + b) % 65536) (iand (ixor a ((a + b) % 65536)) (ixor b ((a + b) % 65536))) r4 r5 r6 (r7 - 2), Y, tk, ou, sn)) (J_jn0 (d := 3) (x := 1) hn ⟨by omega, by omega, by omega⟩ (by decide) (by omega) (wl w6) hov (by omega)) ?_
  refine Rn_tr (T := (A + 2 + 2 + 1 + 1 + 1 + 1 + 1 + 1 + 1 + gsz f0, R8 a (ixor b ((a + b) % 65536)) ((a + b) % 65536) (iand (ixor a ((a + b) % 65536)) (ixor b ((a + b) % 65536))) r4 r5 r6 (r7 - 2), Y, tk, ou, sn)) (J_ju (x := (1 + gsz f0)) hn ⟨by omega, by omega, by omega⟩ (by omega) (wl w7) (by omega)) ?_
  exact X_on (d := 2) (x := (r7 - 2)) (v := ((a + b) % 65536)) hn ⟨by omega, by omega, by omega⟩ (by decide) w10 rfl (by omega) rfl rfl v8_7
theorem Q_9f (hn : n ≤ 8192) (hA : 0 ≤ A) (h : WdOk P N W (it_9 f0 f1 lk x y y2 y3) A) (hc : cX P (it_9 f0 f1 lk x y y2 y3) A = false) (hE : A + ((it_9 f0 f1 lk x y y2 y3).length : Int) = E) (hEn : E ≤ n) {a b : Int} (hP : 0 ≤ P lk ∧ P lk < 65536) (ha : 0 ≤ a ∧ a < 65536) (hb : 0 ≤ b ∧ b < 65536) (h7 : (n : Int) ≤ r7 - 2 ∧ r7 - 1 < 8192) (hYb : Y (r7 - 1).toNat = b) (hYa : Y (r7 - 2).toNat = a) (hr : ¬ (-32768 ≤ sg a - sg b ∧ sg a - sg b ≤ 32767)) : ∃ s0 s1 s2 s3 s5 Y', Rn n W ni ip (A, R8 r0 r1 r2 r3 r4 r5 r6 r7, Y, tk, ou, sn) (P lk, R8 s0 s1 s2 s3 1 s5 r6 (r7 - 2), Y', tk, ou, sn) ∧ ∀ k : Nat, (k : Int) < r7 - 2 → Y' k = Y k := by
  unfold it_9 at h hc hE
  simp only [List.append_assoc, WdOk_app, cX_app, List.length_append, Int.natCast_add, Bool.or_eq_false_iff, l_off, l_on, l_pl, l_iL, l_nt, l_go, l_co] at h hc hE
  obtain ⟨w0, w1, w2, w3, w4, w5, w6, w7, w8, w9, w10⟩ := h
  obtain ⟨-, -, -, -, -, -, -, -, -, c9, -⟩ := hc
  have hgf0 := gsz_q (f := f0)
  have hov := (sub_o ha hb).2 hr
  have step : Rn n W ni ip (A, R8 r0 r1 r2 r3 r4 r5 r6 r7, Y, tk, ou, sn) (A + 2 + 2 + 1 + 1 + 1 + 1 + 1 + 1 + 1, R8 a (ixor a ((a - b) % 65536)) ((a - b) % 65536) (iand (ixor a b) (ixor a ((a - b) % 65536))) 1 r5 r6 (r7 - 2), Y, tk, ou, sn) := by
    refine Rn_tr (T := (A + 2, R8 r0 b r2 r3 r4 r5 r6 (r7 - 1), Y, tk, ou, sn)) (X_off (d := 1) (x := (r7 - 1)) hn ⟨by omega, by omega, by omega⟩ (by decide) w0 (by show r7 - 1 = (r7 - 1); omega) (by omega) hYb v8_7 v8_1) ?_
    refine Rn_tr (T := (A + 2 + 2, R8 a b r2 r3 r4 r5 r6 (r7 - 2), Y, tk, ou, sn)) (X_off (d := 0) (x := (r7 - 2)) hn ⟨by omega, by omega, by omega⟩ (by decide) w1 (by show (r7 - 1) - 1 = (r7 - 2); omega) (by omega) hYa v8_7 v8_0) ?_
    refine Rn_tr (T := (A + 2 + 2 + 1, R8 a b ((a - b) % 65536) r3 r4 r5 r6 (r7 - 2), Y, tk, ou, sn)) (J_sub (d := 2) (a := 0) (b := 1) hn ⟨by omega, by omega, by omega⟩ (by decide) (wl w2) rfl v8_2) ?_
    refine Rn_tr (T := (A + 2 + 2 + 1 + 1, R8 a b ((a - b) % 65536) (ixor a b) r4 r5 r6 (r7 - 2), Y, tk, ou, sn)) (J_xor (d := 3) (a := 0) (b := 1) hn ⟨by omega, by omega, by omega⟩ (by decide) (wl w3) rfl v8_3) ?_
    refine Rn_tr (T := (A + 2 + 2 + 1 + 1 + 1, R8 a (ixor a ((a - b) % 65536)) ((a - b) % 65536) (ixor a b) r4 r5 r6 (r7 - 2), Y, tk, ou, sn)) (J_xor (d := 1) (a := 0) (b := 2) hn ⟨by omega, by omega, by omega⟩ (by decide) (wl w4) rfl v8_1) ?_
    refine Rn_tr (T := (A + 2 + 2 + 1 + 1 + 1 + 1, R8 a (ixor a ((a - b) % 65536)) ((a - b) % 65536) (iand (ixor a b) (ixor a ((a - b) % 65536))) r4 r5 r6 (r7 - 2), Y, tk, ou, sn)) (J_and (d := 3) (a := 3) (b := 1) hn ⟨by omega, by omega, by omega⟩ (by decide) (wl w5) rfl v8_3) ?_
    refine Rn_tr (T := (A + 2 + 2 + 1 + 1 + 1 + 1 + 1 + 1, R8 a (ixor a ((a - b) % 65536)) ((a - b) % 65536) (iand (ixor a b) (ixor a ((a - b) % 65536))) r4 r5 r6 (r7 - 2), Y, tk, ou, sn)) (J_jn1 (d := 3) (x := 1) hn ⟨by omega, by omega, by omega⟩ (by decide) (by omega) (wl w6) hov (by omega)) ?_
    exact J_li (d := 4) (x := 1) hn ⟨by omega, by omega, by omega⟩ (by decide) (by omega) (wl w8) (by omega) v8_4
  obtain ⟨g5, hg⟩ := X_go (n := n) (W := W) (ni := ni) (ip := ip) (Y := Y) (z := (tk, ou, sn)) (P := P) (N := N) (r0 := a) (r1 := (ixor a ((a - b) % 65536))) (r2 := ((a - b) % 65536)) (r3 := (iand (ixor a b) (ixor a ((a - b) % 65536)))) (r4 := 1) (r5 := r5) (r6 := r6) (r7 := (r7 - 2)) hn ⟨by omega, by omega⟩ w9 rfl hP (cgf c9)
  exact ⟨_, _, _, _, _, Y, Rn_tr step hg, fun _ _ => rfl⟩
theorem Q_9 (hn : n ≤ 8192) (hA : 0 ≤ A) (h : WdOk P N W (it_9 f0 f1 lk x y y2 y3) A) (hc : cX P (it_9 f0 f1 lk x y y2 y3) A = false) (hE : A + ((it_9 f0 f1 lk x y y2 y3).length : Int) = E) (hEn : E ≤ n) {a b : Int} (hP : 0 ≤ P lk ∧ P lk < 65536) (ha : 0 ≤ a ∧ a < 65536) (hb : 0 ≤ b ∧ b < 65536) (h7 : (n : Int) ≤ r7 - 2 ∧ r7 - 1 < 8192) (hYb : Y (r7 - 1).toNat = b) (hYa : Y (r7 - 2).toNat = a) (hr : (-32768 ≤ sg a - sg b ∧ sg a - sg b ≤ 32767)) : ∃ s0 s1 s2 s3 s5 Y', Rn n W ni ip (A, R8 r0 r1 r2 r3 r4 r5 r6 r7, Y, tk, ou, sn) (E, R8 s0 s1 s2 s3 r4 s5 r6 ((r7 - 2) + 1), Y', tk, ou, sn) ∧ Y' ((r7 - 2)).toNat = ((a - b) % 65536) ∧ ∀ k : Nat, (k : Int) < (r7 - 2) → Y' k = Y k := by
  unfold it_9 at h hc hE
  simp only [List.append_assoc, WdOk_app, cX_app, List.length_append, Int.natCast_add, Bool.or_eq_false_iff, l_off, l_on, l_pl, l_iL, l_nt, l_go, l_co] at h hc hE
  obtain ⟨w0, w1, w2, w3, w4, w5, w6, w7, w8, w9, w10⟩ := h
  obtain ⟨-, -, -, -, -, -, -, -, -, c9, -⟩ := hc
  have hgf0 := gsz_q (f := f0)
  have hov : ¬ 32767 < (iand (ixor a b) (ixor a ((a - b) % 65536))) := fun w => (sub_o ha hb).1 w hr
  refine ⟨a, (ixor a ((a - b) % 65536)), ((a - b) % 65536), (iand (ixor a b) (ixor a ((a - b) % 65536))), r5, vput Y (r7 - 2).toNat ((a - b) % 65536), ?_, vp_e, vp_b⟩
  refine Rn_tr (T := (A + 2, R8 r0 b r2 r3 r4 r5 r6 (r7 - 1), Y, tk, ou, sn)) (X_off (d := 1) (x := (r7 - 1)) hn ⟨by omega, by omega, by omega⟩ (by decide) w0 (by show r7 - 1 = (r7 - 1); omega) (by omega) hYb v8_7 v8_1) ?_
  refine Rn_tr (T := (A + 2 + 2, R8 a b r2 r3 r4 r5 r6 (r7 - 2), Y, tk, ou, sn)) (X_off (d := 0) (x := (r7 - 2)) hn ⟨by omega, by omega, by omega⟩ (by decide) w1 (by show (r7 - 1) - 1 = (r7 - 2); omega) (by omega) hYa v8_7 v8_0) ?_
  refine Rn_tr (T := (A + 2 + 2 + 1, R8 a b ((a - b) % 65536) r3 r4 r5 r6 (r7 - 2), Y, tk, ou, sn)) (J_sub (d := 2) (a := 0) (b := 1) hn ⟨by omega, by omega, by omega⟩ (by decide) (wl w2) rfl v8_2) ?_
  refine Rn_tr (T := (A + 2 + 2 + 1 + 1, R8 a b ((a - b) % 65536) (ixor a b) r4 r5 r6 (r7 - 2), Y, tk, ou, sn)) (J_xor (d := 3) (a := 0) (b := 1) hn ⟨by omega, by omega, by omega⟩ (by decide) (wl w3) rfl v8_3) ?_
  refine Rn_tr (T := (A + 2 + 2 + 1 + 1 + 1, R8 a (ixor a ((a - b) % 65536)) ((a - b) % 65536) (ixor a b) r4 r5 r6 (r7 - 2), Y, tk, ou, sn)) (J_xor (d := 1) (a := 0) (b := 2) hn ⟨by omega, by omega, by omega⟩ (by decide) (wl w4) rfl v8_1) ?_
  refine Rn_tr (T := (A + 2 + 2 + 1 + 1 + 1 + 1, R8 a (ixor a ((a - b) % 65536)) ((a - b) % 65536) (iand (ixor a b) (ixor a ((a - b) % 65536))) r4 r5 r6 (r7 - 2), Y, tk, ou, sn)) (J_and (d := 3) (a := 3) (b := 1) hn ⟨by omega, by omega, by omega⟩ (by decide) (wl w5) rfl v8_3) ?_
  refine Rn_tr (T := (A + 2 + 2 + 1 + 1 + 1 + 1 + 1, R8 a (ixor a ((a - b) % 65536)) ((a - b) % 65536) (iand (ixor a b) (ixor a ((a - b) % 65536))) r4 r5 r6 (r7 - 2), Y, tk, ou, sn)) (J_jn0 (d := 3) (x := 1) hn ⟨by omega, by omega, by omega⟩ (by decide) (by omega) (wl w6) hov (by omega)) ?_
  refine Rn_tr (T := (A + 2 + 2 + 1 + 1 + 1 + 1 + 1 + 1 + 1 + gsz f0, R8 a (ixor a ((a - b) % 65536)) ((a - b) % 65536) (iand (ixor a b) (ixor a ((a - b) % 65536))) r4 r5 r6 (r7 - 2), Y, tk, ou, sn)) (J_ju (x := (1 + gsz f0)) hn ⟨by omega, by omega, by omega⟩ (by omega) (wl w7) (by omega)) ?_
  exact X_on (d := 2) (x := (r7 - 2)) (v := ((a - b) % 65536)) hn ⟨by omega, by omega, by omega⟩ (by decide) w10 rfl (by omega) rfl rfl v8_7
theorem Q_13f (hn : n ≤ 8192) (hA : 0 ≤ A) (h : WdOk P N W (it_13 f0 f1 lk x y y2 y3) A) (hc : cX P (it_13 f0 f1 lk x y y2 y3) A = false) (hE : A + ((it_13 f0 f1 lk x y y2 y3).length : Int) = E) (hEn : E ≤ n) {b : Int} (hP : 0 ≤ P lk ∧ P lk < 65536) (hb : 0 ≤ b ∧ b < 65536) (h7 : (n : Int) ≤ r7 - 1 ∧ r7 - 1 < 8192) (hYb : Y (r7 - 1).toNat = b) (hr : ¬ (-32768 ≤ sg 0 - sg b ∧ sg 0 - sg b ≤ 32767)) : ∃ s0 s1 s2 s3 s5 Y', Rn n W ni ip (A, R8 r0 r1 r2 r3 r4 r5 r6 r7, Y, tk, ou, sn) (P lk, R8 s0 s1 s2 s3 1 s5 r6 (r7 - 1), Y', tk, ou, sn) ∧ ∀ k : Nat, (k : Int) < r7 - 1 → Y' k = Y k := by
  unfold it_13 at h hc hE
  simp only [List.append_assoc, WdOk_app, cX_app, List.length_append, Int.natCast_add, Bool.or_eq_false_iff, l_off, l_on, l_pl, l_iL, l_nt, l_go, l_co] at h hc hE
  obtain ⟨w0, w1, w2, w3, w4, w5, w6, w7, w8, w9, w10⟩ := h
  obtain ⟨-, -, -, -, -, -, -, -, -, c9, -⟩ := hc
  have hgf0 := gsz_q (f := f0)
  have hov := (sub_o (a := 0) (by omega) hb).2 hr
  have step : Rn n W ni ip (A, R8 r0 r1 r2 r3 r4 r5 r6 r7, Y, tk, ou, sn) (A + 2 + 1 + 1 + 1 + 1 + 1 + 1 + 1 + 1, R8 0 (ixor 0 ((0 - b) % 65536)) ((0 - b) % 65536) (iand (ixor 0 b) (ixor 0 ((0 - b) % 65536))) 1 r5 r6 (r7 - 1), Y, tk, ou, sn) := by
    refine Rn_tr (T := (A + 2, R8 r0 b r2 r3 r4 r5 r6 (r7 - 1), Y, tk, ou, sn)) (X_off (d := 1) (x := (r7 - 1)) hn ⟨by omega, by omega, by omega⟩ (by decide) w0 (by show r7 - 1 = (r7 - 1); omega) (by omega) hYb v8_7 v8_1) ?_
    refine Rn_tr (T := (A + 2 + 1, R8 0 b r2 r3 r4 r5 r6 (r7 - 1), Y, tk, ou, sn)) (J_li (d := 0) (x := 0) hn ⟨by omega, by omega, by omega⟩ (by decide) (by omega) (wl w1) (by omega) v8_0) ?_
    refine Rn_tr (T := (A + 2 + 1 + 1, R8 0 b ((0 - b) % 65536) r3 r4 r5 r6 (r7 - 1), Y, tk, ou, sn)) (J_sub (d := 2) (a := 0) (b := 1) hn ⟨by omega, by omega, by omega⟩ (by decide) (wl w2) rfl v8_2) ?_
    refine Rn_tr (T := (A + 2 + 1 + 1 + 1, R8 0 b ((0 - b) % 65536) (ixor 0 b) r4 r5 r6 (r7 - 1), Y, tk, ou, sn)) (J_xor (d := 3) (a := 0) (b := 1) hn ⟨by omega, by omega, by omega⟩ (by decide) (wl w3) rfl v8_3) ?_
    refine Rn_tr (T := (A + 2 + 1 + 1 + 1 + 1, R8 0 (ixor 0 ((0 - b) % 65536)) ((0 - b) % 65536) (ixor 0 b) r4 r5 r6 (r7 - 1), Y, tk, ou, sn)) (J_xor (d := 1) (a := 0) (b := 2) hn ⟨by omega, by omega, by omega⟩ (by decide) (wl w4) rfl v8_1) ?_
    refine Rn_tr (T := (A + 2 + 1 + 1 + 1 + 1 + 1, R8 0 (ixor 0 ((0 - b) % 65536)) ((0 - b) % 65536) (iand (ixor 0 b) (ixor 0 ((0 - b) % 65536))) r4 r5 r6 (r7 - 1), Y, tk, ou, sn)) (J_and (d := 3) (a := 3) (b := 1) hn ⟨by omega, by omega, by omega⟩ (by decide) (wl w5) rfl v8_3) ?_
    refine Rn_tr (T := (A + 2 + 1 + 1 + 1 + 1 + 1 + 1 + 1, R8 0 (ixor 0 ((0 - b) % 65536)) ((0 - b) % 65536) (iand (ixor 0 b) (ixor 0 ((0 - b) % 65536))) r4 r5 r6 (r7 - 1), Y, tk, ou, sn)) (J_jn1 (d := 3) (x := 1) hn ⟨by omega, by omega, by omega⟩ (by decide) (by omega) (wl w6) hov (by omega)) ?_
    exact J_li (d := 4) (x := 1) hn ⟨by omega, by omega, by omega⟩ (by decide) (by omega) (wl w8) (by omega) v8_4
  obtain ⟨g5, hg⟩ := X_go (n := n) (W := W) (ni := ni) (ip := ip) (Y := Y) (z := (tk, ou, sn)) (P := P) (N := N) (r0 := 0) (r1 := (ixor 0 ((0 - b) % 65536))) (r2 := ((0 - b) % 65536)) (r3 := (iand (ixor 0 b) (ixor 0 ((0 - b) % 65536)))) (r4 := 1) (r5 := r5) (r6 := r6) (r7 := (r7 - 1)) hn ⟨by omega, by omega⟩ w9 rfl hP (cgf c9)
  exact ⟨_, _, _, _, _, Y, Rn_tr step hg, fun _ _ => rfl⟩
theorem Q_13 (hn : n ≤ 8192) (hA : 0 ≤ A) (h : WdOk P N W (it_13 f0 f1 lk x y y2 y3) A) (hc : cX P (it_13 f0 f1 lk x y y2 y3) A = false) (hE : A + ((it_13 f0 f1 lk x y y2 y3).length : Int) = E) (hEn : E ≤ n) {b : Int} (hP : 0 ≤ P lk ∧ P lk < 65536) (hb : 0 ≤ b ∧ b < 65536) (h7 : (n : Int) ≤ r7 - 1 ∧ r7 - 1 < 8192) (hYb : Y (r7 - 1).toNat = b) (hr : (-32768 ≤ sg 0 - sg b ∧ sg 0 - sg b ≤ 32767)) : ∃ s0 s1 s2 s3 s5 Y', Rn n W ni ip (A, R8 r0 r1 r2 r3 r4 r5 r6 r7, Y, tk, ou, sn) (E, R8 s0 s1 s2 s3 r4 s5 r6 ((r7 - 1) + 1), Y', tk, ou, sn) ∧ Y' ((r7 - 1)).toNat = ((0 - b) % 65536) ∧ ∀ k : Nat, (k : Int) < (r7 - 1) → Y' k = Y k := by
  unfold it_13 at h hc hE
  simp only [List.append_assoc, WdOk_app, cX_app, List.length_append, Int.natCast_add, Bool.or_eq_false_iff, l_off, l_on, l_pl, l_iL, l_nt, l_go, l_co] at h hc hE
  obtain ⟨w0, w1, w2, w3, w4, w5, w6, w7, w8, w9, w10⟩ := h
  obtain ⟨-, -, -, -, -, -, -, -, -, c9, -⟩ := hc
  have hgf0 := gsz_q (f := f0)
  have hov : ¬ 32767 < (iand (ixor 0 b) (ixor 0 ((0 - b) % 65536))) := fun w => (sub_o (a := 0) (by omega) hb).1 w hr
  refine ⟨0, (ixor 0 ((0 - b) % 65536)), ((0 - b) % 65536), (iand (ixor 0 b) (ixor 0 ((0 - b) % 65536))), r5, vput Y (r7 - 1).toNat ((0 - b) % 65536), ?_, vp_e, vp_b⟩
  refine Rn_tr (T := (A + 2, R8 r0 b r2 r3 r4 r5 r6 (r7 - 1), Y, tk, ou, sn)) (X_off (d := 1) (x := (r7 - 1)) hn ⟨by omega, by omega, by omega⟩ (by decide) w0 (by show r7 - 1 = (r7 - 1); omega) (by omega) hYb v8_7 v8_1) ?_
  refine Rn_tr (T := (A + 2 + 1, R8 0 b r2 r3 r4 r5 r6 (r7 - 1), Y, tk, ou, sn)) (J_li (d := 0) (x := 0) hn ⟨by omega, by omega, by omega⟩ (by decide) (by omega) (wl w1) (by omega) v8_0) ?_
  refine Rn_tr (T := (A + 2 + 1 + 1, R8 0 b ((0 - b) % 65536) r3 r4 r5 r6 (r7 - 1), Y, tk, ou, sn)) (J_sub (d := 2) (a := 0) (b := 1) hn ⟨by omega, by omega, by omega⟩ (by decide) (wl w2) rfl v8_2) ?_
  refine Rn_tr (T := (A + 2 + 1 + 1 + 1, R8 0 b ((0 - b) % 65536) (ixor 0 b) r4 r5 r6 (r7 - 1), Y, tk, ou, sn)) (J_xor (d := 3) (a := 0) (b := 1) hn ⟨by omega, by omega, by omega⟩ (by decide) (wl w3) rfl v8_3) ?_
  refine Rn_tr (T := (A + 2 + 1 + 1 + 1 + 1, R8 0 (ixor 0 ((0 - b) % 65536)) ((0 - b) % 65536) (ixor 0 b) r4 r5 r6 (r7 - 1), Y, tk, ou, sn)) (J_xor (d := 1) (a := 0) (b := 2) hn ⟨by omega, by omega, by omega⟩ (by decide) (wl w4) rfl v8_1) ?_
  refine Rn_tr (T := (A + 2 + 1 + 1 + 1 + 1 + 1, R8 0 (ixor 0 ((0 - b) % 65536)) ((0 - b) % 65536) (iand (ixor 0 b) (ixor 0 ((0 - b) % 65536))) r4 r5 r6 (r7 - 1), Y, tk, ou, sn)) (J_and (d := 3) (a := 3) (b := 1) hn ⟨by omega, by omega, by omega⟩ (by decide) (wl w5) rfl v8_3) ?_
  refine Rn_tr (T := (A + 2 + 1 + 1 + 1 + 1 + 1 + 1, R8 0 (ixor 0 ((0 - b) % 65536)) ((0 - b) % 65536) (iand (ixor 0 b) (ixor 0 ((0 - b) % 65536))) r4 r5 r6 (r7 - 1), Y, tk, ou, sn)) (J_jn0 (d := 3) (x := 1) hn ⟨by omega, by omega, by omega⟩ (by decide) (by omega) (wl w6) hov (by omega)) ?_
  refine Rn_tr (T := (A + 2 + 1 + 1 + 1 + 1 + 1 + 1 + 1 + 1 + gsz f0, R8 0 (ixor 0 ((0 - b) % 65536)) ((0 - b) % 65536) (iand (ixor 0 b) (ixor 0 ((0 - b) % 65536))) r4 r5 r6 (r7 - 1), Y, tk, ou, sn)) (J_ju (x := (1 + gsz f0)) hn ⟨by omega, by omega, by omega⟩ (by omega) (wl w7) (by omega)) ?_
  exact X_on (d := 2) (x := (r7 - 1)) (v := ((0 - b) % 65536)) hn ⟨by omega, by omega, by omega⟩ (by decide) w10 rfl (by omega) rfl rfl v8_7
theorem Q_14_0 (hn : n ≤ 8192) (hA : 0 ≤ A) (h : WdOk P N W (it_14_0 f0 f1 lk x y y2 y3) A) (hc : cX P (it_14_0 f0 f1 lk x y y2 y3) A = false) (hE : A + ((it_14_0 f0 f1 lk x y y2 y3).length : Int) = E) (hEn : E ≤ n) {a b : Int} (ha : 0 ≤ a ∧ a < 65536) (hb : 0 ≤ b ∧ b < 65536) (h7 : (n : Int) ≤ r7 - 2 ∧ r7 - 1 < 8192) (hYb : Y (r7 - 1).toNat = b) (hYa : Y (r7 - 2).toNat = a) : ∃ s0 s1 s2 s3 s5 Y', Rn n W ni ip (A, R8 r0 r1 r2 r3 r4 r5 r6 r7, Y, tk, ou, sn) (E, R8 s0 s1 s2 s3 r4 s5 r6 ((r7 - 2) + 1), Y', tk, ou, sn) ∧ Y' ((r7 - 2)).toNat = (if sg a < sg b then 1 else 0) ∧ ∀ k : Nat, (k : Int) < (r7 - 2) → Y' k = Y k := by
  unfold it_14_0 at h hc hE
  simp only [List.append_assoc, WdOk_app, cX_app, List.length_append, Int.natCast_add, Bool.or_eq_false_iff, l_off, l_on, l_pl, l_iL, l_nt, l_go, l_co] at h hc hE
  obtain ⟨w0, w1, w2, w3⟩ := h
  refine ⟨a, b, (if sg a < sg b then 1 else 0), r3, r5, vput Y (r7 - 2).toNat (if sg a < sg b then 1 else 0), ?_, vp_e, vp_b⟩
  refine Rn_tr (T := (A + 2, R8 r0 b r2 r3 r4 r5 r6 (r7 - 1), Y, tk, ou, sn)) (X_off (d := 1) (x := (r7 - 1)) hn ⟨by omega, by omega, by omega⟩ (by decide) w0 (by show r7 - 1 = (r7 - 1); omega) (by omega) hYb v8_7 v8_1) ?_
  refine Rn_tr (T := (A + 2 + 2, R8 a b r2 r3 r4 r5 r6 (r7 - 2), Y, tk, ou, sn)) (X_off (d := 0) (x := (r7 - 2)) hn ⟨by omega, by omega, by omega⟩ (by decide) w1 (by show (r7 - 1) - 1 = (r7 - 2); omega) (by omega) hYa v8_7 v8_0) ?_
  refine Rn_tr (T := (A + 2 + 2 + 1, R8 a b (if sg a < sg b then 1 else 0) r3 r4 r5 r6 (r7 - 2), Y, tk, ou, sn)) (J_less (d := 2) (a := 0) (b := 1) hn ⟨by omega, by omega, by omega⟩ (by decide) (wl w2) rfl v8_2) ?_
  exact X_on (d := 2) (x := (r7 - 2)) (v := (if sg a < sg b then 1 else 0)) hn ⟨by omega, by omega, by omega⟩ (by decide) w3 rfl (by omega) rfl rfl v8_7
theorem Q_14_1 (hn : n ≤ 8192) (hA : 0 ≤ A) (h : WdOk P N W (it_14_1 f0 f1 lk x y y2 y3) A) (hc : cX P (it_14_1 f0 f1 lk x y y2 y3) A = false) (hE : A + ((it_14_1 f0 f1 lk x y y2 y3).length : Int) = E) (hEn : E ≤ n) {a b : Int} (ha : 0 ≤ a ∧ a < 65536) (hb : 0 ≤ b ∧ b < 65536) (h7 : (n : Int) ≤ r7 - 2 ∧ r7 - 1 < 8192) (hYb : Y (r7 - 1).toNat = b) (hYa : Y (r7 - 2).toNat = a) : ∃ s0 s1 s2 s3 s5 Y', Rn n W ni ip (A, R8 r0 r1 r2 r3 r4 r5 r6 r7, Y, tk, ou, sn) (E, R8 s0 s1 s2 s3 r4 s5 r6 ((r7 - 2) + 1), Y', tk, ou, sn) ∧ Y' ((r7 - 2)).toNat = (if sg b < sg a then 1 else 0) ∧ ∀ k : Nat, (k : Int) < (r7 - 2) → Y' k = Y k := by
  unfold it_14_1 at h hc hE
  simp only [List.append_assoc, WdOk_app, cX_app, List.length_append, Int.natCast_add, Bool.or_eq_false_iff, l_off, l_on, l_pl, l_iL, l_nt, l_go, l_co] at h hc hE
  obtain ⟨w0, w1, w2, w3⟩ := h
  refine ⟨a, b, (if sg b < sg a then 1 else 0), r3, r5, vput Y (r7 - 2).toNat (if sg b < sg a then 1 else 0), ?_, vp_e, vp_b⟩
  refine Rn_tr (T := (A + 2, R8 r0 b r2 r3 r4 r5 r6 (r7 - 1), Y, tk, ou, sn)) (X_off (d := 1) (x := (r7 - 1)) hn ⟨by omega, by omega, by omega⟩ (by decide) w0 (by show r7 - 1 = (r7 - 1); omega) (by omega) hYb v8_7 v8_1) ?_
  refine Rn_tr (T := (A + 2 + 2, R8 a b r2 r3 r4 r5 r6 (r7 - 2), Y, tk, ou, sn)) (X_off (d := 0) (x := (r7 - 2)) hn ⟨by omega, by omega, by omega⟩ (by decide) w1 (by show (r7 - 1) - 1 = (r7 - 2); omega) (by omega) hYa v8_7 v8_0) ?_
  refine Rn_tr (T := (A + 2 + 2 + 1, R8 a b (if sg b < sg a then 1 else 0) r3 r4 r5 r6 (r7 - 2), Y, tk, ou, sn)) (J_less (d := 2) (a := 1) (b := 0) hn ⟨by omega, by omega, by omega⟩ (by decide) (wl w2) rfl v8_2) ?_
  exact X_on (d := 2) (x := (r7 - 2)) (v := (if sg b < sg a then 1 else 0)) hn ⟨by omega, by omega, by omega⟩ (by decide) w3 rfl (by omega) rfl rfl v8_7
theorem Q_14_2 (hn : n ≤ 8192) (hA : 0 ≤ A) (h : WdOk P N W (it_14_2 f0 f1 lk x y y2 y3) A) (hc : cX P (it_14_2 f0 f1 lk x y y2 y3) A = false) (hE : A + ((it_14_2 f0 f1 lk x y y2 y3).length : Int) = E) (hEn : E ≤ n) {a b : Int} (ha : 0 ≤ a ∧ a < 65536) (hb : 0 ≤ b ∧ b < 65536) (h7 : (n : Int) ≤ r7 - 2 ∧ r7 - 1 < 8192) (hYb : Y (r7 - 1).toNat = b) (hYa : Y (r7 - 2).toNat = a) : ∃ s0 s1 s2 s3 s5 Y', Rn n W ni ip (A, R8 r0 r1 r2 r3 r4 r5 r6 r7, Y, tk, ou, sn) (E, R8 s0 s1 s2 s3 r4 s5 r6 ((r7 - 2) + 1), Y', tk, ou, sn) ∧ Y' ((r7 - 2)).toNat = (if sg a ≤ sg b then 1 else 0) ∧ ∀ k : Nat, (k : Int) < (r7 - 2) → Y' k = Y k := by
  unfold it_14_2 at h hc hE
  simp only [List.append_assoc, WdOk_app, cX_app, List.length_append, Int.natCast_add, Bool.or_eq_false_iff, l_off, l_on, l_pl, l_iL, l_nt, l_go, l_co] at h hc hE
  obtain ⟨w0, w1, w2, w3, w4, w5⟩ := h
  have ex : ixor (if sg b < sg a then 1 else 0) 1 = (if sg a ≤ sg b then 1 else 0) := by
    by_cases c1 : sg b < sg a
    · rw [if_pos c1, if_neg (by omega)]
      decide
    · rw [if_neg c1, if_pos (by omega)]
      decide
  refine ⟨a, b, (if sg a ≤ sg b then 1 else 0), 1, r5, vput Y (r7 - 2).toNat (if sg a ≤ sg b then 1 else 0), ?_, vp_e, vp_b⟩
  refine Rn_tr (T := (A + 2, R8 r0 b r2 r3 r4 r5 r6 (r7 - 1), Y, tk, ou, sn)) (X_off (d := 1) (x := (r7 - 1)) hn ⟨by omega, by omega, by omega⟩ (by decide) w0 (by show r7 - 1 = (r7 - 1); omega) (by omega) hYb v8_7 v8_1) ?_
  refine Rn_tr (T := (A + 2 + 2, R8 a b r2 r3 r4 r5 r6 (r7 - 2), Y, tk, ou, sn)) (X_off (d := 0) (x := (r7 - 2)) hn ⟨by omega, by omega, by omega⟩ (by decide) w1 (by show (r7 - 1) - 1 = (r7 - 2); omega) (by omega) hYa v8_7 v8_0) ?_
  refine Rn_tr (T := (A + 2 + 2 + 1, R8 a b (if sg b < sg a then 1 else 0) r3 r4 r5 r6 (r7 - 2), Y, tk, ou, sn)) (J_less (d := 2) (a := 1) (b := 0) hn ⟨by omega, by omega, by omega⟩ (by decide) (wl w2) rfl v8_2) ?_
  refine Rn_tr (T := (A + 2 + 2 + 1 + 1, R8 a b (if sg b < sg a then 1 else 0) 1 r4 r5 r6 (r7 - 2), Y, tk, ou, sn)) (J_li (d := 3) (x := 1) hn ⟨by omega, by omega, by omega⟩ (by decide) (by omega) (wl w3) (by omega) v8_3) ?_
  refine Rn_tr (T := (A + 2 + 2 + 1 + 1 + 1, R8 a b (if sg a ≤ sg b then 1 else 0) 1 r4 r5 r6 (r7 - 2), Y, tk, ou, sn)) (J_xor (d := 2) (a := 2) (b := 3) hn ⟨by omega, by omega, by omega⟩ (by decide) (wl w4) ex v8_2) ?_
  exact X_on (d := 2) (x := (r7 - 2)) (v := (if sg a ≤ sg b then 1 else 0)) hn ⟨by omega, by omega, by omega⟩ (by decide) w5 rfl (by omega) rfl rfl v8_7
theorem Q_14_3 (hn : n ≤ 8192) (hA : 0 ≤ A) (h : WdOk P N W (it_14_3 f0 f1 lk x y y2 y3) A) (hc : cX P (it_14_3 f0 f1 lk x y y2 y3) A = false) (hE : A + ((it_14_3 f0 f1 lk x y y2 y3).length : Int) = E) (hEn : E ≤ n) {a b : Int} (ha : 0 ≤ a ∧ a < 65536) (hb : 0 ≤ b ∧ b < 65536) (h7 : (n : Int) ≤ r7 - 2 ∧ r7 - 1 < 8192) (hYb : Y (r7 - 1).toNat = b) (hYa : Y (r7 - 2).toNat = a) : ∃ s0 s1 s2 s3 s5 Y', Rn n W ni ip (A, R8 r0 r1 r2 r3 r4 r5 r6 r7, Y, tk, ou, sn) (E, R8 s0 s1 s2 s3 r4 s5 r6 ((r7 - 2) + 1), Y', tk, ou, sn) ∧ Y' ((r7 - 2)).toNat = (if sg b ≤ sg a then 1 else 0) ∧ ∀ k : Nat, (k : Int) < (r7 - 2) → Y' k = Y k := by
  unfold it_14_3 at h hc hE
  simp only [List.append_assoc, WdOk_app, cX_app, List.length_append, Int.natCast_add, Bool.or_eq_false_iff, l_off, l_on, l_pl, l_iL, l_nt, l_go, l_co] at h hc hE
  obtain ⟨w0, w1, w2, w3, w4, w5⟩ := h
  have ex : ixor (if sg a < sg b then 1 else 0) 1 = (if sg b ≤ sg a then 1 else 0) := by
    by_cases c1 : sg a < sg b
    · rw [if_pos c1, if_neg (by omega)]
      decide
    · rw [if_neg c1, if_pos (by omega)]
      decide
  refine ⟨a, b, (if sg b ≤ sg a then 1 else 0), 1, r5, vput Y (r7 - 2).toNat (if sg b ≤ sg a then 1 else 0), ?_, vp_e, vp_b⟩
  refine Rn_tr (T := (A + 2, R8 r0 b r2 r3 r4 r5 r6 (r7 - 1), Y, tk, ou, sn)) (X_off (d := 1) (x := (r7 - 1)) hn ⟨by omega, by omega, by omega⟩ (by decide) w0 (by show r7 - 1 = (r7 - 1); omega) (by omega) hYb v8_7 v8_1) ?_
  refine Rn_tr (T := (A + 2 + 2, R8 a b r2 r3 r4 r5 r6 (r7 - 2), Y, tk, ou, sn)) (X_off (d := 0) (x := (r7 - 2)) hn ⟨by omega, by omega, by omega⟩ (by decide) w1 (by show (r7 - 1) - 1 = (r7 - 2); omega) (by omega) hYa v8_7 v8_0) ?_
  refine Rn_tr (T := (A + 2 + 2 + 1, R8 a b (if sg a < sg b then 1 else 0) r3 r4 r5 r6 (r7 - 2), Y, tk, ou, sn)) (J_less (d := 2) (a := 0) (b := 1) hn ⟨by omega, by omega, by omega⟩ (by decide) (wl w2) rfl v8_2) ?_
  refine Rn_tr (T := (A + 2 + 2 + 1 + 1, R8 a b (if sg a < sg b then 1 else 0) 1 r4 r5 r6 (r7 - 2), Y, tk, ou, sn)) (J_li (d := 3) (x := 1) hn ⟨by omega, by omega, by omega⟩ (by decide) (by omega) (wl w3) (by omega) v8_3) ?_
  refine Rn_tr (T := (A + 2 + 2 + 1 + 1 + 1, R8 a b (if sg b ≤ sg a then 1 else 0) 1 r4 r5 r6 (r7 - 2), Y, tk, ou, sn)) (J_xor (d := 2) (a := 2) (b := 3) hn ⟨by omega, by omega, by omega⟩ (by decide) (wl w4) ex v8_2) ?_
  exact X_on (d := 2) (x := (r7 - 2)) (v := (if sg b ≤ sg a then 1 else 0)) hn ⟨by omega, by omega, by omega⟩ (by decide) w5 rfl (by omega) rfl rfl v8_7
theorem Q_14_4 (hn : n ≤ 8192) (hA : 0 ≤ A) (h : WdOk P N W (it_14_4 f0 f1 lk x y y2 y3) A) (hc : cX P (it_14_4 f0 f1 lk x y y2 y3) A = false) (hE : A + ((it_14_4 f0 f1 lk x y y2 y3).length : Int) = E) (hEn : E ≤ n) {a b : Int} (ha : 0 ≤ a ∧ a < 65536) (hb : 0 ≤ b ∧ b < 65536) (h7 : (n : Int) ≤ r7 - 2 ∧ r7 - 1 < 8192) (hYb : Y (r7 - 1).toNat = b) (hYa : Y (r7 - 2).toNat = a) : ∃ s0 s1 s2 s3 s5 Y', Rn n W ni ip (A, R8 r0 r1 r2 r3 r4 r5 r6 r7, Y, tk, ou, sn) (E, R8 s0 s1 s2 s3 r4 s5 r6 ((r7 - 2) + 1), Y', tk, ou, sn) ∧ Y' ((r7 - 2)).toNat = (if sg a = sg b then 1 else 0) ∧ ∀ k : Nat, (k : Int) < (r7 - 2) → Y' k = Y k := by
  unfold it_14_4 at h hc hE
  simp only [List.append_assoc, WdOk_app, cX_app, List.length_append, Int.natCast_add, Bool.or_eq_false_iff, l_off, l_on, l_pl, l_iL, l_nt, l_go, l_co] at h hc hE
  obtain ⟨w0, w1, w2, w3, w4, w5, w6⟩ := h
  have hx := ixor_0 ha hb
  have hs : sg a = sg b ↔ a = b := by
    rw [sg_v ha, sg_v hb]
    split <;> split <;> omega
  by_cases c1 : a = b
  · rw [if_pos (hs.2 c1)]
    refine ⟨ixor a b, b, 1, r3, r5, vput Y (r7 - 2).toNat 1, ?_, vp_e, vp_b⟩
    refine Rn_tr (T := (A + 2, R8 r0 b r2 r3 r4 r5 r6 (r7 - 1), Y, tk, ou, sn)) (X_off (d := 1) (x := (r7 - 1)) hn ⟨by omega, by omega, by omega⟩ (by decide) w0 (by show r7 - 1 = (r7 - 1); omega) (by omega) hYb v8_7 v8_1) ?_
    refine Rn_tr (T := (A + 2 + 2, R8 a b r2 r3 r4 r5 r6 (r7 - 2), Y, tk, ou, sn)) (X_off (d := 0) (x := (r7 - 2)) hn ⟨by omega, by omega, by omega⟩ (by decide) w1 (by show (r7 - 1) - 1 = (r7 - 2); omega) (by omega) hYa v8_7 v8_0) ?_
    refine Rn_tr (T := (A + 2 + 2 + 1, R8 (ixor a b) b r2 r3 r4 r5 r6 (r7 - 2), Y, tk, ou, sn)) (J_xor (d := 0) (a := 0) (b := 1) hn ⟨by omega, by omega, by omega⟩ (by decide) (wl w2) rfl v8_0) ?_
    refine Rn_tr (T := (A + 2 + 2 + 1 + 1, R8 (ixor a b) b 1 r3 r4 r5 r6 (r7 - 2), Y, tk, ou, sn)) (J_li (d := 2) (x := 1) hn ⟨by omega, by omega, by omega⟩ (by decide) (by omega) (wl w3) (by omega) v8_2) ?_
    refine Rn_tr (T := (A + 2 + 2 + 1 + 1 + 1 + 1, R8 (ixor a b) b 1 r3 r4 r5 r6 (r7 - 2), Y, tk, ou, sn)) (J_jz1 (d := 0) (x := 1) hn ⟨by omega, by omega, by omega⟩ (by decide) (by omega) (wl w4) (hx.2 c1) (by omega)) ?_
    exact X_on (d := 2) (x := (r7 - 2)) (v := 1) hn ⟨by omega, by omega, by omega⟩ (by decide) w6 rfl (by omega) rfl rfl v8_7
  · rw [if_neg (fun w => c1 (hs.1 w))]
    refine ⟨ixor a b, b, 0, r3, r5, vput Y (r7 - 2).toNat 0, ?_, vp_e, vp_b⟩
    refine Rn_tr (T := (A + 2, R8 r0 b r2 r3 r4 r5 r6 (r7 - 1), Y, tk, ou, sn)) (X_off (d := 1) (x := (r7 - 1)) hn ⟨by omega, by omega, by omega⟩ (by decide) w0 (by show r7 - 1 = (r7 - 1); omega) (by omega) hYb v8_7 v8_1) ?_
    refine Rn_tr (T := (A + 2 + 2, R8 a b r2 r3 r4 r5 r6 (r7 - 2), Y, tk, ou, sn)) (X_off (d := 0) (x := (r7 - 2)) hn ⟨by omega, by omega, by omega⟩ (by decide) w1 (by show (r7 - 1) - 1 = (r7 - 2); omega) (by omega) hYa v8_7 v8_0) ?_
    refine Rn_tr (T := (A + 2 + 2 + 1, R8 (ixor a b) b r2 r3 r4 r5 r6 (r7 - 2), Y, tk, ou, sn)) (J_xor (d := 0) (a := 0) (b := 1) hn ⟨by omega, by omega, by omega⟩ (by decide) (wl w2) rfl v8_0) ?_
    refine Rn_tr (T := (A + 2 + 2 + 1 + 1, R8 (ixor a b) b 1 r3 r4 r5 r6 (r7 - 2), Y, tk, ou, sn)) (J_li (d := 2) (x := 1) hn ⟨by omega, by omega, by omega⟩ (by decide) (by omega) (wl w3) (by omega) v8_2) ?_
    refine Rn_tr (T := (A + 2 + 2 + 1 + 1 + 1, R8 (ixor a b) b 1 r3 r4 r5 r6 (r7 - 2), Y, tk, ou, sn)) (J_jz0 (d := 0) (x := 1) hn ⟨by omega, by omega, by omega⟩ (by decide) (by omega) (wl w4) (fun w => c1 (hx.1 w)) (by omega)) ?_
    refine Rn_tr (T := (A + 2 + 2 + 1 + 1 + 1 + 1, R8 (ixor a b) b 0 r3 r4 r5 r6 (r7 - 2), Y, tk, ou, sn)) (J_li (d := 2) (x := 0) hn ⟨by omega, by omega, by omega⟩ (by decide) (by omega) (wl w5) (by omega) v8_2) ?_
    exact X_on (d := 2) (x := (r7 - 2)) (v := 0) hn ⟨by omega, by omega, by omega⟩ (by decide) w6 rfl (by omega) rfl rfl v8_7
theorem Q_14_5 (hn : n ≤ 8192) (hA : 0 ≤ A) (h : WdOk P N W (it_14_5 f0 f1 lk x y y2 y3) A) (hc : cX P (it_14_5 f0 f1 lk x y y2 y3) A = false) (hE : A + ((it_14_5 f0 f1 lk x y y2 y3).length : Int) = E) (hEn : E ≤ n) {a b : Int} (ha : 0 ≤ a ∧ a < 65536) (hb : 0 ≤ b ∧ b < 65536) (h7 : (n : Int) ≤ r7 - 2 ∧ r7 - 1 < 8192) (hYb : Y (r7 - 1).toNat = b) (hYa : Y (r7 - 2).toNat = a) : ∃ s0 s1 s2 s3 s5 Y', Rn n W ni ip (A, R8 r0 r1 r2 r3 r4 r5 r6 r7, Y, tk, ou, sn) (E, R8 s0 s1 s2 s3 r4 s5 r6 ((r7 - 2) + 1), Y', tk, ou, sn) ∧ Y' ((r7 - 2)).toNat = (if sg a ≠ sg b then 1 else 0) ∧ ∀ k : Nat, (k : Int) < (r7 - 2) → Y' k = Y k := by
  unfold it_14_5 at h hc hE
  simp only [List.append_assoc, WdOk_app, cX_app, List.length_append, Int.natCast_add, Bool.or_eq_false_iff, l_off, l_on, l_pl, l_iL, l_nt, l_go, l_co] at h hc hE
  obtain ⟨w0, w1, w2, w3, w4, w5, w6⟩ := h
  have hx := ixor_0 ha hb
  have hs : sg a = sg b ↔ a = b := by
    rw [sg_v ha, sg_v hb]
    split <;> split <;> omega
  by_cases c1 : a = b
  · rw [if_neg (fun w => w (hs.2 c1))]
    refine ⟨ixor a b, b, 0, r3, r5, vput Y (r7 - 2).toNat 0, ?_, vp_e, vp_b⟩
    refine Rn_tr (T := (A + 2, R8 r0 b r2 r3 r4 r5 r6 (r7 - 1), Y, tk, ou, sn)) (X_off (d := 1) (x := (r7 - 1)) hn ⟨by omega, by omega, by omega⟩ (by decide) w0 (by show r7 - 1 = (r7 - 1); omega) (by omega) hYb v8_7 v8_1) ?_
    refine Rn_tr (T := (A + 2 + 2, R8 a b r2 r3 r4 r5 r6 (r7 - 2), Y, tk, ou, sn)) (X_off (d := 0) (x := (r7 - 2)) hn ⟨by omega, by omega, by omega⟩ (by decide) w1 (by show (r7 - 1) - 1 = (r7 - 2); omega) (by omega) hYa v8_7 v8_0) ?_
    refine Rn_tr (T := (A + 2 + 2 + 1, R8 (ixor a b) b r2 r3 r4 r5 r6 (r7 - 2), Y, tk, ou, sn)) (J_xor (d := 0) (a := 0) (b := 1) hn ⟨by omega, by omega, by omega⟩ (by decide) (wl w2) rfl v8_0) ?_
    refine Rn_tr (T := (A + 2 + 2 + 1 + 1, R8 (ixor a b) b 0 r3 r4 r5 r6 (r7 - 2), Y, tk, ou, sn)) (J_li (d := 2) (x := 0) hn ⟨by omega, by omega, by omega⟩ (by decide) (by omega) (wl w3) (by omega) v8_2) ?_
    refine Rn_tr (T := (A + 2 + 2 + 1 + 1 + 1 + 1, R8 (ixor a b) b 0 r3 r4 r5 r6 (r7 - 2), Y, tk, ou, sn)) (J_jz1 (d := 0) (x := 1) hn ⟨by omega, by omega, by omega⟩ (by decide) (by omega) (wl w4) (hx.2 c1) (by omega)) ?_
    exact X_on (d := 2) (x := (r7 - 2)) (v := 0) hn ⟨by omega, by omega, by omega⟩ (by decide) w6 rfl (by omega) rfl rfl v8_7
  · rw [if_pos (fun w => c1 (hs.1 w))]
    refine ⟨ixor a b, b, 1, r3, r5, vput Y (r7 - 2).toNat 1, ?_, vp_e, vp_b⟩
    refine Rn_tr (T := (A + 2, R8 r0 b r2 r3 r4 r5 r6 (r7 - 1), Y, tk, ou, sn)) (X_off (d := 1) (x := (r7 - 1)) hn ⟨by omega, by omega, by omega⟩ (by decide) w0 (by show r7 - 1 = (r7 - 1); omega) (by omega) hYb v8_7 v8_1) ?_
    refine Rn_tr (T := (A + 2 + 2, R8 a b r2 r3 r4 r5 r6 (r7 - 2), Y, tk, ou, sn)) (X_off (d := 0) (x := (r7 - 2)) hn ⟨by omega, by omega, by omega⟩ (by decide) w1 (by show (r7 - 1) - 1 = (r7 - 2); omega) (by omega) hYa v8_7 v8_0) ?_
    refine Rn_tr (T := (A + 2 + 2 + 1, R8 (ixor a b) b r2 r3 r4 r5 r6 (r7 - 2), Y, tk, ou, sn)) (J_xor (d := 0) (a := 0) (b := 1) hn ⟨by omega, by omega, by omega⟩ (by decide) (wl w2) rfl v8_0) ?_
    refine Rn_tr (T := (A + 2 + 2 + 1 + 1, R8 (ixor a b) b 0 r3 r4 r5 r6 (r7 - 2), Y, tk, ou, sn)) (J_li (d := 2) (x := 0) hn ⟨by omega, by omega, by omega⟩ (by decide) (by omega) (wl w3) (by omega) v8_2) ?_
    refine Rn_tr (T := (A + 2 + 2 + 1 + 1 + 1, R8 (ixor a b) b 0 r3 r4 r5 r6 (r7 - 2), Y, tk, ou, sn)) (J_jz0 (d := 0) (x := 1) hn ⟨by omega, by omega, by omega⟩ (by decide) (by omega) (wl w4) (fun w => c1 (hx.1 w)) (by omega)) ?_
    refine Rn_tr (T := (A + 2 + 2 + 1 + 1 + 1 + 1, R8 (ixor a b) b 1 r3 r4 r5 r6 (r7 - 2), Y, tk, ou, sn)) (J_li (d := 2) (x := 1) hn ⟨by omega, by omega, by omega⟩ (by decide) (by omega) (wl w5) (by omega) v8_2) ?_
    exact X_on (d := 2) (x := (r7 - 2)) (v := 1) hn ⟨by omega, by omega, by omega⟩ (by decide) w6 rfl (by omega) rfl rfl v8_7
theorem Q_15 (hn : n ≤ 8192) (hA : 0 ≤ A) (h : WdOk P N W (it_15 f0 f1 lk x y y2 y3) A) (hc : cX P (it_15 f0 f1 lk x y y2 y3) A = false) (hE : A + ((it_15 f0 f1 lk x y y2 y3).length : Int) = E) (hEn : E ≤ n) (hP : 0 ≤ P lk ∧ P lk < 65536) : ∃ s5, Rn n W ni ip (A, R8 r0 r1 r2 r3 r4 r5 r6 r7, Y, tk, ou, sn) (P lk, R8 r0 r1 r2 r3 r4 s5 r6 r7, Y, tk, ou, sn) := by
  unfold it_15 at h hc hE
  simp only [List.append_assoc, WdOk_app, cX_app, List.length_append, Int.natCast_add, Bool.or_eq_false_iff, l_off, l_on, l_pl, l_iL, l_nt, l_go, l_co] at h hc hE
  have w0 := h
  have c0 := hc
  have hgf0 := gsz_q (f := f0)
  exact X_go hn ⟨hA, by omega⟩ w0 rfl hP (cgf c0)
theorem Q_25 (hn : n ≤ 8192) (hA : 0 ≤ A) (h : WdOk P N W (it_25 f0 f1 lk x y y2 y3) A) (hc : cX P (it_25 f0 f1 lk x y y2 y3) A = false) (hE : A + ((it_25 f0 f1 lk x y y2 y3).length : Int) = E) (hEn : E ≤ n) (hP : 0 ≤ P lk ∧ P lk < 65536) : ∃ s5, Rn n W ni ip (A, R8 r0 r1 r2 r3 r4 r5 r6 r7, Y, tk, ou, sn) (P lk, R8 r0 r1 r2 r3 r4 s5 r6 r7, Y, tk, ou, sn) := by
  unfold it_25 at h hc hE
  simp only [List.append_assoc, WdOk_app, cX_app, List.length_append, Int.natCast_add, Bool.or_eq_false_iff, l_off, l_on, l_pl, l_iL, l_nt, l_go, l_co] at h hc hE
  have w0 := h
  have c0 := hc
  have hgf0 := gsz_q (f := f0)
  exact X_go hn ⟨hA, by omega⟩ w0 rfl hP (cgf c0)
theorem Q_16 (hn : n ≤ 8192) (hA : 0 ≤ A) (h : WdOk P N W (it_16 f0 f1 lk x y y2 y3) A) (hc : cX P (it_16 f0 f1 lk x y y2 y3) A = false) (hE : A + ((it_16 f0 f1 lk x y y2 y3).length : Int) = E) (hEn : E ≤ n) {a : Int} (hP : 0 ≤ P lk ∧ P lk < 65536) (h7 : (n : Int) ≤ r7 - 1 ∧ r7 - 1 < 8192) (hYa : Y (r7 - 1).toNat = a) : ∃ s0 s1 s2 s3 s5, Rn n W ni ip (A, R8 r0 r1 r2 r3 r4 r5 r6 r7, Y, tk, ou, sn) (if a = 0 then P lk else E, R8 s0 s1 s2 s3 r4 s5 r6 (r7 - 1), Y, tk, ou, sn) := by
  unfold it_16 at h hc hE
  simp only [List.append_assoc, WdOk_app, cX_app, List.length_append, Int.natCast_add, Bool.or_eq_false_iff, l_off, l_on, l_pl, l_iL, l_nt, l_go, l_co] at h hc hE
  obtain ⟨w0, w1, w2, w3⟩ := h
  obtain ⟨-, -, -, c3⟩ := hc
  have hgf0 := gsz_q (f := f0)
  by_cases c1 : a = 0
  · rw [if_pos c1]
    have step : Rn n W ni ip (A, R8 r0 r1 r2 r3 r4 r5 r6 r7, Y, tk, ou, sn) (A + 2 + 1 + 1, R8 a r1 r2 r3 r4 r5 r6 (r7 - 1), Y, tk, ou, sn) := by
      refine Rn_tr (T := (A + 2, R8 a r1 r2 r3 r4 r5 r6 (r7 - 1), Y, tk, ou, sn)) (X_off (d := 0) (x := (r7 - 1)) hn ⟨by omega, by omega, by omega⟩ (by decide) w0 (by show r7 - 1 = (r7 - 1); omega) (by omega) hYa v8_7 v8_0) ?_
      exact J_jz1 (d := 0) (x := 1) hn ⟨by omega, by omega, by omega⟩ (by decide) (by omega) (wl w1) c1 (by omega)
    obtain ⟨g5, hg⟩ := X_go (n := n) (W := W) (ni := ni) (ip := ip) (Y := Y) (z := (tk, ou, sn)) (P := P) (N := N) (r0 := a) (r1 := r1) (r2 := r2) (r3 := r3) (r4 := r4) (r5 := r5) (r6 := r6) (r7 := (r7 - 1)) hn ⟨by omega, by omega⟩ w3 rfl hP (cgf c3)
    exact ⟨_, _, _, _, _, Rn_tr step hg⟩
  · rw [if_neg c1]
    refine ⟨a, r1, r2, r3, r5, ?_⟩
    refine Rn_tr (T := (A + 2, R8 a r1 r2 r3 r4 r5 r6 (r7 - 1), Y, tk, ou, sn)) (X_off (d := 0) (x := (r7 - 1)) hn ⟨by omega, by omega, by omega⟩ (by decide) w0 (by show r7 - 1 = (r7 - 1); omega) (by omega) hYa v8_7 v8_0) ?_
    refine Rn_tr (T := (A + 2 + 1, R8 a r1 r2 r3 r4 r5 r6 (r7 - 1), Y, tk, ou, sn)) (J_jz0 (d := 0) (x := 1) hn ⟨by omega, by omega, by omega⟩ (by decide) (by omega) (wl w1) c1 (by omega)) ?_
    exact J_ju (x := (gsz f0)) hn ⟨by omega, by omega, by omega⟩ (by omega) (wl w2) (by omega)
theorem Q_17a (hn : n ≤ 8192) (hA : 0 ≤ A) (h : WdOk P N W (it_17 f0 f1 lk x y y2 y3) A) (hc : cX P (it_17 f0 f1 lk x y y2 y3) A = false) (hE : A + ((it_17 f0 f1 lk x y y2 y3).length : Int) = E) (hEn : E ≤ n) {g : Int} (hN : N y = g) (hg : 0 ≤ g ∧ g < 65536) : Rn n W ni ip (A, R8 r0 r1 r2 r3 r4 r5 r6 r7, Y, tk, ou, sn) (g, R8 r0 r1 r2 r3 r4 (A + 2 + 1) r6 r7, Y, tk, ou, sn) := by
  unfold it_17 at h hc hE
  simp only [List.append_assoc, WdOk_app, cX_app, List.length_append, Int.natCast_add, Bool.or_eq_false_iff, l_off, l_on, l_pl, l_iL, l_nt, l_go, l_co] at h hc hE
  obtain ⟨w0, w1, w2, w3, w4⟩ := h
  obtain ⟨-, -, -, c3, -⟩ := hc
  have hgf0 := gsz_q (f := f0)
  refine Rn_tr (T := (A + 2, R8 r0 r1 r2 r3 r4 g r6 r7, Y, tk, ou, sn)) (X_nt (d := 5) (v := g) hn ⟨by omega, by omega, by omega⟩ (by decide) w0 hN (by omega) v8_5) ?_
  exact J_call (d := 5) (a := 5) hn ⟨by omega, by omega⟩ (by decide) (wl w1) rfl v8_5
theorem Q_17b (hn : n ≤ 8192) (hA : 0 ≤ A) (h : WdOk P N W (it_17 f0 f1 lk x y y2 y3) A) (hc : cX P (it_17 f0 f1 lk x y y2 y3) A = false) (hE : A + ((it_17 f0 f1 lk x y y2 y3).length : Int) = E) (hEn : E ≤ n) (h4 : r4 = 0) (h7 : (n : Int) ≤ r7 ∧ r7 < 8192) : Rn n W ni ip (A + 2 + 1, R8 r0 r1 r2 r3 r4 r5 r6 r7, Y, tk, ou, sn) (E, R8 r0 r1 r2 r3 r4 r5 r6 (r7 + 1), vput Y r7.toNat r0, tk, ou, sn) := by
  unfold it_17 at h hc hE
  simp only [List.append_assoc, WdOk_app, cX_app, List.length_append, Int.natCast_add, Bool.or_eq_false_iff, l_off, l_on, l_pl, l_iL, l_nt, l_go, l_co] at h hc hE
  obtain ⟨w0, w1, w2, w3, w4⟩ := h
  obtain ⟨-, -, -, c3, -⟩ := hc
  have hgf0 := gsz_q (f := f0)
  refine Rn_tr (T := (A + 2 + 1 + 1 + gsz f0, R8 r0 r1 r2 r3 r4 r5 r6 r7, Y, tk, ou, sn)) (J_jz1 (d := 4) (x := (gsz f0)) hn ⟨by omega, by omega, by omega⟩ (by decide) (by omega) (wl w2) h4 (by omega)) ?_
  exact X_on (d := 0) (x := r7) (v := r0) hn ⟨by omega, by omega, by omega⟩ (by decide) w4 rfl (by omega) rfl rfl v8_7
theorem Q_17c (hn : n ≤ 8192) (hA : 0 ≤ A) (h : WdOk P N W (it_17 f0 f1 lk x y y2 y3) A) (hc : cX P (it_17 f0 f1 lk x y y2 y3) A = false) (hE : A + ((it_17 f0 f1 lk x y y2 y3).length : Int) = E) (hEn : E ≤ n) (hP : 0 ≤ P lk ∧ P lk < 65536) (h4 : r4 ≠ 0) : ∃ s5, Rn n W ni ip (A + 2 + 1, R8 r0 r1 r2 r3 r4 r5 r6 r7, Y, tk, ou, sn) (P lk, R8 r0 r1 r2 r3 r4 s5 r6 r7, Y, tk, ou, sn) := by
  unfold it_17 at h hc hE
  simp only [List.append_assoc, WdOk_app, cX_app, List.length_append, Int.natCast_add, Bool.or_eq_false_iff, l_off, l_on, l_pl, l_iL, l_nt, l_go, l_co] at h hc hE
  obtain ⟨w0, w1, w2, w3, w4⟩ := h
  obtain ⟨-, -, -, c3, -⟩ := hc
  have hgf0 := gsz_q (f := f0)
  obtain ⟨g5, hg⟩ := X_go (n := n) (W := W) (ni := ni) (ip := ip) (Y := Y) (z := (tk, ou, sn)) (P := P) (N := N) (r0 := r0) (r1 := r1) (r2 := r2) (r3 := r3) (r4 := r4) (r5 := r5) (r6 := r6) (r7 := r7) hn ⟨by omega, by omega⟩ w3 rfl hP (cgf c3)
  refine ⟨g5, ?_⟩
  refine Rn_tr (T := (A + 2 + 1 + 1, R8 r0 r1 r2 r3 r4 r5 r6 r7, Y, tk, ou, sn)) (J_jz0 (d := 4) (x := (gsz f0)) hn ⟨by omega, by omega, by omega⟩ (by decide) (by omega) (wl w2) h4 (by omega)) ?_
  exact hg
theorem Q_18 (hn : n ≤ 8192) (hA : 0 ≤ A) (h : WdOk P N W (it_18 f0 f1 lk x y y2 y3) A) (hc : cX P (it_18 f0 f1 lk x y y2 y3) A = false) (hE : A + ((it_18 f0 f1 lk x y y2 y3).length : Int) = E) (hEn : E ≤ n) (h7 : 1 ≤ r7 ∧ r7 < 65536) : Rn n W ni ip (A, R8 r0 r1 r2 r3 r4 r5 r6 r7, Y, tk, ou, sn) (E, R8 r0 r1 r2 r3 r4 r5 r6 (r7 - 1), Y, tk, ou, sn) := by
  unfold it_18 at h hc hE
  simp only [List.append_assoc, WdOk_app, cX_app, List.length_append, Int.natCast_add, Bool.or_eq_false_iff, l_off, l_on, l_pl, l_iL, l_nt, l_go, l_co] at h hc hE
  have w0 := h
  exact J_addi (d := 7) (a := 7) (x := (-1)) (v := (r7 - 1)) hn ⟨by omega, by omega, by omega⟩ (by decide) (by omega) (wl w0) (by show (r7 + -1) % 65536 = _; omega) v8_7
theorem Q_19f (hn : n ≤ 8192) (hA : 0 ≤ A) (h : WdOk P N W (it_19 f0 f1 lk x y y2 y3) A) (hc : cX P (it_19 f0 f1 lk x y y2 y3) A = false) (hE : A + ((it_19 f0 f1 lk x y y2 y3).length : Int) = E) (hEn : E ≤ n) (hP : 0 ≤ P lk ∧ P lk < 65536) (ht : tk = ni) : ∃ s0 s1 s2 s3 s5 Y', Rn n W ni ip (A, R8 r0 r1 r2 r3 r4 r5 r6 r7, Y, tk, ou, sn) (P lk, R8 s0 s1 s2 s3 4 s5 r6 (r7), Y', tk, ou, sn) ∧ ∀ k : Nat, (k : Int) < r7 → Y' k = Y k := by
  unfold it_19 at h hc hE
  simp only [List.append_assoc, WdOk_app, cX_app, List.length_append, Int.natCast_add, Bool.or_eq_false_iff, l_off, l_on, l_pl, l_iL, l_nt, l_go, l_co] at h hc hE
  obtain ⟨w0, w1, w2, w3, w4, w5, w6, w7⟩ := h
  obtain ⟨-, -, -, -, -, c5, -, -⟩ := hc
  have hgf0 := gsz_q (f := f0)
  have step : Rn n W ni ip (A, R8 r0 r1 r2 r3 r4 r5 r6 r7, Y, tk, ou, sn) (A + 2 + 1 + 1 + 1 + 1, R8 (ni - tk) 65280 r2 r3 4 r5 r6 r7, Y, tk, ou, sn) := by
    refine Rn_tr (T := (A + 2, R8 r0 65280 r2 r3 r4 r5 r6 r7, Y, tk, ou, sn)) (X_pl (d := 1) (v := 65280) hn ⟨by omega, by omega, by omega⟩ (by decide) w0 (by omega) v8_1) ?_
    refine Rn_tr (T := (A + 2 + 1, R8 (ni - tk) 65280 r2 r3 r4 r5 r6 r7, Y, tk, ou, sn)) (J_ldn (d := 0) (a := 1) hn ⟨by omega, by omega, by omega⟩ (by decide) (wl w1) rfl rfl v8_0) ?_
    refine Rn_tr (T := (A + 2 + 1 + 1 + 1, R8 (ni - tk) 65280 r2 r3 r4 r5 r6 r7, Y, tk, ou, sn)) (J_jz1 (d := 0) (x := 1) hn ⟨by omega, by omega, by omega⟩ (by decide) (by omega) (wl w2) (by show ni - tk = 0; omega) (by omega)) ?_
    exact J_li (d := 4) (x := 4) hn ⟨by omega, by omega, by omega⟩ (by decide) (by omega) (wl w4) (by omega) v8_4
  obtain ⟨g5, hg⟩ := X_go (n := n) (W := W) (ni := ni) (ip := ip) (Y := Y) (z := (tk, ou, sn)) (P := P) (N := N) (r0 := (ni - tk)) (r1 := 65280) (r2 := r2) (r3 := r3) (r4 := 4) (r5 := r5) (r6 := r6) (r7 := r7) hn ⟨by omega, by omega⟩ w5 rfl hP (cgf c5)
  exact ⟨_, _, _, _, _, Y, Rn_tr step hg, fun _ _ => rfl⟩
theorem Q_19 (hn : n ≤ 8192) (hA : 0 ≤ A) (h : WdOk P N W (it_19 f0 f1 lk x y y2 y3) A) (hc : cX P (it_19 f0 f1 lk x y y2 y3) A = false) (hE : A + ((it_19 f0 f1 lk x y y2 y3).length : Int) = E) (hEn : E ≤ n) {v : Int} (ht : tk < ni) (hv : ip tk.toNat = v) (h7 : (n : Int) ≤ r7 ∧ r7 < 8192) : ∃ s0 s1 s2 s3 s5 Y', Rn n W ni ip (A, R8 r0 r1 r2 r3 r4 r5 r6 r7, Y, tk, ou, sn) (E, R8 s0 s1 s2 s3 r4 s5 r6 (r7 + 1), Y', tk + 1, ou, sn) ∧ Y' (r7).toNat = v ∧ ∀ k : Nat, (k : Int) < r7 → Y' k = Y k := by
  unfold it_19 at h hc hE
  simp only [List.append_assoc, WdOk_app, cX_app, List.length_append, Int.natCast_add, Bool.or_eq_false_iff, l_off, l_on, l_pl, l_iL, l_nt, l_go, l_co] at h hc hE
  obtain ⟨w0, w1, w2, w3, w4, w5, w6, w7⟩ := h
  obtain ⟨-, -, -, -, -, c5, -, -⟩ := hc
  have hgf0 := gsz_q (f := f0)
  refine ⟨v, 65280, r2, r3, r5, vput Y r7.toNat v, ?_, vp_e, vp_b⟩
  refine Rn_tr (T := (A + 2, R8 r0 65280 r2 r3 r4 r5 r6 r7, Y, tk, ou, sn)) (X_pl (d := 1) (v := 65280) hn ⟨by omega, by omega, by omega⟩ (by decide) w0 (by omega) v8_1) ?_
  refine Rn_tr (T := (A + 2 + 1, R8 (ni - tk) 65280 r2 r3 r4 r5 r6 r7, Y, tk, ou, sn)) (J_ldn (d := 0) (a := 1) hn ⟨by omega, by omega, by omega⟩ (by decide) (wl w1) rfl rfl v8_0) ?_
  refine Rn_tr (T := (A + 2 + 1 + 1, R8 (ni - tk) 65280 r2 r3 r4 r5 r6 r7, Y, tk, ou, sn)) (J_jz0 (d := 0) (x := 1) hn ⟨by omega, by omega, by omega⟩ (by decide) (by omega) (wl w2) (by show ni - tk ≠ 0; omega) (by omega)) ?_
  refine Rn_tr (T := (A + 2 + 1 + 1 + 1 + 1 + gsz f0, R8 (ni - tk) 65280 r2 r3 r4 r5 r6 r7, Y, tk, ou, sn)) (J_ju (x := (1 + gsz f0)) hn ⟨by omega, by omega, by omega⟩ (by omega) (wl w3) (by omega)) ?_
  refine Rn_tr (T := (A + 2 + 1 + 1 + 1 + 1 + gsz f0 + 1, R8 v 65280 r2 r3 r4 r5 r6 r7, Y, tk + 1, ou, sn)) (J_ldp (d := 0) (a := 1) hn ⟨by omega, by omega, by omega⟩ (by decide) (wl w6) rfl ht hv v8_0) ?_
  exact X_on (d := 0) (x := r7) (v := v) hn ⟨by omega, by omega, by omega⟩ (by decide) w7 rfl (by omega) rfl rfl v8_7
theorem Q_20 (hn : n ≤ 8192) (hA : 0 ≤ A) (h : WdOk P N W (it_20 f0 f1 lk x y y2 y3) A) (hc : cX P (it_20 f0 f1 lk x y y2 y3) A = false) (hE : A + ((it_20 f0 f1 lk x y y2 y3).length : Int) = E) (hEn : E ≤ n) {a : Int} (h7 : (n : Int) ≤ r7 - 1 ∧ r7 - 1 < 8192) (hYa : Y (r7 - 1).toNat = a) : ∃ s0 s1 s2 s3 s5, Rn n W ni ip (A, R8 r0 r1 r2 r3 r4 r5 r6 r7, Y, tk, ou, sn) (E, R8 s0 s1 s2 s3 r4 s5 r6 (r7 - 1), Y, tk, ou + 1, if ou < 500 then vput sn ou.toNat a else sn) := by
  unfold it_20 at h hc hE
  simp only [List.append_assoc, WdOk_app, cX_app, List.length_append, Int.natCast_add, Bool.or_eq_false_iff, l_off, l_on, l_pl, l_iL, l_nt, l_go, l_co] at h hc hE
  obtain ⟨w0, w1, w2⟩ := h
  refine ⟨a, 65280, r2, r3, r5, ?_⟩
  refine Rn_tr (T := (A + 2, R8 a r1 r2 r3 r4 r5 r6 (r7 - 1), Y, tk, ou, sn)) (X_off (d := 0) (x := (r7 - 1)) hn ⟨by omega, by omega, by omega⟩ (by decide) w0 (by show r7 - 1 = (r7 - 1); omega) (by omega) hYa v8_7 v8_0) ?_
  refine Rn_tr (T := (A + 2 + 2, R8 a 65280 r2 r3 r4 r5 r6 (r7 - 1), Y, tk, ou, sn)) (X_pl (d := 1) (v := 65280) hn ⟨by omega, by omega, by omega⟩ (by decide) w1 (by omega) v8_1) ?_
  exact J_stp (d := 0) (a := 1) hn ⟨by omega, by omega, by omega⟩ (by decide) (wl w2) rfl rfl
theorem Q_21 (hn : n ≤ 8192) (hA : 0 ≤ A) (h : WdOk P N W (it_21 f0 f1 lk x y y2 y3) A) (hc : cX P (it_21 f0 f1 lk x y y2 y3) A = false) (hE : A + ((it_21 f0 f1 lk x y y2 y3).length : Int) = E) (hEn : E ≤ n) (hP : 0 ≤ P lk ∧ P lk < 65536) (hx : 0 ≤ x ∧ x ≤ 30) : ∃ s5, Rn n W ni ip (A, R8 r0 r1 r2 r3 r4 r5 r6 r7, Y, tk, ou, sn) (P lk, R8 r0 r1 r2 r3 x s5 r6 r7, Y, tk, ou, sn) := by
  unfold it_21 at h hc hE
  simp only [List.append_assoc, WdOk_app, cX_app, List.length_append, Int.natCast_add, Bool.or_eq_false_iff, l_off, l_on, l_pl, l_iL, l_nt, l_go, l_co] at h hc hE
  obtain ⟨w0, w1⟩ := h
  obtain ⟨-, c1⟩ := hc
  have hgf0 := gsz_q (f := f0)
  obtain ⟨g5, hg⟩ := X_go (n := n) (W := W) (ni := ni) (ip := ip) (Y := Y) (z := (tk, ou, sn)) (P := P) (N := N) (r0 := r0) (r1 := r1) (r2 := r2) (r3 := r3) (r4 := x) (r5 := r5) (r6 := r6) (r7 := r7) hn ⟨by omega, by omega⟩ w1 rfl hP (cgf c1)
  refine ⟨g5, ?_⟩
  refine Rn_tr (T := (A + 1, R8 r0 r1 r2 r3 x r5 r6 r7, Y, tk, ou, sn)) (J_li (d := 4) (x := x) hn ⟨by omega, by omega, by omega⟩ (by decide) (by omega) (wl w0) (by omega) v8_4) ?_
  exact hg
theorem Q_22 (hn : n ≤ 8192) (hA : 0 ≤ A) (h : WdOk P N W (it_22 f0 f1 lk x y y2 y3) A) (hc : cX P (it_22 f0 f1 lk x y y2 y3) A = false) (hE : A + ((it_22 f0 f1 lk x y y2 y3).length : Int) = E) (hEn : E ≤ n) {v5 v6 : Int} (hy : 0 ≤ y ∧ y ≤ 30) (h6r : (n : Int) ≤ r6 ∧ r6 + y + 1 < 8192) (h5 : Y (r6 + y).toNat = v5) (h6 : Y (r6 + y + 1).toNat = v6) (hv6 : 0 ≤ v6 ∧ v6 < 65536) {a : Int} (h7 : (n : Int) ≤ r7 - 1 ∧ r7 - 1 < 8192) (hYa : Y (r7 - 1).toNat = a) : ∃ s5, Rn n W ni ip (A, R8 r0 r1 r2 r3 r4 r5 r6 r7, Y, tk, ou, sn) (v5, R8 a r1 r2 v6 r4 s5 v6 r6, Y, tk, ou, sn) := by
  unfold it_22 at h hc hE
  simp only [List.append_assoc, WdOk_app, cX_app, List.length_append, Int.natCast_add, Bool.or_eq_false_iff, l_off, l_on, l_pl, l_iL, l_nt, l_go, l_co] at h hc hE
  obtain ⟨w0, w1, w2, w3, w4, w5⟩ := h
  refine ⟨A + 2 + 1 + 1 + 1 + 1 + 1, ?_⟩
  refine Rn_tr (T := (A + 2, R8 a r1 r2 r3 r4 r5 r6 (r7 - 1), Y, tk, ou, sn)) (X_off (d := 0) (x := (r7 - 1)) hn ⟨by omega, by omega, by omega⟩ (by decide) w0 (by show r7 - 1 = (r7 - 1); omega) (by omega) hYa v8_7 v8_0) ?_
  refine Rn_tr (T := (A + 2 + 1, R8 a r1 r2 r3 r4 v5 r6 (r7 - 1), Y, tk, ou, sn)) (J_ld (d := 5) (a := 6) (x := y) (A := (r6 + y)) hn ⟨by omega, by omega, by omega⟩ (by decide) (by omega) (wl w1) rfl (by omega) h5 v8_5) ?_
  refine Rn_tr (T := (A + 2 + 1 + 1, R8 a r1 r2 v6 r4 v5 r6 (r7 - 1), Y, tk, ou, sn)) (J_ld (d := 3) (a := 6) (x := (y + 1)) (A := (r6 + y + 1)) hn ⟨by omega, by omega, by omega⟩ (by decide) (by omega) (wl w2) (by show r6 + (y + 1) = _; omega) (by omega) h6 v8_3) ?_
  refine Rn_tr (T := (A + 2 + 1 + 1 + 1, R8 a r1 r2 v6 r4 v5 r6 r6, Y, tk, ou, sn)) (J_addi (d := 7) (a := 6) (x := 0) (v := r6) hn ⟨by omega, by omega, by omega⟩ (by decide) (by omega) (wl w3) (by show (r6 + 0) % 65536 = _; omega) v8_7) ?_
  refine Rn_tr (T := (A + 2 + 1 + 1 + 1 + 1, R8 a r1 r2 v6 r4 v5 v6 r6, Y, tk, ou, sn)) (J_addi (d := 6) (a := 3) (x := 0) (v := v6) hn ⟨by omega, by omega, by omega⟩ (by decide) (by omega) (wl w4) (by show (v6 + 0) % 65536 = _; omega) v8_6) ?_
  exact J_call (d := 5) (a := 5) hn ⟨by omega, by omega⟩ (by decide) (wl w5) rfl v8_5
theorem Q_23 (hn : n ≤ 8192) (hA : 0 ≤ A) (h : WdOk P N W (it_23 f0 f1 lk x y y2 y3) A) (hc : cX P (it_23 f0 f1 lk x y y2 y3) A = false) (hE : A + ((it_23 f0 f1 lk x y y2 y3).length : Int) = E) (hEn : E ≤ n) (hy : 0 ≤ y ∧ y ≤ 31) (h6 : 0 ≤ r6 ∧ r6 + y < 65536) : Rn n W ni ip (A, R8 r0 r1 r2 r3 r4 r5 r6 r7, Y, tk, ou, sn) (E, R8 r0 r1 r2 r3 r4 r5 r6 (r6 + y), Y, tk, ou, sn) := by
  unfold it_23 at h hc hE
  simp only [List.append_assoc, WdOk_app, cX_app, List.length_append, Int.natCast_add, Bool.or_eq_false_iff, l_off, l_on, l_pl, l_iL, l_nt, l_go, l_co] at h hc hE
  have w0 := h
  exact J_addi (d := 7) (a := 6) (x := y) (v := (r6 + y)) hn ⟨by omega, by omega, by omega⟩ (by decide) (by omega) (wl w0) (by show (r6 + y) % 65536 = _; omega) v8_7
theorem Q_24 (hn : n ≤ 8192) (hA : 0 ≤ A) (h : WdOk P N W (it_24 f0 f1 lk x y y2 y3) A) (hc : cX P (it_24 f0 f1 lk x y y2 y3) A = false) (hE : A + ((it_24 f0 f1 lk x y y2 y3).length : Int) = E) (hEn : E ≤ n) (hP : 0 ≤ P lk ∧ P lk < 65536) (hx : 0 ≤ x ∧ x ≤ 30) (h4 : 0 ≤ r4 ∧ r4 < 65536) : ∃ s0 s5, Rn n W ni ip (A, R8 r0 r1 r2 r3 r4 r5 r6 r7, Y, tk, ou, sn) (if r4 = x then P lk else E, R8 s0 r1 r2 r3 (if r4 = x then 0 else r4) s5 r6 r7, Y, tk, ou, sn) := by
  unfold it_24 at h hc hE
  simp only [List.append_assoc, WdOk_app, cX_app, List.length_append, Int.natCast_add, Bool.or_eq_false_iff, l_off, l_on, l_pl, l_iL, l_nt, l_go, l_co] at h hc hE
  obtain ⟨w0, w1, w2, w3, w4, w5⟩ := h
  obtain ⟨-, -, -, -, -, c5⟩ := hc
  have hgf0 := gsz_q (f := f0)
  have hxx := ixor_0 (x := x) (y := r4) (by omega) h4
  by_cases c1 : r4 = x
  · rw [if_pos c1, if_pos c1]
    have step : Rn n W ni ip (A, R8 r0 r1 r2 r3 r4 r5 r6 r7, Y, tk, ou, sn) (A + 1 + 1 + 1 + 1 + 1, R8 (ixor x r4) r1 r2 r3 0 r5 r6 r7, Y, tk, ou, sn) := by
      refine Rn_tr (T := (A + 1, R8 x r1 r2 r3 r4 r5 r6 r7, Y, tk, ou, sn)) (J_li (d := 0) (x := x) hn ⟨by omega, by omega, by omega⟩ (by decide) (by omega) (wl w0) (by omega) v8_0) ?_
      refine Rn_tr (T := (A + 1 + 1, R8 (ixor x r4) r1 r2 r3 r4 r5 r6 r7, Y, tk, ou, sn)) (J_xor (d := 0) (a := 0) (b := 4) hn ⟨by omega, by omega, by omega⟩ (by decide) (wl w1) rfl v8_0) ?_
      refine Rn_tr (T := (A + 1 + 1 + 1 + 1, R8 (ixor x r4) r1 r2 r3 r4 r5 r6 r7, Y, tk, ou, sn)) (J_jz1 (d := 0) (x := 1) hn ⟨by omega, by omega, by omega⟩ (by decide) (by omega) (wl w2) (hxx.2 c1.symm) (by omega)) ?_
      exact J_li (d := 4) (x := 0) hn ⟨by omega, by omega, by omega⟩ (by decide) (by omega) (wl w4) (by omega) v8_4
    obtain ⟨g5, hg⟩ := X_go (n := n) (W := W) (ni := ni) (ip := ip) (Y := Y) (z := (tk, ou, sn)) (P := P) (N := N) (r0 := (ixor x r4)) (r1 := r1) (r2 := r2) (r3 := r3) (r4 := 0) (r5 := r5) (r6 := r6) (r7 := r7) hn ⟨by omega, by omega⟩ w5 rfl hP (cgf c5)
    exact ⟨_, _, Rn_tr step hg⟩
  · rw [if_neg c1, if_neg c1]
    refine ⟨ixor x r4, r5, ?_⟩
    refine Rn_tr (T := (A + 1, R8 x r1 r2 r3 r4 r5 r6 r7, Y, tk, ou, sn)) (J_li (d := 0) (x := x) hn ⟨by omega, by omega, by omega⟩ (by decide) (by omega) (wl w0) (by omega) v8_0) ?_
    refine Rn_tr (T := (A + 1 + 1, R8 (ixor x r4) r1 r2 r3 r4 r5 r6 r7, Y, tk, ou, sn)) (J_xor (d := 0) (a := 0) (b := 4) hn ⟨by omega, by omega, by omega⟩ (by decide) (wl w1) rfl v8_0) ?_
    refine Rn_tr (T := (A + 1 + 1 + 1, R8 (ixor x r4) r1 r2 r3 r4 r5 r6 r7, Y, tk, ou, sn)) (J_jz0 (d := 0) (x := 1) hn ⟨by omega, by omega, by omega⟩ (by decide) (by omega) (wl w2) (fun w => c1 (hxx.1 w).symm) (by omega)) ?_
    exact J_ju (x := (1 + gsz f0)) hn ⟨by omega, by omega, by omega⟩ (by omega) (wl w3) (by omega)
theorem Q_0 (hn : n ≤ 8192) (hA : 0 ≤ A) (h : WdOk P N W (it_0 f0 f1 lk x y y2 y3) A) (hc : cX P (it_0 f0 f1 lk x y y2 y3) A = false) (hE : A + ((it_0 f0 f1 lk x y y2 y3).length : Int) = E) (hEn : E ≤ n) (hy : 0 ≤ y ∧ y ≤ 8) (hy3 : 0 ≤ y3 - y ∧ y3 - y ≤ 31) (hy2 : 0 ≤ y2 ∧ y2 ≤ 8192) (h7 : (n : Int) ≤ r7 - y ∧ r7 < 8192) (h2 : 2 ≤ y2) (hf : r7 + y2 ≤ 8192) : ∃ s0 s1 s2 s3 s5, Rn n W ni ip (A, R8 r0 r1 r2 r3 r4 r5 r6 r7, Y, tk, ou, sn) (E, R8 s0 s1 s2 s3 r4 s5 (r7 - y) (r7 + (y3 - y)), vput (vput Y r7.toNat r5) (r7 + 1).toNat r6, tk, ou, sn) := by
  unfold it_0 at h hc hE
  simp only [List.append_assoc, WdOk_app, cX_app, List.length_append, Int.natCast_add, Bool.or_eq_false_iff, l_off, l_on, l_pl, l_iL, l_nt, l_go, l_co] at h hc hE
  obtain ⟨w0, w1, w2, w3, w4, w5, w6, w7, w8⟩ := h
  have hcl := clv_b (v := 8192 - y2)
  have e1 : sg (8192 - y2) = 8192 - y2 := by rw [sg_v (by omega), if_neg (by omega)]
  have e2 : sg r7 = r7 := by rw [sg_v (by omega), if_neg (by omega)]
  refine ⟨r0, r1, 0, 8192 - y2, r5, ?_⟩
  refine Rn_tr (T := (A + clv (8192 - y2), R8 r0 r1 r2 (8192 - y2) r4 r5 r6 r7, Y, tk, ou, sn)) (X_co (d := 3) (v := (8192 - y2)) hn ⟨by omega, by omega, by omega⟩ (by decide) w0 (by omega) v8_3) ?_
  refine Rn_tr (T := (A + clv (8192 - y2) + 1, R8 r0 r1 0 (8192 - y2) r4 r5 r6 r7, Y, tk, ou, sn)) (J_less (d := 2) (a := 3) (b := 7) hn ⟨by omega, by omega, by omega⟩ (by decide) (wl w1) (by show (if sg (8192 - y2) < sg r7 then 1 else 0) = (0 : Int); rw [e1, e2, if_neg (by omega)]) v8_2) ?_
  refine Rn_tr (T := (A + clv (8192 - y2) + 1 + 1 + 1 + 1, R8 r0 r1 0 (8192 - y2) r4 r5 r6 r7, Y, tk, ou, sn)) (J_jz1 (d := 2) (x := 2) hn ⟨by omega, by omega, by omega⟩ (by decide) (by omega) (wl w2) rfl (by omega)) ?_
  refine Rn_tr (T := (A + clv (8192 - y2) + 1 + 1 + 1 + 1 + 1, R8 r0 r1 0 (8192 - y2) r4 r5 r6 r7, (vput Y r7.toNat r5), tk, ou, sn)) (J_st (d := 5) (a := 7) (x := 0) (A := r7) hn ⟨by omega, by omega, by omega⟩ (by decide) (by omega) (wl w5) (by show r7 + 0 = _; omega) (by omega) rfl) ?_
  refine Rn_tr (T := (A + clv (8192 - y2) + 1 + 1 + 1 + 1 + 1 + 1, R8 r0 r1 0 (8192 - y2) r4 r5 r6 r7, (vput (vput Y r7.toNat r5) (r7 + 1).toNat r6), tk, ou, sn)) (J_st (d := 6) (a := 7) (x := 1) (A := (r7 + 1)) hn ⟨by omega, by omega, by omega⟩ (by decide) (by omega) (wl w6) rfl (by omega) rfl) ?_
  refine Rn_tr (T := (A + clv (8192 - y2) + 1 + 1 + 1 + 1 + 1 + 1 + 1, R8 r0 r1 0 (8192 - y2) r4 r5 (r7 - y) r7, (vput (vput Y r7.toNat r5) (r7 + 1).toNat r6), tk, ou, sn)) (J_addi (d := 6) (a := 7) (x := (-y)) (v := (r7 - y)) hn ⟨by omega, by omega, by omega⟩ (by decide) (by omega) (wl w7) (by show (r7 + -y) % 65536 = _; omega) v8_6) ?_
  exact J_addi (d := 7) (a := 7) (x := (y3 - y)) (v := (r7 + (y3 - y))) hn ⟨by omega, by omega, by omega⟩ (by decide) (by omega) (wl w8) (by show (r7 + (y3 - y)) % 65536 = _; omega) v8_7
theorem Q_0f (hn : n ≤ 8192) (hA : 0 ≤ A) (h : WdOk P N W (it_0 f0 f1 lk x y y2 y3) A) (hc : cX P (it_0 f0 f1 lk x y y2 y3) A = false) (hE : A + ((it_0 f0 f1 lk x y y2 y3).length : Int) = E) (hEn : E ≤ n) (hy : 0 ≤ y ∧ y ≤ 8) (hy3 : 0 ≤ y3 - y ∧ y3 - y ≤ 31) (hy2 : 0 ≤ y2 ∧ y2 ≤ 8192) (h7 : (n : Int) ≤ r7 - y ∧ r7 < 8192) (hf : ¬ r7 + y2 ≤ 8192) : ∃ r, Re n W ni ip (A, R8 r0 r1 r2 r3 r4 r5 r6 r7, Y, tk, ou, sn) r ou sn ∧ r 4 = 65535 := by
  unfold it_0 at h hc hE
  simp only [List.append_assoc, WdOk_app, cX_app, List.length_append, Int.natCast_add, Bool.or_eq_false_iff, l_off, l_on, l_pl, l_iL, l_nt, l_go, l_co] at h hc hE
  obtain ⟨w0, w1, w2, w3, w4, w5, w6, w7, w8⟩ := h
  have hcl := clv_b (v := 8192 - y2)
  have e1 : sg (8192 - y2) = 8192 - y2 := by rw [sg_v (by omega), if_neg (by omega)]
  have e2 : sg r7 = r7 := by rw [sg_v (by omega), if_neg (by omega)]
  refine ⟨R8 r0 r1 1 (8192 - y2) 65535 r5 r6 r7, ?_, rfl⟩
  refine Re_tr (T := (A + clv (8192 - y2) + 1 + 1 + 1, R8 r0 r1 1 (8192 - y2) 65535 r5 r6 r7, Y, tk, ou, sn)) ?_ (J_halt hn ⟨by omega, by omega⟩ (wl w4))
  refine Rn_tr (T := (A + clv (8192 - y2), R8 r0 r1 r2 (8192 - y2) r4 r5 r6 r7, Y, tk, ou, sn)) (X_co (d := 3) (v := (8192 - y2)) hn ⟨by omega, by omega, by omega⟩ (by decide) w0 (by omega) v8_3) ?_
  refine Rn_tr (T := (A + clv (8192 - y2) + 1, R8 r0 r1 1 (8192 - y2) r4 r5 r6 r7, Y, tk, ou, sn)) (J_less (d := 2) (a := 3) (b := 7) hn ⟨by omega, by omega, by omega⟩ (by decide) (wl w1) (by show (if sg (8192 - y2) < sg r7 then 1 else 0) = (1 : Int); rw [e1, e2, if_pos (by omega)]) v8_2) ?_
  refine Rn_tr (T := (A + clv (8192 - y2) + 1 + 1, R8 r0 r1 1 (8192 - y2) r4 r5 r6 r7, Y, tk, ou, sn)) (J_jz0 (d := 2) (x := 2) hn ⟨by omega, by omega, by omega⟩ (by decide) (by omega) (wl w2) (by show (1 : Int) ≠ 0; decide) (by omega)) ?_
  exact J_li (d := 4) (x := (-1)) hn ⟨by omega, by omega, by omega⟩ (by decide) (by omega) (wl w3) (by decide) v8_4
theorem Q_B (hn : n ≤ 8192) (hA : 0 ≤ A) (h : WdOk P N W (it_B f0 f1 lk x y y2 y3) A) (hc : cX P (it_B f0 f1 lk x y y2 y3) A = false) (hE : A + ((it_B f0 f1 lk x y y2 y3).length : Int) = E) (hEn : E ≤ n) {v5 v6 : Int} (hy : 0 ≤ y ∧ y ≤ 30) (h6r : (n : Int) ≤ r6 ∧ r6 + y + 1 < 8192) (h5 : Y (r6 + y).toNat = v5) (h6 : Y (r6 + y + 1).toNat = v6) (hv6 : 0 ≤ v6 ∧ v6 < 65536) : ∃ s5, Rn n W ni ip (A, R8 r0 r1 r2 r3 r4 r5 r6 r7, Y, tk, ou, sn) (v5, R8 r0 r1 r2 v6 5 s5 v6 r6, Y, tk, ou, sn) := by
  unfold it_B at h hc hE
  simp only [List.append_assoc, WdOk_app, cX_app, List.length_append, Int.natCast_add, Bool.or_eq_false_iff, l_off, l_on, l_pl, l_iL, l_nt, l_go, l_co] at h hc hE
  obtain ⟨w0, w1, w2, w3, w4, w5⟩ := h
  refine ⟨A + 1 + 1 + 1 + 1 + 1 + 1, ?_⟩
  refine Rn_tr (T := (A + 1, R8 r0 r1 r2 r3 5 r5 r6 r7, Y, tk, ou, sn)) (J_li (d := 4) (x := 5) hn ⟨by omega, by omega, by omega⟩ (by decide) (by omega) (wl w0) (by omega) v8_4) ?_
  refine Rn_tr (T := (A + 1 + 1, R8 r0 r1 r2 r3 5 v5 r6 r7, Y, tk, ou, sn)) (J_ld (d := 5) (a := 6) (x := y) (A := (r6 + y)) hn ⟨by omega, by omega, by omega⟩ (by decide) (by omega) (wl w1) rfl (by omega) h5 v8_5) ?_
  refine Rn_tr (T := (A + 1 + 1 + 1, R8 r0 r1 r2 v6 5 v5 r6 r7, Y, tk, ou, sn)) (J_ld (d := 3) (a := 6) (x := (y + 1)) (A := (r6 + y + 1)) hn ⟨by omega, by omega, by omega⟩ (by decide) (by omega) (wl w2) (by show r6 + (y + 1) = _; omega) (by omega) h6 v8_3) ?_
  refine Rn_tr (T := (A + 1 + 1 + 1 + 1, R8 r0 r1 r2 v6 5 v5 r6 r6, Y, tk, ou, sn)) (J_addi (d := 7) (a := 6) (x := 0) (v := r6) hn ⟨by omega, by omega, by omega⟩ (by decide) (by omega) (wl w3) (by show (r6 + 0) % 65536 = _; omega) v8_7) ?_
  refine Rn_tr (T := (A + 1 + 1 + 1 + 1 + 1, R8 r0 r1 r2 v6 5 v5 v6 r6, Y, tk, ou, sn)) (J_addi (d := 6) (a := 3) (x := 0) (v := v6) hn ⟨by omega, by omega, by omega⟩ (by decide) (by omega) (wl w4) (by show (v6 + 0) % 65536 = _; omega) v8_6) ?_
  exact J_call (d := 5) (a := 5) hn ⟨by omega, by omega⟩ (by decide) (wl w5) rfl v8_5
theorem Q_Bs (hn : n ≤ 8192) (hA : 0 ≤ A) (h : WdOk P N W (it_B f0 f1 lk x y y2 y3) A) (hc : cX P (it_B f0 f1 lk x y y2 y3) A = false) (hE : A + ((it_B f0 f1 lk x y y2 y3).length : Int) = E) (hEn : E ≤ n) {v5 v6 : Int} (hy : 0 ≤ y ∧ y ≤ 30) (h6r : (n : Int) ≤ r6 ∧ r6 + y + 1 < 8192) (h5 : Y (r6 + y).toNat = v5) (h6 : Y (r6 + y + 1).toNat = v6) (hv6 : 0 ≤ v6 ∧ v6 < 65536) : ∃ s5, Rn n W ni ip (A + 1, R8 r0 r1 r2 r3 r4 r5 r6 r7, Y, tk, ou, sn) (v5, R8 r0 r1 r2 v6 r4 s5 v6 r6, Y, tk, ou, sn) := by
  unfold it_B at h hc hE
  simp only [List.append_assoc, WdOk_app, cX_app, List.length_append, Int.natCast_add, Bool.or_eq_false_iff, l_off, l_on, l_pl, l_iL, l_nt, l_go, l_co] at h hc hE
  obtain ⟨w0, w1, w2, w3, w4, w5⟩ := h
  refine ⟨A + 1 + 1 + 1 + 1 + 1 + 1, ?_⟩
  refine Rn_tr (T := (A + 1 + 1, R8 r0 r1 r2 r3 r4 v5 r6 r7, Y, tk, ou, sn)) (J_ld (d := 5) (a := 6) (x := y) (A := (r6 + y)) hn ⟨by omega, by omega, by omega⟩ (by decide) (by omega) (wl w1) rfl (by omega) h5 v8_5) ?_
  refine Rn_tr (T := (A + 1 + 1 + 1, R8 r0 r1 r2 v6 r4 v5 r6 r7, Y, tk, ou, sn)) (J_ld (d := 3) (a := 6) (x := (y + 1)) (A := (r6 + y + 1)) hn ⟨by omega, by omega, by omega⟩ (by decide) (by omega) (wl w2) (by show r6 + (y + 1) = _; omega) (by omega) h6 v8_3) ?_
  refine Rn_tr (T := (A + 1 + 1 + 1 + 1, R8 r0 r1 r2 v6 r4 v5 r6 r6, Y, tk, ou, sn)) (J_addi (d := 7) (a := 6) (x := 0) (v := r6) hn ⟨by omega, by omega, by omega⟩ (by decide) (by omega) (wl w3) (by show (r6 + 0) % 65536 = _; omega) v8_7) ?_
  refine Rn_tr (T := (A + 1 + 1 + 1 + 1 + 1, R8 r0 r1 r2 v6 r4 v5 v6 r6, Y, tk, ou, sn)) (J_addi (d := 6) (a := 3) (x := 0) (v := v6) hn ⟨by omega, by omega, by omega⟩ (by decide) (by omega) (wl w4) (by show (v6 + 0) % 65536 = _; omega) v8_6) ?_
  exact J_call (d := 5) (a := 5) hn ⟨by omega, by omega⟩ (by decide) (wl w5) rfl v8_5
theorem Q_10f (hn : n ≤ 8192) (hA : 0 ≤ A) (h : WdOk P N W (it_10 f0 f1 lk x y y2 y3) A) (hc : cX P (it_10 f0 f1 lk x y y2 y3) A = false) (hE : A + ((it_10 f0 f1 lk x y y2 y3).length : Int) = E) (hEn : E ≤ n) (h82 : 82 ≤ n) (hL : LbW W) {a b : Int} (hP : 0 ≤ P lk ∧ P lk < 65536) (ha : 0 ≤ a ∧ a < 65536) (hb : 0 ≤ b ∧ b < 65536) (hYb : Y (r7 - 1).toNat = b) (hYa : Y (r7 - 2).toNat = a) (h4 : r4 = 0) (h7 : (n : Int) ≤ r7 - 2 ∧ r7 - 1 < 8192) (hr : ¬ (-32768 ≤ sg a * sg b ∧ sg a * sg b ≤ 32767)) : ∃ s0 s1 s2 s3 s5 Y', Rn n W ni ip (A, R8 r0 r1 r2 r3 r4 r5 r6 r7, Y, tk, ou, sn) (P lk, R8 s0 s1 s2 s3 1 s5 r6 (r7 - 2), Y', tk, ou, sn) ∧ ∀ k : Nat, (k : Int) < r7 - 2 → Y' k = Y k := by
  unfold it_10 at h hc hE
  simp only [List.append_assoc, WdOk_app, cX_app, List.length_append, Int.natCast_add, Bool.or_eq_false_iff, l_off, l_on, l_pl, l_iL, l_nt, l_go, l_co] at h hc hE
  obtain ⟨w0, w1, w2, w3, w4, w5, w6⟩ := h
  obtain ⟨-, -, -, -, -, c5, -⟩ := hc
  have hgf0 := gsz_q (f := f0)
  subst h4
  have step : Rn n W ni ip (A, R8 r0 r1 r2 r3 0 r5 r6 r7, Y, tk, ou, sn) (8, R8 a b r2 r3 0 (A + 2 + 2 + 2 + 1) r6 (r7 - 2), Y, tk, ou, sn) := by
    refine Rn_tr (T := (A + 2, R8 r0 b r2 r3 0 r5 r6 (r7 - 1), Y, tk, ou, sn)) (X_off (d := 1) (x := (r7 - 1)) hn ⟨by omega, by omega, by omega⟩ (by decide) w0 (by show r7 - 1 = (r7 - 1); omega) (by omega) hYb v8_7 v8_1) ?_
    refine Rn_tr (T := (A + 2 + 2, R8 a b r2 r3 0 r5 r6 (r7 - 2), Y, tk, ou, sn)) (X_off (d := 0) (x := (r7 - 2)) hn ⟨by omega, by omega, by omega⟩ (by decide) w1 (by show (r7 - 1) - 1 = (r7 - 2); omega) (by omega) hYa v8_7 v8_0) ?_
    refine Rn_tr (T := (A + 2 + 2 + 2, R8 a b r2 r3 0 8 r6 (r7 - 2), Y, tk, ou, sn)) (X_pl (d := 5) (v := 8) hn ⟨by omega, by omega, by omega⟩ (by decide) w2 (by omega) v8_5) ?_
    exact J_call (d := 5) (a := 5) hn ⟨by omega, by omega⟩ (by decide) (wl w3) rfl v8_5
  obtain ⟨s0, s1, s2, s3, s5, c, hm, hres⟩ := MUL (n := n) (W := W) (ni := ni) (ip := ip) (tk := tk) (ou := ou) (Y := Y) (sn := sn) hn h82 hL (r0 := a) (r1 := b) (r2 := r2) (r3 := r3) (r5 := A + 2 + 2 + 2 + 1) (r6 := r6) (r7 := r7 - 2) ha hb ⟨by omega, by omega⟩
  rcases hres with ⟨-, e1, -⟩ | ⟨e0, -⟩
  · exact absurd e1 hr
  · subst e0
    obtain ⟨g5, hg⟩ := X_go (n := n) (W := W) (ni := ni) (ip := ip) (Y := (vput Y (r7 - 2).toNat (A + 2 + 2 + 2 + 1))) (z := (tk, ou, sn)) (P := P) (N := N) (r0 := s0) (r1 := s1) (r2 := s2) (r3 := s3) (r4 := 1) (r5 := s5) (r6 := r6) (r7 := (r7 - 2)) hn ⟨by omega, by omega⟩ w5 rfl hP (cgf c5)
    refine ⟨s0, s1, s2, s3, g5, vput Y (r7 - 2).toNat (A + 2 + 2 + 2 + 1), Rn_tr step (Rn_tr hm ?_), fun k hk => vp_b k hk⟩
    show Rn n W ni ip (A + 2 + 2 + 2 + 1, R8 s0 s1 s2 s3 1 s5 r6 (r7 - 2), (vput Y (r7 - 2).toNat (A + 2 + 2 + 2 + 1)), tk, ou, sn) _
    refine Rn_tr (T := (A + 2 + 2 + 2 + 1 + 1, R8 s0 s1 s2 s3 1 s5 r6 (r7 - 2), (vput Y (r7 - 2).toNat (A + 2 + 2 + 2 + 1)), tk, ou, sn)) (J_jz0 (d := 4) (x := (gsz f0)) hn ⟨by omega, by omega, by omega⟩ (by decide) (by omega) (wl w4) (by show (1 : Int) ≠ 0; decide) (by omega)) ?_
    exact hg
theorem Q_10 (hn : n ≤ 8192) (hA : 0 ≤ A) (h : WdOk P N W (it_10 f0 f1 lk x y y2 y3) A) (hc : cX P (it_10 f0 f1 lk x y y2 y3) A = false) (hE : A + ((it_10 f0 f1 lk x y y2 y3).length : Int) = E) (hEn : E ≤ n) (h82 : 82 ≤ n) (hL : LbW W) {a b : Int} (hP : 0 ≤ P lk ∧ P lk < 65536) (ha : 0 ≤ a ∧ a < 65536) (hb : 0 ≤ b ∧ b < 65536) (hYb : Y (r7 - 1).toNat = b) (hYa : Y (r7 - 2).toNat = a) (h4 : r4 = 0) (h7 : (n : Int) ≤ r7 - 2 ∧ r7 - 1 < 8192) (hr : (-32768 ≤ sg a * sg b ∧ sg a * sg b ≤ 32767)) : ∃ s0 s1 s2 s3 s5 Y', Rn n W ni ip (A, R8 r0 r1 r2 r3 r4 r5 r6 r7, Y, tk, ou, sn) (E, R8 s0 s1 s2 s3 r4 s5 r6 ((r7 - 2) + 1), Y', tk, ou, sn) ∧ Y' ((r7 - 2)).toNat = (sg a * sg b) % 65536 ∧ ∀ k : Nat, (k : Int) < (r7 - 2) → Y' k = Y k := by
  unfold it_10 at h hc hE
  simp only [List.append_assoc, WdOk_app, cX_app, List.length_append, Int.natCast_add, Bool.or_eq_false_iff, l_off, l_on, l_pl, l_iL, l_nt, l_go, l_co] at h hc hE
  obtain ⟨w0, w1, w2, w3, w4, w5, w6⟩ := h
  obtain ⟨-, -, -, -, -, c5, -⟩ := hc
  have hgf0 := gsz_q (f := f0)
  subst h4
  have step : Rn n W ni ip (A, R8 r0 r1 r2 r3 0 r5 r6 r7, Y, tk, ou, sn) (8, R8 a b r2 r3 0 (A + 2 + 2 + 2 + 1) r6 (r7 - 2), Y, tk, ou, sn) := by
    refine Rn_tr (T := (A + 2, R8 r0 b r2 r3 0 r5 r6 (r7 - 1), Y, tk, ou, sn)) (X_off (d := 1) (x := (r7 - 1)) hn ⟨by omega, by omega, by omega⟩ (by decide) w0 (by show r7 - 1 = (r7 - 1); omega) (by omega) hYb v8_7 v8_1) ?_
    refine Rn_tr (T := (A + 2 + 2, R8 a b r2 r3 0 r5 r6 (r7 - 2), Y, tk, ou, sn)) (X_off (d := 0) (x := (r7 - 2)) hn ⟨by omega, by omega, by omega⟩ (by decide) w1 (by show (r7 - 1) - 1 = (r7 - 2); omega) (by omega) hYa v8_7 v8_0) ?_
    refine Rn_tr (T := (A + 2 + 2 + 2, R8 a b r2 r3 0 8 r6 (r7 - 2), Y, tk, ou, sn)) (X_pl (d := 5) (v := 8) hn ⟨by omega, by omega, by omega⟩ (by decide) w2 (by omega) v8_5) ?_
    exact J_call (d := 5) (a := 5) hn ⟨by omega, by omega⟩ (by decide) (wl w3) rfl v8_5
  obtain ⟨s0, s1, s2, s3, s5, c, hm, hres⟩ := MUL (n := n) (W := W) (ni := ni) (ip := ip) (tk := tk) (ou := ou) (Y := Y) (sn := sn) hn h82 hL (r0 := a) (r1 := b) (r2 := r2) (r3 := r3) (r5 := A + 2 + 2 + 2 + 1) (r6 := r6) (r7 := r7 - 2) ha hb ⟨by omega, by omega⟩
  rcases hres with ⟨e0, -, e2⟩ | ⟨-, e1⟩
  · subst e0
    refine ⟨s0, s1, s2, s3, s5, vput (vput Y (r7 - 2).toNat (A + 2 + 2 + 2 + 1)) (r7 - 2).toNat s2, Rn_tr step (Rn_tr hm ?_), ?_, fun k hk => ?_⟩
    · show Rn n W ni ip (A + 2 + 2 + 2 + 1, R8 s0 s1 s2 s3 0 s5 r6 (r7 - 2), (vput Y (r7 - 2).toNat (A + 2 + 2 + 2 + 1)), tk, ou, sn) _
      refine Rn_tr (T := (A + 2 + 2 + 2 + 1 + 1 + gsz f0, R8 s0 s1 s2 s3 0 s5 r6 (r7 - 2), (vput Y (r7 - 2).toNat (A + 2 + 2 + 2 + 1)), tk, ou, sn)) (J_jz1 (d := 4) (x := (gsz f0)) hn ⟨by omega, by omega, by omega⟩ (by decide) (by omega) (wl w4) rfl (by omega)) ?_
      exact X_on (d := 2) (x := (r7 - 2)) (v := s2) hn ⟨by omega, by omega, by omega⟩ (by decide) w6 rfl (by omega) rfl rfl v8_7
    · rw [vp_e]
      exact e2
    · rw [vp_b k hk, vp_b k hk]
  · exact absurd hr e1
theorem Q_11z (hn : n ≤ 8192) (hA : 0 ≤ A) (h : WdOk P N W (it_11 f0 f1 lk x y y2 y3) A) (hc : cX P (it_11 f0 f1 lk x y y2 y3) A = false) (hE : A + ((it_11 f0 f1 lk x y y2 y3).length : Int) = E) (hEn : E ≤ n) (h82 : 82 ≤ n) (hL : LbW W) {a b : Int} (hP : 0 ≤ P lk ∧ P lk < 65536) (ha : 0 ≤ a ∧ a < 65536) (hb : 0 ≤ b ∧ b < 65536) (hYb : Y (r7 - 1).toNat = b) (hYa : Y (r7 - 2).toNat = a) (h4 : r4 = 0) (h7 : (n : Int) ≤ r7 - 2 ∧ r7 + 2 < 8192) (hz : b = 0) : ∃ s0 s1 s2 s3 s5 Y', Rn n W ni ip (A, R8 r0 r1 r2 r3 r4 r5 r6 r7, Y, tk, ou, sn) (P lk, R8 s0 s1 s2 s3 3 s5 r6 (r7 - 2), Y', tk, ou, sn) ∧ ∀ k : Nat, (k : Int) < r7 - 2 → Y' k = Y k := by
  unfold it_11 at h hc hE
  simp only [List.append_assoc, WdOk_app, cX_app, List.length_append, Int.natCast_add, Bool.or_eq_false_iff, l_off, l_on, l_pl, l_iL, l_nt, l_go, l_co] at h hc hE
  obtain ⟨w0, w1, w2, w3, w4, w5, w6, w7, w8, w9, w10, w11, w12⟩ := h
  obtain ⟨-, -, -, -, -, c5, -, -, -, -, -, c11, -⟩ := hc
  have hgf0 := gsz_q (f := f0)
  have hgf1 := gsz_q (f := f1)
  subst h4 hz
  have step : Rn n W ni ip (A, R8 r0 r1 r2 r3 0 r5 r6 r7, Y, tk, ou, sn) (38, R8 a 0 r2 r3 0 (A + 2 + 2 + 2 + 1) r6 (r7 - 2), Y, tk, ou, sn) := by
    refine Rn_tr (T := (A + 2, R8 r0 0 r2 r3 0 r5 r6 (r7 - 1), Y, tk, ou, sn)) (X_off (d := 1) (x := (r7 - 1)) hn ⟨by omega, by omega, by omega⟩ (by decide) w0 (by show r7 - 1 = (r7 - 1); omega) (by omega) hYb v8_7 v8_1) ?_
    refine Rn_tr (T := (A + 2 + 2, R8 a 0 r2 r3 0 r5 r6 (r7 - 2), Y, tk, ou, sn)) (X_off (d := 0) (x := (r7 - 2)) hn ⟨by omega, by omega, by omega⟩ (by decide) w1 (by show (r7 - 1) - 1 = (r7 - 2); omega) (by omega) hYa v8_7 v8_0) ?_
    refine Rn_tr (T := (A + 2 + 2 + 2, R8 a 0 r2 r3 0 38 r6 (r7 - 2), Y, tk, ou, sn)) (X_pl (d := 5) (v := 38) hn ⟨by omega, by omega, by omega⟩ (by decide) w2 (by omega) v8_5) ?_
    exact J_call (d := 5) (a := 5) hn ⟨by omega, by omega⟩ (by decide) (wl w3) rfl v8_5
  have hd := div_0 (n := n) (W := W) (ni := ni) (ip := ip) (tk := tk) (ou := ou) (Y := Y) (sn := sn) hn h82 hL (r0 := a) (r2 := r2) (r3 := r3) (r4 := 0) (r5 := A + 2 + 2 + 2 + 1) (r6 := r6) (r7 := r7 - 2)
  obtain ⟨g5, hg⟩ := X_go (n := n) (W := W) (ni := ni) (ip := ip) (Y := Y) (z := (tk, ou, sn)) (P := P) (N := N) (r0 := a) (r1 := 0) (r2 := r2) (r3 := r3) (r4 := 3) (r5 := 82) (r6 := r6) (r7 := (r7 - 2)) hn ⟨by omega, by omega⟩ w5 rfl hP (cgf c5)
  refine ⟨a, 0, r2, r3, g5, Y, Rn_tr step (Rn_tr hd ?_), fun _ _ => rfl⟩
  show Rn n W ni ip (A + 2 + 2 + 2 + 1, R8 a 0 r2 r3 3 82 r6 (r7 - 2), Y, tk, ou, sn) _
  refine Rn_tr (T := (A + 2 + 2 + 2 + 1 + 1, R8 a 0 r2 r3 3 82 r6 (r7 - 2), Y, tk, ou, sn)) (J_jz0 (d := 4) (x := (gsz f0)) hn ⟨by omega, by omega, by omega⟩ (by decide) (by omega) (wl w4) (by show (3 : Int) ≠ 0; decide) (by omega)) ?_
  exact hg
theorem Q_12z (hn : n ≤ 8192) (hA : 0 ≤ A) (h : WdOk P N W (it_12 f0 f1 lk x y y2 y3) A) (hc : cX P (it_12 f0 f1 lk x y y2 y3) A = false) (hE : A + ((it_12 f0 f1 lk x y y2 y3).length : Int) = E) (hEn : E ≤ n) (h82 : 82 ≤ n) (hL : LbW W) {a b : Int} (hP : 0 ≤ P lk ∧ P lk < 65536) (ha : 0 ≤ a ∧ a < 65536) (hb : 0 ≤ b ∧ b < 65536) (hYb : Y (r7 - 1).toNat = b) (hYa : Y (r7 - 2).toNat = a) (h4 : r4 = 0) (h7 : (n : Int) ≤ r7 - 2 ∧ r7 + 2 < 8192) (hz : b = 0) : ∃ s0 s1 s2 s3 s5 Y', Rn n W ni ip (A, R8 r0 r1 r2 r3 r4 r5 r6 r7, Y, tk, ou, sn) (P lk, R8 s0 s1 s2 s3 3 s5 r6 (r7 - 2), Y', tk, ou, sn) ∧ ∀ k : Nat, (k : Int) < r7 - 2 → Y' k = Y k := by
  unfold it_12 at h hc hE
  simp only [List.append_assoc, WdOk_app, cX_app, List.length_append, Int.natCast_add, Bool.or_eq_false_iff, l_off, l_on, l_pl, l_iL, l_nt, l_go, l_co] at h hc hE
  obtain ⟨w0, w1, w2, w3, w4, w5, w6⟩ := h
  obtain ⟨-, -, -, -, -, c5, -⟩ := hc
  have hgf0 := gsz_q (f := f0)
  subst h4 hz
  have step : Rn n W ni ip (A, R8 r0 r1 r2 r3 0 r5 r6 r7, Y, tk, ou, sn) (38, R8 a 0 r2 r3 0 (A + 2 + 2 + 2 + 1) r6 (r7 - 2), Y, tk, ou, sn) := by
    refine Rn_tr (T := (A + 2, R8 r0 0 r2 r3 0 r5 r6 (r7 - 1), Y, tk, ou, sn)) (X_off (d := 1) (x := (r7 - 1)) hn ⟨by omega, by omega, by omega⟩ (by decide) w0 (by show r7 - 1 = (r7 - 1); omega) (by omega) hYb v8_7 v8_1) ?_
    refine Rn_tr (T := (A + 2 + 2, R8 a 0 r2 r3 0 r5 r6 (r7 - 2), Y, tk, ou, sn)) (X_off (d := 0) (x := (r7 - 2)) hn ⟨by omega, by omega, by omega⟩ (by decide) w1 (by show (r7 - 1) - 1 = (r7 - 2); omega) (by omega) hYa v8_7 v8_0) ?_
    refine Rn_tr (T := (A + 2 + 2 + 2, R8 a 0 r2 r3 0 38 r6 (r7 - 2), Y, tk, ou, sn)) (X_pl (d := 5) (v := 38) hn ⟨by omega, by omega, by omega⟩ (by decide) w2 (by omega) v8_5) ?_
    exact J_call (d := 5) (a := 5) hn ⟨by omega, by omega⟩ (by decide) (wl w3) rfl v8_5
  have hd := div_0 (n := n) (W := W) (ni := ni) (ip := ip) (tk := tk) (ou := ou) (Y := Y) (sn := sn) hn h82 hL (r0 := a) (r2 := r2) (r3 := r3) (r4 := 0) (r5 := A + 2 + 2 + 2 + 1) (r6 := r6) (r7 := r7 - 2)
  obtain ⟨g5, hg⟩ := X_go (n := n) (W := W) (ni := ni) (ip := ip) (Y := Y) (z := (tk, ou, sn)) (P := P) (N := N) (r0 := a) (r1 := 0) (r2 := r2) (r3 := r3) (r4 := 3) (r5 := 82) (r6 := r6) (r7 := (r7 - 2)) hn ⟨by omega, by omega⟩ w5 rfl hP (cgf c5)
  refine ⟨a, 0, r2, r3, g5, Y, Rn_tr step (Rn_tr hd ?_), fun _ _ => rfl⟩
  show Rn n W ni ip (A + 2 + 2 + 2 + 1, R8 a 0 r2 r3 3 82 r6 (r7 - 2), Y, tk, ou, sn) _
  refine Rn_tr (T := (A + 2 + 2 + 2 + 1 + 1, R8 a 0 r2 r3 3 82 r6 (r7 - 2), Y, tk, ou, sn)) (J_jz0 (d := 4) (x := (gsz f0)) hn ⟨by omega, by omega, by omega⟩ (by decide) (by omega) (wl w4) (by show (3 : Int) ≠ 0; decide) (by omega)) ?_
  exact hg
theorem Q_12 (hn : n ≤ 8192) (hA : 0 ≤ A) (h : WdOk P N W (it_12 f0 f1 lk x y y2 y3) A) (hc : cX P (it_12 f0 f1 lk x y y2 y3) A = false) (hE : A + ((it_12 f0 f1 lk x y y2 y3).length : Int) = E) (hEn : E ≤ n) (h82 : 82 ≤ n) (hL : LbW W) {a b : Int} (hP : 0 ≤ P lk ∧ P lk < 65536) (ha : 0 ≤ a ∧ a < 65536) (hb : 0 ≤ b ∧ b < 65536) (hYb : Y (r7 - 1).toNat = b) (hYa : Y (r7 - 2).toNat = a) (h4 : r4 = 0) (h7 : (n : Int) ≤ r7 - 2 ∧ r7 + 2 < 8192) (hz : b ≠ 0) : ∃ s0 s1 s2 s3 s5 Y', Rn n W ni ip (A, R8 r0 r1 r2 r3 r4 r5 r6 r7, Y, tk, ou, sn) (E, R8 s0 s1 s2 s3 r4 s5 r6 ((r7 - 2) + 1), Y', tk, ou, sn) ∧ Y' ((r7 - 2)).toNat = ((sg a).tmod (sg b)) % 65536 ∧ ∀ k : Nat, (k : Int) < (r7 - 2) → Y' k = Y k := by
  unfold it_12 at h hc hE
  simp only [List.append_assoc, WdOk_app, cX_app, List.length_append, Int.natCast_add, Bool.or_eq_false_iff, l_off, l_on, l_pl, l_iL, l_nt, l_go, l_co] at h hc hE
  obtain ⟨w0, w1, w2, w3, w4, w5, w6⟩ := h
  obtain ⟨-, -, -, -, -, c5, -⟩ := hc
  have hgf0 := gsz_q (f := f0)
  subst h4
  have step : Rn n W ni ip (A, R8 r0 r1 r2 r3 0 r5 r6 r7, Y, tk, ou, sn) (38, R8 a b r2 r3 0 (A + 2 + 2 + 2 + 1) r6 (r7 - 2), Y, tk, ou, sn) := by
    refine Rn_tr (T := (A + 2, R8 r0 b r2 r3 0 r5 r6 (r7 - 1), Y, tk, ou, sn)) (X_off (d := 1) (x := (r7 - 1)) hn ⟨by omega, by omega, by omega⟩ (by decide) w0 (by show r7 - 1 = (r7 - 1); omega) (by omega) hYb v8_7 v8_1) ?_
    refine Rn_tr (T := (A + 2 + 2, R8 a b r2 r3 0 r5 r6 (r7 - 2), Y, tk, ou, sn)) (X_off (d := 0) (x := (r7 - 2)) hn ⟨by omega, by omega, by omega⟩ (by decide) w1 (by show (r7 - 1) - 1 = (r7 - 2); omega) (by omega) hYa v8_7 v8_0) ?_
    refine Rn_tr (T := (A + 2 + 2 + 2, R8 a b r2 r3 0 38 r6 (r7 - 2), Y, tk, ou, sn)) (X_pl (d := 5) (v := 38) hn ⟨by omega, by omega, by omega⟩ (by decide) w2 (by omega) v8_5) ?_
    exact J_call (d := 5) (a := 5) hn ⟨by omega, by omega⟩ (by decide) (wl w3) rfl v8_5
  obtain ⟨s0, s1, s2, s3, s5, hm, hq, hrm, hx1, hx2, hx3⟩ := DIV (n := n) (W := W) (ni := ni) (ip := ip) (tk := tk) (ou := ou) (Y := Y) (sn := sn) hn h82 hL (r0 := a) (r1 := b) (r2 := r2) (r3 := r3) (r5 := A + 2 + 2 + 2 + 1) (r6 := r6) (r7 := r7 - 2) ha hb hz ⟨by omega, by omega⟩
  generalize hZ : (vput (vput (vput Y (r7 - 2).toNat (A + 2 + 2 + 2 + 1)) (r7 - 2 + 1).toNat a) (r7 - 2 + 2).toNat (ixor a b)) = Z at hm
  have hbl : ∀ k : Nat, (k : Int) < r7 - 2 → Z k = Y k := fun k hk => by
    rw [← hZ, vp_b k (by omega), vp_b k (by omega), vp_b k hk]
  refine ⟨s0, s1, s2, s3, s5, vput Z (r7 - 2).toNat s3, Rn_tr step (Rn_tr hm ?_), ?_, fun k hk => ?_⟩
  · show Rn n W ni ip (A + 2 + 2 + 2 + 1, R8 s0 s1 s2 s3 0 s5 r6 (r7 - 2), Z, tk, ou, sn) _
    refine Rn_tr (T := (A + 2 + 2 + 2 + 1 + 1 + gsz f0, R8 s0 s1 s2 s3 0 s5 r6 (r7 - 2), Z, tk, ou, sn)) (J_jz1 (d := 4) (x := (gsz f0)) hn ⟨by omega, by omega, by omega⟩ (by decide) (by omega) (wl w4) rfl (by omega)) ?_
    exact X_on (d := 3) (x := (r7 - 2)) (v := s3) hn ⟨by omega, by omega, by omega⟩ (by decide) w6 rfl (by omega) rfl rfl v8_7
  · rw [vp_e]
    exact hrm
  · rw [vp_b k hk]
    exact hbl k hk
theorem Q_11 (hn : n ≤ 8192) (hA : 0 ≤ A) (h : WdOk P N W (it_11 f0 f1 lk x y y2 y3) A) (hc : cX P (it_11 f0 f1 lk x y y2 y3) A = false) (hE : A + ((it_11 f0 f1 lk x y y2 y3).length : Int) = E) (hEn : E ≤ n) (h82 : 82 ≤ n) (hL : LbW W) {a b : Int} (hP : 0 ≤ P lk ∧ P lk < 65536) (ha : 0 ≤ a ∧ a < 65536) (hb : 0 ≤ b ∧ b < 65536) (hYb : Y (r7 - 1).toNat = b) (hYa : Y (r7 - 2).toNat = a) (h4 : r4 = 0) (h7 : (n : Int) ≤ r7 - 2 ∧ r7 + 2 < 8192) (hz : b ≠ 0) (hr : -32768 ≤ (sg a).tdiv (sg b) ∧ (sg a).tdiv (sg b) ≤ 32767) : ∃ s0 s1 s2 s3 s5 Y', Rn n W ni ip (A, R8 r0 r1 r2 r3 r4 r5 r6 r7, Y, tk, ou, sn) (E, R8 s0 s1 s2 s3 r4 s5 r6 ((r7 - 2) + 1), Y', tk, ou, sn) ∧ Y' ((r7 - 2)).toNat = ((sg a).tdiv (sg b)) % 65536 ∧ ∀ k : Nat, (k : Int) < (r7 - 2) → Y' k = Y k := by
  unfold it_11 at h hc hE
  simp only [List.append_assoc, WdOk_app, cX_app, List.length_append, Int.natCast_add, Bool.or_eq_false_iff, l_off, l_on, l_pl, l_iL, l_nt, l_go, l_co] at h hc hE
  obtain ⟨w0, w1, w2, w3, w4, w5, w6, w7, w8, w9, w10, w11, w12⟩ := h
  obtain ⟨-, -, -, -, -, c5, -, -, -, -, -, c11, -⟩ := hc
  have hgf0 := gsz_q (f := f0)
  have hgf1 := gsz_q (f := f1)
  subst h4
  have step : Rn n W ni ip (A, R8 r0 r1 r2 r3 0 r5 r6 r7, Y, tk, ou, sn) (38, R8 a b r2 r3 0 (A + 2 + 2 + 2 + 1) r6 (r7 - 2), Y, tk, ou, sn) := by
    refine Rn_tr (T := (A + 2, R8 r0 b r2 r3 0 r5 r6 (r7 - 1), Y, tk, ou, sn)) (X_off (d := 1) (x := (r7 - 1)) hn ⟨by omega, by omega, by omega⟩ (by decide) w0 (by show r7 - 1 = (r7 - 1); omega) (by omega) hYb v8_7 v8_1) ?_
    refine Rn_tr (T := (A + 2 + 2, R8 a b r2 r3 0 r5 r6 (r7 - 2), Y, tk, ou, sn)) (X_off (d := 0) (x := (r7 - 2)) hn ⟨by omega, by omega, by omega⟩ (by decide) w1 (by show (r7 - 1) - 1 = (r7 - 2); omega) (by omega) hYa v8_7 v8_0) ?_
    refine Rn_tr (T := (A + 2 + 2 + 2, R8 a b r2 r3 0 38 r6 (r7 - 2), Y, tk, ou, sn)) (X_pl (d := 5) (v := 38) hn ⟨by omega, by omega, by omega⟩ (by decide) w2 (by omega) v8_5) ?_
    exact J_call (d := 5) (a := 5) hn ⟨by omega, by omega⟩ (by decide) (wl w3) rfl v8_5
  obtain ⟨s0, s1, s2, s3, s5, hm, hq, hrm, hx1, hx2, hx3⟩ := DIV (n := n) (W := W) (ni := ni) (ip := ip) (tk := tk) (ou := ou) (Y := Y) (sn := sn) hn h82 hL (r0 := a) (r1 := b) (r2 := r2) (r3 := r3) (r5 := A + 2 + 2 + 2 + 1) (r6 := r6) (r7 := r7 - 2) ha hb hz ⟨by omega, by omega⟩
  generalize hZ : (vput (vput (vput Y (r7 - 2).toNat (A + 2 + 2 + 2 + 1)) (r7 - 2 + 1).toNat a) (r7 - 2 + 2).toNat (ixor a b)) = Z at hm
  have hbl : ∀ k : Nat, (k : Int) < r7 - 2 → Z k = Y k := fun k hk => by
    rw [← hZ, vp_b k (by omega), vp_b k (by omega), vp_b k hk]
  have hz2 : Z (r7 - 2 + 2).toNat = ixor a b := by
    rw [← hZ, vp_e]
  by_cases c1 : 32767 < ixor a b
  · refine ⟨s0, s1, s2, s3, ixor a b, vput Z (r7 - 2).toNat s2, Rn_tr step (Rn_tr hm ?_), ?_, fun k hk => ?_⟩
    · show Rn n W ni ip (A + 2 + 2 + 2 + 1, R8 s0 s1 s2 s3 0 s5 r6 (r7 - 2), Z, tk, ou, sn) _
      refine Rn_tr (T := (A + 2 + 2 + 2 + 1 + 1 + gsz f0, R8 s0 s1 s2 s3 0 s5 r6 (r7 - 2), Z, tk, ou, sn)) (J_jz1 (d := 4) (x := (gsz f0)) hn ⟨by omega, by omega, by omega⟩ (by decide) (by omega) (wl w4) rfl (by omega)) ?_
      refine Rn_tr (T := (A + 2 + 2 + 2 + 1 + 1 + gsz f0 + 1, R8 s0 s1 s2 s3 0 (ixor a b) r6 (r7 - 2), Z, tk, ou, sn)) (J_ld (d := 5) (a := 7) (x := 2) (A := (r7 - 2 + 2)) hn ⟨by omega, by omega, by omega⟩ (by decide) (by omega) (wl w6) rfl (by omega) hz2 v8_5) ?_
      refine Rn_tr (T := (A + 2 + 2 + 2 + 1 + 1 + gsz f0 + 1 + 1 + 1, R8 s0 s1 s2 s3 0 (ixor a b) r6 (r7 - 2), Z, tk, ou, sn)) (J_jn1 (d := 5) (x := 1) hn ⟨by omega, by omega, by omega⟩ (by decide) (by omega) (wl w7) c1 (by omega)) ?_
      refine Rn_tr (T := (A + 2 + 2 + 2 + 1 + 1 + gsz f0 + 1 + 1 + 1 + 1 + 1 + gsz f1, R8 s0 s1 s2 s3 0 (ixor a b) r6 (r7 - 2), Z, tk, ou, sn)) (J_ju (x := (1 + gsz f1)) hn ⟨by omega, by omega, by omega⟩ (by omega) (wl w9) (by omega)) ?_
      exact X_on (d := 2) (x := (r7 - 2)) (v := s2) hn ⟨by omega, by omega, by omega⟩ (by decide) w12 rfl (by omega) rfl rfl v8_7
    · rw [vp_e]
      exact hq
    · rw [vp_b k hk]
      exact hbl k hk
  · refine ⟨s0, s1, s2, s3, ixor a b, vput Z (r7 - 2).toNat s2, Rn_tr step (Rn_tr hm ?_), ?_, fun k hk => ?_⟩
    · show Rn n W ni ip (A + 2 + 2 + 2 + 1, R8 s0 s1 s2 s3 0 s5 r6 (r7 - 2), Z, tk, ou, sn) _
      refine Rn_tr (T := (A + 2 + 2 + 2 + 1 + 1 + gsz f0, R8 s0 s1 s2 s3 0 s5 r6 (r7 - 2), Z, tk, ou, sn)) (J_jz1 (d := 4) (x := (gsz f0)) hn ⟨by omega, by omega, by omega⟩ (by decide) (by omega) (wl w4) rfl (by omega)) ?_
      refine Rn_tr (T := (A + 2 + 2 + 2 + 1 + 1 + gsz f0 + 1, R8 s0 s1 s2 s3 0 (ixor a b) r6 (r7 - 2), Z, tk, ou, sn)) (J_ld (d := 5) (a := 7) (x := 2) (A := (r7 - 2 + 2)) hn ⟨by omega, by omega, by omega⟩ (by decide) (by omega) (wl w6) rfl (by omega) hz2 v8_5) ?_
      refine Rn_tr (T := (A + 2 + 2 + 2 + 1 + 1 + gsz f0 + 1 + 1, R8 s0 s1 s2 s3 0 (ixor a b) r6 (r7 - 2), Z, tk, ou, sn)) (J_jn0 (d := 5) (x := 1) hn ⟨by omega, by omega, by omega⟩ (by decide) (by omega) (wl w7) c1 (by omega)) ?_
      refine Rn_tr (T := (A + 2 + 2 + 2 + 1 + 1 + gsz f0 + 1 + 1 + 1, R8 s0 s1 s2 s3 0 (ixor a b) r6 (r7 - 2), Z, tk, ou, sn)) (J_jn0 (d := 2) (x := 1) hn ⟨by omega, by omega, by omega⟩ (by decide) (by omega) (wl w8) (by show ¬ 32767 < s2; rw [hq]; have := hx2 c1; omega) (by omega)) ?_
      refine Rn_tr (T := (A + 2 + 2 + 2 + 1 + 1 + gsz f0 + 1 + 1 + 1 + 1 + 1 + gsz f1, R8 s0 s1 s2 s3 0 (ixor a b) r6 (r7 - 2), Z, tk, ou, sn)) (J_ju (x := (1 + gsz f1)) hn ⟨by omega, by omega, by omega⟩ (by omega) (wl w9) (by omega)) ?_
      exact X_on (d := 2) (x := (r7 - 2)) (v := s2) hn ⟨by omega, by omega, by omega⟩ (by decide) w12 rfl (by omega) rfl rfl v8_7
    · rw [vp_e]
      exact hq
    · rw [vp_b k hk]
      exact hbl k hk
theorem Q_11f (hn : n ≤ 8192) (hA : 0 ≤ A) (h : WdOk P N W (it_11 f0 f1 lk x y y2 y3) A) (hc : cX P (it_11 f0 f1 lk x y y2 y3) A = false) (hE : A + ((it_11 f0 f1 lk x y y2 y3).length : Int) = E) (hEn : E ≤ n) (h82 : 82 ≤ n) (hL : LbW W) {a b : Int} (hP : 0 ≤ P lk ∧ P lk < 65536) (ha : 0 ≤ a ∧ a < 65536) (hb : 0 ≤ b ∧ b < 65536) (hYb : Y (r7 - 1).toNat = b) (hYa : Y (r7 - 2).toNat = a) (h4 : r4 = 0) (h7 : (n : Int) ≤ r7 - 2 ∧ r7 + 2 < 8192) (hz : b ≠ 0) (hr : ¬ (-32768 ≤ (sg a).tdiv (sg b) ∧ (sg a).tdiv (sg b) ≤ 32767)) : ∃ s0 s1 s2 s3 s5 Y', Rn n W ni ip (A, R8 r0 r1 r2 r3 r4 r5 r6 r7, Y, tk, ou, sn) (P lk, R8 s0 s1 s2 s3 1 s5 r6 (r7 - 2), Y', tk, ou, sn) ∧ ∀ k : Nat, (k : Int) < r7 - 2 → Y' k = Y k := by
  unfold it_11 at h hc hE
  simp only [List.append_assoc, WdOk_app, cX_app, List.length_append, Int.natCast_add, Bool.or_eq_false_iff, l_off, l_on, l_pl, l_iL, l_nt, l_go, l_co] at h hc hE
  obtain ⟨w0, w1, w2, w3, w4, w5, w6, w7, w8, w9, w10, w11, w12⟩ := h
  obtain ⟨-, -, -, -, -, c5, -, -, -, -, -, c11, -⟩ := hc
  have hgf0 := gsz_q (f := f0)
  have hgf1 := gsz_q (f := f1)
  subst h4
  have step : Rn n W ni ip (A, R8 r0 r1 r2 r3 0 r5 r6 r7, Y, tk, ou, sn) (38, R8 a b r2 r3 0 (A + 2 + 2 + 2 + 1) r6 (r7 - 2), Y, tk, ou, sn) := by
    refine Rn_tr (T := (A + 2, R8 r0 b r2 r3 0 r5 r6 (r7 - 1), Y, tk, ou, sn)) (X_off (d := 1) (x := (r7 - 1)) hn ⟨by omega, by omega, by omega⟩ (by decide) w0 (by show r7 - 1 = (r7 - 1); omega) (by omega) hYb v8_7 v8_1) ?_
    refine Rn_tr (T := (A + 2 + 2, R8 a b r2 r3 0 r5 r6 (r7 - 2), Y, tk, ou, sn)) (X_off (d := 0) (x := (r7 - 2)) hn ⟨by omega, by omega, by omega⟩ (by decide) w1 (by show (r7 - 1) - 1 = (r7 - 2); omega) (by omega) hYa v8_7 v8_0) ?_
    refine Rn_tr (T := (A + 2 + 2 + 2, R8 a b r2 r3 0 38 r6 (r7 - 2), Y, tk, ou, sn)) (X_pl (d := 5) (v := 38) hn ⟨by omega, by omega, by omega⟩ (by decide) w2 (by omega) v8_5) ?_
    exact J_call (d := 5) (a := 5) hn ⟨by omega, by omega⟩ (by decide) (wl w3) rfl v8_5
  obtain ⟨s0, s1, s2, s3, s5, hm, hq, hrm, hx1, hx2, hx3⟩ := DIV (n := n) (W := W) (ni := ni) (ip := ip) (tk := tk) (ou := ou) (Y := Y) (sn := sn) hn h82 hL (r0 := a) (r1 := b) (r2 := r2) (r3 := r3) (r5 := A + 2 + 2 + 2 + 1) (r6 := r6) (r7 := r7 - 2) ha hb hz ⟨by omega, by omega⟩
  generalize hZ : (vput (vput (vput Y (r7 - 2).toNat (A + 2 + 2 + 2 + 1)) (r7 - 2 + 1).toNat a) (r7 - 2 + 2).toNat (ixor a b)) = Z at hm
  have hbl : ∀ k : Nat, (k : Int) < r7 - 2 → Z k = Y k := fun k hk => by
    rw [← hZ, vp_b k (by omega), vp_b k (by omega), vp_b k hk]
  have hz2 : Z (r7 - 2 + 2).toNat = ixor a b := by
    rw [← hZ, vp_e]
  have c1 : ¬ 32767 < ixor a b := fun w => hr (hx1 w)
  have c2 : 32767 < s2 := by
    have := hx2 c1
    rw [hq]
    omega
  obtain ⟨g5, hg⟩ := X_go (n := n) (W := W) (ni := ni) (ip := ip) (Y := Z) (z := (tk, ou, sn)) (P := P) (N := N) (r0 := s0) (r1 := s1) (r2 := s2) (r3 := s3) (r4 := 1) (r5 := (ixor a b)) (r6 := r6) (r7 := (r7 - 2)) hn ⟨by omega, by omega⟩ w11 rfl hP (cgf c11)
  refine ⟨s0, s1, s2, s3, g5, Z, Rn_tr step (Rn_tr hm ?_), hbl⟩
  show Rn n W ni ip (A + 2 + 2 + 2 + 1, R8 s0 s1 s2 s3 0 s5 r6 (r7 - 2), Z, tk, ou, sn) _
  refine Rn_tr (T := (A + 2 + 2 + 2 + 1 + 1 + gsz f0, R8 s0 s1 s2 s3 0 s5 r6 (r7 - 2), Z, tk, ou, sn)) (J_jz1 (d := 4) (x := (gsz f0)) hn ⟨by omega, by omega, by omega⟩ (by decide) (by omega) (wl w4) rfl (by omega)) ?_
  refine Rn_tr (T := (A + 2 + 2 + 2 + 1 + 1 + gsz f0 + 1, R8 s0 s1 s2 s3 0 (ixor a b) r6 (r7 - 2), Z, tk, ou, sn)) (J_ld (d := 5) (a := 7) (x := 2) (A := (r7 - 2 + 2)) hn ⟨by omega, by omega, by omega⟩ (by decide) (by omega) (wl w6) rfl (by omega) hz2 v8_5) ?_
  refine Rn_tr (T := (A + 2 + 2 + 2 + 1 + 1 + gsz f0 + 1 + 1, R8 s0 s1 s2 s3 0 (ixor a b) r6 (r7 - 2), Z, tk, ou, sn)) (J_jn0 (d := 5) (x := 1) hn ⟨by omega, by omega, by omega⟩ (by decide) (by omega) (wl w7) c1 (by omega)) ?_
  refine Rn_tr (T := (A + 2 + 2 + 2 + 1 + 1 + gsz f0 + 1 + 1 + 1 + 1, R8 s0 s1 s2 s3 0 (ixor a b) r6 (r7 - 2), Z, tk, ou, sn)) (J_jn1 (d := 2) (x := 1) hn ⟨by omega, by omega, by omega⟩ (by decide) (by omega) (wl w8) c2 (by omega)) ?_
  refine Rn_tr (T := (A + 2 + 2 + 2 + 1 + 1 + gsz f0 + 1 + 1 + 1 + 1 + 1, R8 s0 s1 s2 s3 1 (ixor a b) r6 (r7 - 2), Z, tk, ou, sn)) (J_li (d := 4) (x := 1) hn ⟨by omega, by omega, by omega⟩ (by decide) (by omega) (wl w10) (by omega) v8_4) ?_
  exact hg
end Ord
