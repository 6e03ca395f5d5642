/-! STEPS: call, return, leave -/
section Sp4
variable {F d L : Nat} {xs : Nat → Int32} {M m : Mem} {np n : Nat} {fe : Nat → Nat} {h u : Nat → Int} {nc : Int} {cs : Nat → List Int} {pf : Nat → Nat} {f p i : Nat} {c r0 r1 r2 r3 r5 r7 tk ou : Int} {Y sn : Nat → Int}
/-- a proc's first order -/
theorem ENk (Q : PRQ M np n fe h u nc cs) {q : Nat} (hq : q < np) : fe q + 1 < n ∧ fe q + 1 < fe (q + 1) ∧ (82 ≤ M 187 (fe q) ∧ M 187 (fe q) < 65536) ∧ Nq M (fe q : Int) = M 187 (fe q) ∧ ∃ f0 f1, WdOk (Pq M) (Nq M) (M 193) (it_0 f0 f1 (M 186 (fe q)) (q : Int) (M 188 q) (M 190 q) (M 189 q)) (M 187 (fe q)) ∧ cX (Pq M) (it_0 f0 f1 (M 186 (fe q)) (q : Int) (M 188 q) (M 190 q) (M 189 q)) (M 187 (fe q)) = false ∧ M 187 (fe q) + ((it_0 f0 f1 (M 186 (fe q)) (q : Int) (M 188 q) (M 190 q) (M 189 q)).length : Int) = M 187 (fe q + 1) ∧ M 187 (fe q + 1) ≤ (((M 158 68).toNat : Nat) : Int) := by
  obtain ⟨ml, mx, -, -, -, -, -, ⟨g1, g2⟩, ⟨o1, o2⟩, -⟩ := PR_s Q hq
  obtain ⟨-, -, C, -, P1, ⟨P2, P3, P4⟩, ⟨-, N1, -⟩, -⟩ := Q
  obtain ⟨a0, a1, w1, w2, w3⟩ := C q hq (fe q) (Nat.le_refl _) (by omega)
  unfold itq at w1 w2 w3
  have ey : yq M q (fe q) = M 188 q := by
    unfold yq
    rw [o1, if_neg (by decide), if_neg (by decide), if_neg (by decide), if_neg (by decide), o2, Int.toNat_natCast]
  rw [o1, o2, ey, itO_0, Int.toNat_natCast] at w1 w2 w3
  have e1 : plE M n (fe q) = M 187 (fe q + 1) := by
    unfold plE
    rw [if_pos (by omega)]
  rw [e1] at w3
  have p1 := P1 (fe q) (by omega)
  have p2 := P1 (fe q + 1) (by omega)
  unfold Bq at P4
  refine ⟨by omega, by omega, by omega, ?_, a0, a1, w1, w2, w3, by omega⟩
  unfold Nq
  rw [if_pos (by omega), Int.toNat_natCast]
theorem S_17 (hF : 100000 ≤ F) (Q : PRQ M np n fe h u nc cs) (h4 : m 158 111 ≤ 3998) (R : RELq M np fe h u pf f p i c m r7 Y tk ou sn) (ho : M 184 i = 17) : NXT F d L xs M np fe h u (i : Int) c m (M 187 i, R8 r0 r1 r2 r3 c r5 (PBq M (m 211) (f - 1)) r7, Y, tk, ou, sn) := by
  obtain ⟨⟨l1, l2, l3⟩, ⟨e1, e2, e3⟩, hh, f0, f1, w0, w1, w2, w3, w4⟩ := SF Q R ho (by decide)
  obtain ⟨ml, mx, ⟨a1, b1⟩, c1, c2, c3, ⟨c4, c5, c6⟩, T, c7, c8⟩ := FR_g Q R
  obtain ⟨B1, B2, B3, B4, B5, B6, B7⟩ := PR_B Q
  obtain ⟨t1, t9⟩ := SFo Q R ho (by decide) T
  have hS := PR_S Q
  have hno : ¬ (M 184 i = 23 ∨ M 184 i = 26) := by omega
  have hio := R.2.2.2.2.2.2.2
  have hfe := R.2.2.1.1
  have hc0 : c = 0 := by have := R.2.2.2.1; omega
  subst hc0
  obtain ⟨u1, u2⟩ := R.2.2.2.2.1 hno
  rw [c3] at u1 u2
  rw [itO_17] at w1 w2 w3
  have ha := t1.2.2.2.2.2.2.2.1 rfl
  have hpop : M 188 (M 185 i).toNat ≤ h i := t1.2.1
  obtain ⟨q, eq⟩ : ∃ q : Nat, M 185 i = (q : Int) := ⟨(M 185 i).toNat, by omega⟩
  have hq : q < np := by omega
  rw [eq, Int.toNat_natCast] at hpop
  have hE := (Q.2.2.2.2.2.2.2.2.1 q hq).1
  have h40 := Q.2.2.2.2.2.2.1.1
  have hn14 := Q.2.2.2.2.2.2.1.2.1
  have ey : yq M p i = (fe q : Int) := by
    unfold yq
    rw [if_neg (by omega), if_neg (by omega), if_pos ho, eq, Int.toNat_natCast, hE]
  obtain ⟨n1, n2, n3, n4, g0, g1, x1, x2, x3, x4⟩ := ENk Q hq
  obtain ⟨mlq, mxq, y1, y2, y3, y4, ⟨-, yh, -, -⟩, ⟨y5, y6⟩, -⟩ := PR_s Q hq
  rw [ey] at w1 w3
  have q1 := Q_17q (ni := M 158 103) (ip := M 208) (tk := tk) (ou := ou) (Y := Y) (sn := sn) (r0 := r0) (r1 := r1) (r2 := r2) (r3 := r3) (r4 := 0) (r5 := r5) (r6 := PBq M (m 211) (f - 1)) (r7 := r7) B3 w0 w1 w3 w4 n4 (by omega)
  by_cases hfull : r7 + M 190 q ≤ 8192
  · left
    obtain ⟨s0, s1, s2, s3, s5, q2⟩ := Q_0 (ni := M 158 103) (ip := M 208) (tk := tk) (ou := ou) (Y := Y) (sn := sn) (r0 := r0) (r1 := r1) (r2 := r2) (r3 := r3) (r4 := 0) (r5 := M 187 i + 2 + 1) (r6 := PBq M (m 211) (f - 1)) (r7 := r7) B3 (by omega) x1 x2 x3 x4 (by omega) (by omega) (by omega) (by omega) (by omega) hfull
    have k := R.1
    have hf := R.2.1
    have e189 : m 189 q = M 189 q := k 189 _ (by omega) (fun w => absurd w (by decide))
    have e188 : m 188 q = M 188 q := k 188 _ (by omega) (fun w => absurd w (by decide))
    have e191 : m 191 q = (fe q : Int) := by rw [k 191 _ (by omega) (fun w => absurd w (by decide)), hE]
    have T17 := T_17 (F := F) (d := d) (L := L) (xs := xs) (m := m) (i := (i : Int)) (c := 0) (a := (q : Int)) (g := M 186 i) (z := M 189 q) (x := M 188 q) (t := m 158 108) (f := (f : Int)) (y := (fe q : Int)) ⟨by omega, by omega⟩ e1 (by rw [← eq]; exact e2) e3 hF (by omega) e189 (by omega) e188 (by omega) rfl (by omega) hf.1 (by omega) e191 (by omega)
    have ef : (m 158 111).toNat = f := by rw [hf.1]; omega
    have m211 : entM m (q : Int) (i : Int) 211 = vput (m 211) f (m 158 108 - M 188 q) := by
      funext j
      unfold entM
      rw [zer_o _ _ _ _ (by decide) (fun w => absurd w (by decide)), Int.toNat_natCast, e188, ef]
      rfl
    have m212 : entM m (q : Int) (i : Int) 212 = vput (m 212) f (i : Int) := by
      funext j
      unfold entM
      rw [zer_o _ _ _ _ (by decide) (fun w => absurd w (by decide)), ef]
      rfl
    have m213 : entM m (q : Int) (i : Int) 213 = m 213 := by
      funext j
      unfold entM
      rw [zer_o _ _ _ _ (by decide) (fun w => absurd w (by decide))]
      rfl
    have m111 : entM m (q : Int) (i : Int) 158 111 = (f : Int) + 1 := by
      unfold entM
      rw [zer_o _ _ _ _ (by decide) (fun _ => by decide)]
      show m 158 111 + 1 = _
      rw [hf.1]
    have m108 : entM m (q : Int) (i : Int) 158 108 = m 158 108 + (M 189 q - (M 188 q + 2)) := by
      unfold entM
      rw [zer_top, Int.toNat_natCast, e188, e189]
      show m 158 108 + (((M 189 q - (M 188 q + 2)).toNat : Nat) : Int) = _
      omega
    have mo : ∀ a k, a ≠ 210 → a ≠ 211 → a ≠ 212 → (a = 158 → k ≠ 108 ∧ k ≠ 111) → entM m (q : Int) (i : Int) a k = m a k := fun a k h1 h2 h3 h5 => by
      unfold entM
      rw [zer_o _ _ _ _ h1 (fun w => (h5 w).1), put_ss]
      by_cases e : a = 158
      · rw [if_pos e, if_neg (h5 e).2, put_ss, if_neg h3, put_ss, if_neg h2]
      · rw [if_neg e, put_ss, if_neg h3, put_ss, if_neg h2]
    have m210 : ∀ k : Nat, (k : Int) < m 158 108 → entM m (q : Int) (i : Int) 210 k = m 210 k := fun k hk => by
      unfold entM
      rw [zer_p _ _ _ (by show 0 ≤ m 158 108; omega), if_neg (fun w => by
        have w1 : m 158 108 ≤ (k : Int) := w.1
        omega)]
      rfl
    refine ⟨6, (fe q : Int) + 1, 0, entM m (q : Int) (i : Int), _, by decide, RnC_tr q1 (RnC_2 q2), T17, ?_, ?_, ?_⟩
    · have FR := R.2.2.2.2.2.1
      rw [c3] at FR
      obtain ⟨hq1, hq2⟩ := hq_n Q hq (i := fe q + 1) (by omega) n2
      have el : limq M h (vput (m 211) f (m 158 108 - M 188 q)) (f + 1) q (fe q + 1) = m 158 108 - M 188 q + M 189 q - 2 := by
        unfold limq
        rw [hq1, yh.1, show f + 1 - 1 = f from rfl, vp_e]
        omega
      have ePB : PBq M (vput (m 211) f (m 158 108 - M 188 q)) (f + 1 - 1) = r7 - M 188 q := by
        unfold PBq
        rw [show f + 1 - 1 = f from rfl, vp_e]
        omega
      refine ⟨fun j => if j = f then q else pf j, f + 1, q, fe q + 1, s0, s1, s2, s3, s5, r7 + (M 189 q - M 188 q), _, tk, ou, sn, by omega, by rw [m211, ePB], fun a k h1 h2 => ?_, ⟨by rw [m111]; omega, by omega, if_pos rfl, hq⟩, ⟨by omega, n2⟩, ⟨by omega, Or.inl rfl⟩, fun _ => ?_, ?_, ?_, ?_⟩
      · rw [mo a k (by omega) (by omega) (by omega) (fun w => ⟨(h2 w).1, (h2 w).2.1⟩)]
        exact R.1 a k h1 h2
      · rw [m211, el, m108]
        exact ⟨by omega, by omega⟩
      · rw [m211, m212, el]
        have hu := (Q.2.2.2.2.2.2.2.2.2.2.2 q hq).1
        have hp3 := R.2.1.2.2.1
        have z := FRM_call (q := q) (i := i) (X' := entM m (q : Int) (i : Int) 210) (Y' := vput (vput Y r7.toNat (M 187 i + 2 + 1)) (r7 + 1).toNat (PBq M (m 211) (f - 1))) (lim' := m 158 108 - M 188 q + M 189 q - 2) (uv' := u (fe q + 1)) B2 hS FR R.2.1.2.1 hq (by rw [hp3]; omega) hpop (by rw [hp3]; omega) ho eq (by omega) (fun a ha0 ha => by
          show (if a = (r7 + 1).toNat then _ else if a = r7.toNat then _ else Y a) = Y a
          rw [if_neg (by omega), if_neg (by omega)]) (by
          rw [show Bq M + (m 211 (f - 1) + ml + h i) + 2 * (f : Int) = r7 from by omega]
          show (if r7.toNat = (r7 + 1).toNat then _ else if r7.toNat = r7.toNat then _ else _) = _
          rw [if_neg (by omega), if_pos rfl]
          omega) (by
          rw [show Bq M + (m 211 (f - 1) + ml + h i) + 2 * (f : Int) = r7 from by omega]
          exact vp_e) (fun k hk => m210 k (by omega)) (by omega) hu
        rw [show m 211 (f - 1) + ml + h i = m 158 108 from by omega] at z
        exact z
      · rw [m213]
        refine VR_up B1 R.2.2.2.2.2.2.1 (fun a ha => ?_)
        show (if a = (r7 + 1).toNat then _ else if a = r7.toNat then _ else Y a) = Y a
        rw [if_neg (by omega), if_neg (by omega)]
      · obtain ⟨⟨i1, i2, i3⟩, ⟨i4, i5⟩, i6⟩ := hio
        refine ⟨⟨by rw [mo 158 114 (by decide) (by decide) (by decide) (fun _ => by decide)]; exact i1, i2, i3⟩, ⟨by rw [mo 158 115 (by decide) (by decide) (by decide) (fun _ => by decide)]; exact i4, i5⟩, fun k hk hk5 => ?_⟩
        rw [mo 215 k (by decide) (by decide) (by decide) (fun w => absurd w (by decide))]
        exact i6 k hk hk5
    · rw [m111, hf.1]
      show 5 * ((f : Int) + 1) + 1 ≤ 5 * (f : Int) + ((6 : Nat) : Int)
      omega
    · rw [mo 158 115 (by decide) (by decide) (by decide) (fun _ => by decide)]
      show m 158 115 + 1 ≤ m 158 115 + ((6 : Nat) : Int)
      omega
  · right
    left
    obtain ⟨r, q2, q3⟩ := Q_0f (ni := M 158 103) (ip := M 208) (tk := tk) (ou := ou) (Y := Y) (sn := sn) (r0 := r0) (r1 := r1) (r2 := r2) (r3 := r3) (r4 := 0) (r5 := M 187 i + 2 + 1) (r6 := PBq M (m 211) (f - 1)) (r7 := r7) B3 (by omega) x1 x2 x3 x4 (by omega) (by omega) (by omega) (by omega) hfull
    refine ⟨r, ou, sn, fun mm hm => ?_, q3⟩
    obtain ⟨k, -, k1⟩ := q1 mm hm
    obtain ⟨j, j1⟩ := q2 _ k1
    exact ⟨k + j, by rw [tikn_add]; exact j1⟩
theorem HLT7 (Q : PRQ M np n fe h u nc cs) : M 193 7 = wrd 15 0 0 0 := by
  have z := Q.2.2.2.1
  unfold hdI at z
  have z2 : WdOk (Pq M) (Nq M) (M 193) ((iL 6 4 0 0 ++ (iNt 7 (-1) ++ (iL 10 6 7 0 ++ (iNt 5 (M 191 (M 158 67).toNat) ++ iL 13 5 5 0)))) ++ (iL 15 0 0 0 ++ lbw.map lit)) 0 := z
  rw [WdOk_app] at z2
  have z3 : WdOk (Pq M) (Nq M) (M 193) (iL 15 0 0 0 ++ lbw.map lit) 7 := z2.2
  rw [WdOk_app] at z3
  exact wl z3.1
theorem S_22 (Q : PRQ M np n fe h u nc cs) (h4 : m 158 111 ≤ 3998) (R : RELq M np fe h u pf f p i c m r7 Y tk ou sn) (ho : M 184 i = 22) : NXT F d L xs M np fe h u (i : Int) c m (M 187 i, R8 r0 r1 r2 r3 c r5 (PBq M (m 211) (f - 1)) r7, Y, tk, ou, sn) := by
  obtain ⟨⟨l1, l2, l3⟩, ⟨e1, e2, e3⟩, hh, f0, f1, w0, w1, w2, w3, w4⟩ := SF Q R ho (by decide)
  obtain ⟨ml, mx, ⟨a1, b1⟩, c1, c2, c3, ⟨c4, c5, c6⟩, T, c7, c8⟩ := FR_g Q R
  obtain ⟨B1, B2, B3, B4, B5, B6, B7⟩ := PR_B Q
  obtain ⟨t1, t9⟩ := SFo Q R ho (by decide) T
  have hS := PR_S Q
  have hno : ¬ (M 184 i = 23 ∨ M 184 i = 26) := by omega
  have hio := R.2.2.2.2.2.2.2
  have hc0 : c = 0 := by have := R.2.2.2.1; omega
  subst hc0
  obtain ⟨u1, u2⟩ := R.2.2.2.2.1 hno
  rw [c3] at u1 u2
  rw [itO_22] at w1 w2 w3
  have hap : M 185 i = (p : Int) := t1.2.2.2.2.2.2.2.2.2.1 (Or.inl rfl)
  have hpop : 1 ≤ h i := t1.2.1
  have ey : yq M p i = M 188 p := by
    unfold yq
    rw [if_neg (by omega), if_neg (by omega), if_neg (by omega), if_neg (by omega), hap, Int.toNat_natCast]
  rw [ey] at w1 w2 w3
  obtain ⟨p1, p2⟩ := RL_top Q R hno (d := 1) (by omega)
  have K := R.1
  obtain ⟨g1, g2, g3, g4⟩ := R.2.1
  have FR := R.2.2.2.2.2.1
  rw [c3] at FR
  have VR := R.2.2.2.2.2.2.1
  obtain ⟨j1, j2, j3, j4, j5⟩ := FR.1 (f - 1) (by omega)
  rw [g3] at j4 j5
  by_cases hf1 : f = 1
  · right
    right
    rw [if_pos (by omega)] at j4 j5
    obtain ⟨s5, q1⟩ := Q_22 (ni := M 158 103) (ip := M 208) (tk := tk) (ou := ou) (Y := Y) (sn := sn) (r0 := r0) (r1 := r1) (r2 := r2) (r3 := r3) (r4 := 0) (r5 := r5) (r6 := PBq M (m 211) (f - 1)) (r7 := r7) B3 w0 w1 w2 w3 w4 (by omega) (by omega) j4 j5 (by omega) (by omega) p1
    have q2 := J_halt (n := (M 158 68).toNat) (W := M 193) (ni := M 158 103) (ip := M 208) (pc := 7) (r := R8 (m 210 (m 158 108 - 1).toNat % 65536) r1 r2 (Bq M) 0 s5 (Bq M) (PBq M (m 211) (f - 1))) (Y := Y) (tk := tk) (ou := ou) (sn := sn) B3 (by omega) (HLT7 Q)
    have eb : m 211 0 = m 211 (f - 1) := by rw [hf1]
    have ef1 : m 158 111 = 1 := by rw [g1, hf1]; rfl
    refine ⟨_, ou, sn, 0, _, Re_tr q1 q2, T_22e (a := M 185 i) (g := M 186 i) (b := m 211 (f - 1)) ⟨by omega, by omega⟩ e1 e2 e3 rfl (by omega) rfl ef1 eb, rfl, by omega, KM_put (KM_put K (by omega)) (by omega), hio.2.1, Int.le_refl _, hio.2.2⟩
  · left
    rw [if_neg (by omega)] at j4 j5
    obtain ⟨k, k1, k2, k3, k4, k5, k6⟩ := FR.2.1 (f - 2) (by omega)
    rw [show f - 2 + 1 = f - 1 from by omega] at k1 k4 k5 k6
    rw [g3] at k4 k5 k6
    have hp2 := (FR.1 (f - 2) (by omega)).1
    obtain ⟨⟨d1, d2, d3⟩, -, z0, z1, y0, y1, y2, y3, y4⟩ := CLk Q hp2 k2 k3
    rw [k4, Int.toNat_natCast] at d1
    rw [k1, Int.toNat_natCast, show M 187 k + 3 = M 187 k + 2 + 1 from by omega] at j4
    rw [show f - 1 - 1 = f - 2 from by omega] at j5
    obtain ⟨o1, o2, o3, o4, o5⟩ := FR.1 (f - 2) (by omega)
    have hPB : PBq M (m 211) (f - 2) = Bq M + m 211 (f - 2) + 2 * ((f : Int) - 2) := by
      unfold PBq
      omega
    have hw2 : 0 ≤ M 188 (pf (f - 2)) ∧ 0 ≤ M 190 (pf (f - 2)) := by
      obtain ⟨x1, x2, x3, x4, x5, x6, -⟩ := PR_s Q hp2
      omega
    obtain ⟨s5, q1⟩ := Q_22 (ni := M 158 103) (ip := M 208) (tk := tk) (ou := ou) (Y := Y) (sn := sn) (r0 := r0) (r1 := r1) (r2 := r2) (r3 := r3) (r4 := 0) (r5 := r5) (r6 := PBq M (m 211) (f - 1)) (r7 := r7) B3 w0 w1 w2 w3 w4 (by omega) (by omega) j4 j5 (by omega) (by omega) p1
    have q2 := Q_17b (ni := M 158 103) (ip := M 208) (tk := tk) (ou := ou) (Y := Y) (sn := sn) (r0 := m 210 (m 158 108 - 1).toNat % 65536) (r1 := r1) (r2 := r2) (r3 := PBq M (m 211) (f - 2)) (r4 := 0) (r5 := s5) (r6 := PBq M (m 211) (f - 2)) (r7 := PBq M (m 211) (f - 1)) B3 y0 y1 y2 y3 y4 rfl (by omega)
    have hn14 := Q.2.2.2.2.2.2.1.2.1
    have ef : ((f : Int) - 1).toNat = f - 1 := by omega
    have T22 := T_22 (F := F) (d := d) (L := L) (xs := xs) (m := m) (i := (i : Int)) (a := M 185 i) (g := M 186 i) (t := m 158 108) (y := m 210 (m 158 108 - 1).toNat) (f := (f : Int)) (b := m 211 (f - 1)) (p := (k : Int)) ⟨by omega, by omega⟩ e1 e2 e3 rfl (by omega) rfl g1 (by omega) (by rw [ef]) (by omega) (by rw [ef]; exact k1) (by omega)
    refine ⟨2, (k : Int) + 1, 0, _, _, by decide, RnC_2 (Rn_tr q1 q2), T22, ?_, ?_, ?_⟩
    · obtain ⟨hq1, hq2⟩ := hq_n Q hp2 (i := k + 1) (by omega) (by omega)
      have el : limq M h (m 211) (f - 1) (pf (f - 2)) (k + 1) = m 211 (f - 1) + 1 := by
        unfold limq
        rw [hq1, show f - 1 - 1 = f - 2 from by omega]
        omega
      have G := FRM_ret FR (by omega)
      rw [k1, Int.toNat_natCast] at G
      have hS2 := hS _ hp2
      have hb0 := (FR.1 (f - 1) (by omega)).2.1
      refine ⟨pf, f - 1, pf (f - 2), k + 1, _, _, _, _, _, _, _, tk, ou, sn, by omega, by rw [show f - 1 - 1 = f - 2 from by omega]; rfl, KM_put (KM_put (KM_put (KM_put K (by omega)) (by omega)) (by omega)) (by omega), ⟨by show (f : Int) - 1 = _; omega, by omega, by rw [show f - 1 - 1 = f - 2 from by omega], hp2⟩, ⟨by omega, by omega⟩, ⟨by omega, Or.inl rfl⟩, fun _ => ?_, ?_, ?_, hio⟩
      · show m 211 (f - 1) + 1 = limq M h (m 211) (f - 1) (pf (f - 2)) (k + 1) ∧ PBq M (m 211) (f - 1) + 1 = Bq M + limq M h (m 211) (f - 1) (pf (f - 2)) (k + 1) + 2 * ((f - 1 : Nat) : Int)
        rw [el]
        exact ⟨rfl, by omega⟩
      · show FRM M np fe h u pf (m 211) (m 212) (vput (m 210) (m 211 (f - 1)).toNat (m 210 (m 158 108 - 1).toNat)) (vput Y (PBq M (m 211) (f - 1)).toNat (m 210 (m 158 108 - 1).toNat % 65536)) (f - 1) (limq M h (m 211) (f - 1) (pf (f - 2)) (k + 1)) (u (k + 1))
        rw [el]
        have G2 := FRM_up (lim' := m 211 (f - 1)) (uv' := u (k + 1)) B2 hS G (by omega) (Int.le_refl _) (by rw [show f - 1 - 1 = f - 2 from by omega]; omega) d2 (X' := m 210) (Y' := Y) (fun _ _ => rfl) (fun _ _ _ => rfl)
        have eT : Bq M + m 211 (f - 1) + 2 * ((f - 1 : Nat) : Int) = PBq M (m 211) (f - 1) := by omega
        exact FRM_push B2 hS G2 (by omega) (by rw [show f - 1 - 1 = f - 2 from by omega]; omega) (fun q hq => vp_n (by omega)) vp_e p2 (fun q _ hq => vp_n (by omega)) (by rw [eT]; exact vp_e)
      · exact VR_up B1 VR (fun q hq => vp_n (by omega))
    · show 5 * ((f : Int) - 1) + 1 ≤ 5 * m 158 111 + ((2 : Nat) : Int)
      omega
    · show m 158 115 + 1 ≤ m 158 115 + ((2 : Nat) : Int)
      omega
theorem S_26 (Q : PRQ M np n fe h u nc cs) (h4 : m 158 111 ≤ 3998) (R : RELq M np fe h u pf f p i c m r7 Y tk ou sn) (ho : M 184 i = 26) : NXT F d L xs M np fe h u (i : Int) c m (M 187 i, R8 r0 r1 r2 r3 c r5 (PBq M (m 211) (f - 1)) r7, Y, tk, ou, sn) := by
  obtain ⟨ml, mx, ⟨a1, b1⟩, c1, c2, c3, ⟨c4, c5, c6⟩, T, c7, c8⟩ := FR_g Q R
  obtain ⟨B1, B2, B3, B4, B5, B6, B7⟩ := PR_B Q
  have hS := PR_S Q
  have hio := R.2.2.2.2.2.2.2
  have K := R.1
  obtain ⟨g1, g2, g3, g4⟩ := R.2.1
  obtain ⟨i1, i2⟩ := R.2.2.1
  have hcc := R.2.2.2.1.1
  have FR := R.2.2.2.2.2.1
  rw [c3] at FR
  have VR := R.2.2.2.2.2.2.1
  obtain ⟨mlp, mxp, -, -, -, -, ⟨-, yh, -, TT⟩, ⟨y5, y6⟩, -, ⟨g5, g6⟩⟩ := PR_s Q g4
  have ei : i = fe (p + 1) - 1 := by
    by_cases e : i = fe (p + 1) - 1
    · exact e
    · have := (TT i i1 (by omega)).1.1
      omega
  have hap : M 185 i = (p : Int) := by rw [ei]; exact g6
  have hhi : h i = 0 := by rw [ei]; exact yh.2
  have hn14 := Q.2.2.2.2.2.2.1.2.1
  have h40 := Q.2.2.2.2.2.2.1.1
  have P1 := Q.2.2.2.2.1 i (by omega)
  obtain ⟨f0, f1, w1, w2, w3⟩ := Q.2.2.1 p g4 i (by omega) i2
  unfold itq at w1 w2 w3
  have ey : yq M p i = M 188 p := by
    unfold yq
    rw [if_neg (by omega), if_neg (by omega), if_neg (by omega), if_neg (by omega), hap, Int.toNat_natCast]
  rw [ho, ey, hap, Int.toNat_natCast, itO_26] at w1 w3
  have hEn : plE M n i ≤ (((M 158 68).toNat : Nat) : Int) := by
    unfold plE
    by_cases e : i + 1 < n
    · rw [if_pos e]
      have := Q.2.2.2.2.1 (i + 1) e
      omega
    · rw [if_neg e]
      omega
  obtain ⟨r1', r2', r3'⟩ := Q.2.2.2.2.2.2.2.2.2.1 p g4
  obtain ⟨j1, j2, j3, j4, j5⟩ := FR.1 (f - 1) (by omega)
  rw [g3] at j4 j5
  have e192 : m 192 (40 * M 185 i + c).toNat = if c ∈ cs p then 1 else 0 := by
    rw [K 192 _ (by omega) (fun w => absurd w (by decide)), hap, show (40 * (p : Int) + c).toNat = 40 * p + c.toNat from by omega, r3' c.toNat (by omega), Int.toNat_of_nonneg hcc.1]
  have e1 : m 184 i = 26 := by rw [K 184 _ (by omega) (fun w => absurd w (by decide))]; exact ho
  have e2 : m 185 i = M 185 i := K 185 _ (by omega) (fun w => absurd w (by decide))
  have e3 : m 186 i = M 186 i := K 186 _ (by omega) (fun w => absurd w (by decide))
  have hcn : 1 ≤ (if c ∈ cs p then c else 5) ∧ (if c ∈ cs p then c else 5) ≤ 30 := by
    by_cases e : c ∈ cs p
    · rw [if_pos e]
      exact r2' c e
    · rw [if_neg e]
      omega
  by_cases hf1 : f = 1
  · right
    right
    rw [if_pos (by omega)] at j4 j5
    obtain ⟨s0, s5, q1⟩ := Q_26 (ni := M 158 103) (ip := M 208) (tk := tk) (ou := ou) (Y := Y) (sn := sn) (r0 := r0) (r1 := r1) (r2 := r2) (r3 := r3) (r4 := c) (r5 := r5) (r6 := PBq M (m 211) (f - 1)) (r7 := r7) B3 (by omega) w1 w3 hEn r1' (fun x hx => by have := r2' x hx; omega) (by omega) (by omega) (by omega) j4 j5 (by omega)
    have q2 := J_halt (n := (M 158 68).toNat) (W := M 193) (ni := M 158 103) (ip := M 208) (pc := 7) (r := R8 s0 r1 r2 (Bq M) (if c ∈ cs p then c else 5) s5 (Bq M) (PBq M (m 211) (f - 1))) (Y := Y) (tk := tk) (ou := ou) (sn := sn) B3 (by omega) (HLT7 Q)
    have eb : m 211 0 = m 211 (f - 1) := by rw [hf1]
    have ef1 : m 158 111 = 1 := by rw [g1, hf1]; rfl
    refine ⟨_, ou, sn, if c ∈ cs p then c else 5, put (put m 158 111 0) 158 108 (m 211 (f - 1)), Re_tr q1 q2, ?_, rfl, by omega, KM_put (KM_put K (by omega)) (by omega), hio.2.1, Int.le_refl _, hio.2.2⟩
    by_cases e : c ∈ cs p
    · rw [if_pos e] at e192 ⊢
      exact T_26ke (a := M 185 i) (g := M 186 i) (b := m 211 (f - 1)) ⟨by omega, by omega⟩ e1 e2 e3 (by omega) (by omega) e192 ef1 eb
    · rw [if_neg e] at e192 ⊢
      exact T_26ee (a := M 185 i) (g := M 186 i) (b := m 211 (f - 1)) ⟨by omega, by omega⟩ e1 e2 e3 (by omega) (by omega) e192 ef1 eb
  · left
    rw [if_neg (by omega)] at j4 j5
    obtain ⟨k, k1, k2, k3, k4, k5, k6⟩ := FR.2.1 (f - 2) (by omega)
    rw [show f - 2 + 1 = f - 1 from by omega] at k1 k4 k5 k6
    rw [g3] at k4 k5 k6
    have hp2 := (FR.1 (f - 2) (by omega)).1
    obtain ⟨⟨d1, d2, d3⟩, ⟨j, v1, v2, v3, v4, v5, v6⟩, z0, z1, y0, y1, y2, y3, y4⟩ := CLk Q hp2 k2 k3
    rw [k1, Int.toNat_natCast, show M 187 k + 3 = M 187 k + 2 + 1 from by omega] at j4
    rw [show f - 1 - 1 = f - 2 from by omega] at j5
    obtain ⟨o1, o2, o3, o4, o5⟩ := FR.1 (f - 2) (by omega)
    have hPB : PBq M (m 211) (f - 2) = Bq M + m 211 (f - 2) + 2 * ((f : Int) - 2) := by
      unfold PBq
      omega
    have hw2 : 0 ≤ M 188 (pf (f - 2)) ∧ 0 ≤ M 190 (pf (f - 2)) := by
      obtain ⟨x1, x2, x3, x4, x5, x6, -⟩ := PR_s Q hp2
      omega
    obtain ⟨s0, s5, q1⟩ := Q_26 (ni := M 158 103) (ip := M 208) (tk := tk) (ou := ou) (Y := Y) (sn := sn) (r0 := r0) (r1 := r1) (r2 := r2) (r3 := r3) (r4 := c) (r5 := r5) (r6 := PBq M (m 211) (f - 1)) (r7 := r7) B3 (by omega) w1 w3 hEn r1' (fun x hx => by have := r2' x hx; omega) (by omega) (by omega) (by omega) j4 j5 (by omega)
    obtain ⟨s6, q2⟩ := Q_17c (ni := M 158 103) (ip := M 208) (tk := tk) (ou := ou) (Y := Y) (sn := sn) (r0 := s0) (r1 := r1) (r2 := r2) (r3 := PBq M (m 211) (f - 2)) (r4 := if c ∈ cs p then c else 5) (r5 := s5) (r6 := PBq M (m 211) (f - 2)) (r7 := PBq M (m 211) (f - 1)) B3 y0 y1 y2 y3 y4 v4 (by omega)
    rw [v5] at q2
    have ef : ((f : Int) - 1).toNat = f - 1 := by omega
    have eq : m 186 ((k : Int)).toNat = M 186 k := K 186 _ (by omega) (fun w => absurd w (by decide))
    have T26 : TSt F (d + 4) L xs (i : Int) c m (M 186 k) (if c ∈ cs p then c else 5) (put (put m 158 111 ((f : Int) - 1)) 158 108 (m 211 (f - 1))) := by
      by_cases e : c ∈ cs p
      · rw [if_pos e] at e192 hcn ⊢
        exact T_26k (a := M 185 i) (g := M 186 i) (f := (f : Int)) (b := m 211 (f - 1)) (p := (k : Int)) ⟨by omega, by omega⟩ e1 e2 e3 (by omega) (by omega) (by omega) e192 g1 (by omega) (by rw [ef]) (by omega) (by rw [ef]; exact k1) (by omega) eq
      · rw [if_neg e] at e192 hcn ⊢
        exact T_26e (a := M 185 i) (g := M 186 i) (f := (f : Int)) (b := m 211 (f - 1)) (p := (k : Int)) ⟨by omega, by omega⟩ e1 e2 e3 (by omega) (by omega) (by omega) e192 g1 (by omega) (by rw [ef]) (by omega) (by rw [ef]; exact k1) (by omega) eq
    refine ⟨2, M 186 k, if c ∈ cs p then c else 5, _, _, by decide, RnC_2 (Rn_tr q1 q2), T26, ?_, ?_, ?_⟩
    · have el : limq M h (m 211) (f - 1) (pf (f - 2)) j = m 211 (f - 2) + M 189 (pf (f - 2)) - 2 := by
        unfold limq hq
        rw [if_pos v3, show f - 1 - 1 = f - 2 from by omega]
        omega
      have G := FRM_ret FR (by omega)
      rw [k1, Int.toNat_natCast] at G
      have hS2 := hS _ hp2
      refine ⟨pf, f - 1, pf (f - 2), j, _, _, _, _, _, _, _, tk, ou, sn, v1, by rw [show f - 1 - 1 = f - 2 from by omega]; rfl, KM_put (KM_put K (by omega)) (by omega), ⟨by show (f : Int) - 1 = _; omega, by omega, by rw [show f - 1 - 1 = f - 2 from by omega], hp2⟩, v2, ⟨by omega, Or.inr (by omega)⟩, fun w => absurd v3 w, ?_, VR, hio⟩
      show FRM M np fe h u pf (m 211) (m 212) (m 210) Y (f - 1) (limq M h (m 211) (f - 1) (pf (f - 2)) j) (u j)
      rw [el]
      exact FRM_up B2 hS G (by omega) (by omega) (by rw [show f - 1 - 1 = f - 2 from by omega]; omega) v6 (fun _ _ => rfl) (fun _ _ _ => rfl)
    · show 5 * ((f : Int) - 1) + 1 ≤ 5 * m 158 111 + ((2 : Nat) : Int)
      omega
    · show m 158 115 + 1 ≤ m 158 115 + ((2 : Nat) : Int)
      omega
end Sp4
