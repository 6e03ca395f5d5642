/-! STEPS: orders that put one on the pile -/
theorem sg_e {w : Int} (hw : 0 ≤ w ∧ w < 65536) : sg w % 65536 = w ∧ -32768 ≤ sg w ∧ sg w ≤ 32767 := by
  rw [sg_v hw]
  split <;> omega
theorem lb_ok {P N : Int → Int} {W : Nat → Int} : ∀ (l : List Int) (A : Int), 0 ≤ A → WdOk P N W (l.map lit) A → ∀ k, k < l.length → W (A.toNat + k) = l.getD k 0
  | [], A, hA, h, k, hk => absurd hk (Nat.not_lt_zero _)
  | w :: l, A, hA, h, 0, hk => by
    have z : W A.toNat = finW P N A (lit w) := h.1
    rw [fin_0] at z
    exact z
  | w :: l, A, hA, h, k + 1, hk => by
    have z := lb_ok l (A + 1) (by omega) h.2 k (by
      have e : (w :: l).length = l.length + 1 := rfl
      omega)
    rw [show (A + 1).toNat + k = A.toNat + (k + 1) from by omega] at z
    exact z
theorem tmod_b {x y : Int} (hx : -32768 ≤ x ∧ x ≤ 32767) : -32768 ≤ x.tmod y ∧ x.tmod y ≤ 32767 := by
  have h1 : (x.tmod y).natAbs ≤ x.natAbs := by
    rw [Int.natAbs_tmod]
    exact Nat.mod_le _ _
  have h3 : x ≤ 0 → x.tmod y ≤ 0 := fun c => by
    have z := Int.tmod_nonneg y (a := -x) (by omega)
    rw [Int.neg_tmod] at z
    omega
  by_cases c : x ≤ 0
  · have := h3 c
    omega
  · omega
theorem PR_L {M : Mem} {np n : Nat} {fe : Nat → Nat} {h u : Nat → Int} {nc : Int} {cs : Nat → List Int} (Q : PRQ M np n fe h u nc cs) : LbW (M 193) := by
  have z := Q.2.2.2.1
  unfold hdI at z
  have z2 : WdOk (Pq M) (Nq M) (M 193) ((iL 6 4 0 0 ++ (iNt 7 (-1) ++ (iL 10 6 7 0 ++ (iNt 5 (M 191 (M 158 67).toNat) ++ (iL 13 5 5 0 ++ iL 15 0 0 0))))) ++ lbw.map lit) 0 := z
  rw [WdOk_app] at z2
  have z3 : WdOk (Pq M) (Nq M) (M 193) (lbw.map lit) 8 := z2.2
  exact lb_ok lbw 8 (by decide) z3
section Sp1
variable {F d L : Nat} {xs : Nat → Int32} {M m : Mem} {np n : Nat} {fe : Nat → Nat} {h u : Nat → Int} {nc : Int} {cs : Nat → List Int} {pf : Nat → Nat} {f p i : Nat} {c r0 r1 r2 r3 r5 r7 tk ou : Int} {Y sn : Nat → Int}
theorem S_1 (Q : PRQ M np n fe h u nc cs) (R : RELq M np fe h u pf f p i c m r7 Y tk ou sn) (ho : M 184 i = 1) : NXT F d L xs M np fe h u (i : Int) c m (M 187 i, R8 r0 r1 r2 r3 c r5 (PBq M (m 211) (f - 1)) r7, Y, tk, ou, sn) := by
  obtain ⟨⟨l1, l2, l3⟩, ⟨e1, e2, e3⟩, hh, f0, f1, w0, w1, w2, w3, w4⟩ := SF Q R ho (by decide)
  obtain ⟨ml, mx, ⟨a1, b1⟩, c1, c2, c3, ⟨c4, c5, c6⟩, T, c7, c8⟩ := FR_g Q R
  obtain ⟨B1, B2, B3, B4, B5, B6, B7⟩ := PR_B Q
  obtain ⟨t1, t9⟩ := SFo Q R ho (by decide) T
  have hno : ¬ (M 184 i = 23 ∨ M 184 i = 26) := by omega
  have hio := R.2.2.2.2.2.2.2
  have hfe := R.2.2.1.1
  obtain ⟨lu2, lu3, lu1, lu4, lu5⟩ := SFu Q R ho (by decide)
  have hc0 : c = 0 := by have := R.2.2.2.1; omega
  subst hc0
  obtain ⟨u1, u2⟩ := R.2.2.2.2.1 hno
  rw [c3] at u1 u2
  rw [itO_1] at w1 w2 w3
  have hh : h (i + 1) = h i + (1) - 0 := hh
  have E1 : m 184 ((i : Int)).toNat = 1 := e1
  have E2 : m 185 ((i : Int)).toNat = M 185 i := e2
  have E3 : m 186 ((i : Int)).toNat = M 186 i := e3
  have hi0 : 0 ≤ (i : Int) ∧ (i : Int) < 11999 := by omega
  have hx := t1.2.2.1 rfl
  obtain ⟨s0, s1, s2, s3, s5, Y', q1, q2, q3⟩ := Q_1 (ni := M 158 103) (ip := M 208) (tk := tk) (ou := ou) (Y := Y) (sn := sn) (r0 := r0) (r1 := r1) (r2 := r2) (r3 := r3) (r4 := 0) (r5 := r5) (r6 := PBq M (m 211) (f - 1)) (r7 := r7)  B3 w0 w1 w2 w3 w4 hx (by omega)
  refine Or.inl ⟨2, (i : Int) + 1, 0, _, _, by decide, RnC_2 q1, T_1 hi0 E1 E2 E3 rfl (by omega), ?_, ?_, ?_⟩
  · have z := RL_psh (m' := put (put m 210 (m 158 108).toNat (M 185 i)) 158 108 (m 158 108 + 1)) (pp := 0) (v := M 185 i) (i2 := (i : Int) + 1) (s0 := s0) (s1 := s1) (s2 := s2) (s3 := s3) (s5 := s5) (Y' := Y') (tk' := tk) Q R rfl hno l1 (by omega) (lu1 (by decide)) (by omega) (by omega) (KM_put (KM_put R.1 (by omega)) (by omega)) rfl (by show m 158 108 + 1 = _; omega) rfl rfl rfl (fun k hk => by
      show (if k = (m 158 108).toNat then _ else m 210 k) = m 210 k
      rw [if_neg (by omega)]
      ) (by
      show (if (m 158 108 - 0).toNat = (m 158 108).toNat then _ else _) = _
      rw [if_pos (by omega)]
      ) (fun a ha => q3 a (by omega)) (by rw [Int.sub_zero, q2]; omega) hio rfl
    rw [Int.sub_zero] at z
    exact z
  · show 5 * m 158 111 + 1 ≤ 5 * m 158 111 + ((2 : Nat) : Int)
    omega
  · show m 158 115 + 1 ≤ m 158 115 + ((2 : Nat) : Int)
    omega
theorem S_2 (Q : PRQ M np n fe h u nc cs) (h4 : m 158 111 ≤ 3998) (R : RELq M np fe h u pf f p i c m r7 Y tk ou sn) (ho : M 184 i = 2) : NXT F d L xs M np fe h u (i : Int) c m (M 187 i, R8 r0 r1 r2 r3 c r5 (PBq M (m 211) (f - 1)) r7, Y, tk, ou, sn) := by
  obtain ⟨⟨l1, l2, l3⟩, ⟨e1, e2, e3⟩, hh, f0, f1, w0, w1, w2, w3, w4⟩ := SF Q R ho (by decide)
  obtain ⟨ml, mx, ⟨a1, b1⟩, c1, c2, c3, ⟨c4, c5, c6⟩, T, c7, c8⟩ := FR_g Q R
  obtain ⟨B1, B2, B3, B4, B5, B6, B7⟩ := PR_B Q
  obtain ⟨t1, t9⟩ := SFo Q R ho (by decide) T
  have hno : ¬ (M 184 i = 23 ∨ M 184 i = 26) := by omega
  have hio := R.2.2.2.2.2.2.2
  have hfe := R.2.2.1.1
  obtain ⟨lu2, lu3, lu1, lu4, lu5⟩ := SFu Q R ho (by decide)
  have hc0 : c = 0 := by have := R.2.2.2.1; omega
  subst hc0
  obtain ⟨u1, u2⟩ := R.2.2.2.2.1 hno
  rw [c3] at u1 u2
  rw [itO_2] at w1 w2 w3
  have hh : h (i + 1) = h i + (1) - 0 := hh
  have E1 : m 184 ((i : Int)).toNat = 2 := e1
  have E2 : m 185 ((i : Int)).toNat = M 185 i := e2
  have E3 : m 186 ((i : Int)).toNat = M 186 i := e3
  have hi0 : 0 ≤ (i : Int) ∧ (i : Int) < 11999 := by omega
  have hx := t1.2.2.2.1 (Or.inl rfl)
  have ey : yq M p i = if M 185 i < M 188 p then M 185 i else M 185 i + 2 := by
    unfold yq
    rw [if_pos (by omega)]
  have hy : 0 ≤ yq M p i ∧ yq M p i ≤ ml + 1 := by
    rw [ey]
    split <;> omega
  obtain ⟨v0, v1, v2⟩ := RL_lcl Q R a1 hx (lu2 rfl) ey
  have hfr := R.2.1
  have ef : ((f : Int) - 1).toNat = f - 1 := by omega
  obtain ⟨s0, s1, s2, s3, s5, Y', q1, q2, q3⟩ := Q_2 (ni := M 158 103) (ip := M 208) (tk := tk) (ou := ou) (Y := Y) (sn := sn) (r0 := r0) (r1 := r1) (r2 := r2) (r3 := r3) (r4 := 0) (r5 := r5) (r6 := PBq M (m 211) (f - 1)) (r7 := r7)  B3 w0 w1 w2 w3 w4 (by omega) (by omega) (by omega)
  refine Or.inl ⟨2, (i : Int) + 1, 0, _, _, by decide, RnC_2 q1, T_2 hi0 E1 E2 E3 rfl (by omega) hfr.1 (by omega) (by rw [ef]) (by omega) (by omega), ?_, ?_, ?_⟩
  · have z := RL_psh (m' := put (put m 210 (m 158 108).toNat (m 210 (m 211 (f - 1) + M 185 i).toNat)) 158 108 (m 158 108 + 1)) (pp := 0) (v := m 210 (m 211 (f - 1) + M 185 i).toNat) (i2 := (i : Int) + 1) (s0 := s0) (s1 := s1) (s2 := s2) (s3 := s3) (s5 := s5) (Y' := Y') (tk' := tk) Q R rfl hno l1 (by omega) (lu1 (by decide)) (by omega) v2 (KM_put (KM_put R.1 (by omega)) (by omega)) rfl (by show m 158 108 + 1 = _; omega) rfl rfl rfl (fun k hk => by
      show (if k = (m 158 108).toNat then _ else m 210 k) = m 210 k
      rw [if_neg (by omega)]
      ) (by
      show (if (m 158 108 - 0).toNat = (m 158 108).toNat then _ else _) = _
      rw [if_pos (by omega)]
      ) (fun a ha => q3 a (by omega)) (by rw [Int.sub_zero, q2]; exact v1) hio rfl
    rw [Int.sub_zero] at z
    exact z
  · show 5 * m 158 111 + 1 ≤ 5 * m 158 111 + ((2 : Nat) : Int)
    omega
  · show m 158 115 + 1 ≤ m 158 115 + ((2 : Nat) : Int)
    omega
theorem S_4 (Q : PRQ M np n fe h u nc cs) (X : EXQ M) (R : RELq M np fe h u pf f p i c m r7 Y tk ou sn) (ho : M 184 i = 4) : NXT F d L xs M np fe h u (i : Int) c m (M 187 i, R8 r0 r1 r2 r3 c r5 (PBq M (m 211) (f - 1)) r7, Y, tk, ou, sn) := by
  obtain ⟨⟨l1, l2, l3⟩, ⟨e1, e2, e3⟩, hh, f0, f1, w0, w1, w2, w3, w4⟩ := SF Q R ho (by decide)
  obtain ⟨ml, mx, ⟨a1, b1⟩, c1, c2, c3, ⟨c4, c5, c6⟩, T, c7, c8⟩ := FR_g Q R
  obtain ⟨B1, B2, B3, B4, B5, B6, B7⟩ := PR_B Q
  obtain ⟨t1, t9⟩ := SFo Q R ho (by decide) T
  have hno : ¬ (M 184 i = 23 ∨ M 184 i = 26) := by omega
  have hio := R.2.2.2.2.2.2.2
  have hfe := R.2.2.1.1
  obtain ⟨lu2, lu3, lu1, lu4, lu5⟩ := SFu Q R ho (by decide)
  have hc0 : c = 0 := by have := R.2.2.2.1; omega
  subst hc0
  obtain ⟨u1, u2⟩ := R.2.2.2.2.1 hno
  rw [c3] at u1 u2
  rw [itO_4] at w1 w2 w3
  have hh : h (i + 1) = h i + (1) - 0 := hh
  have E1 : m 184 ((i : Int)).toNat = 4 := e1
  have E2 : m 185 ((i : Int)).toNat = M 185 i := e2
  have E3 : m 186 ((i : Int)).toNat = M 186 i := e3
  have hi0 : 0 ≤ (i : Int) ∧ (i : Int) < 11999 := by omega
  obtain ⟨hx, hx1⟩ := t1.2.2.2.2.1 (Or.inl rfl)
  obtain ⟨v1, v2, v3, v4⟩ := vat_b Q hx
  have hvr := R.2.2.2.2.2.2.1 (vatq M (M 185 i).toNat).toNat (by omega)
  rw [show (((vatq M (M 185 i).toNat).toNat : Nat) : Int) = vatq M (M 185 i).toNat from by omega] at hvr
  have e214 : m 214 (M 185 i).toNat = vatq M (M 185 i).toNat := by
    rw [R.1 214 _ (by omega) (fun w => absurd w (by decide))]
    exact X.2.2 _ (by omega)
  have h60 := Q.2.2.2.2.2.2.2.1.1
  have hBq : Bq M = M 158 68 + M 158 70 := rfl
  obtain ⟨s0, s1, s2, s3, s5, Y', q1, q2, q3⟩ := Q_4 (ni := M 158 103) (ip := M 208) (tk := tk) (ou := ou) (Y := Y) (sn := sn) (r0 := r0) (r1 := r1) (r2 := r2) (r3 := r3) (r4 := 0) (r5 := r5) (r6 := PBq M (m 211) (f - 1)) (r7 := r7)  B3 w0 w1 w2 w3 w4 v3 (by omega) (by omega)
  refine Or.inl ⟨2, (i : Int) + 1, 0, _, _, by decide, RnC_2 q1, T_4 hi0 E1 E2 E3 rfl (by omega) (by omega) e214 (by omega), ?_, ?_, ?_⟩
  · have z := RL_psh (m' := put (put m 210 (m 158 108).toNat (m 213 (vatq M (M 185 i).toNat).toNat)) 158 108 (m 158 108 + 1)) (pp := 0) (v := m 213 (vatq M (M 185 i).toNat).toNat) (i2 := (i : Int) + 1) (s0 := s0) (s1 := s1) (s2 := s2) (s3 := s3) (s5 := s5) (Y' := Y') (tk' := tk) Q R rfl hno l1 (by omega) (lu1 (by decide)) (by omega) hvr.2 (KM_put (KM_put R.1 (by omega)) (by omega)) rfl (by show m 158 108 + 1 = _; omega) rfl rfl rfl (fun k hk => by
      show (if k = (m 158 108).toNat then _ else m 210 k) = m 210 k
      rw [if_neg (by omega)]
      ) (by
      show (if (m 158 108 - 0).toNat = (m 158 108).toNat then _ else _) = _
      rw [if_pos (by omega)]
      ) (fun a ha => q3 a (by omega)) (by rw [Int.sub_zero, q2]; exact hvr.1) hio rfl
    rw [Int.sub_zero] at z
    exact z
  · show 5 * m 158 111 + 1 ≤ 5 * m 158 111 + ((2 : Nat) : Int)
    omega
  · show m 158 115 + 1 ≤ m 158 115 + ((2 : Nat) : Int)
    omega
theorem S_19 (Q : PRQ M np n fe h u nc cs) (X : EXQ M) (R : RELq M np fe h u pf f p i c m r7 Y tk ou sn) (ho : M 184 i = 19) : NXT F d L xs M np fe h u (i : Int) c m (M 187 i, R8 r0 r1 r2 r3 c r5 (PBq M (m 211) (f - 1)) r7, Y, tk, ou, sn) := by
  obtain ⟨⟨l1, l2, l3⟩, ⟨e1, e2, e3⟩, hh, f0, f1, w0, w1, w2, w3, w4⟩ := SF Q R ho (by decide)
  obtain ⟨ml, mx, ⟨a1, b1⟩, c1, c2, c3, ⟨c4, c5, c6⟩, T, c7, c8⟩ := FR_g Q R
  obtain ⟨B1, B2, B3, B4, B5, B6, B7⟩ := PR_B Q
  obtain ⟨t1, t9⟩ := SFo Q R ho (by decide) T
  have hno : ¬ (M 184 i = 23 ∨ M 184 i = 26) := by omega
  have hio := R.2.2.2.2.2.2.2
  have hfe := R.2.2.1.1
  obtain ⟨lu2, lu3, lu1, lu4, lu5⟩ := SFu Q R ho (by decide)
  have hc0 : c = 0 := by have := R.2.2.2.1; omega
  subst hc0
  obtain ⟨u1, u2⟩ := R.2.2.2.2.1 hno
  rw [c3] at u1 u2
  rw [itO_19] at w1 w2 w3
  have hh : h (i + 1) = h i + (1) - 0 := hh
  have E1 : m 184 ((i : Int)).toNat = 19 := e1
  have E2 : m 185 ((i : Int)).toNat = M 185 i := e2
  have E3 : m 186 ((i : Int)).toNat = M 186 i := e3
  have hi0 : 0 ≤ (i : Int) ∧ (i : Int) < 11999 := by omega
  obtain ⟨j, j1, j2, j3, j4, j5⟩ := SFr Q R ho (by decide)
  obtain ⟨⟨i1, i2, i3⟩, i4, i5⟩ := hio
  have e103 : m 158 103 = M 158 103 := R.1 158 103 (by omega) (fun _ => by decide)
  obtain ⟨X1, X2, X3⟩ := X
  by_cases ht : tk = M 158 103
  · obtain ⟨s0, s1, s2, s3, s5, Y', q1, q2⟩ := Q_19f (ni := M 158 103) (ip := M 208) (tk := tk) (ou := ou) (Y := Y) (sn := sn) (r0 := r0) (r1 := r1) (r2 := r2) (r3 := r3) (r4 := 0) (r5 := r5) (r6 := PBq M (m 211) (f - 1)) (r7 := r7)  B3 w0 w1 w2 w3 w4 j4 ht
    rw [j5] at q1
    refine Or.inl ⟨2, M 186 i, 4, m, _, by decide, RnC_2 q1, T_19f (x := tk) hi0 E1 E2 E3 i1 (by rw [e103, ht]), ?_, ?_, ?_⟩
    · exact RL_flt (pp := 0) (j := j) Q R hno j2 j3 (by rw [j1, Int.toNat_natCast] at lu5; exact lu5 (by decide)) (by omega) (by omega) (fun a ha => q2 a (by omega)) j1
    · show 5 * m 158 111 + 1 ≤ 5 * m 158 111 + ((2 : Nat) : Int)
      omega
    · show m 158 115 + 1 ≤ m 158 115 + ((2 : Nat) : Int)
      omega
  · have hw := X2 tk.toNat (by omega)
    have e208 : m 208 tk.toNat = M 208 tk.toNat := R.1 208 _ (by omega) (fun w => absurd w (by decide))
    obtain ⟨g1, g2⟩ := sg_e hw
    obtain ⟨s0, s1, s2, s3, s5, Y', q1, q2, q3⟩ := Q_19 (ni := M 158 103) (ip := M 208) (tk := tk) (ou := ou) (Y := Y) (sn := sn) (r0 := r0) (r1 := r1) (r2 := r2) (r3 := r3) (r4 := 0) (r5 := r5) (r6 := PBq M (m 211) (f - 1)) (r7 := r7)  B3 w0 w1 w2 w3 w4 (by omega) rfl (by omega)
    refine Or.inl ⟨2, (i : Int) + 1, 0, _, _, by decide, RnC_2 q1, T_19 hi0 E1 E2 E3 rfl (by omega) i1 e103 (by omega) ht e208, ?_, ?_, ?_⟩
    · have z := RL_psh (m' := put (put (put m 210 (m 158 108).toNat (sg (M 208 tk.toNat))) 158 108 (m 158 108 + 1)) 158 114 (tk + 1)) (pp := 0) (v := sg (M 208 tk.toNat)) (i2 := (i : Int) + 1) (s0 := s0) (s1 := s1) (s2 := s2) (s3 := s3) (s5 := s5) (Y' := Y') (tk' := tk + 1) Q R rfl hno l1 (by omega) (lu1 (by decide)) (by omega) g2 (KM_put (KM_put (KM_put R.1 (by omega)) (by omega)) (by omega)) rfl (by show m 158 108 + 1 = _; omega) rfl rfl rfl (fun k hk => by
        show (if k = (m 158 108).toNat then _ else m 210 k) = m 210 k
        rw [if_neg (by omega)]
        ) (by
        show (if (m 158 108 - 0).toNat = (m 158 108).toNat then _ else _) = _
        rw [if_pos (by omega)]
        ) (fun a ha => q3 a (by omega)) (by rw [Int.sub_zero, q2]; exact g1.symm) ⟨⟨rfl, by omega, by omega⟩, i4, i5⟩ rfl
      rw [Int.sub_zero] at z
      exact z
    · show 5 * m 158 111 + 1 ≤ 5 * m 158 111 + ((2 : Nat) : Int)
      omega
    · show m 158 115 + 1 ≤ m 158 115 + ((2 : Nat) : Int)
      omega
theorem S_6 (Q : PRQ M np n fe h u nc cs) (X : EXQ M) (R : RELq M np fe h u pf f p i c m r7 Y tk ou sn) (ho : M 184 i = 6) : NXT F d L xs M np fe h u (i : Int) c m (M 187 i, R8 r0 r1 r2 r3 c r5 (PBq M (m 211) (f - 1)) r7, Y, tk, ou, sn) := by
  obtain ⟨⟨l1, l2, l3⟩, ⟨e1, e2, e3⟩, hh, f0, f1, w0, w1, w2, w3, w4⟩ := SF Q R ho (by decide)
  obtain ⟨ml, mx, ⟨a1, b1⟩, c1, c2, c3, ⟨c4, c5, c6⟩, T, c7, c8⟩ := FR_g Q R
  obtain ⟨B1, B2, B3, B4, B5, B6, B7⟩ := PR_B Q
  obtain ⟨t1, t9⟩ := SFo Q R ho (by decide) T
  have hno : ¬ (M 184 i = 23 ∨ M 184 i = 26) := by omega
  have hio := R.2.2.2.2.2.2.2
  have hfe := R.2.2.1.1
  obtain ⟨lu2, lu3, lu1, lu4, lu5⟩ := SFu Q R ho (by decide)
  have hc0 : c = 0 := by have := R.2.2.2.1; omega
  subst hc0
  obtain ⟨u1, u2⟩ := R.2.2.2.2.1 hno
  rw [c3] at u1 u2
  rw [itO_6] at w1 w2 w3
  have hh : h (i + 1) = h i + (0) - 0 := hh
  have E1 : m 184 ((i : Int)).toNat = 6 := e1
  have E2 : m 185 ((i : Int)).toNat = M 185 i := e2
  have E3 : m 186 ((i : Int)).toNat = M 186 i := e3
  have hi0 : 0 ≤ (i : Int) ∧ (i : Int) < 11999 := by omega
  obtain ⟨j, j1, j2, j3, j4, j5⟩ := SFr Q R ho (by decide)
  have hx := t1.2.2.2.2.2.1 (Or.inl rfl)
  have hpop : 1 ≤ h i := t1.2.1
  obtain ⟨v1, v2, v3, v4⟩ := vat_b Q hx
  have ey : yq M p i = M 194 (M 185 i).toNat := by
    unfold yq
    rw [if_neg (by omega), if_pos (by omega)]
  obtain ⟨p1, p2⟩ := RL_top Q R hno (d := 1) (by omega)
  have e214 : m 214 (M 185 i).toNat = vatq M (M 185 i).toNat := by
    rw [R.1 214 _ (by omega) (fun w => absurd w (by decide))]
    exact X.2.2 _ (by omega)
  have e194 : m 194 (M 185 i).toNat = M 194 (M 185 i).toNat := R.1 194 _ (by omega) (fun w => absurd w (by decide))
  have h60 := Q.2.2.2.2.2.2.2.1.1
  have hBq : Bq M = M 158 68 + M 158 70 := rfl
  by_cases hb : 0 ≤ m 210 (m 158 108 - 1).toNat ∧ m 210 (m 158 108 - 1).toNat < M 194 (M 185 i).toNat
  · have ew : m 210 (m 158 108 - 1).toNat % 65536 = m 210 (m 158 108 - 1).toNat := by omega
    rw [ew] at p1
    generalize hz : m 210 (m 158 108 - 1).toNat = z0 at *
    have hvr := R.2.2.2.2.2.2.1 (vatq M (M 185 i).toNat + z0).toNat (by omega)
    rw [show (((vatq M (M 185 i).toNat + z0).toNat : Nat) : Int) = vatq M (M 185 i).toNat + z0 from by omega] at hvr
    obtain ⟨s0, s1, s2, s3, s5, Y', q1, q2, q3⟩ := Q_6 (ni := M 158 103) (ip := M 208) (tk := tk) (ou := ou) (Y := Y) (sn := sn) (r0 := r0) (r1 := r1) (r2 := r2) (r3 := r3) (r4 := 0) (r5 := r5) (r6 := PBq M (m 211) (f - 1)) (r7 := r7) (a := z0) (g := M 158 68 + vatq M (M 185 i).toNat) B3 w0 w1 w2 w3 w4 j4 (by omega) (by omega) v3 (by omega) (by omega) p1 (by omega)
    rw [Int.add_assoc] at q2
    refine Or.inl ⟨2, (i : Int) + 1, 0, _, _, by decide, RnC_2 q1, T_6 hi0 E1 E2 E3 rfl (by omega) (by omega) hz e194 e214 (by omega) (by omega) (by omega), ?_, ?_, ?_⟩
    · have z := RL_psh (m' := put m 210 (m 158 108 - 1).toNat (m 213 (vatq M (M 185 i).toNat + z0).toNat)) (pp := 1) (v := m 213 (vatq M (M 185 i).toNat + z0).toNat) (i2 := (i : Int) + 1) (s0 := s0) (s1 := s1) (s2 := s2) (s3 := s3) (s5 := s5) (Y' := Y') (tk' := tk) Q R rfl hno l1 (by omega) (lu1 (by decide)) (by omega) hvr.2 (KM_put R.1 (by omega)) rfl (by show m 158 108 = _; omega) rfl rfl rfl (fun k hk => by
        show (if k = (m 158 108 - 1).toNat then _ else m 210 k) = m 210 k
        rw [if_neg (by omega)]
        ) (by
        show (if (m 158 108 - 1).toNat = (m 158 108 - 1).toNat then _ else _) = _
        rw [if_pos rfl]
        ) (fun a ha => q3 a (by omega)) (by rw [q2]; exact hvr.1) hio rfl
      exact z
    · show 5 * m 158 111 + 1 ≤ 5 * m 158 111 + ((2 : Nat) : Int)
      omega
    · show m 158 115 + 1 ≤ m 158 115 + ((2 : Nat) : Int)
      omega
  · obtain ⟨s0, s1, s2, s3, s5, Y', q1, q2⟩ := Q_6f (ni := M 158 103) (ip := M 208) (tk := tk) (ou := ou) (Y := Y) (sn := sn) (r0 := r0) (r1 := r1) (r2 := r2) (r3 := r3) (r4 := 0) (r5 := r5) (r6 := PBq M (m 211) (f - 1)) (r7 := r7) (a := m 210 (m 158 108 - 1).toNat % 65536) (g := 0) B3 w0 w1 w2 w3 w4 j4 (by omega) (by omega) (by omega) p1 (by omega)
    rw [j5] at q1
    refine Or.inl ⟨2, M 186 i, 2, m, _, by decide, RnC_2 q1, T_6f hi0 E1 E2 E3 rfl (by omega) (by omega) rfl e194 (by omega), ?_, ?_, ?_⟩
    · exact RL_flt (pp := 1) (j := j) Q R hno j2 j3 (by rw [j1, Int.toNat_natCast] at lu5; exact lu5 (by decide)) (by omega) (by omega) (fun a ha => q2 a (by omega)) j1
    · show 5 * m 158 111 + 1 ≤ 5 * m 158 111 + ((2 : Nat) : Int)
      omega
    · show m 158 115 + 1 ≤ m 158 115 + ((2 : Nat) : Int)
      omega
theorem S_8 (Q : PRQ M np n fe h u nc cs) (R : RELq M np fe h u pf f p i c m r7 Y tk ou sn) (ho : M 184 i = 8) : NXT F d L xs M np fe h u (i : Int) c m (M 187 i, R8 r0 r1 r2 r3 c r5 (PBq M (m 211) (f - 1)) r7, Y, tk, ou, sn) := by
  obtain ⟨⟨l1, l2, l3⟩, ⟨e1, e2, e3⟩, hh, f0, f1, w0, w1, w2, w3, w4⟩ := SF Q R ho (by decide)
  obtain ⟨ml, mx, ⟨a1, b1⟩, c1, c2, c3, ⟨c4, c5, c6⟩, T, c7, c8⟩ := FR_g Q R
  obtain ⟨B1, B2, B3, B4, B5, B6, B7⟩ := PR_B Q
  obtain ⟨t1, t9⟩ := SFo Q R ho (by decide) T
  have hno : ¬ (M 184 i = 23 ∨ M 184 i = 26) := by omega
  have hio := R.2.2.2.2.2.2.2
  have hfe := R.2.2.1.1
  obtain ⟨lu2, lu3, lu1, lu4, lu5⟩ := SFu Q R ho (by decide)
  have hc0 : c = 0 := by have := R.2.2.2.1; omega
  subst hc0
  obtain ⟨u1, u2⟩ := R.2.2.2.2.1 hno
  rw [c3] at u1 u2
  rw [itO_8] at w1 w2 w3
  have hh : h (i + 1) = h i + (-1) - 0 := hh
  have E1 : m 184 ((i : Int)).toNat = 8 := e1
  have E2 : m 185 ((i : Int)).toNat = M 185 i := e2
  have E3 : m 186 ((i : Int)).toNat = M 186 i := e3
  have hi0 : 0 ≤ (i : Int) ∧ (i : Int) < 11999 := by omega
  obtain ⟨j, j1, j2, j3, j4, j5⟩ := SFr Q R ho (by decide)
  have hpop : 2 ≤ h i := t1.2.1
  obtain ⟨p1, p2⟩ := RL_top Q R hno (d := 1) (by omega)
  obtain ⟨p3, p4⟩ := RL_top Q R hno (d := 2) (by omega)
  generalize hy0 : m 210 (m 158 108 - 1).toNat = y0 at *
  generalize hx0 : m 210 (m 158 108 - 2).toNat = x0 at *
  have sx := sg_m p4
  have sy := sg_m p2
  have wx : 0 ≤ x0 % 65536 ∧ x0 % 65536 < 65536 := by omega
  have wy : 0 ≤ y0 % 65536 ∧ y0 % 65536 < 65536 := by omega
  by_cases hr : -32768 ≤ x0 + y0 ∧ x0 + y0 ≤ 32767
  · obtain ⟨s0, s1, s2, s3, s5, Y', q1, q2, q3⟩ := Q_8 (ni := M 158 103) (ip := M 208) (tk := tk) (ou := ou) (Y := Y) (sn := sn) (r0 := r0) (r1 := r1) (r2 := r2) (r3 := r3) (r4 := 0) (r5 := r5) (r6 := PBq M (m 211) (f - 1)) (r7 := r7)  B3 w0 w1 w2 w3 w4 j4 wx wy (by omega) p1 p3 (by rw [sx, sy]; exact hr)
    refine Or.inl ⟨2, (i : Int) + 1, 0, _, _, by decide, RnC_2 q1, T_8 hi0 E1 E2 E3 rfl (by omega) hy0 hx0 p4 p2 (by omega) (by omega), ?_, ?_, ?_⟩
    · have z := RL_psh (m' := put (put m 158 108 (m 158 108 - 1)) 210 (m 158 108 - 1 - 1).toNat (x0 + y0)) (pp := 2) (v := x0 + y0) (i2 := (i : Int) + 1) (s0 := s0) (s1 := s1) (s2 := s2) (s3 := s3) (s5 := s5) (Y' := Y') (tk' := tk) Q R rfl hno l1 (by omega) (lu1 (by decide)) (by omega) (by omega) (KM_put (KM_put R.1 (by omega)) (by omega)) rfl (by show m 158 108 - 1 = _; omega) rfl rfl rfl (fun k hk => by
        show (if k = (m 158 108 - 1 - 1).toNat then _ else m 210 k) = m 210 k
        rw [if_neg (by omega)]
        ) (by
        show (if (m 158 108 - 2).toNat = (m 158 108 - 1 - 1).toNat then _ else _) = _
        rw [if_pos (by omega)]
        ) (fun a ha => q3 a (by omega)) (by rw [q2]; omega) hio rfl
      exact z
    · show 5 * m 158 111 + 1 ≤ 5 * m 158 111 + ((2 : Nat) : Int)
      omega
    · show m 158 115 + 1 ≤ m 158 115 + ((2 : Nat) : Int)
      omega
  · obtain ⟨s0, s1, s2, s3, s5, Y', q1, q2⟩ := Q_8f (ni := M 158 103) (ip := M 208) (tk := tk) (ou := ou) (Y := Y) (sn := sn) (r0 := r0) (r1 := r1) (r2 := r2) (r3 := r3) (r4 := 0) (r5 := r5) (r6 := PBq M (m 211) (f - 1)) (r7 := r7)  B3 w0 w1 w2 w3 w4 j4 wx wy (by omega) p1 p3 (by rw [sx, sy]; exact hr)
    rw [j5] at q1
    refine Or.inl ⟨2, M 186 i, 1, m, _, by decide, RnC_2 q1, T_8f hi0 E1 E2 E3 rfl (by omega) hy0 hx0 p4 p2 hr, ?_, ?_, ?_⟩
    · exact RL_flt (pp := 2) (j := j) Q R hno j2 j3 (by rw [j1, Int.toNat_natCast] at lu5; exact lu5 (by decide)) (by omega) (by omega) (fun a ha => q2 a (by omega)) j1
    · show 5 * m 158 111 + 1 ≤ 5 * m 158 111 + ((2 : Nat) : Int)
      omega
    · show m 158 115 + 1 ≤ m 158 115 + ((2 : Nat) : Int)
      omega
theorem S_9 (Q : PRQ M np n fe h u nc cs) (R : RELq M np fe h u pf f p i c m r7 Y tk ou sn) (ho : M 184 i = 9) : NXT F d L xs M np fe h u (i : Int) c m (M 187 i, R8 r0 r1 r2 r3 c r5 (PBq M (m 211) (f - 1)) r7, Y, tk, ou, sn) := by
  obtain ⟨⟨l1, l2, l3⟩, ⟨e1, e2, e3⟩, hh, f0, f1, w0, w1, w2, w3, w4⟩ := SF Q R ho (by decide)
  obtain ⟨ml, mx, ⟨a1, b1⟩, c1, c2, c3, ⟨c4, c5, c6⟩, T, c7, c8⟩ := FR_g Q R
  obtain ⟨B1, B2, B3, B4, B5, B6, B7⟩ := PR_B Q
  obtain ⟨t1, t9⟩ := SFo Q R ho (by decide) T
  have hno : ¬ (M 184 i = 23 ∨ M 184 i = 26) := by omega
  have hio := R.2.2.2.2.2.2.2
  have hfe := R.2.2.1.1
  obtain ⟨lu2, lu3, lu1, lu4, lu5⟩ := SFu Q R ho (by decide)
  have hc0 : c = 0 := by have := R.2.2.2.1; omega
  subst hc0
  obtain ⟨u1, u2⟩ := R.2.2.2.2.1 hno
  rw [c3] at u1 u2
  rw [itO_9] at w1 w2 w3
  have hh : h (i + 1) = h i + (-1) - 0 := hh
  have E1 : m 184 ((i : Int)).toNat = 9 := e1
  have E2 : m 185 ((i : Int)).toNat = M 185 i := e2
  have E3 : m 186 ((i : Int)).toNat = M 186 i := e3
  have hi0 : 0 ≤ (i : Int) ∧ (i : Int) < 11999 := by omega
  obtain ⟨j, j1, j2, j3, j4, j5⟩ := SFr Q R ho (by decide)
  have hpop : 2 ≤ h i := t1.2.1
  obtain ⟨p1, p2⟩ := RL_top Q R hno (d := 1) (by omega)
  obtain ⟨p3, p4⟩ := RL_top Q R hno (d := 2) (by omega)
  generalize hy0 : m 210 (m 158 108 - 1).toNat = y0 at *
  generalize hx0 : m 210 (m 158 108 - 2).toNat = x0 at *
  have sx := sg_m p4
  have sy := sg_m p2
  have wx : 0 ≤ x0 % 65536 ∧ x0 % 65536 < 65536 := by omega
  have wy : 0 ≤ y0 % 65536 ∧ y0 % 65536 < 65536 := by omega
  by_cases hr : -32768 ≤ x0 - y0 ∧ x0 - y0 ≤ 32767
  · obtain ⟨s0, s1, s2, s3, s5, Y', q1, q2, q3⟩ := Q_9 (ni := M 158 103) (ip := M 208) (tk := tk) (ou := ou) (Y := Y) (sn := sn) (r0 := r0) (r1 := r1) (r2 := r2) (r3 := r3) (r4 := 0) (r5 := r5) (r6 := PBq M (m 211) (f - 1)) (r7 := r7)  B3 w0 w1 w2 w3 w4 j4 wx wy (by omega) p1 p3 (by rw [sx, sy]; exact hr)
    refine Or.inl ⟨2, (i : Int) + 1, 0, _, _, by decide, RnC_2 q1, T_9 hi0 E1 E2 E3 rfl (by omega) hy0 hx0 p4 p2 (by omega) (by omega), ?_, ?_, ?_⟩
    · have z := RL_psh (m' := put (put m 158 108 (m 158 108 - 1)) 210 (m 158 108 - 1 - 1).toNat (x0 - y0)) (pp := 2) (v := x0 - y0) (i2 := (i : Int) + 1) (s0 := s0) (s1 := s1) (s2 := s2) (s3 := s3) (s5 := s5) (Y' := Y') (tk' := tk) Q R rfl hno l1 (by omega) (lu1 (by decide)) (by omega) (by omega) (KM_put (KM_put R.1 (by omega)) (by omega)) rfl (by show m 158 108 - 1 = _; omega) rfl rfl rfl (fun k hk => by
        show (if k = (m 158 108 - 1 - 1).toNat then _ else m 210 k) = m 210 k
        rw [if_neg (by omega)]
        ) (by
        show (if (m 158 108 - 2).toNat = (m 158 108 - 1 - 1).toNat then _ else _) = _
        rw [if_pos (by omega)]
        ) (fun a ha => q3 a (by omega)) (by rw [q2]; omega) hio rfl
      exact z
    · show 5 * m 158 111 + 1 ≤ 5 * m 158 111 + ((2 : Nat) : Int)
      omega
    · show m 158 115 + 1 ≤ m 158 115 + ((2 : Nat) : Int)
      omega
  · obtain ⟨s0, s1, s2, s3, s5, Y', q1, q2⟩ := Q_9f (ni := M 158 103) (ip := M 208) (tk := tk) (ou := ou) (Y := Y) (sn := sn) (r0 := r0) (r1 := r1) (r2 := r2) (r3 := r3) (r4 := 0) (r5 := r5) (r6 := PBq M (m 211) (f - 1)) (r7 := r7)  B3 w0 w1 w2 w3 w4 j4 wx wy (by omega) p1 p3 (by rw [sx, sy]; exact hr)
    rw [j5] at q1
    refine Or.inl ⟨2, M 186 i, 1, m, _, by decide, RnC_2 q1, T_9f hi0 E1 E2 E3 rfl (by omega) hy0 hx0 p4 p2 hr, ?_, ?_, ?_⟩
    · exact RL_flt (pp := 2) (j := j) Q R hno j2 j3 (by rw [j1, Int.toNat_natCast] at lu5; exact lu5 (by decide)) (by omega) (by omega) (fun a ha => q2 a (by omega)) j1
    · show 5 * m 158 111 + 1 ≤ 5 * m 158 111 + ((2 : Nat) : Int)
      omega
    · show m 158 115 + 1 ≤ m 158 115 + ((2 : Nat) : Int)
      omega
theorem S_10 (Q : PRQ M np n fe h u nc cs) (R : RELq M np fe h u pf f p i c m r7 Y tk ou sn) (ho : M 184 i = 10) : NXT F d L xs M np fe h u (i : Int) c m (M 187 i, R8 r0 r1 r2 r3 c r5 (PBq M (m 211) (f - 1)) r7, Y, tk, ou, sn) := by
  obtain ⟨⟨l1, l2, l3⟩, ⟨e1, e2, e3⟩, hh, f0, f1, w0, w1, w2, w3, w4⟩ := SF Q R ho (by decide)
  obtain ⟨ml, mx, ⟨a1, b1⟩, c1, c2, c3, ⟨c4, c5, c6⟩, T, c7, c8⟩ := FR_g Q R
  obtain ⟨B1, B2, B3, B4, B5, B6, B7⟩ := PR_B Q
  obtain ⟨t1, t9⟩ := SFo Q R ho (by decide) T
  have hno : ¬ (M 184 i = 23 ∨ M 184 i = 26) := by omega
  have hio := R.2.2.2.2.2.2.2
  have hfe := R.2.2.1.1
  obtain ⟨lu2, lu3, lu1, lu4, lu5⟩ := SFu Q R ho (by decide)
  have hc0 : c = 0 := by have := R.2.2.2.1; omega
  subst hc0
  obtain ⟨u1, u2⟩ := R.2.2.2.2.1 hno
  rw [c3] at u1 u2
  rw [itO_10] at w1 w2 w3
  have hh : h (i + 1) = h i + (-1) - 0 := hh
  have E1 : m 184 ((i : Int)).toNat = 10 := e1
  have E2 : m 185 ((i : Int)).toNat = M 185 i := e2
  have E3 : m 186 ((i : Int)).toNat = M 186 i := e3
  have hi0 : 0 ≤ (i : Int) ∧ (i : Int) < 11999 := by omega
  obtain ⟨j, j1, j2, j3, j4, j5⟩ := SFr Q R ho (by decide)
  have hpop : 2 ≤ h i := t1.2.1
  obtain ⟨p1, p2⟩ := RL_top Q R hno (d := 1) (by omega)
  obtain ⟨p3, p4⟩ := RL_top Q R hno (d := 2) (by omega)
  generalize hy0 : m 210 (m 158 108 - 1).toNat = y0 at *
  generalize hx0 : m 210 (m 158 108 - 2).toNat = x0 at *
  have sx := sg_m p4
  have sy := sg_m p2
  have wx : 0 ≤ x0 % 65536 ∧ x0 % 65536 < 65536 := by omega
  have wy : 0 ≤ y0 % 65536 ∧ y0 % 65536 < 65536 := by omega
  have hL := PR_L Q
  by_cases hr : -32768 ≤ x0 * y0 ∧ x0 * y0 ≤ 32767
  · obtain ⟨s0, s1, s2, s3, s5, Y', q1, q2, q3⟩ := Q_10 (ni := M 158 103) (ip := M 208) (tk := tk) (ou := ou) (Y := Y) (sn := sn) (r0 := r0) (r1 := r1) (r2 := r2) (r3 := r3) (r4 := 0) (r5 := r5) (r6 := PBq M (m 211) (f - 1)) (r7 := r7)  B3 w0 w1 w2 w3 w4 B4 hL j4 wx wy p1 p3 rfl (by omega) (by rw [sx, sy]; exact hr)
    refine Or.inl ⟨2, (i : Int) + 1, 0, _, _, by decide, RnC_2 q1, T_10 hi0 E1 E2 E3 rfl (by omega) hy0 hx0 p4 p2 (Int.not_lt.mpr hr.1) (Int.not_lt.mpr hr.2), ?_, ?_, ?_⟩
    · have z := RL_psh (m' := put (put m 158 108 (m 158 108 - 1)) 210 (m 158 108 - 1 - 1).toNat (x0 * y0)) (pp := 2) (v := x0 * y0) (i2 := (i : Int) + 1) (s0 := s0) (s1 := s1) (s2 := s2) (s3 := s3) (s5 := s5) (Y' := Y') (tk' := tk) Q R rfl hno l1 (by omega) (lu1 (by decide)) (by omega) hr (KM_put (KM_put R.1 (by omega)) (by omega)) rfl (by show m 158 108 - 1 = _; omega) rfl rfl rfl (fun k hk => by
        show (if k = (m 158 108 - 1 - 1).toNat then _ else m 210 k) = m 210 k
        rw [if_neg (by omega)]
        ) (by
        show (if (m 158 108 - 2).toNat = (m 158 108 - 1 - 1).toNat then _ else _) = _
        rw [if_pos (by omega)]
        ) (fun a ha => q3 a (by omega)) (by rw [q2, sx, sy]) hio rfl
      exact z
    · show 5 * m 158 111 + 1 ≤ 5 * m 158 111 + ((2 : Nat) : Int)
      omega
    · show m 158 115 + 1 ≤ m 158 115 + ((2 : Nat) : Int)
      omega
  · obtain ⟨s0, s1, s2, s3, s5, Y', q1, q2⟩ := Q_10f (ni := M 158 103) (ip := M 208) (tk := tk) (ou := ou) (Y := Y) (sn := sn) (r0 := r0) (r1 := r1) (r2 := r2) (r3 := r3) (r4 := 0) (r5 := r5) (r6 := PBq M (m 211) (f - 1)) (r7 := r7)  B3 w0 w1 w2 w3 w4 B4 hL j4 wx wy p1 p3 rfl (by omega) (by rw [sx, sy]; exact hr)
    rw [j5] at q1
    refine Or.inl ⟨2, M 186 i, 1, m, _, by decide, RnC_2 q1, T_10f hi0 E1 E2 E3 rfl (by omega) hy0 hx0 p4 p2 hr, ?_, ?_, ?_⟩
    · exact RL_flt (pp := 2) (j := j) Q R hno j2 j3 (by rw [j1, Int.toNat_natCast] at lu5; exact lu5 (by decide)) (by omega) (by omega) (fun a ha => q2 a (by omega)) j1
    · show 5 * m 158 111 + 1 ≤ 5 * m 158 111 + ((2 : Nat) : Int)
      omega
    · show m 158 115 + 1 ≤ m 158 115 + ((2 : Nat) : Int)
      omega
theorem S_11 (Q : PRQ M np n fe h u nc cs) (R : RELq M np fe h u pf f p i c m r7 Y tk ou sn) (ho : M 184 i = 11) : NXT F d L xs M np fe h u (i : Int) c m (M 187 i, R8 r0 r1 r2 r3 c r5 (PBq M (m 211) (f - 1)) r7, Y, tk, ou, sn) := by
  obtain ⟨⟨l1, l2, l3⟩, ⟨e1, e2, e3⟩, hh, f0, f1, w0, w1, w2, w3, w4⟩ := SF Q R ho (by decide)
  obtain ⟨ml, mx, ⟨a1, b1⟩, c1, c2, c3, ⟨c4, c5, c6⟩, T, c7, c8⟩ := FR_g Q R
  obtain ⟨B1, B2, B3, B4, B5, B6, B7⟩ := PR_B Q
  obtain ⟨t1, t9⟩ := SFo Q R ho (by decide) T
  have hno : ¬ (M 184 i = 23 ∨ M 184 i = 26) := by omega
  have hio := R.2.2.2.2.2.2.2
  have hfe := R.2.2.1.1
  obtain ⟨lu2, lu3, lu1, lu4, lu5⟩ := SFu Q R ho (by decide)
  have hc0 : c = 0 := by have := R.2.2.2.1; omega
  subst hc0
  obtain ⟨u1, u2⟩ := R.2.2.2.2.1 hno
  rw [c3] at u1 u2
  rw [itO_11] at w1 w2 w3
  have hh : h (i + 1) = h i + (-1) - 0 := hh
  have E1 : m 184 ((i : Int)).toNat = 11 := e1
  have E2 : m 185 ((i : Int)).toNat = M 185 i := e2
  have E3 : m 186 ((i : Int)).toNat = M 186 i := e3
  have hi0 : 0 ≤ (i : Int) ∧ (i : Int) < 11999 := by omega
  obtain ⟨j, j1, j2, j3, j4, j5⟩ := SFr Q R ho (by decide)
  have hpop : 2 ≤ h i := t1.2.1
  obtain ⟨p1, p2⟩ := RL_top Q R hno (d := 1) (by omega)
  obtain ⟨p3, p4⟩ := RL_top Q R hno (d := 2) (by omega)
  generalize hy0 : m 210 (m 158 108 - 1).toNat = y0 at *
  generalize hx0 : m 210 (m 158 108 - 2).toNat = x0 at *
  have sx := sg_m p4
  have sy := sg_m p2
  have wx : 0 ≤ x0 % 65536 ∧ x0 % 65536 < 65536 := by omega
  have wy : 0 ≤ y0 % 65536 ∧ y0 % 65536 < 65536 := by omega
  have hL := PR_L Q
  by_cases hz : y0 = 0
  · obtain ⟨s0, s1, s2, s3, s5, Y', q1, q2⟩ := Q_11z (ni := M 158 103) (ip := M 208) (tk := tk) (ou := ou) (Y := Y) (sn := sn) (r0 := r0) (r1 := r1) (r2 := r2) (r3 := r3) (r4 := 0) (r5 := r5) (r6 := PBq M (m 211) (f - 1)) (r7 := r7)  B3 w0 w1 w2 w3 w4 B4 hL j4 wx wy p1 p3 rfl (by omega) (by rw [hz]; rfl)
    rw [j5] at q1
    refine Or.inl ⟨2, M 186 i, 3, m, _, by decide, RnC_2 q1, T_11z hi0 E1 E2 E3 rfl (by omega) hy0 hx0 p4 p2 hz, ?_, ?_, ?_⟩
    · exact RL_flt (pp := 2) (j := j) Q R hno j2 j3 (by rw [j1, Int.toNat_natCast] at lu5; exact lu5 (by decide)) (by omega) (by omega) (fun a ha => q2 a (by omega)) j1
    · show 5 * m 158 111 + 1 ≤ 5 * m 158 111 + ((2 : Nat) : Int)
      omega
    · show m 158 115 + 1 ≤ m 158 115 + ((2 : Nat) : Int)
      omega
  · have hz2 : y0 % 65536 ≠ 0 := by omega
    by_cases hr : -32768 ≤ x0.tdiv y0 ∧ x0.tdiv y0 ≤ 32767
    · obtain ⟨s0, s1, s2, s3, s5, Y', q1, q2, q3⟩ := Q_11 (ni := M 158 103) (ip := M 208) (tk := tk) (ou := ou) (Y := Y) (sn := sn) (r0 := r0) (r1 := r1) (r2 := r2) (r3 := r3) (r4 := 0) (r5 := r5) (r6 := PBq M (m 211) (f - 1)) (r7 := r7)  B3 w0 w1 w2 w3 w4 B4 hL j4 wx wy p1 p3 rfl (by omega) hz2 (by rw [sx, sy]; exact hr)
      refine Or.inl ⟨2, (i : Int) + 1, 0, _, _, by decide, RnC_2 q1, T_11 hi0 E1 E2 E3 rfl (by omega) hy0 hx0 p4 p2 hz (Int.not_lt.mpr hr.1) (Int.not_lt.mpr hr.2), ?_, ?_, ?_⟩
      · have z := RL_psh (m' := put (put m 158 108 (m 158 108 - 1)) 210 (m 158 108 - 1 - 1).toNat (x0.tdiv y0)) (pp := 2) (v := x0.tdiv y0) (i2 := (i : Int) + 1) (s0 := s0) (s1 := s1) (s2 := s2) (s3 := s3) (s5 := s5) (Y' := Y') (tk' := tk) Q R rfl hno l1 (by omega) (lu1 (by decide)) (by omega) hr (KM_put (KM_put R.1 (by omega)) (by omega)) rfl (by show m 158 108 - 1 = _; omega) rfl rfl rfl (fun k hk => by
          show (if k = (m 158 108 - 1 - 1).toNat then _ else m 210 k) = m 210 k
          rw [if_neg (by omega)]
          ) (by
          show (if (m 158 108 - 2).toNat = (m 158 108 - 1 - 1).toNat then _ else _) = _
          rw [if_pos (by omega)]
          ) (fun a ha => q3 a (by omega)) (by rw [q2, sx, sy]) hio rfl
        exact z
      · show 5 * m 158 111 + 1 ≤ 5 * m 158 111 + ((2 : Nat) : Int)
        omega
      · show m 158 115 + 1 ≤ m 158 115 + ((2 : Nat) : Int)
        omega
    · obtain ⟨s0, s1, s2, s3, s5, Y', q1, q2⟩ := Q_11f (ni := M 158 103) (ip := M 208) (tk := tk) (ou := ou) (Y := Y) (sn := sn) (r0 := r0) (r1 := r1) (r2 := r2) (r3 := r3) (r4 := 0) (r5 := r5) (r6 := PBq M (m 211) (f - 1)) (r7 := r7)  B3 w0 w1 w2 w3 w4 B4 hL j4 wx wy p1 p3 rfl (by omega) hz2 (by rw [sx, sy]; exact hr)
      rw [j5] at q1
      refine Or.inl ⟨2, M 186 i, 1, m, _, by decide, RnC_2 q1, T_11f hi0 E1 E2 E3 rfl (by omega) hy0 hx0 p4 p2 hz hr, ?_, ?_, ?_⟩
      · exact RL_flt (pp := 2) (j := j) Q R hno j2 j3 (by rw [j1, Int.toNat_natCast] at lu5; exact lu5 (by decide)) (by omega) (by omega) (fun a ha => q2 a (by omega)) j1
      · show 5 * m 158 111 + 1 ≤ 5 * m 158 111 + ((2 : Nat) : Int)
        omega
      · show m 158 115 + 1 ≤ m 158 115 + ((2 : Nat) : Int)
        omega
theorem S_12 (Q : PRQ M np n fe h u nc cs) (R : RELq M np fe h u pf f p i c m r7 Y tk ou sn) (ho : M 184 i = 12) : NXT F d L xs M np fe h u (i : Int) c m (M 187 i, R8 r0 r1 r2 r3 c r5 (PBq M (m 211) (f - 1)) r7, Y, tk, ou, sn) := by
  obtain ⟨⟨l1, l2, l3⟩, ⟨e1, e2, e3⟩, hh, f0, f1, w0, w1, w2, w3, w4⟩ := SF Q R ho (by decide)
  obtain ⟨ml, mx, ⟨a1, b1⟩, c1, c2, c3, ⟨c4, c5, c6⟩, T, c7, c8⟩ := FR_g Q R
  obtain ⟨B1, B2, B3, B4, B5, B6, B7⟩ := PR_B Q
  obtain ⟨t1, t9⟩ := SFo Q R ho (by decide) T
  have hno : ¬ (M 184 i = 23 ∨ M 184 i = 26) := by omega
  have hio := R.2.2.2.2.2.2.2
  have hfe := R.2.2.1.1
  obtain ⟨lu2, lu3, lu1, lu4, lu5⟩ := SFu Q R ho (by decide)
  have hc0 : c = 0 := by have := R.2.2.2.1; omega
  subst hc0
  obtain ⟨u1, u2⟩ := R.2.2.2.2.1 hno
  rw [c3] at u1 u2
  rw [itO_12] at w1 w2 w3
  have hh : h (i + 1) = h i + (-1) - 0 := hh
  have E1 : m 184 ((i : Int)).toNat = 12 := e1
  have E2 : m 185 ((i : Int)).toNat = M 185 i := e2
  have E3 : m 186 ((i : Int)).toNat = M 186 i := e3
  have hi0 : 0 ≤ (i : Int) ∧ (i : Int) < 11999 := by omega
  obtain ⟨j, j1, j2, j3, j4, j5⟩ := SFr Q R ho (by decide)
  have hpop : 2 ≤ h i := t1.2.1
  obtain ⟨p1, p2⟩ := RL_top Q R hno (d := 1) (by omega)
  obtain ⟨p3, p4⟩ := RL_top Q R hno (d := 2) (by omega)
  generalize hy0 : m 210 (m 158 108 - 1).toNat = y0 at *
  generalize hx0 : m 210 (m 158 108 - 2).toNat = x0 at *
  have sx := sg_m p4
  have sy := sg_m p2
  have wx : 0 ≤ x0 % 65536 ∧ x0 % 65536 < 65536 := by omega
  have wy : 0 ≤ y0 % 65536 ∧ y0 % 65536 < 65536 := by omega
  have hL := PR_L Q
  by_cases hz : y0 = 0
  · obtain ⟨s0, s1, s2, s3, s5, Y', q1, q2⟩ := Q_12z (ni := M 158 103) (ip := M 208) (tk := tk) (ou := ou) (Y := Y) (sn := sn) (r0 := r0) (r1 := r1) (r2 := r2) (r3 := r3) (r4 := 0) (r5 := r5) (r6 := PBq M (m 211) (f - 1)) (r7 := r7)  B3 w0 w1 w2 w3 w4 B4 hL j4 wx wy p1 p3 rfl (by omega) (by rw [hz]; rfl)
    rw [j5] at q1
    refine Or.inl ⟨2, M 186 i, 3, m, _, by decide, RnC_2 q1, T_12z hi0 E1 E2 E3 rfl (by omega) hy0 hx0 p4 p2 hz, ?_, ?_, ?_⟩
    · exact RL_flt (pp := 2) (j := j) Q R hno j2 j3 (by rw [j1, Int.toNat_natCast] at lu5; exact lu5 (by decide)) (by omega) (by omega) (fun a ha => q2 a (by omega)) j1
    · show 5 * m 158 111 + 1 ≤ 5 * m 158 111 + ((2 : Nat) : Int)
      omega
    · show m 158 115 + 1 ≤ m 158 115 + ((2 : Nat) : Int)
      omega
  · have hz2 : y0 % 65536 ≠ 0 := by omega
    have hr := tmod_b (y := y0) p4
    obtain ⟨s0, s1, s2, s3, s5, Y', q1, q2, q3⟩ := Q_12 (ni := M 158 103) (ip := M 208) (tk := tk) (ou := ou) (Y := Y) (sn := sn) (r0 := r0) (r1 := r1) (r2 := r2) (r3 := r3) (r4 := 0) (r5 := r5) (r6 := PBq M (m 211) (f - 1)) (r7 := r7)  B3 w0 w1 w2 w3 w4 B4 hL j4 wx wy p1 p3 rfl (by omega) hz2
    refine Or.inl ⟨2, (i : Int) + 1, 0, _, _, by decide, RnC_2 q1, T_12 hi0 E1 E2 E3 rfl (by omega) hy0 hx0 p4 p2 hz (Int.not_lt.mpr hr.1) (Int.not_lt.mpr hr.2), ?_, ?_, ?_⟩
    · have z := RL_psh (m' := put (put m 158 108 (m 158 108 - 1)) 210 (m 158 108 - 1 - 1).toNat (x0.tmod y0)) (pp := 2) (v := x0.tmod y0) (i2 := (i : Int) + 1) (s0 := s0) (s1 := s1) (s2 := s2) (s3 := s3) (s5 := s5) (Y' := Y') (tk' := tk) Q R rfl hno l1 (by omega) (lu1 (by decide)) (by omega) hr (KM_put (KM_put R.1 (by omega)) (by omega)) rfl (by show m 158 108 - 1 = _; omega) rfl rfl rfl (fun k hk => by
        show (if k = (m 158 108 - 1 - 1).toNat then _ else m 210 k) = m 210 k
        rw [if_neg (by omega)]
        ) (by
        show (if (m 158 108 - 2).toNat = (m 158 108 - 1 - 1).toNat then _ else _) = _
        rw [if_pos (by omega)]
        ) (fun a ha => q3 a (by omega)) (by rw [q2, sx, sy]) hio rfl
      exact z
    · show 5 * m 158 111 + 1 ≤ 5 * m 158 111 + ((2 : Nat) : Int)
      omega
    · show m 158 115 + 1 ≤ m 158 115 + ((2 : Nat) : Int)
      omega
theorem S_13 (Q : PRQ M np n fe h u nc cs) (R : RELq M np fe h u pf f p i c m r7 Y tk ou sn) (ho : M 184 i = 13) : NXT F d L xs M np fe h u (i : Int) c m (M 187 i, R8 r0 r1 r2 r3 c r5 (PBq M (m 211) (f - 1)) r7, Y, tk, ou, sn) := by
  obtain ⟨⟨l1, l2, l3⟩, ⟨e1, e2, e3⟩, hh, f0, f1, w0, w1, w2, w3, w4⟩ := SF Q R ho (by decide)
  obtain ⟨ml, mx, ⟨a1, b1⟩, c1, c2, c3, ⟨c4, c5, c6⟩, T, c7, c8⟩ := FR_g Q R
  obtain ⟨B1, B2, B3, B4, B5, B6, B7⟩ := PR_B Q
  obtain ⟨t1, t9⟩ := SFo Q R ho (by decide) T
  have hno : ¬ (M 184 i = 23 ∨ M 184 i = 26) := by omega
  have hio := R.2.2.2.2.2.2.2
  have hfe := R.2.2.1.1
  obtain ⟨lu2, lu3, lu1, lu4, lu5⟩ := SFu Q R ho (by decide)
  have hc0 : c = 0 := by have := R.2.2.2.1; omega
  subst hc0
  obtain ⟨u1, u2⟩ := R.2.2.2.2.1 hno
  rw [c3] at u1 u2
  rw [itO_13] at w1 w2 w3
  have hh : h (i + 1) = h i + (0) - 0 := hh
  have E1 : m 184 ((i : Int)).toNat = 13 := e1
  have E2 : m 185 ((i : Int)).toNat = M 185 i := e2
  have E3 : m 186 ((i : Int)).toNat = M 186 i := e3
  have hi0 : 0 ≤ (i : Int) ∧ (i : Int) < 11999 := by omega
  obtain ⟨j, j1, j2, j3, j4, j5⟩ := SFr Q R ho (by decide)
  have hpop : 1 ≤ h i := t1.2.1
  obtain ⟨p1, p2⟩ := RL_top Q R hno (d := 1) (by omega)
  generalize hy0 : m 210 (m 158 108 - 1).toNat = y0 at *
  have sy := sg_m p2
  have wy : 0 ≤ y0 % 65536 ∧ y0 % 65536 < 65536 := by omega
  have s00 : sg 0 = 0 := rfl
  by_cases hr : -32768 ≤ 0 - y0 ∧ 0 - y0 ≤ 32767
  · obtain ⟨s0, s1, s2, s3, s5, Y', q1, q2, q3⟩ := Q_13 (ni := M 158 103) (ip := M 208) (tk := tk) (ou := ou) (Y := Y) (sn := sn) (r0 := r0) (r1 := r1) (r2 := r2) (r3 := r3) (r4 := 0) (r5 := r5) (r6 := PBq M (m 211) (f - 1)) (r7 := r7)  B3 w0 w1 w2 w3 w4 j4 wy (by omega) p1 (by rw [s00, sy]; exact hr)
    refine Or.inl ⟨2, (i : Int) + 1, 0, _, _, by decide, RnC_2 q1, T_13 hi0 E1 E2 E3 rfl (by omega) hy0 p2 (by omega) (by omega), ?_, ?_, ?_⟩
    · have z := RL_psh (m' := put (put m 158 108 (m 158 108)) 210 (m 158 108 - 1).toNat (0 - y0)) (pp := 1) (v := 0 - y0) (i2 := (i : Int) + 1) (s0 := s0) (s1 := s1) (s2 := s2) (s3 := s3) (s5 := s5) (Y' := Y') (tk' := tk) Q R rfl hno l1 (by omega) (lu1 (by decide)) (by omega) (by omega) (KM_put (KM_put R.1 (by omega)) (by omega)) rfl (by show m 158 108 = _; omega) rfl rfl rfl (fun k hk => by
        show (if k = (m 158 108 - 1).toNat then _ else m 210 k) = m 210 k
        rw [if_neg (by omega)]
        ) (by
        show (if (m 158 108 - 1).toNat = (m 158 108 - 1).toNat then _ else _) = _
        rw [if_pos rfl]
        ) (fun a ha => q3 a (by omega)) (by rw [q2]; omega) hio rfl
      exact z
    · show 5 * m 158 111 + 1 ≤ 5 * m 158 111 + ((2 : Nat) : Int)
      omega
    · show m 158 115 + 1 ≤ m 158 115 + ((2 : Nat) : Int)
      omega
  · obtain ⟨s0, s1, s2, s3, s5, Y', q1, q2⟩ := Q_13f (ni := M 158 103) (ip := M 208) (tk := tk) (ou := ou) (Y := Y) (sn := sn) (r0 := r0) (r1 := r1) (r2 := r2) (r3 := r3) (r4 := 0) (r5 := r5) (r6 := PBq M (m 211) (f - 1)) (r7 := r7)  B3 w0 w1 w2 w3 w4 j4 wy (by omega) p1 (by rw [s00, sy]; exact hr)
    rw [j5] at q1
    refine Or.inl ⟨2, M 186 i, 1, m, _, by decide, RnC_2 q1, T_13f hi0 E1 E2 E3 rfl (by omega) hy0 p2 hr, ?_, ?_, ?_⟩
    · exact RL_flt (pp := 1) (j := j) Q R hno j2 j3 (by rw [j1, Int.toNat_natCast] at lu5; exact lu5 (by decide)) (by omega) (by omega) (fun a ha => q2 a (by omega)) j1
    · show 5 * m 158 111 + 1 ≤ 5 * m 158 111 + ((2 : Nat) : Int)
      omega
    · show m 158 115 + 1 ≤ m 158 115 + ((2 : Nat) : Int)
      omega
theorem S_14_0 (Q : PRQ M np n fe h u nc cs) (R : RELq M np fe h u pf f p i c m r7 Y tk ou sn) (ho : M 184 i = 14) (hk : M 185 i = 0) : NXT F d L xs M np fe h u (i : Int) c m (M 187 i, R8 r0 r1 r2 r3 c r5 (PBq M (m 211) (f - 1)) r7, Y, tk, ou, sn) := by
  obtain ⟨⟨l1, l2, l3⟩, ⟨e1, e2, e3⟩, hh, f0, f1, w0, w1, w2, w3, w4⟩ := SF Q R ho (by decide)
  obtain ⟨ml, mx, ⟨a1, b1⟩, c1, c2, c3, ⟨c4, c5, c6⟩, T, c7, c8⟩ := FR_g Q R
  obtain ⟨B1, B2, B3, B4, B5, B6, B7⟩ := PR_B Q
  obtain ⟨t1, t9⟩ := SFo Q R ho (by decide) T
  have hno : ¬ (M 184 i = 23 ∨ M 184 i = 26) := by omega
  have hio := R.2.2.2.2.2.2.2
  have hfe := R.2.2.1.1
  obtain ⟨lu2, lu3, lu1, lu4, lu5⟩ := SFu Q R ho (by decide)
  have hc0 : c = 0 := by have := R.2.2.2.1; omega
  subst hc0
  obtain ⟨u1, u2⟩ := R.2.2.2.2.1 hno
  rw [c3] at u1 u2
  have hh : h (i + 1) = h i + (-1) - 0 := hh
  have E1 : m 184 ((i : Int)).toNat = 14 := e1
  have E2 : m 185 ((i : Int)).toNat = M 185 i := e2
  have E3 : m 186 ((i : Int)).toNat = M 186 i := e3
  have hi0 : 0 ≤ (i : Int) ∧ (i : Int) < 11999 := by omega
  rw [hk] at w1 w2 w3
  rw [itO_14_0] at w1 w2 w3
  have hpop : 2 ≤ h i := t1.2.1
  obtain ⟨p1, p2⟩ := RL_top Q R hno (d := 1) (by omega)
  obtain ⟨p3, p4⟩ := RL_top Q R hno (d := 2) (by omega)
  generalize hy0 : m 210 (m 158 108 - 1).toNat = y0 at *
  generalize hx0 : m 210 (m 158 108 - 2).toNat = x0 at *
  have sx := sg_m p4
  have sy := sg_m p2
  have wx : 0 ≤ x0 % 65536 ∧ x0 % 65536 < 65536 := by omega
  have wy : 0 ≤ y0 % 65536 ∧ y0 % 65536 < 65536 := by omega
  obtain ⟨s0, s1, s2, s3, s5, Y', q1, q2, q3⟩ := Q_14_0 (ni := M 158 103) (ip := M 208) (tk := tk) (ou := ou) (Y := Y) (sn := sn) (r0 := r0) (r1 := r1) (r2 := r2) (r3 := r3) (r4 := 0) (r5 := r5) (r6 := PBq M (m 211) (f - 1)) (r7 := r7)  B3 w0 w1 w2 w3 w4 wx wy (by omega) p1 p3
  rw [sx, sy] at q2
  have hv : -32768 ≤ (if x0 < y0 then 1 else 0 : Int) ∧ (if x0 < y0 then 1 else 0 : Int) ≤ 32767 := by split <;> omega
  have hv2 : (if x0 < y0 then 1 else 0 : Int) = (if x0 < y0 then 1 else 0 : Int) % 65536 := by split <;> rfl
  refine Or.inl ⟨2, (i : Int) + 1, 0, _, _, by decide, RnC_2 q1, T_14_0 hi0 E1 E2 E3 rfl (by omega) hy0 hx0 hk, ?_, ?_, ?_⟩
  · have z := RL_psh (m' := put (put m 158 108 (m 158 108 - 1)) 210 (m 158 108 - 1 - 1).toNat (if x0 < y0 then 1 else 0)) (pp := 2) (v := if x0 < y0 then 1 else 0) (i2 := (i : Int) + 1) (s0 := s0) (s1 := s1) (s2 := s2) (s3 := s3) (s5 := s5) (Y' := Y') (tk' := tk) Q R rfl hno l1 (by omega) (lu1 (by decide)) (by omega) hv (KM_put (KM_put R.1 (by omega)) (by omega)) rfl (by show m 158 108 - 1 = _; omega) rfl rfl rfl (fun k hk => by
      show (if k = (m 158 108 - 1 - 1).toNat then _ else m 210 k) = m 210 k
      rw [if_neg (by omega)]
      ) (by
      show (if (m 158 108 - 2).toNat = (m 158 108 - 1 - 1).toNat then _ else _) = _
      rw [if_pos (by omega)]
      ) (fun a ha => q3 a (by omega)) (by rw [q2]; exact hv2) hio rfl
    exact z
  · show 5 * m 158 111 + 1 ≤ 5 * m 158 111 + ((2 : Nat) : Int)
    omega
  · show m 158 115 + 1 ≤ m 158 115 + ((2 : Nat) : Int)
    omega
theorem S_14_1 (Q : PRQ M np n fe h u nc cs) (R : RELq M np fe h u pf f p i c m r7 Y tk ou sn) (ho : M 184 i = 14) (hk : M 185 i = 1) : NXT F d L xs M np fe h u (i : Int) c m (M 187 i, R8 r0 r1 r2 r3 c r5 (PBq M (m 211) (f - 1)) r7, Y, tk, ou, sn) := by
  obtain ⟨⟨l1, l2, l3⟩, ⟨e1, e2, e3⟩, hh, f0, f1, w0, w1, w2, w3, w4⟩ := SF Q R ho (by decide)
  obtain ⟨ml, mx, ⟨a1, b1⟩, c1, c2, c3, ⟨c4, c5, c6⟩, T, c7, c8⟩ := FR_g Q R
  obtain ⟨B1, B2, B3, B4, B5, B6, B7⟩ := PR_B Q
  obtain ⟨t1, t9⟩ := SFo Q R ho (by decide) T
  have hno : ¬ (M 184 i = 23 ∨ M 184 i = 26) := by omega
  have hio := R.2.2.2.2.2.2.2
  have hfe := R.2.2.1.1
  obtain ⟨lu2, lu3, lu1, lu4, lu5⟩ := SFu Q R ho (by decide)
  have hc0 : c = 0 := by have := R.2.2.2.1; omega
  subst hc0
  obtain ⟨u1, u2⟩ := R.2.2.2.2.1 hno
  rw [c3] at u1 u2
  have hh : h (i + 1) = h i + (-1) - 0 := hh
  have E1 : m 184 ((i : Int)).toNat = 14 := e1
  have E2 : m 185 ((i : Int)).toNat = M 185 i := e2
  have E3 : m 186 ((i : Int)).toNat = M 186 i := e3
  have hi0 : 0 ≤ (i : Int) ∧ (i : Int) < 11999 := by omega
  rw [hk] at w1 w2 w3
  rw [itO_14_1] at w1 w2 w3
  have hpop : 2 ≤ h i := t1.2.1
  obtain ⟨p1, p2⟩ := RL_top Q R hno (d := 1) (by omega)
  obtain ⟨p3, p4⟩ := RL_top Q R hno (d := 2) (by omega)
  generalize hy0 : m 210 (m 158 108 - 1).toNat = y0 at *
  generalize hx0 : m 210 (m 158 108 - 2).toNat = x0 at *
  have sx := sg_m p4
  have sy := sg_m p2
  have wx : 0 ≤ x0 % 65536 ∧ x0 % 65536 < 65536 := by omega
  have wy : 0 ≤ y0 % 65536 ∧ y0 % 65536 < 65536 := by omega
  obtain ⟨s0, s1, s2, s3, s5, Y', q1, q2, q3⟩ := Q_14_1 (ni := M 158 103) (ip := M 208) (tk := tk) (ou := ou) (Y := Y) (sn := sn) (r0 := r0) (r1 := r1) (r2 := r2) (r3 := r3) (r4 := 0) (r5 := r5) (r6 := PBq M (m 211) (f - 1)) (r7 := r7)  B3 w0 w1 w2 w3 w4 wx wy (by omega) p1 p3
  rw [sx, sy] at q2
  have hv : -32768 ≤ (if y0 < x0 then 1 else 0 : Int) ∧ (if y0 < x0 then 1 else 0 : Int) ≤ 32767 := by split <;> omega
  have hv2 : (if y0 < x0 then 1 else 0 : Int) = (if y0 < x0 then 1 else 0 : Int) % 65536 := by split <;> rfl
  refine Or.inl ⟨2, (i : Int) + 1, 0, _, _, by decide, RnC_2 q1, T_14_1 hi0 E1 E2 E3 rfl (by omega) hy0 hx0 hk, ?_, ?_, ?_⟩
  · have z := RL_psh (m' := put (put m 158 108 (m 158 108 - 1)) 210 (m 158 108 - 1 - 1).toNat (if y0 < x0 then 1 else 0)) (pp := 2) (v := if y0 < x0 then 1 else 0) (i2 := (i : Int) + 1) (s0 := s0) (s1 := s1) (s2 := s2) (s3 := s3) (s5 := s5) (Y' := Y') (tk' := tk) Q R rfl hno l1 (by omega) (lu1 (by decide)) (by omega) hv (KM_put (KM_put R.1 (by omega)) (by omega)) rfl (by show m 158 108 - 1 = _; omega) rfl rfl rfl (fun k hk => by
      show (if k = (m 158 108 - 1 - 1).toNat then _ else m 210 k) = m 210 k
      rw [if_neg (by omega)]
      ) (by
      show (if (m 158 108 - 2).toNat = (m 158 108 - 1 - 1).toNat then _ else _) = _
      rw [if_pos (by omega)]
      ) (fun a ha => q3 a (by omega)) (by rw [q2]; exact hv2) hio rfl
    exact z
  · show 5 * m 158 111 + 1 ≤ 5 * m 158 111 + ((2 : Nat) : Int)
    omega
  · show m 158 115 + 1 ≤ m 158 115 + ((2 : Nat) : Int)
    omega
theorem S_14_2 (Q : PRQ M np n fe h u nc cs) (R : RELq M np fe h u pf f p i c m r7 Y tk ou sn) (ho : M 184 i = 14) (hk : M 185 i = 2) : NXT F d L xs M np fe h u (i : Int) c m (M 187 i, R8 r0 r1 r2 r3 c r5 (PBq M (m 211) (f - 1)) r7, Y, tk, ou, sn) := by
  obtain ⟨⟨l1, l2, l3⟩, ⟨e1, e2, e3⟩, hh, f0, f1, w0, w1, w2, w3, w4⟩ := SF Q R ho (by decide)
  obtain ⟨ml, mx, ⟨a1, b1⟩, c1, c2, c3, ⟨c4, c5, c6⟩, T, c7, c8⟩ := FR_g Q R
  obtain ⟨B1, B2, B3, B4, B5, B6, B7⟩ := PR_B Q
  obtain ⟨t1, t9⟩ := SFo Q R ho (by decide) T
  have hno : ¬ (M 184 i = 23 ∨ M 184 i = 26) := by omega
  have hio := R.2.2.2.2.2.2.2
  have hfe := R.2.2.1.1
  obtain ⟨lu2, lu3, lu1, lu4, lu5⟩ := SFu Q R ho (by decide)
  have hc0 : c = 0 := by have := R.2.2.2.1; omega
  subst hc0
  obtain ⟨u1, u2⟩ := R.2.2.2.2.1 hno
  rw [c3] at u1 u2
  have hh : h (i + 1) = h i + (-1) - 0 := hh
  have E1 : m 184 ((i : Int)).toNat = 14 := e1
  have E2 : m 185 ((i : Int)).toNat = M 185 i := e2
  have E3 : m 186 ((i : Int)).toNat = M 186 i := e3
  have hi0 : 0 ≤ (i : Int) ∧ (i : Int) < 11999 := by omega
  rw [hk] at w1 w2 w3
  rw [itO_14_2] at w1 w2 w3
  have hpop : 2 ≤ h i := t1.2.1
  obtain ⟨p1, p2⟩ := RL_top Q R hno (d := 1) (by omega)
  obtain ⟨p3, p4⟩ := RL_top Q R hno (d := 2) (by omega)
  generalize hy0 : m 210 (m 158 108 - 1).toNat = y0 at *
  generalize hx0 : m 210 (m 158 108 - 2).toNat = x0 at *
  have sx := sg_m p4
  have sy := sg_m p2
  have wx : 0 ≤ x0 % 65536 ∧ x0 % 65536 < 65536 := by omega
  have wy : 0 ≤ y0 % 65536 ∧ y0 % 65536 < 65536 := by omega
  obtain ⟨s0, s1, s2, s3, s5, Y', q1, q2, q3⟩ := Q_14_2 (ni := M 158 103) (ip := M 208) (tk := tk) (ou := ou) (Y := Y) (sn := sn) (r0 := r0) (r1 := r1) (r2 := r2) (r3 := r3) (r4 := 0) (r5 := r5) (r6 := PBq M (m 211) (f - 1)) (r7 := r7)  B3 w0 w1 w2 w3 w4 wx wy (by omega) p1 p3
  rw [sx, sy] at q2
  have hv : -32768 ≤ (if x0 ≤ y0 then 1 else 0 : Int) ∧ (if x0 ≤ y0 then 1 else 0 : Int) ≤ 32767 := by split <;> omega
  have hv2 : (if x0 ≤ y0 then 1 else 0 : Int) = (if x0 ≤ y0 then 1 else 0 : Int) % 65536 := by split <;> rfl
  refine Or.inl ⟨2, (i : Int) + 1, 0, _, _, by decide, RnC_2 q1, T_14_2 hi0 E1 E2 E3 rfl (by omega) hy0 hx0 hk, ?_, ?_, ?_⟩
  · have z := RL_psh (m' := put (put m 158 108 (m 158 108 - 1)) 210 (m 158 108 - 1 - 1).toNat (if x0 ≤ y0 then 1 else 0)) (pp := 2) (v := if x0 ≤ y0 then 1 else 0) (i2 := (i : Int) + 1) (s0 := s0) (s1 := s1) (s2 := s2) (s3 := s3) (s5 := s5) (Y' := Y') (tk' := tk) Q R rfl hno l1 (by omega) (lu1 (by decide)) (by omega) hv (KM_put (KM_put R.1 (by omega)) (by omega)) rfl (by show m 158 108 - 1 = _; omega) rfl rfl rfl (fun k hk => by
      show (if k = (m 158 108 - 1 - 1).toNat then _ else m 210 k) = m 210 k
      rw [if_neg (by omega)]
      ) (by
      show (if (m 158 108 - 2).toNat = (m 158 108 - 1 - 1).toNat then _ else _) = _
      rw [if_pos (by omega)]
      ) (fun a ha => q3 a (by omega)) (by rw [q2]; exact hv2) hio rfl
    exact z
  · show 5 * m 158 111 + 1 ≤ 5 * m 158 111 + ((2 : Nat) : Int)
    omega
  · show m 158 115 + 1 ≤ m 158 115 + ((2 : Nat) : Int)
    omega
theorem S_14_3 (Q : PRQ M np n fe h u nc cs) (R : RELq M np fe h u pf f p i c m r7 Y tk ou sn) (ho : M 184 i = 14) (hk : M 185 i = 3) : NXT F d L xs M np fe h u (i : Int) c m (M 187 i, R8 r0 r1 r2 r3 c r5 (PBq M (m 211) (f - 1)) r7, Y, tk, ou, sn) := by
  obtain ⟨⟨l1, l2, l3⟩, ⟨e1, e2, e3⟩, hh, f0, f1, w0, w1, w2, w3, w4⟩ := SF Q R ho (by decide)
  obtain ⟨ml, mx, ⟨a1, b1⟩, c1, c2, c3, ⟨c4, c5, c6⟩, T, c7, c8⟩ := FR_g Q R
  obtain ⟨B1, B2, B3, B4, B5, B6, B7⟩ := PR_B Q
  obtain ⟨t1, t9⟩ := SFo Q R ho (by decide) T
  have hno : ¬ (M 184 i = 23 ∨ M 184 i = 26) := by omega
  have hio := R.2.2.2.2.2.2.2
  have hfe := R.2.2.1.1
  obtain ⟨lu2, lu3, lu1, lu4, lu5⟩ := SFu Q R ho (by decide)
  have hc0 : c = 0 := by have := R.2.2.2.1; omega
  subst hc0
  obtain ⟨u1, u2⟩ := R.2.2.2.2.1 hno
  rw [c3] at u1 u2
  have hh : h (i + 1) = h i + (-1) - 0 := hh
  have E1 : m 184 ((i : Int)).toNat = 14 := e1
  have E2 : m 185 ((i : Int)).toNat = M 185 i := e2
  have E3 : m 186 ((i : Int)).toNat = M 186 i := e3
  have hi0 : 0 ≤ (i : Int) ∧ (i : Int) < 11999 := by omega
  rw [hk] at w1 w2 w3
  rw [itO_14_3] at w1 w2 w3
  have hpop : 2 ≤ h i := t1.2.1
  obtain ⟨p1, p2⟩ := RL_top Q R hno (d := 1) (by omega)
  obtain ⟨p3, p4⟩ := RL_top Q R hno (d := 2) (by omega)
  generalize hy0 : m 210 (m 158 108 - 1).toNat = y0 at *
  generalize hx0 : m 210 (m 158 108 - 2).toNat = x0 at *
  have sx := sg_m p4
  have sy := sg_m p2
  have wx : 0 ≤ x0 % 65536 ∧ x0 % 65536 < 65536 := by omega
  have wy : 0 ≤ y0 % 65536 ∧ y0 % 65536 < 65536 := by omega
  obtain ⟨s0, s1, s2, s3, s5, Y', q1, q2, q3⟩ := Q_14_3 (ni := M 158 103) (ip := M 208) (tk := tk) (ou := ou) (Y := Y) (sn := sn) (r0 := r0) (r1 := r1) (r2 := r2) (r3 := r3) (r4 := 0) (r5 := r5) (r6 := PBq M (m 211) (f - 1)) (r7 := r7)  B3 w0 w1 w2 w3 w4 wx wy (by omega) p1 p3
  rw [sx, sy] at q2
  have hv : -32768 ≤ (if y0 ≤ x0 then 1 else 0 : Int) ∧ (if y0 ≤ x0 then 1 else 0 : Int) ≤ 32767 := by split <;> omega
  have hv2 : (if y0 ≤ x0 then 1 else 0 : Int) = (if y0 ≤ x0 then 1 else 0 : Int) % 65536 := by split <;> rfl
  refine Or.inl ⟨2, (i : Int) + 1, 0, _, _, by decide, RnC_2 q1, T_14_3 hi0 E1 E2 E3 rfl (by omega) hy0 hx0 hk, ?_, ?_, ?_⟩
  · have z := RL_psh (m' := put (put m 158 108 (m 158 108 - 1)) 210 (m 158 108 - 1 - 1).toNat (if y0 ≤ x0 then 1 else 0)) (pp := 2) (v := if y0 ≤ x0 then 1 else 0) (i2 := (i : Int) + 1) (s0 := s0) (s1 := s1) (s2 := s2) (s3 := s3) (s5 := s5) (Y' := Y') (tk' := tk) Q R rfl hno l1 (by omega) (lu1 (by decide)) (by omega) hv (KM_put (KM_put R.1 (by omega)) (by omega)) rfl (by show m 158 108 - 1 = _; omega) rfl rfl rfl (fun k hk => by
      show (if k = (m 158 108 - 1 - 1).toNat then _ else m 210 k) = m 210 k
      rw [if_neg (by omega)]
      ) (by
      show (if (m 158 108 - 2).toNat = (m 158 108 - 1 - 1).toNat then _ else _) = _
      rw [if_pos (by omega)]
      ) (fun a ha => q3 a (by omega)) (by rw [q2]; exact hv2) hio rfl
    exact z
  · show 5 * m 158 111 + 1 ≤ 5 * m 158 111 + ((2 : Nat) : Int)
    omega
  · show m 158 115 + 1 ≤ m 158 115 + ((2 : Nat) : Int)
    omega
theorem S_14_4 (Q : PRQ M np n fe h u nc cs) (R : RELq M np fe h u pf f p i c m r7 Y tk ou sn) (ho : M 184 i = 14) (hk : M 185 i = 4) : NXT F d L xs M np fe h u (i : Int) c m (M 187 i, R8 r0 r1 r2 r3 c r5 (PBq M (m 211) (f - 1)) r7, Y, tk, ou, sn) := by
  obtain ⟨⟨l1, l2, l3⟩, ⟨e1, e2, e3⟩, hh, f0, f1, w0, w1, w2, w3, w4⟩ := SF Q R ho (by decide)
  obtain ⟨ml, mx, ⟨a1, b1⟩, c1, c2, c3, ⟨c4, c5, c6⟩, T, c7, c8⟩ := FR_g Q R
  obtain ⟨B1, B2, B3, B4, B5, B6, B7⟩ := PR_B Q
  obtain ⟨t1, t9⟩ := SFo Q R ho (by decide) T
  have hno : ¬ (M 184 i = 23 ∨ M 184 i = 26) := by omega
  have hio := R.2.2.2.2.2.2.2
  have hfe := R.2.2.1.1
  obtain ⟨lu2, lu3, lu1, lu4, lu5⟩ := SFu Q R ho (by decide)
  have hc0 : c = 0 := by have := R.2.2.2.1; omega
  subst hc0
  obtain ⟨u1, u2⟩ := R.2.2.2.2.1 hno
  rw [c3] at u1 u2
  have hh : h (i + 1) = h i + (-1) - 0 := hh
  have E1 : m 184 ((i : Int)).toNat = 14 := e1
  have E2 : m 185 ((i : Int)).toNat = M 185 i := e2
  have E3 : m 186 ((i : Int)).toNat = M 186 i := e3
  have hi0 : 0 ≤ (i : Int) ∧ (i : Int) < 11999 := by omega
  rw [hk] at w1 w2 w3
  rw [itO_14_4] at w1 w2 w3
  have hpop : 2 ≤ h i := t1.2.1
  obtain ⟨p1, p2⟩ := RL_top Q R hno (d := 1) (by omega)
  obtain ⟨p3, p4⟩ := RL_top Q R hno (d := 2) (by omega)
  generalize hy0 : m 210 (m 158 108 - 1).toNat = y0 at *
  generalize hx0 : m 210 (m 158 108 - 2).toNat = x0 at *
  have sx := sg_m p4
  have sy := sg_m p2
  have wx : 0 ≤ x0 % 65536 ∧ x0 % 65536 < 65536 := by omega
  have wy : 0 ≤ y0 % 65536 ∧ y0 % 65536 < 65536 := by omega
  obtain ⟨s0, s1, s2, s3, s5, Y', q1, q2, q3⟩ := Q_14_4 (ni := M 158 103) (ip := M 208) (tk := tk) (ou := ou) (Y := Y) (sn := sn) (r0 := r0) (r1 := r1) (r2 := r2) (r3 := r3) (r4 := 0) (r5 := r5) (r6 := PBq M (m 211) (f - 1)) (r7 := r7)  B3 w0 w1 w2 w3 w4 wx wy (by omega) p1 p3
  rw [sx, sy] at q2
  have hv : -32768 ≤ (if x0 = y0 then 1 else 0 : Int) ∧ (if x0 = y0 then 1 else 0 : Int) ≤ 32767 := by split <;> omega
  have hv2 : (if x0 = y0 then 1 else 0 : Int) = (if x0 = y0 then 1 else 0 : Int) % 65536 := by split <;> rfl
  refine Or.inl ⟨2, (i : Int) + 1, 0, _, _, by decide, RnC_2 q1, T_14_4 hi0 E1 E2 E3 rfl (by omega) hy0 hx0 hk, ?_, ?_, ?_⟩
  · have z := RL_psh (m' := put (put m 158 108 (m 158 108 - 1)) 210 (m 158 108 - 1 - 1).toNat (if x0 = y0 then 1 else 0)) (pp := 2) (v := if x0 = y0 then 1 else 0) (i2 := (i : Int) + 1) (s0 := s0) (s1 := s1) (s2 := s2) (s3 := s3) (s5 := s5) (Y' := Y') (tk' := tk) Q R rfl hno l1 (by omega) (lu1 (by decide)) (by omega) hv (KM_put (KM_put R.1 (by omega)) (by omega)) rfl (by show m 158 108 - 1 = _; omega) rfl rfl rfl (fun k hk => by
      show (if k = (m 158 108 - 1 - 1).toNat then _ else m 210 k) = m 210 k
      rw [if_neg (by omega)]
      ) (by
      show (if (m 158 108 - 2).toNat = (m 158 108 - 1 - 1).toNat then _ else _) = _
      rw [if_pos (by omega)]
      ) (fun a ha => q3 a (by omega)) (by rw [q2]; exact hv2) hio rfl
    exact z
  · show 5 * m 158 111 + 1 ≤ 5 * m 158 111 + ((2 : Nat) : Int)
    omega
  · show m 158 115 + 1 ≤ m 158 115 + ((2 : Nat) : Int)
    omega
theorem S_14_5 (Q : PRQ M np n fe h u nc cs) (R : RELq M np fe h u pf f p i c m r7 Y tk ou sn) (ho : M 184 i = 14) (hk : M 185 i = 5) : NXT F d L xs M np fe h u (i : Int) c m (M 187 i, R8 r0 r1 r2 r3 c r5 (PBq M (m 211) (f - 1)) r7, Y, tk, ou, sn) := by
  obtain ⟨⟨l1, l2, l3⟩, ⟨e1, e2, e3⟩, hh, f0, f1, w0, w1, w2, w3, w4⟩ := SF Q R ho (by decide)
  obtain ⟨ml, mx, ⟨a1, b1⟩, c1, c2, c3, ⟨c4, c5, c6⟩, T, c7, c8⟩ := FR_g Q R
  obtain ⟨B1, B2, B3, B4, B5, B6, B7⟩ := PR_B Q
  obtain ⟨t1, t9⟩ := SFo Q R ho (by decide) T
  have hno : ¬ (M 184 i = 23 ∨ M 184 i = 26) := by omega
  have hio := R.2.2.2.2.2.2.2
  have hfe := R.2.2.1.1
  obtain ⟨lu2, lu3, lu1, lu4, lu5⟩ := SFu Q R ho (by decide)
  have hc0 : c = 0 := by have := R.2.2.2.1; omega
  subst hc0
  obtain ⟨u1, u2⟩ := R.2.2.2.2.1 hno
  rw [c3] at u1 u2
  have hh : h (i + 1) = h i + (-1) - 0 := hh
  have E1 : m 184 ((i : Int)).toNat = 14 := e1
  have E2 : m 185 ((i : Int)).toNat = M 185 i := e2
  have E3 : m 186 ((i : Int)).toNat = M 186 i := e3
  have hi0 : 0 ≤ (i : Int) ∧ (i : Int) < 11999 := by omega
  rw [hk] at w1 w2 w3
  rw [itO_14_5] at w1 w2 w3
  have hpop : 2 ≤ h i := t1.2.1
  obtain ⟨p1, p2⟩ := RL_top Q R hno (d := 1) (by omega)
  obtain ⟨p3, p4⟩ := RL_top Q R hno (d := 2) (by omega)
  generalize hy0 : m 210 (m 158 108 - 1).toNat = y0 at *
  generalize hx0 : m 210 (m 158 108 - 2).toNat = x0 at *
  have sx := sg_m p4
  have sy := sg_m p2
  have wx : 0 ≤ x0 % 65536 ∧ x0 % 65536 < 65536 := by omega
  have wy : 0 ≤ y0 % 65536 ∧ y0 % 65536 < 65536 := by omega
  obtain ⟨s0, s1, s2, s3, s5, Y', q1, q2, q3⟩ := Q_14_5 (ni := M 158 103) (ip := M 208) (tk := tk) (ou := ou) (Y := Y) (sn := sn) (r0 := r0) (r1 := r1) (r2 := r2) (r3 := r3) (r4 := 0) (r5 := r5) (r6 := PBq M (m 211) (f - 1)) (r7 := r7)  B3 w0 w1 w2 w3 w4 wx wy (by omega) p1 p3
  rw [sx, sy] at q2
  have hv : -32768 ≤ (if x0 ≠ y0 then 1 else 0 : Int) ∧ (if x0 ≠ y0 then 1 else 0 : Int) ≤ 32767 := by split <;> omega
  have hv2 : (if x0 ≠ y0 then 1 else 0 : Int) = (if x0 ≠ y0 then 1 else 0 : Int) % 65536 := by split <;> rfl
  refine Or.inl ⟨2, (i : Int) + 1, 0, _, _, by decide, RnC_2 q1, T_14_5 hi0 E1 E2 E3 rfl (by omega) hy0 hx0 hk, ?_, ?_, ?_⟩
  · have z := RL_psh (m' := put (put m 158 108 (m 158 108 - 1)) 210 (m 158 108 - 1 - 1).toNat (if x0 ≠ y0 then 1 else 0)) (pp := 2) (v := if x0 ≠ y0 then 1 else 0) (i2 := (i : Int) + 1) (s0 := s0) (s1 := s1) (s2 := s2) (s3 := s3) (s5 := s5) (Y' := Y') (tk' := tk) Q R rfl hno l1 (by omega) (lu1 (by decide)) (by omega) hv (KM_put (KM_put R.1 (by omega)) (by omega)) rfl (by show m 158 108 - 1 = _; omega) rfl rfl rfl (fun k hk => by
      show (if k = (m 158 108 - 1 - 1).toNat then _ else m 210 k) = m 210 k
      rw [if_neg (by omega)]
      ) (by
      show (if (m 158 108 - 2).toNat = (m 158 108 - 1 - 1).toNat then _ else _) = _
      rw [if_pos (by omega)]
      ) (fun a ha => q3 a (by omega)) (by rw [q2]; exact hv2) hio rfl
    exact z
  · show 5 * m 158 111 + 1 ≤ 5 * m 158 111 + ((2 : Nat) : Int)
    omega
  · show m 158 115 + 1 ≤ m 158 115 + ((2 : Nat) : Int)
    omega
theorem S_14 (Q : PRQ M np n fe h u nc cs) (R : RELq M np fe h u pf f p i c m r7 Y tk ou sn) (ho : M 184 i = 14) : NXT F d L xs M np fe h u (i : Int) c m (M 187 i, R8 r0 r1 r2 r3 c r5 (PBq M (m 211) (f - 1)) r7, Y, tk, ou, sn) := by
  obtain ⟨ml, mx, -, -, -, -, -, T, -, -⟩ := FR_g Q R
  have t := (SFo Q R ho (by decide) T).1.2.2.2.2.2.2.1 rfl
  have hk : M 185 i = 0 ∨ M 185 i = 1 ∨ M 185 i = 2 ∨ M 185 i = 3 ∨ M 185 i = 4 ∨ M 185 i = 5 := by omega
  rcases hk with w | w | w | w | w | w
  · exact S_14_0 Q R ho w
  · exact S_14_1 Q R ho w
  · exact S_14_2 Q R ho w
  · exact S_14_3 Q R ho w
  · exact S_14_4 Q R ho w
  · exact S_14_5 Q R ho w
end Sp1
