/-! STEPS: orders that take from the pile, and ways -/
section Sp2
variable {F d L : Nat} {xs : Nat → Int32} {M m : Mem} {np n : Nat} {fe : Nat → Nat} {h u : Nat → Int} {nc : Int} {cs : Nat → List Int} {pf : Nat → Nat} {f p i : Nat} {c r0 r1 r2 r3 r5 r7 tk ou : Int} {Y sn : Nat → Int}
theorem S_18 (Q : PRQ M np n fe h u nc cs) (R : RELq M np fe h u pf f p i c m r7 Y tk ou sn) (ho : M 184 i = 18) : NXT F d L xs M np fe h u (i : Int) c m (M 187 i, R8 r0 r1 r2 r3 c r5 (PBq M (m 211) (f - 1)) r7, Y, tk, ou, sn) := by
  obtain ⟨⟨l1, l2, l3⟩, ⟨e1, e2, e3⟩, hh, f0, f1, w0, w1, w2, w3, w4⟩ := SF Q R ho (by decide)
  obtain ⟨ml, mx, ⟨a1, b1⟩, c1, c2, c3, ⟨c4, c5, c6⟩, T, c7, c8⟩ := FR_g Q R
  obtain ⟨B1, B2, B3, B4, B5, B6, B7⟩ := PR_B Q
  obtain ⟨t1, t9⟩ := SFo Q R ho (by decide) T
  have hno : ¬ (M 184 i = 23 ∨ M 184 i = 26) := by omega
  have hio := R.2.2.2.2.2.2.2
  have hfe := R.2.2.1.1
  obtain ⟨lu2, lu3, lu1, lu4, lu5⟩ := SFu Q R ho (by decide)
  have hc0 : c = 0 := by have := R.2.2.2.1; omega
  subst hc0
  obtain ⟨u1, u2⟩ := R.2.2.2.2.1 hno
  rw [c3] at u1 u2
  rw [itO_18] at w1 w2 w3
  have hh : h (i + 1) = h i + (-1) - 0 := hh
  have E1 : m 184 ((i : Int)).toNat = 18 := e1
  have E2 : m 185 ((i : Int)).toNat = M 185 i := e2
  have E3 : m 186 ((i : Int)).toNat = M 186 i := e3
  have hi0 : 0 ≤ (i : Int) ∧ (i : Int) < 11999 := by omega
  have hpop : 1 ≤ h i := t1.2.1
  have q1 := Q_18 (ni := M 158 103) (ip := M 208) (tk := tk) (ou := ou) (Y := Y) (sn := sn) (r0 := r0) (r1 := r1) (r2 := r2) (r3 := r3) (r4 := 0) (r5 := r5) (r6 := PBq M (m 211) (f - 1)) (r7 := r7)  B3 w0 w1 w2 w3 w4 (by omega)
  refine Or.inl ⟨2, (i : Int) + 1, 0, _, _, by decide, RnC_2 q1, T_18 hi0 E1 E2 E3 rfl (by omega), ?_, ?_, ?_⟩
  · exact RL_pop (m' := put m 158 108 (m 158 108 - 1)) (pp := 1) (i2 := (i : Int) + 1) (j := i + 1) (Y' := Y) Q R hno ⟨by omega, l1⟩ (by omega) (lu1 (by decide)) (by omega) (c2 := 0) ⟨by omega, Or.inl rfl⟩ (KM_put R.1 (by omega)) rfl rfl rfl rfl rfl (fun _ _ => rfl) (fun _ _ => rfl) hio rfl
  · show 5 * m 158 111 + 1 ≤ 5 * m 158 111 + ((2 : Nat) : Int)
    omega
  · show m 158 115 + 1 ≤ m 158 115 + ((2 : Nat) : Int)
    omega
theorem S_16 (Q : PRQ M np n fe h u nc cs) (R : RELq M np fe h u pf f p i c m r7 Y tk ou sn) (ho : M 184 i = 16) : NXT F d L xs M np fe h u (i : Int) c m (M 187 i, R8 r0 r1 r2 r3 c r5 (PBq M (m 211) (f - 1)) r7, Y, tk, ou, sn) := by
  obtain ⟨⟨l1, l2, l3⟩, ⟨e1, e2, e3⟩, hh, f0, f1, w0, w1, w2, w3, w4⟩ := SF Q R ho (by decide)
  obtain ⟨ml, mx, ⟨a1, b1⟩, c1, c2, c3, ⟨c4, c5, c6⟩, T, c7, c8⟩ := FR_g Q R
  obtain ⟨B1, B2, B3, B4, B5, B6, B7⟩ := PR_B Q
  obtain ⟨t1, t9⟩ := SFo Q R ho (by decide) T
  have hno : ¬ (M 184 i = 23 ∨ M 184 i = 26) := by omega
  have hio := R.2.2.2.2.2.2.2
  have hfe := R.2.2.1.1
  obtain ⟨lu2, lu3, lu1, lu4, lu5⟩ := SFu Q R ho (by decide)
  have hc0 : c = 0 := by have := R.2.2.2.1; omega
  subst hc0
  obtain ⟨u1, u2⟩ := R.2.2.2.2.1 hno
  rw [c3] at u1 u2
  rw [itO_16] at w1 w2 w3
  have hh : h (i + 1) = h i + (-1) - 0 := hh
  have E1 : m 184 ((i : Int)).toNat = 16 := e1
  have E2 : m 185 ((i : Int)).toNat = M 185 i := e2
  have E3 : m 186 ((i : Int)).toNat = M 186 i := e3
  have hi0 : 0 ≤ (i : Int) ∧ (i : Int) < 11999 := by omega
  obtain ⟨j, j1, j2, j3, j4, j5⟩ := SFj Q R ho (by decide)
  have hpop : 1 ≤ h i := t1.2.1
  have hh1 : h i = 1 := t1.2.2.2.2.2.2.2.2.2.2.2.1 rfl
  obtain ⟨p1, p2⟩ := RL_top Q R hno (d := 1) (by omega)
  generalize hy0 : m 210 (m 158 108 - 1).toNat = y0 at *
  obtain ⟨s0, s1, s2, s3, s5, q1⟩ := Q_16 (ni := M 158 103) (ip := M 208) (tk := tk) (ou := ou) (Y := Y) (sn := sn) (r0 := r0) (r1 := r1) (r2 := r2) (r3 := r3) (r4 := 0) (r5 := r5) (r6 := PBq M (m 211) (f - 1)) (r7 := r7)  B3 w0 w1 w2 w3 w4 j4 (by omega) p1
  by_cases e0 : y0 = 0
  · rw [if_pos (by rw [e0]; rfl), j5] at q1
    refine Or.inl ⟨2, M 186 i, 0, _, _, by decide, RnC_2 q1, T_16t hi0 E1 E2 E3 rfl (by omega) hy0 e0, ?_, ?_, ?_⟩
    · have z := RL_pop (m' := put m 158 108 (m 158 108 - 1)) (pp := 1) (i2 := M 186 i) (j := j) (s0 := s0) (s1 := s1) (s2 := s2) (s3 := s3) (s5 := s5) (Y' := Y)  Q R hno j2 (by omega) (by rw [j1, Int.toNat_natCast] at lu5; exact lu5 (by decide)) (by omega) (c2 := 0) ⟨by omega, Or.inl rfl⟩ (KM_put R.1 (by omega)) rfl rfl rfl rfl rfl (fun _ _ => rfl) (fun _ _ => rfl) hio j1
      exact z
    · show 5 * m 158 111 + 1 ≤ 5 * m 158 111 + ((2 : Nat) : Int)
      omega
    · show m 158 115 + 1 ≤ m 158 115 + ((2 : Nat) : Int)
      omega
  · rw [if_neg (by omega)] at q1
    refine Or.inl ⟨2, (i : Int) + 1, 0, _, _, by decide, RnC_2 q1, T_16n hi0 E1 E2 E3 rfl (by omega) hy0 e0, ?_, ?_, ?_⟩
    · have z := RL_pop (m' := put m 158 108 (m 158 108 - 1)) (pp := 1) (i2 := (i : Int) + 1) (j := (i + 1)) (s0 := s0) (s1 := s1) (s2 := s2) (s3 := s3) (s5 := s5) (Y' := Y)  Q R hno ⟨by omega, l1⟩ (by omega) (lu1 (by decide)) (by omega) (c2 := 0) ⟨by omega, Or.inl rfl⟩ (KM_put R.1 (by omega)) rfl rfl rfl rfl rfl (fun _ _ => rfl) (fun _ _ => rfl) hio rfl
      exact z
    · show 5 * m 158 111 + 1 ≤ 5 * m 158 111 + ((2 : Nat) : Int)
      omega
    · show m 158 115 + 1 ≤ m 158 115 + ((2 : Nat) : Int)
      omega
theorem S_20 (Q : PRQ M np n fe h u nc cs) (R : RELq M np fe h u pf f p i c m r7 Y tk ou sn) (ho : M 184 i = 20) (hou : m 158 115 < 1000000) : NXT F d L xs M np fe h u (i : Int) c m (M 187 i, R8 r0 r1 r2 r3 c r5 (PBq M (m 211) (f - 1)) r7, Y, tk, ou, sn) := by
  obtain ⟨⟨l1, l2, l3⟩, ⟨e1, e2, e3⟩, hh, f0, f1, w0, w1, w2, w3, w4⟩ := SF Q R ho (by decide)
  obtain ⟨ml, mx, ⟨a1, b1⟩, c1, c2, c3, ⟨c4, c5, c6⟩, T, c7, c8⟩ := FR_g Q R
  obtain ⟨B1, B2, B3, B4, B5, B6, B7⟩ := PR_B Q
  obtain ⟨t1, t9⟩ := SFo Q R ho (by decide) T
  have hno : ¬ (M 184 i = 23 ∨ M 184 i = 26) := by omega
  have hio := R.2.2.2.2.2.2.2
  have hfe := R.2.2.1.1
  obtain ⟨lu2, lu3, lu1, lu4, lu5⟩ := SFu Q R ho (by decide)
  have hc0 : c = 0 := by have := R.2.2.2.1; omega
  subst hc0
  obtain ⟨u1, u2⟩ := R.2.2.2.2.1 hno
  rw [c3] at u1 u2
  rw [itO_20] at w1 w2 w3
  have hh : h (i + 1) = h i + (-1) - 0 := hh
  have E1 : m 184 ((i : Int)).toNat = 20 := e1
  have E2 : m 185 ((i : Int)).toNat = M 185 i := e2
  have E3 : m 186 ((i : Int)).toNat = M 186 i := e3
  have hi0 : 0 ≤ (i : Int) ∧ (i : Int) < 11999 := by omega
  have hpop : 1 ≤ h i := t1.2.1
  obtain ⟨p1, p2⟩ := RL_top Q R hno (d := 1) (by omega)
  obtain ⟨io1, ⟨io2, io3⟩, io4⟩ := hio
  generalize hy0 : m 210 (m 158 108 - 1).toNat = y0 at *
  obtain ⟨s0, s1, s2, s3, s5, q1⟩ := Q_20 (ni := M 158 103) (ip := M 208) (tk := tk) (ou := ou) (Y := Y) (sn := sn) (r0 := r0) (r1 := r1) (r2 := r2) (r3 := r3) (r4 := 0) (r5 := r5) (r6 := PBq M (m 211) (f - 1)) (r7 := r7)  B3 w0 w1 w2 w3 w4 (by omega) p1
  by_cases e0 : ou < 500
  · rw [if_pos e0] at q1
    refine Or.inl ⟨2, (i : Int) + 1, 0, _, _, by decide, RnC_2 q1, (by have z := T_20 (F := F) (d := d) (L := L) (xs := xs) (c := 0) hi0 E1 E2 E3 rfl (t := m 158 108) (by omega) io2 ⟨io3, e0⟩; rw [hy0] at z; exact z), ?_, ?_, ?_⟩
    · have z := RL_pop (m' := put (put (put m 158 108 (m 158 108 - 1)) 215 ou.toNat y0) 158 115 (ou + 1)) (pp := 1) (i2 := (i : Int) + 1) (j := (i + 1)) (s0 := s0) (s1 := s1) (s2 := s2) (s3 := s3) (s5 := s5) (Y' := Y) (ou' := ou + 1) (sn' := vput sn ou.toNat (y0 % 65536)) Q R hno ⟨by omega, l1⟩ (by omega) (lu1 (by decide)) (by omega) (c2 := 0) ⟨by omega, Or.inl rfl⟩ (KM_put (KM_put (KM_put R.1 (by omega)) (by omega)) (by omega)) rfl rfl rfl rfl rfl (fun _ _ => rfl) (fun _ _ => rfl) ⟨io1, ⟨rfl, by omega⟩, fun k hk hk5 => by
      show (if k = ou.toNat then y0 else m 215 k) = sg (if k = ou.toNat then y0 % 65536 else sn k)
      by_cases q : k = ou.toNat
      · rw [if_pos q, if_pos q, sg_m p2]
      · rw [if_neg q, if_neg q]
        exact io4 k (by omega) hk5⟩ rfl
      exact z
    · show 5 * m 158 111 + 1 ≤ 5 * m 158 111 + ((2 : Nat) : Int)
      omega
    · show ou + 1 + 1 ≤ m 158 115 + ((2 : Nat) : Int)
      omega
  · rw [if_neg e0] at q1
    refine Or.inl ⟨2, (i : Int) + 1, 0, _, _, by decide, RnC_2 q1, T_20b hi0 E1 E2 E3 rfl (by omega) io2 e0 (by omega), ?_, ?_, ?_⟩
    · have z := RL_pop (m' := put (put m 158 108 (m 158 108 - 1)) 158 115 (ou + 1)) (pp := 1) (i2 := (i : Int) + 1) (j := (i + 1)) (s0 := s0) (s1 := s1) (s2 := s2) (s3 := s3) (s5 := s5) (Y' := Y) (ou' := ou + 1) (sn' := sn) Q R hno ⟨by omega, l1⟩ (by omega) (lu1 (by decide)) (by omega) (c2 := 0) ⟨by omega, Or.inl rfl⟩ (KM_put (KM_put R.1 (by omega)) (by omega)) rfl rfl rfl rfl rfl (fun _ _ => rfl) (fun _ _ => rfl) ⟨io1, ⟨rfl, by omega⟩, fun k hk hk5 => io4 k (by omega) hk5⟩ rfl
      exact z
    · show 5 * m 158 111 + 1 ≤ 5 * m 158 111 + ((2 : Nat) : Int)
      omega
    · show ou + 1 + 1 ≤ m 158 115 + ((2 : Nat) : Int)
      omega
theorem S_15 (Q : PRQ M np n fe h u nc cs) (R : RELq M np fe h u pf f p i c m r7 Y tk ou sn) (ho : M 184 i = 15) : NXT F d L xs M np fe h u (i : Int) c m (M 187 i, R8 r0 r1 r2 r3 c r5 (PBq M (m 211) (f - 1)) r7, Y, tk, ou, sn) := by
  obtain ⟨⟨l1, l2, l3⟩, ⟨e1, e2, e3⟩, hh, f0, f1, w0, w1, w2, w3, w4⟩ := SF Q R ho (by decide)
  obtain ⟨ml, mx, ⟨a1, b1⟩, c1, c2, c3, ⟨c4, c5, c6⟩, T, c7, c8⟩ := FR_g Q R
  obtain ⟨B1, B2, B3, B4, B5, B6, B7⟩ := PR_B Q
  obtain ⟨t1, t9⟩ := SFo Q R ho (by decide) T
  have hno : ¬ (M 184 i = 23 ∨ M 184 i = 26) := by omega
  have hio := R.2.2.2.2.2.2.2
  have hfe := R.2.2.1.1
  obtain ⟨lu2, lu3, lu1, lu4, lu5⟩ := SFu Q R ho (by decide)
  have hc0 : c = 0 := by have := R.2.2.2.1; omega
  subst hc0
  obtain ⟨u1, u2⟩ := R.2.2.2.2.1 hno
  rw [c3] at u1 u2
  rw [itO_15] at w1 w2 w3
  have hh : h (i + 1) = h i + (0) - 0 := hh
  have E1 : m 184 ((i : Int)).toNat = 15 := e1
  have E2 : m 185 ((i : Int)).toNat = M 185 i := e2
  have E3 : m 186 ((i : Int)).toNat = M 186 i := e3
  have hi0 : 0 ≤ (i : Int) ∧ (i : Int) < 11999 := by omega
  obtain ⟨j, j1, j2, j3, j4, j5⟩ := SFj Q R ho (by decide)
  have hh1 : h i = 0 := t1.2.2.2.2.2.2.2.2.2.2.1 (Or.inl rfl)
  obtain ⟨s5, q1⟩ := Q_15 (ni := M 158 103) (ip := M 208) (tk := tk) (ou := ou) (Y := Y) (sn := sn) (r0 := r0) (r1 := r1) (r2 := r2) (r3 := r3) (r4 := 0) (r5 := r5) (r6 := PBq M (m 211) (f - 1)) (r7 := r7)  B3 w0 w1 w2 w3 w4 j4
  rw [j5] at q1
  refine Or.inl ⟨2, M 186 i, 0, m, _, by decide, RnC_2 q1, T_15 hi0 E1 E2 E3, ?_, ?_, ?_⟩
  · have z := RL_pop (m' := m) (pp := 0) (i2 := M 186 i) (j := j) (s0 := r0) (s1 := r1) (s2 := r2) (s3 := r3) (s5 := s5) (Y' := Y) Q R hno j2 (by omega) (by rw [j1, Int.toNat_natCast] at lu5; exact lu5 (by decide)) (by omega) (c2 := 0) ⟨by omega, Or.inl rfl⟩ R.1 rfl (by omega) rfl rfl rfl (fun _ _ => rfl) (fun _ _ => rfl) hio j1
    rw [Int.sub_zero] at z
    exact z
  · show 5 * m 158 111 + 1 ≤ 5 * m 158 111 + ((2 : Nat) : Int)
    omega
  · show m 158 115 + 1 ≤ m 158 115 + ((2 : Nat) : Int)
    omega
theorem S_21 (Q : PRQ M np n fe h u nc cs) (R : RELq M np fe h u pf f p i c m r7 Y tk ou sn) (ho : M 184 i = 21) : NXT F d L xs M np fe h u (i : Int) c m (M 187 i, R8 r0 r1 r2 r3 c r5 (PBq M (m 211) (f - 1)) r7, Y, tk, ou, sn) := by
  obtain ⟨⟨l1, l2, l3⟩, ⟨e1, e2, e3⟩, hh, f0, f1, w0, w1, w2, w3, w4⟩ := SF Q R ho (by decide)
  obtain ⟨ml, mx, ⟨a1, b1⟩, c1, c2, c3, ⟨c4, c5, c6⟩, T, c7, c8⟩ := FR_g Q R
  obtain ⟨B1, B2, B3, B4, B5, B6, B7⟩ := PR_B Q
  obtain ⟨t1, t9⟩ := SFo Q R ho (by decide) T
  have hno : ¬ (M 184 i = 23 ∨ M 184 i = 26) := by omega
  have hio := R.2.2.2.2.2.2.2
  have hfe := R.2.2.1.1
  obtain ⟨lu2, lu3, lu1, lu4, lu5⟩ := SFu Q R ho (by decide)
  have hc0 : c = 0 := by have := R.2.2.2.1; omega
  subst hc0
  obtain ⟨u1, u2⟩ := R.2.2.2.2.1 hno
  rw [c3] at u1 u2
  rw [itO_21] at w1 w2 w3
  have hh : h (i + 1) = h i + (0) - 0 := hh
  have E1 : m 184 ((i : Int)).toNat = 21 := e1
  have E2 : m 185 ((i : Int)).toNat = M 185 i := e2
  have E3 : m 186 ((i : Int)).toNat = M 186 i := e3
  have hi0 : 0 ≤ (i : Int) ∧ (i : Int) < 11999 := by omega
  obtain ⟨j, j1, j2, j3, j4, j5⟩ := SFr Q R ho (by decide)
  have hx := t1.2.2.2.2.2.2.2.2.1 (Or.inl rfl)
  have hnc := Q.2.2.2.2.2.2.1.2.2
  obtain ⟨s5, q1⟩ := Q_21 (ni := M 158 103) (ip := M 208) (tk := tk) (ou := ou) (Y := Y) (sn := sn) (r0 := r0) (r1 := r1) (r2 := r2) (r3 := r3) (r4 := 0) (r5 := r5) (r6 := PBq M (m 211) (f - 1)) (r7 := r7)  B3 w0 w1 w2 w3 w4 j4 (by omega)
  rw [j5] at q1
  refine Or.inl ⟨2, M 186 i, M 185 i, m, _, by decide, RnC_2 q1, T_21 hi0 E1 E2 E3, ?_, ?_, ?_⟩
  · exact RL_flt (pp := 0) (j := j) Q R hno j2 j3 (by rw [j1, Int.toNat_natCast] at lu5; exact lu5 (by decide)) (by omega) (by omega) (fun a ha => rfl) j1
  · show 5 * m 158 111 + 1 ≤ 5 * m 158 111 + ((2 : Nat) : Int)
    omega
  · show m 158 115 + 1 ≤ m 158 115 + ((2 : Nat) : Int)
    omega
theorem S_24 (Q : PRQ M np n fe h u nc cs) (R : RELq M np fe h u pf f p i c m r7 Y tk ou sn) (ho : M 184 i = 24) : NXT F d L xs M np fe h u (i : Int) c m (M 187 i, R8 r0 r1 r2 r3 c r5 (PBq M (m 211) (f - 1)) r7, Y, tk, ou, sn) := by
  obtain ⟨⟨l1, l2, l3⟩, ⟨e1, e2, e3⟩, hh, f0, f1, w0, w1, w2, w3, w4⟩ := SF Q R ho (by decide)
  obtain ⟨ml, mx, ⟨a1, b1⟩, c1, c2, c3, ⟨c4, c5, c6⟩, T, c7, c8⟩ := FR_g Q R
  obtain ⟨B1, B2, B3, B4, B5, B6, B7⟩ := PR_B Q
  obtain ⟨t1, t9⟩ := SFo Q R ho (by decide) T
  have hno : ¬ (M 184 i = 23 ∨ M 184 i = 26) := by omega
  have hio := R.2.2.2.2.2.2.2
  have hfe := R.2.2.1.1
  obtain ⟨lu2, lu3, lu1, lu4, lu5⟩ := SFu Q R ho (by decide)
  obtain ⟨u1, u2⟩ := R.2.2.2.2.1 hno
  rw [c3] at u1 u2
  rw [itO_24] at w1 w2 w3
  have hh : h (i + 1) = h i + (0) - 0 := hh
  have E1 : m 184 ((i : Int)).toNat = 24 := e1
  have E2 : m 185 ((i : Int)).toNat = M 185 i := e2
  have E3 : m 186 ((i : Int)).toNat = M 186 i := e3
  have hi0 : 0 ≤ (i : Int) ∧ (i : Int) < 11999 := by omega
  obtain ⟨j, j1, j2, j3, j4, j5⟩ := SFj Q R ho (by decide)
  have hh1 : h i = 0 := t1.2.2.2.2.2.2.2.2.2.2.1 (Or.inr (Or.inr (Or.inl rfl)))
  have hx := t1.2.2.2.2.2.2.2.2.1 (Or.inr rfl)
  have hnc := Q.2.2.2.2.2.2.1.2.2
  have hcc := R.2.2.2.1.1
  obtain ⟨s0, s5, q1⟩ := Q_24 (ni := M 158 103) (ip := M 208) (tk := tk) (ou := ou) (Y := Y) (sn := sn) (r0 := r0) (r1 := r1) (r2 := r2) (r3 := r3) (r4 := c) (r5 := r5) (r6 := PBq M (m 211) (f - 1)) (r7 := r7)  B3 w0 w1 w2 w3 w4 j4 (by omega) (by omega)
  by_cases e0 : c = M 185 i
  · rw [if_pos e0, if_pos e0, j5] at q1
    refine Or.inl ⟨2, M 186 i, 0, m, _, by decide, RnC_2 q1, T_24t hi0 E1 E2 E3 e0, ?_, ?_, ?_⟩
    · have z := RL_pop (m' := m) (pp := 0) (i2 := M 186 i) (j := j) (s0 := s0) (s1 := r1) (s2 := r2) (s3 := r3) (s5 := s5) (Y' := Y) Q R hno j2 (by omega) (by rw [j1, Int.toNat_natCast] at lu5; exact lu5 (by decide)) (by omega) (c2 := 0) ⟨by omega, Or.inl rfl⟩ R.1 rfl (by omega) rfl rfl rfl (fun _ _ => rfl) (fun _ _ => rfl) hio j1
      rw [Int.sub_zero] at z
      exact z
    · show 5 * m 158 111 + 1 ≤ 5 * m 158 111 + ((2 : Nat) : Int)
      omega
    · show m 158 115 + 1 ≤ m 158 115 + ((2 : Nat) : Int)
      omega
  · rw [if_neg e0, if_neg e0] at q1
    have hnx := Q.2.1 i l2 (Or.inr ho)
    refine Or.inl ⟨2, (i : Int) + 1, c, m, _, by decide, RnC_2 q1, T_24n hi0 E1 E2 E3 e0, ?_, ?_, ?_⟩
    · have z := RL_pop (m' := m) (pp := 0) (i2 := (i : Int) + 1) (j := i + 1) (s0 := s0) (s1 := r1) (s2 := r2) (s3 := r3) (s5 := s5) (Y' := Y) Q R hno ⟨by omega, l1⟩ (by omega) (lu1 (by decide)) (by omega) (c2 := c) ⟨hcc, Or.inr (by omega)⟩ R.1 rfl (by omega) rfl rfl rfl (fun _ _ => rfl) (fun _ _ => rfl) hio rfl
      rw [Int.sub_zero] at z
      exact z
    · show 5 * m 158 111 + 1 ≤ 5 * m 158 111 + ((2 : Nat) : Int)
      omega
    · show m 158 115 + 1 ≤ m 158 115 + ((2 : Nat) : Int)
      omega
theorem S_25 (Q : PRQ M np n fe h u nc cs) (R : RELq M np fe h u pf f p i c m r7 Y tk ou sn) (ho : M 184 i = 25) : NXT F d L xs M np fe h u (i : Int) c m (M 187 i, R8 r0 r1 r2 r3 c r5 (PBq M (m 211) (f - 1)) r7, Y, tk, ou, sn) := by
  obtain ⟨⟨l1, l2, l3⟩, ⟨e1, e2, e3⟩, hh, f0, f1, w0, w1, w2, w3, w4⟩ := SF Q R ho (by decide)
  obtain ⟨ml, mx, ⟨a1, b1⟩, c1, c2, c3, ⟨c4, c5, c6⟩, T, c7, c8⟩ := FR_g Q R
  obtain ⟨B1, B2, B3, B4, B5, B6, B7⟩ := PR_B Q
  obtain ⟨t1, t9⟩ := SFo Q R ho (by decide) T
  have hno : ¬ (M 184 i = 23 ∨ M 184 i = 26) := by omega
  have hio := R.2.2.2.2.2.2.2
  have hfe := R.2.2.1.1
  obtain ⟨lu2, lu3, lu1, lu4, lu5⟩ := SFu Q R ho (by decide)
  obtain ⟨u1, u2⟩ := R.2.2.2.2.1 hno
  rw [c3] at u1 u2
  rw [itO_25] at w1 w2 w3
  have hh : h (i + 1) = h i + (0) - 0 := hh
  have E1 : m 184 ((i : Int)).toNat = 25 := e1
  have E2 : m 185 ((i : Int)).toNat = M 185 i := e2
  have E3 : m 186 ((i : Int)).toNat = M 186 i := e3
  have hi0 : 0 ≤ (i : Int) ∧ (i : Int) < 11999 := by omega
  obtain ⟨j, j1, j2, j3, j4, j5⟩ := SFr Q R ho (by decide)
  have hcc := R.2.2.2.1.1
  obtain ⟨s5, q1⟩ := Q_25 (ni := M 158 103) (ip := M 208) (tk := tk) (ou := ou) (Y := Y) (sn := sn) (r0 := r0) (r1 := r1) (r2 := r2) (r3 := r3) (r4 := c) (r5 := r5) (r6 := PBq M (m 211) (f - 1)) (r7 := r7)  B3 w0 w1 w2 w3 w4 j4
  rw [j5] at q1
  refine Or.inl ⟨2, M 186 i, c, m, _, by decide, RnC_2 q1, T_25 hi0 E1 E2 E3, ?_, ?_, ?_⟩
  · exact RL_flt (pp := 0) (j := j) Q R hno j2 j3 (by rw [j1, Int.toNat_natCast] at lu5; exact lu5 (by decide)) (by omega) hcc (fun a ha => rfl) j1
  · show 5 * m 158 111 + 1 ≤ 5 * m 158 111 + ((2 : Nat) : Int)
    omega
  · show m 158 115 + 1 ≤ m 158 115 + ((2 : Nat) : Int)
    omega
end Sp2
