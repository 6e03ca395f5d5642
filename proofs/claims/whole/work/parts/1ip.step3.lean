/-! STEPS: stores, and a handler begins -/
section Sp3
variable {F d L : Nat} {xs : Nat → Int32} {M m : Mem} {np n : Nat} {fe : Nat → Nat} {h u : Nat → Int} {nc : Int} {cs : Nat → List Int} {pf : Nat → Nat} {f p i : Nat} {c r0 r1 r2 r3 r5 r7 tk ou : Int} {Y sn : Nat → Int}
/-- a local is set -/
theorem RL_lst {v y : Int} {s0 s1 s2 s3 s5 ml a : Int} {m' : Mem} (Q : PRQ M np n fe h u nc cs) (R : RELq M np fe h u pf f p i c m r7 Y tk ou sn) (hno : ¬ (M 184 i = 23 ∨ M 184 i = 26)) (hi : i + 1 < fe (p + 1)) (hh : h (i + 1) = h i - 1) (hpp : 1 ≤ h i) (hml : M 189 p = ml + 2) (ha : 0 ≤ a ∧ a < ml) (hy : y = if a < M 188 p then a else a + 2) (hv : -32768 ≤ v ∧ v ≤ 32767) (hu : u (i + 1) ≤ u i ∨ (u (i + 1) ≤ u i + 1 ∧ a = u i)) (K : KMq M m') (e11 : m' 158 111 = m 158 111) (e8 : m' 158 108 = m 158 108 - 1) (e211 : m' 211 = m 211) (e212 : m' 212 = m 212) (e213 : m' 213 = m 213) (e210 : m' 210 = vput (m 210) (m 211 (f - 1) + a).toNat v) (hio : IOq M m' tk ou sn) : RELx M np fe h u ((i : Int) + 1) 0 m' (M 187 (i + 1), R8 s0 s1 s2 s3 0 s5 (PBq M (m 211) (f - 1)) (r7 - 1), vput Y (PBq M (m 211) (f - 1) + y).toNat (v % 65536), tk, ou, sn) := by
  obtain ⟨ml2, mx, ⟨a1, b⟩, c1, c2', c3, ⟨c4, c5, c6⟩, T, c7, c8⟩ := FR_g Q R
  obtain ⟨B1, B2, -, -, -, B3, -⟩ := PR_B Q
  have hS := PR_S Q
  obtain ⟨k, ⟨f1, f2, f3, f4⟩, ⟨i1, i2'⟩, cc, tp, FR, VR, io⟩ := R
  obtain ⟨t1, t2⟩ := tp hno
  rw [c3] at t1 t2 FR
  obtain ⟨n1, n2⟩ := hq_n Q f4 (i := i + 1) (by omega) hi
  have el : limq M h (m' 211) f p (i + 1) = m 211 (f - 1) + ml2 + h i - 1 := by
    unfold limq
    rw [n1, e211, hh, a1]
    omega
  have e0 : (((m 211 (f - 1) + a).toNat : Nat) : Int) = m 211 (f - 1) + a := by omega
  have e : adr M pf (m 211) (f - 1) (m 211 (f - 1) + a).toNat = PBq M (m 211) (f - 1) + y := by
    unfold adr
    rw [e0, f3, hy, c5]
    by_cases q : a < M 188 p
    · rw [if_pos (by omega), if_pos q]
      omega
    · rw [if_neg (by omega), if_neg q]
      omega
  refine ⟨pf, f, p, i + 1, s0, s1, s2, s3, s5, r7 - 1, _, tk, ou, sn, by omega, by rw [e211], K, ⟨by rw [e11]; exact f1, f2, f3, f4⟩, ⟨by omega, hi⟩, ⟨by omega, Or.inl rfl⟩, fun _ => ?_, ?_, ?_, hio⟩
  · rw [el, e8, t1, t2]
    exact ⟨by omega, by omega⟩
  · rw [el, e211, e212, e210, ← e]
    have U := FRM_up (lim' := m 211 (f - 1) + ml2 + h i - 1) (uv' := u i) B2 hS FR f2 (by omega) (by omega) (Int.le_refl _) (X' := m 210) (Y' := Y) (fun _ _ => rfl) (fun _ _ _ => rfl)
    exact FRM_loc B2 hS U f2 (by omega) (by omega) hv (by omega)
  · rw [e213]
    have hy0 : 0 ≤ y := by
      rw [hy]
      split <;> omega
    refine VR_up B1 VR (fun q hq => ?_)
    show (if q = _ then _ else Y q) = Y q
    rw [if_neg (by omega)]
/-- a var is set -/
theorem RL_vst {v pp : Int} {g : Nat} {s0 s1 s2 s3 s5 : Int} {m' : Mem} (Q : PRQ M np n fe h u nc cs) (R : RELq M np fe h u pf f p i c m r7 Y tk ou sn) (hno : ¬ (M 184 i = 23 ∨ M 184 i = 26)) (hi : i + 1 < fe (p + 1)) (hh : h (i + 1) = h i - pp) (hu : u (i + 1) ≤ u i) (hpp : 0 ≤ pp ∧ pp ≤ h i) (hg : (g : Int) < M 158 70) (hv : -32768 ≤ v ∧ v ≤ 32767) (K : KMq M m') (e11 : m' 158 111 = m 158 111) (e8 : m' 158 108 = m 158 108 - pp) (e211 : m' 211 = m 211) (e212 : m' 212 = m 212) (e213 : m' 213 = vput (m 213) g v) (e210 : m' 210 = m 210) (hio : IOq M m' tk ou sn) : RELx M np fe h u ((i : Int) + 1) 0 m' (M 187 (i + 1), R8 s0 s1 s2 s3 0 s5 (PBq M (m 211) (f - 1)) (r7 - pp), vput Y (M 158 68 + (g : Int)).toNat (v % 65536), tk, ou, sn) := by
  obtain ⟨ml2, mx, ⟨a1, b⟩, c1, c2', c3, ⟨c4, c5, c6⟩, T, c7, c8⟩ := FR_g Q R
  obtain ⟨B1, B2, -, -, -, B3, -⟩ := PR_B Q
  have hS := PR_S Q
  obtain ⟨k, ⟨f1, f2, f3, f4⟩, ⟨i1, i2'⟩, cc, tp, FR, VR, io⟩ := R
  obtain ⟨t1, t2⟩ := tp hno
  rw [c3] at t1 t2 FR
  obtain ⟨n1, n2⟩ := hq_n Q f4 (i := i + 1) (by omega) hi
  have hBq : Bq M = M 158 68 + M 158 70 := rfl
  have el : limq M h (m' 211) f p (i + 1) = m 211 (f - 1) + ml2 + h i - pp := by
    unfold limq
    rw [n1, e211, hh, a1]
    omega
  refine ⟨pf, f, p, i + 1, s0, s1, s2, s3, s5, r7 - pp, _, tk, ou, sn, by omega, by rw [e211], K, ⟨by rw [e11]; exact f1, f2, f3, f4⟩, ⟨by omega, hi⟩, ⟨by omega, Or.inl rfl⟩, fun _ => ?_, ?_, ?_, hio⟩
  · rw [el, e8, t1, t2]
    exact ⟨by omega, by omega⟩
  · rw [el, e211, e212, e210]
    refine FRM_up B2 hS FR f2 (by omega) (by omega) hu (fun _ _ => rfl) (fun q q0 hq => ?_)
    show (if q = _ then _ else Y q) = Y q
    rw [if_neg (by omega)]
  · rw [e213]
    exact VR_put B1 VR hv
theorem S_3 (Q : PRQ M np n fe h u nc cs) (h4 : m 158 111 ≤ 3998) (R : RELq M np fe h u pf f p i c m r7 Y tk ou sn) (ho : M 184 i = 3) : NXT F d L xs M np fe h u (i : Int) c m (M 187 i, R8 r0 r1 r2 r3 c r5 (PBq M (m 211) (f - 1)) r7, Y, tk, ou, sn) := by
  obtain ⟨⟨l1, l2, l3⟩, ⟨e1, e2, e3⟩, hh, f0, f1, w0, w1, w2, w3, w4⟩ := SF Q R ho (by decide)
  obtain ⟨ml, mx, ⟨a1, b1⟩, c1, c2, c3, ⟨c4, c5, c6⟩, T, c7, c8⟩ := FR_g Q R
  obtain ⟨B1, B2, B3, B4, B5, B6, B7⟩ := PR_B Q
  obtain ⟨t1, t9⟩ := SFo Q R ho (by decide) T
  have hno : ¬ (M 184 i = 23 ∨ M 184 i = 26) := by omega
  have hio := R.2.2.2.2.2.2.2
  have hfe := R.2.2.1.1
  obtain ⟨lu2, lu3, lu1, lu4, lu5⟩ := SFu Q R ho (by decide)
  have hc0 : c = 0 := by have := R.2.2.2.1; omega
  subst hc0
  obtain ⟨u1, u2⟩ := R.2.2.2.2.1 hno
  rw [c3] at u1 u2
  rw [itO_3] at w1 w2 w3
  have hh : h (i + 1) = h i + (-1) - 0 := hh
  have E1 : m 184 ((i : Int)).toNat = 3 := e1
  have E2 : m 185 ((i : Int)).toNat = M 185 i := e2
  have E3 : m 186 ((i : Int)).toNat = M 186 i := e3
  have hi0 : 0 ≤ (i : Int) ∧ (i : Int) < 11999 := by omega
  have hpop : 1 ≤ h i := t1.2.1
  have hx := t1.2.2.2.1 (Or.inr rfl)
  have ey : yq M p i = if M 185 i < M 188 p then M 185 i else M 185 i + 2 := by
    unfold yq
    rw [if_pos (by omega)]
  have hy : 0 ≤ yq M p i ∧ yq M p i ≤ ml + 1 := by
    rw [ey]
    split <;> omega
  obtain ⟨p1, p2⟩ := RL_top Q R hno (d := 1) (by omega)
  have hfr := R.2.1
  have ef : ((f : Int) - 1).toNat = f - 1 := by omega
  have hu3 := lu3 rfl
  have hu4 : u (i + 1) ≤ u i ∨ (u (i + 1) ≤ u i + 1 ∧ M 185 i = u i) := by
    by_cases e : M 185 i = u i
    · rw [if_pos ⟨rfl, e⟩] at lu4
      exact Or.inr ⟨lu4, e⟩
    · rw [if_neg (fun w => e w.2)] at lu4
      exact Or.inl lu4
  obtain ⟨s0, s1, s2, s3, s5, q1⟩ := Q_3 (ni := M 158 103) (ip := M 208) (tk := tk) (ou := ou) (Y := Y) (sn := sn) (r0 := r0) (r1 := r1) (r2 := r2) (r3 := r3) (r4 := 0) (r5 := r5) (r6 := PBq M (m 211) (f - 1)) (r7 := r7)  B3 w0 w1 w2 w3 w4 (by omega) (by omega) (by omega)
  rw [p1] at q1
  refine Or.inl ⟨2, (i : Int) + 1, 0, _, _, by decide, RnC_2 q1, T_3 hi0 E1 E2 E3 rfl (by omega) hfr.1 (by omega) (by rw [ef]) (by omega) (by omega), ?_, ?_, ?_⟩
  · exact RL_lst (m' := put (put m 158 108 (m 158 108 - 1)) 210 (m 211 (f - 1) + M 185 i).toNat (m 210 (m 158 108 - 1).toNat)) Q R hno l1 (by omega) hpop a1 hx ey p2 hu4 (KM_put (KM_put R.1 (by omega)) (by omega)) rfl rfl rfl rfl rfl rfl hio
  · show 5 * m 158 111 + 1 ≤ 5 * m 158 111 + ((2 : Nat) : Int)
    omega
  · show m 158 115 + 1 ≤ m 158 115 + ((2 : Nat) : Int)
    omega
theorem S_5 (Q : PRQ M np n fe h u nc cs) (X : EXQ M) (R : RELq M np fe h u pf f p i c m r7 Y tk ou sn) (ho : M 184 i = 5) : NXT F d L xs M np fe h u (i : Int) c m (M 187 i, R8 r0 r1 r2 r3 c r5 (PBq M (m 211) (f - 1)) r7, Y, tk, ou, sn) := by
  obtain ⟨⟨l1, l2, l3⟩, ⟨e1, e2, e3⟩, hh, f0, f1, w0, w1, w2, w3, w4⟩ := SF Q R ho (by decide)
  obtain ⟨ml, mx, ⟨a1, b1⟩, c1, c2, c3, ⟨c4, c5, c6⟩, T, c7, c8⟩ := FR_g Q R
  obtain ⟨B1, B2, B3, B4, B5, B6, B7⟩ := PR_B Q
  obtain ⟨t1, t9⟩ := SFo Q R ho (by decide) T
  have hno : ¬ (M 184 i = 23 ∨ M 184 i = 26) := by omega
  have hio := R.2.2.2.2.2.2.2
  have hfe := R.2.2.1.1
  obtain ⟨lu2, lu3, lu1, lu4, lu5⟩ := SFu Q R ho (by decide)
  have hc0 : c = 0 := by have := R.2.2.2.1; omega
  subst hc0
  obtain ⟨u1, u2⟩ := R.2.2.2.2.1 hno
  rw [c3] at u1 u2
  rw [itO_5] at w1 w2 w3
  have hh : h (i + 1) = h i + (-1) - 0 := hh
  have E1 : m 184 ((i : Int)).toNat = 5 := e1
  have E2 : m 185 ((i : Int)).toNat = M 185 i := e2
  have E3 : m 186 ((i : Int)).toNat = M 186 i := e3
  have hi0 : 0 ≤ (i : Int) ∧ (i : Int) < 11999 := by omega
  have hpop : 1 ≤ h i := t1.2.1
  obtain ⟨hx, hx1⟩ := t1.2.2.2.2.1 (Or.inr rfl)
  obtain ⟨v1, v2, v3, v4⟩ := vat_b Q hx
  obtain ⟨p1, p2⟩ := RL_top Q R hno (d := 1) (by omega)
  have e214 : m 214 (M 185 i).toNat = vatq M (M 185 i).toNat := by
    rw [R.1 214 _ (by omega) (fun w => absurd w (by decide))]
    exact X.2.2 _ (by omega)
  have h60 := Q.2.2.2.2.2.2.2.1.1
  have hBq : Bq M = M 158 68 + M 158 70 := rfl
  obtain ⟨s0, s1, s2, s3, s5, q1⟩ := Q_5 (ni := M 158 103) (ip := M 208) (tk := tk) (ou := ou) (Y := Y) (sn := sn) (r0 := r0) (r1 := r1) (r2 := r2) (r3 := r3) (r4 := 0) (r5 := r5) (r6 := PBq M (m 211) (f - 1)) (r7 := r7)  B3 w0 w1 w2 w3 w4 v3 (by omega) (by omega)
  rw [p1] at q1
  refine Or.inl ⟨2, (i : Int) + 1, 0, _, _, by decide, RnC_2 q1, T_5 hi0 E1 E2 E3 rfl (by omega) (by omega) e214 (by omega), ?_, ?_, ?_⟩
  · have z := RL_vst (m' := put (put m 158 108 (m 158 108 - 1)) 213 (vatq M (M 185 i).toNat).toNat (m 210 (m 158 108 - 1).toNat)) (pp := 1) (g := (vatq M (M 185 i).toNat).toNat) (s0 := s0) (s1 := s1) (s2 := s2) (s3 := s3) (s5 := s5) Q R hno l1 (by omega) (lu1 (by decide)) (by omega) (by omega) p2 (KM_put (KM_put R.1 (by omega)) (by omega)) rfl rfl rfl rfl rfl rfl hio
    rw [show (((vatq M (M 185 i).toNat).toNat : Nat) : Int) = vatq M (M 185 i).toNat from by omega] at z
    exact z
  · show 5 * m 158 111 + 1 ≤ 5 * m 158 111 + ((2 : Nat) : Int)
    omega
  · show m 158 115 + 1 ≤ m 158 115 + ((2 : Nat) : Int)
    omega
theorem S_7 (Q : PRQ M np n fe h u nc cs) (X : EXQ M) (R : RELq M np fe h u pf f p i c m r7 Y tk ou sn) (ho : M 184 i = 7) : NXT F d L xs M np fe h u (i : Int) c m (M 187 i, R8 r0 r1 r2 r3 c r5 (PBq M (m 211) (f - 1)) r7, Y, tk, ou, sn) := by
  obtain ⟨⟨l1, l2, l3⟩, ⟨e1, e2, e3⟩, hh, f0, f1, w0, w1, w2, w3, w4⟩ := SF Q R ho (by decide)
  obtain ⟨ml, mx, ⟨a1, b1⟩, c1, c2, c3, ⟨c4, c5, c6⟩, T, c7, c8⟩ := FR_g Q R
  obtain ⟨B1, B2, B3, B4, B5, B6, B7⟩ := PR_B Q
  obtain ⟨t1, t9⟩ := SFo Q R ho (by decide) T
  have hno : ¬ (M 184 i = 23 ∨ M 184 i = 26) := by omega
  have hio := R.2.2.2.2.2.2.2
  have hfe := R.2.2.1.1
  obtain ⟨lu2, lu3, lu1, lu4, lu5⟩ := SFu Q R ho (by decide)
  have hc0 : c = 0 := by have := R.2.2.2.1; omega
  subst hc0
  obtain ⟨u1, u2⟩ := R.2.2.2.2.1 hno
  rw [c3] at u1 u2
  rw [itO_7] at w1 w2 w3
  have hh : h (i + 1) = h i + (-2) - 0 := hh
  have E1 : m 184 ((i : Int)).toNat = 7 := e1
  have E2 : m 185 ((i : Int)).toNat = M 185 i := e2
  have E3 : m 186 ((i : Int)).toNat = M 186 i := e3
  have hi0 : 0 ≤ (i : Int) ∧ (i : Int) < 11999 := by omega
  obtain ⟨j, j1, j2, j3, j4, j5⟩ := SFr Q R ho (by decide)
  have hx := t1.2.2.2.2.2.1 (Or.inr rfl)
  have hpop : 2 ≤ h i := t1.2.1
  obtain ⟨v1, v2, v3, v4⟩ := vat_b Q hx
  have ey : yq M p i = M 194 (M 185 i).toNat := by
    unfold yq
    rw [if_neg (by omega), if_pos (by omega)]
  obtain ⟨p1, p2⟩ := RL_top Q R hno (d := 1) (by omega)
  obtain ⟨p3, p4⟩ := RL_top Q R hno (d := 2) (by omega)
  have e194 : m 194 (M 185 i).toNat = M 194 (M 185 i).toNat := R.1 194 _ (by omega) (fun w => absurd w (by decide))
  have e214 : m 214 (M 185 i).toNat = vatq M (M 185 i).toNat := by
    rw [R.1 214 _ (by omega) (fun w => absurd w (by decide))]
    exact X.2.2 _ (by omega)
  have h60 := Q.2.2.2.2.2.2.2.1.1
  have hBq : Bq M = M 158 68 + M 158 70 := rfl
  by_cases hb : 0 ≤ m 210 (m 158 108 - 2).toNat ∧ m 210 (m 158 108 - 2).toNat < M 194 (M 185 i).toNat
  · have ew : m 210 (m 158 108 - 2).toNat % 65536 = m 210 (m 158 108 - 2).toNat := by omega
    rw [ew] at p3
    generalize hz : m 210 (m 158 108 - 2).toNat = z0 at *
    obtain ⟨s0, s1, s2, s3, s5, q1⟩ := Q_7 (ni := M 158 103) (ip := M 208) (tk := tk) (ou := ou) (Y := Y) (sn := sn) (r0 := r0) (r1 := r1) (r2 := r2) (r3 := r3) (r4 := 0) (r5 := r5) (r6 := PBq M (m 211) (f - 1)) (r7 := r7) (a := z0) (g := M 158 68 + vatq M (M 185 i).toNat) B3 w0 w1 w2 w3 w4 j4 (by omega) (by omega) v3 (by omega) (by omega) p1 p3 (by omega)
    rw [Int.add_assoc] at q1
    refine Or.inl ⟨2, (i : Int) + 1, 0, _, _, by decide, RnC_2 q1, T_7 hi0 E1 E2 E3 rfl (by omega) (by omega) hz e194 e214 (by omega) (by omega) (by omega), ?_, ?_, ?_⟩
    · have z := RL_vst (m' := put (put m 213 (vatq M (M 185 i).toNat + z0).toNat (m 210 (m 158 108 - 1).toNat)) 158 108 (m 158 108 - 2)) (pp := 2) (g := (vatq M (M 185 i).toNat + z0).toNat) (s0 := s0) (s1 := s1) (s2 := s2) (s3 := s3) (s5 := s5) Q R hno l1 (by omega) (lu1 (by decide)) (by omega) (by omega) p2 (KM_put (KM_put R.1 (by omega)) (by omega)) rfl rfl rfl rfl rfl rfl hio
      rw [show (((vatq M (M 185 i).toNat + z0).toNat : Nat) : Int) = vatq M (M 185 i).toNat + z0 from by omega] at z
      exact z
    · show 5 * m 158 111 + 1 ≤ 5 * m 158 111 + ((2 : Nat) : Int)
      omega
    · show m 158 115 + 1 ≤ m 158 115 + ((2 : Nat) : Int)
      omega
  · obtain ⟨s0, s1, s2, s3, s5, Y', q1, q2⟩ := Q_7f (ni := M 158 103) (ip := M 208) (tk := tk) (ou := ou) (Y := Y) (sn := sn) (r0 := r0) (r1 := r1) (r2 := r2) (r3 := r3) (r4 := 0) (r5 := r5) (r6 := PBq M (m 211) (f - 1)) (r7 := r7) (a := m 210 (m 158 108 - 2).toNat % 65536) (g := 0) B3 w0 w1 w2 w3 w4 j4 (by omega) (by omega) (by omega) p1 p3 (by omega)
    rw [j5] at q1
    refine Or.inl ⟨2, M 186 i, 2, m, _, by decide, RnC_2 q1, T_7f hi0 E1 E2 E3 rfl (by omega) (by omega) rfl e194 (by omega), ?_, ?_, ?_⟩
    · exact RL_flt (pp := 2) (j := j) Q R hno j2 j3 (by rw [j1, Int.toNat_natCast] at lu5; exact lu5 (by decide)) (by omega) (by omega) (fun a ha => q2 a (by omega)) j1
    · show 5 * m 158 111 + 1 ≤ 5 * m 158 111 + ((2 : Nat) : Int)
      omega
    · show m 158 115 + 1 ≤ m 158 115 + ((2 : Nat) : Int)
      omega
theorem S_23 (Q : PRQ M np n fe h u nc cs) (h4 : m 158 111 ≤ 3998) (R : RELq M np fe h u pf f p i c m r7 Y tk ou sn) (ho : M 184 i = 23) : NXT F d L xs M np fe h u (i : Int) c m (M 187 i, R8 r0 r1 r2 r3 c r5 (PBq M (m 211) (f - 1)) r7, Y, tk, ou, sn) := by
  obtain ⟨⟨l1, l2, l3⟩, ⟨e1, e2, e3⟩, hh, f0, f1, w0, w1, w2, w3, w4⟩ := SF Q R ho (by decide)
  obtain ⟨ml, mx, ⟨a1, b1⟩, c1, c2, c3, ⟨c4, c5, c6⟩, T, c7, c8⟩ := FR_g Q R
  obtain ⟨B1, B2, B3, B4, B5, B6, B7⟩ := PR_B Q
  obtain ⟨t1, t9⟩ := SFo Q R ho (by decide) T
  obtain ⟨lu2, lu3, lu1, lu4, lu5⟩ := SFu Q R ho (by decide)
  have hap : M 185 i = (p : Int) := t1.2.2.2.2.2.2.2.2.2.1 (Or.inr rfl)
  have hh1 : h i = 0 := t1.2.2.2.2.2.2.2.2.2.2.1 (Or.inr (Or.inl rfl))
  have hh : h (i + 1) = h i + 0 - 0 := hh
  have hnx := Q.2.1 i l2 (Or.inl ho)
  have hS := PR_S Q
  rw [itO_23] at w1 w2 w3
  have ey : yq M p i = ml + 2 := by
    unfold yq
    rw [if_neg (by omega), if_neg (by omega), if_neg (by omega), if_pos ho, hap, Int.toNat_natCast, a1]
  rw [ey] at w1 w2 w3
  have q1 := Q_23 (ni := M 158 103) (ip := M 208) (tk := tk) (ou := ou) (Y := Y) (sn := sn) (r0 := r0) (r1 := r1) (r2 := r2) (r3 := r3) (r4 := c) (r5 := r5) (r6 := PBq M (m 211) (f - 1)) (r7 := r7) B3 w0 w1 w2 w3 w4 (by omega) (by omega)
  have Rc := R
  obtain ⟨k, ⟨g1, g2, g3, g4⟩, ⟨i1, i2'⟩, cc, tp, FR, VR, io⟩ := R
  have ef : ((f : Int) - 1).toNat = f - 1 := by omega
  have e189 : m 189 (M 185 i).toNat = ml + 2 := by
    rw [k 189 _ (by omega) (fun w => absurd w (by decide)), hap, Int.toNat_natCast, a1]
  refine Or.inl ⟨2, (i : Int) + 1, c, _, _, by decide, RnC_2 q1, T_23 (a := M 185 i) (z := ml + 2) (b := m 211 (f - 1)) ⟨by omega, by omega⟩ e1 e2 e3 (by have := Q.2.2.2.2.2.2.1.1; omega) e189 (by omega) g1 (by omega) (by rw [ef]) (by omega), ?_, ?_, ?_⟩
  · rw [c3] at FR
    obtain ⟨n1, n2⟩ := hq_n Q g4 (i := i + 1) (by omega) l1
    have el : limq M h (m 211) f p (i + 1) = m 211 (f - 1) + ml := by
      unfold limq
      rw [n1, a1]
      omega
    refine ⟨pf, f, p, i + 1, r0, r1, r2, r3, r5, PBq M (m 211) (f - 1) + (ml + 2), Y, tk, ou, sn, by omega, rfl, KM_put k (by omega), ⟨g1, g2, g3, g4⟩, ⟨by omega, l1⟩, ⟨cc.1, Or.inr (by omega)⟩, fun _ => ?_, ?_, VR, io⟩
    · show m 211 (f - 1) + (ml + 2) - 2 = limq M h (m 211) f p (i + 1) ∧ _ = Bq M + limq M h (m 211) f p (i + 1) + 2 * (f : Int)
      rw [el]
      exact ⟨by omega, by omega⟩
    · show FRM M np fe h u pf (m 211) (m 212) (m 210) Y f (limq M h (m 211) f p (i + 1)) (u (i + 1))
      rw [el]
      exact FRM_up B2 hS FR g2 (by omega) (by omega) (lu1 (by decide)) (fun _ _ => rfl) (fun _ _ _ => rfl)
  · show 5 * m 158 111 + 1 ≤ 5 * m 158 111 + ((2 : Nat) : Int)
    omega
  · show m 158 115 + 1 ≤ m 158 115 + ((2 : Nat) : Int)
    omega
end Sp3
