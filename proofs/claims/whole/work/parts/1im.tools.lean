/-! TOOLS for the steps -/
def EXQ (M : Mem) : Prop := (0 ≤ M 158 103 ∧ M 158 103 ≤ 200) ∧ (∀ k : Nat, k < 200 → 0 ≤ M 208 k ∧ M 208 k < 65536) ∧ ∀ k : Nat, (k : Int) < M 158 71 → M 214 k = vatq M k
theorem sg_m {x : Int} (hx : -32768 ≤ x ∧ x ≤ 32767) : sg (x % 65536) = x := by
  rw [sg_v (by omega)]
  split <;> omega
section Tol
variable {M m m' : Mem} {np n : Nat} {fe : Nat → Nat} {h u : Nat → Int} {nc : Int} {cs : Nat → List Int} {pf : Nat → Nat} {f p i : Nat} {c r7 tk ou o : Int} {Y Y' sn : Nat → Int}
theorem KM_put {a0 k0 : Nat} {v : Int} (K : KMq M m) (h0 : a0 = 210 ∨ a0 = 211 ∨ a0 = 212 ∨ a0 = 213 ∨ a0 = 215 ∨ (a0 = 158 ∧ (k0 = 108 ∨ k0 = 111 ∨ k0 = 114 ∨ k0 = 115))) : KMq M (put m a0 k0 v) := fun a k h1 h2 => by
  rw [put_ss]
  by_cases e : a = a0
  · rw [if_pos e]
    have := h2
    rw [if_neg (by omega)]
    exact K a k h1 h2
  · rw [if_neg e]
    exact K a k h1 h2
/-- what stands at an order that does not leave -/
theorem SF (Q : PRQ M np n fe h u nc cs) (R : RELq M np fe h u pf f p i c m r7 Y tk ou sn) (ho : M 184 i = o) (h26 : o ≠ 26) : (i + 1 < fe (p + 1) ∧ i + 1 < n ∧ (i : Int) < 11999) ∧ (m 184 i = o ∧ m 185 i = M 185 i ∧ m 186 i = M 186 i) ∧ h (i + 1) = h i + psh o - (if o = 17 then M 188 (M 185 i).toNat else 0) ∧ ∃ f0 f1, (0 ≤ M 187 i) ∧ WdOk (Pq M) (Nq M) (M 193) (itO o f0 f1 (M 186 i) (M 185 i) (yq M p i) (M 190 (M 185 i).toNat) (M 189 (M 185 i).toNat) (cs (M 185 i).toNat)) (M 187 i) ∧ cX (Pq M) (itO o f0 f1 (M 186 i) (M 185 i) (yq M p i) (M 190 (M 185 i).toNat) (M 189 (M 185 i).toNat) (cs (M 185 i).toNat)) (M 187 i) = false ∧ M 187 i + ((itO o f0 f1 (M 186 i) (M 185 i) (yq M p i) (M 190 (M 185 i).toNat) (M 189 (M 185 i).toNat) (cs (M 185 i).toNat)).length : Int) = M 187 (i + 1) ∧ M 187 (i + 1) ≤ (((M 158 68).toNat : Nat) : Int) := by
  obtain ⟨k, ⟨f1, f2, f3, f4⟩, ⟨i1, i2⟩, -⟩ := R
  obtain ⟨ml, mx, -, -, -, -, ⟨-, -, -, T⟩, ⟨g1, g2⟩, -, ⟨g3, -⟩⟩ := PR_s Q f4
  have hl : i + 1 < fe (p + 1) := by
    by_cases e : i = fe (p + 1) - 1
    · rw [← e] at g3
      omega
    · omega
  obtain ⟨-, -, C, -, P1, ⟨P2, -, -⟩, ⟨-, N1, -⟩, -⟩ := Q
  obtain ⟨a0, a1, w1, w2, w3⟩ := C p f4 i (by omega) i2
  unfold itq at w1 w2 w3
  rw [ho] at w1 w2 w3
  have e1 : plE M n i = M 187 (i + 1) := by
    unfold plE
    rw [if_pos (by omega)]
  rw [e1] at w3
  have z := (T i i1 (by omega)).2.1
  rw [ho] at z
  have p1 := P1 i (by omega)
  have p2 := P1 (i + 1) (by omega)
  exact ⟨⟨hl, by omega, by omega⟩, ⟨by rw [k 184 i (by omega) (fun w => absurd w (by decide))]; exact ho, k 185 i (by omega) (fun w => absurd w (by decide)), k 186 i (by omega) (fun w => absurd w (by decide))⟩, z, a0, a1, by omega, w1, w2, w3, by omega⟩
theorem SFu (Q : PRQ M np n fe h u nc cs) (R : RELq M np fe h u pf f p i c m r7 Y tk ou sn) (ho : M 184 i = o) (h26 : o ≠ 26) : (o = 2 → M 185 i < u i) ∧ (o = 3 → M 185 i ≤ u i) ∧ (o ≠ 3 → u (i + 1) ≤ u i) ∧ (u (i + 1) ≤ if o = 3 ∧ M 185 i = u i then u i + 1 else u i) ∧ (isR o ∨ isJ o → u (M 186 i).toNat ≤ u i) := by
  have l := (SF Q R ho h26).1.1
  obtain ⟨z1, z2, z3, z4⟩ := (Q.2.2.2.2.2.2.2.2.2.2.2 p R.2.1.2.2.2).2 i R.2.2.1.1 (by omega)
  rw [ho] at z1 z2 z3 z4
  refine ⟨z1, z2, fun w => ?_, z3, z4⟩
  rw [if_neg (fun q => w q.1)] at z3
  exact z3
theorem SFo (Q : PRQ M np n fe h u nc cs) (R : RELq M np fe h u pf f p i c m r7 Y tk ou sn) (ho : M 184 i = o) (h26 : o ≠ 26) {ml mx : Int} (T : TyQ1 (M 184) (M 185) (M 186) fe np (M 188) (M 194) (M 158 71) nc h ml mx p) : OpP (M 188) (M 194) (M 158 71) nc (np : Int) (p : Int) ml o (M 185 i) (h i) ∧ h (i + 1) ≤ mx := by
  have l := (SF Q R ho h26).1.1
  have z := T.2.2.2 i R.2.2.1.1 (by omega)
  rw [ho] at z
  exact ⟨z.1, z.2.2.1⟩
theorem SFr (Q : PRQ M np n fe h u nc cs) (R : RELq M np fe h u pf f p i c m r7 Y tk ou sn) (ho : M 184 i = o) (hr : isR o) : ∃ j : Nat, M 186 i = (j : Int) ∧ (fe p < j ∧ j < fe (p + 1)) ∧ (M 184 j = 23 ∨ M 184 j = 26) ∧ (0 ≤ Pq M (M 186 i) ∧ Pq M (M 186 i) < 65536) ∧ Pq M (M 186 i) = M 187 j := by
  have l := (SF Q R ho (by omega)).1.1
  obtain ⟨-, ⟨f1, f2, f3, f4⟩, ⟨i1, i2⟩, -⟩ := R
  obtain ⟨ml, mx, -, -, -, -, ⟨-, -, -, T⟩, ⟨g1, g2⟩, -⟩ := PR_s Q f4
  obtain ⟨-, -, -, -, P1, ⟨P2, P3, P4⟩, -⟩ := Q
  have z := (T i i1 (by omega)).2.2.2.1
  rw [ho] at z
  obtain ⟨⟨z1, z2⟩, z3⟩ := z hr
  have p1 := P1 (M 186 i).toNat (by omega)
  unfold Bq at P4
  exact ⟨(M 186 i).toNat, by omega, by omega, z3, by unfold Pq; omega, rfl⟩
theorem SFj (Q : PRQ M np n fe h u nc cs) (R : RELq M np fe h u pf f p i c m r7 Y tk ou sn) (ho : M 184 i = o) (hr : isJ o) : ∃ j : Nat, M 186 i = (j : Int) ∧ (fe p < j ∧ j < fe (p + 1)) ∧ h j = 0 ∧ (0 ≤ Pq M (M 186 i) ∧ Pq M (M 186 i) < 65536) ∧ Pq M (M 186 i) = M 187 j := by
  have l := (SF Q R ho (by omega)).1.1
  obtain ⟨-, ⟨f1, f2, f3, f4⟩, ⟨i1, i2⟩, -⟩ := R
  obtain ⟨ml, mx, -, -, -, -, ⟨-, -, -, T⟩, ⟨g1, g2⟩, -⟩ := PR_s Q f4
  obtain ⟨-, -, -, -, P1, ⟨P2, P3, P4⟩, -⟩ := Q
  have z := (T i i1 (by omega)).2.2.2.2
  rw [ho] at z
  obtain ⟨⟨z1, z2⟩, z3⟩ := z hr
  have p1 := P1 (M 186 i).toNat (by omega)
  unfold Bq at P4
  exact ⟨(M 186 i).toNat, by omega, by omega, z3, by unfold Pq; omega, rfl⟩
/-- the pile's top -/
theorem RL_top (Q : PRQ M np n fe h u nc cs) (R : RELq M np fe h u pf f p i c m r7 Y tk ou sn) (hno : ¬ (M 184 i = 23 ∨ M 184 i = 26)) {d : Int} (hd : 1 ≤ d ∧ d ≤ h i) : Y (r7 - d).toNat = m 210 (m 158 108 - d).toNat % 65536 ∧ -32768 ≤ m 210 (m 158 108 - d).toNat ∧ m 210 (m 158 108 - d).toNat ≤ 32767 := by
  obtain ⟨ml, mx, ⟨a, b⟩, c1, c2, c3, ⟨c4, c5, c6⟩, T, c7, c8⟩ := FR_g Q R
  obtain ⟨k, ⟨f1, f2, f3, f4⟩, ⟨i1, i2'⟩, cc, tp, FR, VR, io⟩ := R
  obtain ⟨t1, t2⟩ := tp hno
  rw [c3] at t1 t2 FR
  have z := FRM_get (q := (m 158 108 - d).toNat) FR f2 (by omega) (Or.inr (by rw [f3]; omega))
  have e : adr M pf (m 211) (f - 1) (m 158 108 - d).toNat = r7 - d := by
    unfold adr
    rw [if_neg (by omega)]
    omega
  rw [e] at z
  exact z
/-- a local -/
theorem RL_lcl (Q : PRQ M np n fe h u nc cs) (R : RELq M np fe h u pf f p i c m r7 Y tk ou sn) {ml a y : Int} (hml : M 189 p = ml + 2) (ha : 0 ≤ a ∧ a < ml) (hua : a < u i) (hy : y = if a < M 188 p then a else a + 2) : adr M pf (m 211) (f - 1) (m 211 (f - 1) + a).toNat = PBq M (m 211) (f - 1) + y ∧ Y (PBq M (m 211) (f - 1) + y).toNat = m 210 (m 211 (f - 1) + a).toNat % 65536 ∧ -32768 ≤ m 210 (m 211 (f - 1) + a).toNat ∧ m 210 (m 211 (f - 1) + a).toNat ≤ 32767 := by
  obtain ⟨ml2, mx, ⟨a1, b⟩, c1, c2, c3, ⟨c4, c5, c6⟩, T, c7, c8⟩ := FR_g Q R
  obtain ⟨k, ⟨f1, f2, f3, f4⟩, ⟨i1, i2'⟩, cc, tp, FR, VR, io⟩ := R
  rw [c3] at FR
  have e0 : (((m 211 (f - 1) + a).toNat : Nat) : Int) = m 211 (f - 1) + a := by omega
  have e : adr M pf (m 211) (f - 1) (m 211 (f - 1) + a).toNat = PBq M (m 211) (f - 1) + y := by
    unfold adr
    rw [e0, f3, hy, c5]
    by_cases q : a < M 188 p
    · rw [if_pos (by omega), if_pos q]
      omega
    · rw [if_neg (by omega), if_neg q]
      omega
  have z := FRM_get (q := (m 211 (f - 1) + a).toNat) FR f2 (by omega) (Or.inl (by omega))
  rw [e] at z
  exact ⟨e, z⟩
theorem vat_m (hv : ∀ k : Nat, (k : Int) < M 158 71 → 1 ≤ M 194 k ∧ M 194 k ≤ 500) : ∀ (d a : Nat), ((a + d : Nat) : Int) ≤ M 158 71 → vatq M a ≤ vatq M (a + d)
  | 0, a, _ => Int.le_refl _
  | d + 1, a, hd => by
    have z := vat_m hv d a (by omega)
    have w := hv (a + d) (by omega)
    show vatq M a ≤ vatq M (a + d) + M 194 (a + d)
    omega
theorem vat_b (Q : PRQ M np n fe h u nc cs) {a : Int} (ha : 0 ≤ a ∧ a < M 158 71) : 0 ≤ vatq M a.toNat ∧ vatq M a.toNat + M 194 a.toNat ≤ M 158 70 ∧ Nq M (-10 - a) = M 158 68 + vatq M a.toNat ∧ 1 ≤ M 194 a.toNat ∧ M 194 a.toNat ≤ 500 := by
  obtain ⟨-, -, -, -, -, -, -, ⟨v1, v2, v3⟩, -⟩ := Q
  have z0 := vat_m v2 a.toNat 0 (by omega)
  rw [Nat.zero_add] at z0
  have z1 := vat_m v2 ((M 158 71).toNat - (a.toNat + 1)) (a.toNat + 1) (by omega)
  rw [show a.toNat + 1 + ((M 158 71).toNat - (a.toNat + 1)) = (M 158 71).toNat from by omega, v3] at z1
  have z2 : vatq M (a.toNat + 1) = vatq M a.toNat + M 194 a.toNat := rfl
  have w := v2 a.toNat (by omega)
  refine ⟨z0, by omega, ?_, w⟩
  unfold Nq
  rw [if_neg (by omega), if_neg (by omega), show (-10 - (-10 - a)).toNat = a.toNat from by omega]
end Tol
