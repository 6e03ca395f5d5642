/-! THE CLASS'S LOOP OF ORDERS: the turn for places -/
def qv (cd : Nat) (Q : Nat → Int) (i5 p6 : Int) (m : Mem) : Mem := fun a k => if a = 71 then (if k = 5 then i5 else if k = 6 then p6 else m a k) else if a = cd + 4 then Q k else m a k
section Trn
variable {F L d : Nat} {xs : Nat → Int32} {cd : Nat} {m X : Mem} {Q Q2 : Nat → Int} {i5 i6 p6 p7 w : Int} {k : Nat}
theorem qv_5 : put (qv cd Q i5 p6 m) 71 5 w = qv cd Q w p6 m := by
  funext a q
  rw [put_ss]
  unfold qv
  by_cases h : a = 71
  · rw [if_pos h, if_pos h, if_pos h]
    by_cases h2 : q = 5
    · rw [if_pos h2, if_pos h2]
    · rw [if_neg h2, if_neg h2, if_neg h2]
  · rw [if_neg h, if_neg h, if_neg h]
theorem qv_6 : put (qv cd Q i5 p6 m) 71 6 w = qv cd Q i5 w m := by
  funext a q
  rw [put_ss]
  unfold qv
  by_cases h : a = 71
  · rw [if_pos h, if_pos h, if_pos h]
    by_cases h2 : q = 6
    · rw [if_pos h2, if_neg (by omega), if_pos h2]
    · rw [if_neg h2, if_neg h2, if_neg h2]
  · rw [if_neg h, if_neg h, if_neg h]
theorem qv_4 (hc : cd = 83 ∨ cd = 93) : put (qv cd Q i5 p6 m) (cd + 4) k w = qv cd (vput Q k w) i5 p6 m := by
  funext a q
  rw [put_ss]
  unfold qv vput
  by_cases h : a = cd + 4
  · have h2 : ¬ a = 71 := by omega
    rw [if_pos h, if_neg h2, if_neg h2, if_pos h, if_pos h]
  · rw [if_neg h]
    by_cases h2 : a = 71
    · rw [if_pos h2, if_pos h2]
    · rw [if_neg h2, if_neg h2, if_neg h, if_neg h]
theorem qv_qv : qv cd Q2 i6 p7 (qv cd Q i5 p6 m) = qv cd Q2 i6 p7 m := by
  funext a q
  unfold qv
  by_cases h : a = 71
  · rw [if_pos h, if_pos h, if_pos h]
    by_cases h2 : q = 5
    · rw [if_pos h2, if_pos h2]
    · rw [if_neg h2, if_neg h2, if_neg h2]
      by_cases h3 : q = 6
      · rw [if_pos h3, if_pos h3]
      · rw [if_neg h3, if_neg h3, if_neg h3]
  · rw [if_neg h, if_neg h, if_neg h]
    by_cases h2 : a = cd + 4
    · rw [if_pos h2, if_pos h2]
    · rw [if_neg h2, if_neg h2, if_neg h2]
theorem ly_4 (hc : cd = 83 ∨ cd = 93) {A g ch : Int} {J W : Nat → Int} : put (ly A g ch J W cd m) (cd + 4) k w = ly A g ch J W cd (put m (cd + 4) k w) := by
  funext a q
  rw [put_ss]
  unfold ly
  rw [put_ss]
  by_cases h : a = cd + 4
  · have h1 : ¬ a = 71 := by omega
    have h2 : ¬ a = 72 := by omega
    have h3 : ¬ a = cd + 9 := by omega
    rw [if_pos h, if_neg h1, if_neg h2, if_neg h3, if_neg h1, if_neg h2, if_neg h3, if_pos h]
  · rw [if_neg h, if_neg h]
/-- the parameters of the proc whose order stands before i -/
def cpC (m : Mem) (cd : Nat) (p0 : Int) : Nat → Int
  | 0 => p0
  | i + 1 => if m (cd + 1) i = 0 then PAc m cd (m (cd + 2) i) else cpC m cd p0 i
def dC (m : Mem) (cd : Nat) (p0 j : Int) (i : Nat) : List It := itC (qv cd (fun _ => 0) 0 (cpC m cd p0 (i + 1)) m) cd j i
theorem rcL_c {m m2 : Mem} (h : ∀ k, m 65 k = m2 65 k) (h2 : ∀ x, nmI m x = nmI m2 x) : ∀ (j : Nat) (f : Int), rcL m f j = rcL m2 f j
  | 0, f => rfl
  | j + 1, f => by
    show nmI m (m 65 f.toNat) :: rcL m (f + 1) j = nmI m2 (m2 65 f.toNat) :: rcL m2 (f + 1) j
    rw [h, h2, rcL_c h h2 j]
theorem dC_e (hc : cd = 83 ∨ cd = 93) {p0 j : Int} {i : Nat} : itC (qv cd Q i5 (cpC m cd p0 (i + 1)) m) cd j i = dC m cd p0 j i := by
  unfold dC itC
  have e : csC (qv cd Q i5 (cpC m cd p0 (i + 1)) m) (qv cd Q i5 (cpC m cd p0 (i + 1)) m (cd + 2) i) = csC (qv cd (fun _ => 0) 0 (cpC m cd p0 (i + 1)) m) (qv cd (fun _ => 0) 0 (cpC m cd p0 (i + 1)) m (cd + 2) i) := by
    unfold csC
    rcases hc with rfl | rfl
    · exact rcL_c (m := qv 83 Q i5 (cpC m 83 p0 (i + 1)) m) (m2 := qv 83 (fun _ => 0) 0 (cpC m 83 p0 (i + 1)) m) (fun _ => rfl) (fun _ => rfl) _ _
    · exact rcL_c (m := qv 93 Q i5 (cpC m 93 p0 (i + 1)) m) (m2 := qv 93 (fun _ => 0) 0 (cpC m 93 p0 (i + 1)) m) (fun _ => rfl) (fun _ => rfl) _ _
  rw [e]
  rcases hc with rfl | rfl
  · rfl
  · rfl
def clI (m : Mem) (cd : Nat) (p0 : Int) (J : Nat → Int) : Nat → List It
  | 0 => []
  | i + 1 => clI m cd p0 J i ++ dC m cd p0 (J i) i
def pqC (A0 : Int) (m : Mem) (cd : Nat) (p0 : Int) (J Q0 : Nat → Int) (i : Nat) : Nat → Int := fun q => if q < i then A0 + (clI m cd p0 J q).length else Q0 q
theorem pqC_s {A0 p0 : Int} {J Q0 : Nat → Int} {i : Nat} : vput (pqC A0 m cd p0 J Q0 i) i (A0 + (clI m cd p0 J i).length) = pqC A0 m cd p0 J Q0 (i + 1) := by
  funext q
  unfold vput pqC
  by_cases h : q = i
  · subst h
    rw [if_pos rfl, if_pos (by omega)]
  · rw [if_neg h]
    by_cases h2 : q < i
    · rw [if_pos h2, if_pos (by omega)]
    · rw [if_neg h2, if_neg (by omega)]
/-- what must hold of the orders that the class lays -/
def LK (m : Mem) (cd n : Nat) : Prop := (cd = 83 ∨ cd = 93) ∧ m cd 0 = (n : Int) ∧ n ≤ 3000 ∧ (∀ i, i < n → CO m cd (m (cd + 1) i) (m (cd + 2) i)) ∧ m 57 4 ≤ 1510 ∧ (∀ f : Int, -1000000 ≤ nmI m f ∧ nmI m f ≤ 1000000) ∧ m 57 7 ≤ 300 ∧ (∀ (Q : Nat → Int) (i5 p6 : Int), (∀ k : Nat, 0 ≤ Q k ∧ Q k ≤ 1000000) → (0 ≤ i5 ∧ i5 < 3000) → (-1000000 ≤ p6 ∧ p6 ≤ 1000000) → LX cd (qv cd Q i5 p6 m))
theorem cpC_b {p0 : Int} {n : Nat} (h : ∀ p, -1000000 ≤ PAc m cd p ∧ PAc m cd p ≤ 1000000) (h0 : -1000000 ≤ p0 ∧ p0 ≤ 1000000) : ∀ i : Nat, -1000000 ≤ cpC m cd p0 i ∧ cpC m cd p0 i ≤ 1000000
  | 0 => h0
  | i + 1 => by
    show -1000000 ≤ (if m (cd + 1) i = 0 then PAc m cd (m (cd + 2) i) else cpC m cd p0 i) ∧ (if m (cd + 1) i = 0 then PAc m cd (m (cd + 2) i) else cpC m cd p0 i) ≤ 1000000
    split
    · exact h _
    · exact cpC_b (n := n) h h0 i
/-- one order, in any turn -/
theorem K_50q {n i : Nat} {p0 : Int} {S : lS} (hF : 100000 ≤ F) (K : LK m cd n) (hi : i < n) (hb : LBd S 0) (hQ : ∀ k : Nat, 0 ≤ Q k ∧ Q k ≤ 1000000) (hp : ∀ j : Nat, -1000000 ≤ cpC m cd p0 j ∧ cpC m cd p0 j ≤ 1000000) (hJ : 0 ≤ S.2.2.2.1 i ∧ S.2.2.2.1 i < 4) : Cx F (d + 10) 50 [71, (i : Int)] (Hp L xs (lyS S cd (qv cd Q i5 (cpC m cd p0 i) m))) = some ([], Hp L xs (lyS (cI (m 71 3) (PLc (qv cd Q i (cpC m cd p0 (i + 1)) m) cd) (nC (qv cd Q i (cpC m cd p0 (i + 1)) m) cd) i (dC m cd p0 (S.2.2.2.1 i) i) (S.1, 0, S.2.2)) cd (qv cd Q i (cpC m cd p0 (i + 1)) m))) := by
  obtain ⟨hc, hn, hn3, hO, h4, hnm, h7, hX⟩ := K
  have i0 : (i : Int).toNat = i := Int.toNat_natCast i
  have hM2 : put (qv cd Q i5 (cpC m cd p0 i) m) 71 5 (i : Int) = qv cd Q i (cpC m cd p0 i) m := qv_5
  have hM : qv cd Q i (cpC m cd p0 (i + 1)) m = if qv cd Q i (cpC m cd p0 i) m (cd + 1) (i : Int).toNat = 0 then put (qv cd Q i (cpC m cd p0 i) m) 71 6 (PAc (qv cd Q i (cpC m cd p0 i) m) cd (qv cd Q i (cpC m cd p0 i) m (cd + 2) (i : Int).toNat)) else qv cd Q i (cpC m cd p0 i) m := by
    rw [i0, qv_6]
    have e1 : qv cd Q i (cpC m cd p0 i) m (cd + 1) i = m (cd + 1) i := by rcases hc with rfl | rfl <;> rfl
    have e2 : qv cd Q i (cpC m cd p0 i) m (cd + 2) i = m (cd + 2) i := by rcases hc with rfl | rfl <;> rfl
    have e3 : PAc (qv cd Q i (cpC m cd p0 i) m) cd (m (cd + 2) i) = PAc m cd (m (cd + 2) i) := by rcases hc with rfl | rfl <;> rfl
    rw [e1, e2, e3]
    show qv cd Q i (if m (cd + 1) i = 0 then PAc m cd (m (cd + 2) i) else cpC m cd p0 i) m = _
    split <;> rfl
  have z := K_50 (F := F) (L := L) (d := d) (xs := xs) (S := S) (n := 0) (hX Q i (cpC m cd p0 i) hQ (by omega) (hp i)) hM2 (hX Q i (cpC m cd p0 (i + 1)) hQ (by omega) (hp (i + 1))) hM hF hb (by omega) (by omega) (by
    have e : qv cd Q i (cpC m cd p0 (i + 1)) m cd 0 = m cd 0 := by rcases hc with rfl | rfl <;> rfl
    rw [e, hn]
    omega) (by
    rw [i0]
    have zz := hO i hi
    rcases hc with rfl | rfl
    · exact zz
    · exact zz) (by rcases hc with rfl | rfl <;> exact h4) (by rcases hc with rfl | rfl <;> exact hnm) (by rcases hc with rfl | rfl <;> exact h7) (by rw [i0]; exact hJ)
  rw [i0, dC_e hc] at z
  have e3 : qv cd Q i (cpC m cd p0 (i + 1)) m 71 3 = m 71 3 := rfl
  rw [e3] at z
  exact z
end Trn
