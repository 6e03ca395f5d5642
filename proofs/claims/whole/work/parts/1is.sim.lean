/-! THE SIMULATION -/
section Sim
variable {F d L : Nat} {xs : Nat → Int32} {M m : Mem} {np n : Nat} {fe : Nat → Nat} {h u : Nat → Int} {nc : Int} {cs : Nat → List Int}
theorem STEP {i c : Int} {S : Ps} (hF : 100000 ≤ F) (Q : PRQ M np n fe h u nc cs) (X : EXQ M) (h4 : m 158 111 ≤ 3998) (hou : m 158 115 < 1000000) (R : RELx M np fe h u i c m S) : NXT F d L xs M np fe h u i c m S := by
  obtain ⟨pf, f, p, iN, r0, r1, r2, r3, r5, r7, Y, tk, ou, sn, rfl, rfl, R⟩ := R
  have hp := R.2.1.2.2.2
  obtain ⟨i1, i2⟩ := R.2.2.1
  obtain ⟨ml, mx, -, -, -, -, ⟨-, -, -, TT⟩, -, -, ⟨g5, -⟩⟩ := PR_s Q hp
  by_cases e : iN = fe (p + 1) - 1
  · exact S_26 Q h4 R (by rw [e]; exact g5)
  · have o := (TT iN i1 (by omega)).1.1
    have hc : M 184 iN = 1 ∨ M 184 iN = 2 ∨ M 184 iN = 3 ∨ M 184 iN = 4 ∨ M 184 iN = 5 ∨ M 184 iN = 6 ∨ M 184 iN = 7 ∨ M 184 iN = 8 ∨ M 184 iN = 9 ∨ M 184 iN = 10 ∨ M 184 iN = 11 ∨ M 184 iN = 12 ∨ M 184 iN = 13 ∨ M 184 iN = 14 ∨ M 184 iN = 15 ∨ M 184 iN = 16 ∨ M 184 iN = 17 ∨ M 184 iN = 18 ∨ M 184 iN = 19 ∨ M 184 iN = 20 ∨ M 184 iN = 21 ∨ M 184 iN = 22 ∨ M 184 iN = 23 ∨ M 184 iN = 24 ∨ M 184 iN = 25 := by omega
    rcases hc with w | w | w | w | w | w | w | w | w | w | w | w | w | w | w | w | w | w | w | w | w | w | w | w | w
    · exact S_1 Q R w
    · exact S_2 Q h4 R w
    · exact S_3 Q h4 R w
    · exact S_4 Q X R w
    · exact S_5 Q X R w
    · exact S_6 Q X R w
    · exact S_7 Q X R w
    · exact S_8 Q R w
    · exact S_9 Q R w
    · exact S_10 Q R w
    · exact S_11 Q R w
    · exact S_12 Q R w
    · exact S_13 Q R w
    · exact S_14 Q R w
    · exact S_15 Q R w
    · exact S_16 Q R w
    · exact S_17 hF Q h4 R w
    · exact S_18 Q R w
    · exact S_19 Q X R w
    · exact S_20 Q R w hou
    · exact S_21 Q R w
    · exact S_22 Q h4 R w
    · exact S_23 Q h4 R w
    · exact S_24 Q R w
    · exact S_25 Q R w
/-- a processor that is at its end stays so -/
theorem hlt_s {m : Mem} (hm : hlt m) : hlt (tik id m) ∧ (∀ j, tik id m 80 j = m 80 j) ∧ tik id m 78 11 = m 78 11 ∧ ∀ j, tik id m 82 j = m 82 j := by
  obtain ⟨h6, h3⟩ := hm
  have e : tik id m = put (put m 78 4 (m 78 2)) 78 6 1 := by
    unfold tik
    rw [if_neg (by omega), if_pos h6]
    unfold act
    rw [h3, if_neg (by decide), if_neg (by decide), if_neg (by decide), if_neg (by decide), if_neg (by decide), if_neg (by decide), if_neg (by decide)]
  rw [e]
  exact ⟨⟨rfl, h3⟩, fun _ => rfl, rfl, fun _ => rfl⟩
theorem hlt_n : ∀ (k : Nat) {m : Mem}, hlt m → hlt (tikn k m) ∧ (∀ j, tikn k m 80 j = m 80 j) ∧ tikn k m 78 11 = m 78 11 ∧ ∀ j, tikn k m 82 j = m 82 j
  | 0, m, hm => ⟨hm, fun _ => rfl, rfl, fun _ => rfl⟩
  | k + 1, m, hm => by
    obtain ⟨a1, a2, a3, a4⟩ := hlt_s hm
    obtain ⟨b1, b2, b3, b4⟩ := hlt_n k a1
    exact ⟨b1, fun j => (b2 j).trans (a2 j), b3.trans a3, fun j => (b4 j).trans (a4 j)⟩
/-- two ends are one -/
theorem hlt_u {m : Mem} {a b : Nat} (ha : hlt (tikn a m)) (hb : hlt (tikn b m)) : (∀ j, tikn a m 80 j = tikn b m 80 j) ∧ tikn a m 78 11 = tikn b m 78 11 ∧ ∀ j, tikn a m 82 j = tikn b m 82 j := by
  by_cases c : a ≤ b
  · obtain ⟨x, y, z, w⟩ := hlt_n (b - a) ha
    rw [← tikn_add, show a + (b - a) = b from by omega] at x y z w
    exact ⟨fun j => (y j).symm, z.symm, fun j => (w j).symm⟩
  · obtain ⟨x, y, z, w⟩ := hlt_n (a - b) hb
    rw [← tikn_add, show b + (a - b) = a from by omega] at x y z w
    exact ⟨y, z, w⟩
/-- from a state in the relation the processor ends in N clocks: it is full, or the meaning ends alike -/
theorem SIM (hF : 100000 ≤ F) (Q : PRQ M np n fe h u nc cs) (X : EXQ M) : ∀ (N : Nat) (i c : Int) (m : Mem) (S : Ps) (pm : Mem), RELx M np fe h u i c m S → Rst (M 158 68).toNat (M 193) (M 158 103) (M 208) S pm → hlt (tikn N pm) → 5 * m 158 111 + (N : Int) ≤ 19994 → m 158 115 + (N : Int) ≤ 20000 → tikn N pm 80 4 = 65535 ∨ ∃ c' m', (∀ (k : Nat) (w : Int) (q4 q5 q6 q7 q8 q9 q10 : Nat × Int), N < k → ∃ s, LW F (d + 4) lb_317_2 k (lox w c i q4 q5 q6 q7 q8 q9 q10, Hp L xs m) = some (3, [c'], (s, Hp L xs m'))) ∧ tikn N pm 80 4 = c' ∧ (0 ≤ c' ∧ c' ≤ 30) ∧ KMq M m' ∧ (m' 158 115 = tikn N pm 78 11 ∧ 0 ≤ m' 158 115 ∧ m' 158 115 ≤ 20000) ∧ ∀ k : Nat, (k : Int) < m' 158 115 → k < 500 → m' 215 k = sg (tikn N pm 82 k) := by
  intro N
  induction N using Nat.strongRecOn with
  | ind N ih =>
    intro i c m S pm R hr hh h5 ho
    rcases STEP (F := F) (d := d) (L := L) (xs := xs) hF Q X (by omega) (by omega) R with ⟨q, i', c', m', S', s0, s1, s2, s3, s4, s5⟩ | ⟨r, ou, sn, s1, s2⟩ | ⟨r, ou, sn, c', m', s1, s2, s3, s4, s5, s6, s7, s8⟩
    · obtain ⟨k, k1, k2⟩ := s1 pm hr
      have hk : k ≤ N := by
        by_cases e : k ≤ N
        · exact e
        · have z := (hlt_n (k - N) hh).1
          rw [← tikn_add, show N + (k - N) = k from by omega] at z
          have z6 := k2.1.2.2
          have w : tikn k pm 78 6 = 1 := z.1
          omega
      have eN : tikn N pm = tikn (N - k) (tikn k pm) := by
        rw [← tikn_add, show k + (N - k) = N from by omega]
      rw [eN] at hh ⊢
      rcases ih (N - k) (by omega) i' c' m' S' (tikn k pm) s3 k2 hh (by omega) (by omega) with z | ⟨c2, m2, z1, z2⟩
      · exact Or.inl z
      · refine Or.inr ⟨c2, m2, fun j w q4 q5 q6 q7 q8 q9 q10 hj => ?_, z2⟩
        obtain ⟨j, rfl⟩ : ∃ j', j = j' + 1 := ⟨j - 1, by omega⟩
        obtain ⟨e4, e5, e6, e7, e8, e9, e10, e⟩ := s2 j w q4 q5 q6 q7 q8 q9 q10
        rw [e]
        exact z1 j w e4 e5 e6 e7 e8 e9 e10 (by omega)
    · left
      obtain ⟨k, k1, k2, -⟩ := s1 pm hr
      rw [(hlt_u hh k1).1 4, k2 4 (by decide)]
      exact s2
    · right
      obtain ⟨k, k1, k2, k3, k4⟩ := s1 pm hr
      obtain ⟨u1, u2, u3⟩ := hlt_u hh k1
      refine ⟨c', m', fun j w q4 q5 q6 q7 q8 q9 q10 hj => ?_, by rw [u1 4, k2 4 (by decide)]; exact s3, s4, s5, ⟨by rw [u2, k3]; exact s6.1, by omega, by omega⟩, fun j hj hj5 => ?_⟩
      · obtain ⟨j, rfl⟩ : ∃ j', j = j' + 1 := ⟨j - 1, by omega⟩
        exact s2 j w q4 q5 q6 q7 q8 q9 q10
      · rw [u3 j, k4 j]
        exact s8 j (by omega) hj5
end Sim
