/-! WIRES OF BOTH -/
section Wrb
variable {F L D K : Nat} {xs : Nat → Int32} {m : Mem} {x : Int}
theorem wz_eq {lf rt lf' rt' s : Nat → Int} {W : Nat} (hW : W ≤ 4104) (hl : ∀ j : Nat, 212 ≤ j → j < W → (0 ≤ lf j ∧ lf j < j) ∧ (0 ≤ rt j ∧ rt j < j) ∧ lf' j = lf j ∧ rt' j = rt j) : ∀ n k : Nat, k < n → k < W → wzS lf' rt' s k = wzS lf rt s k
  | 0, _, h, _ => absurd h (Nat.not_lt_zero _)
  | n + 1, k, h, hk => by
    by_cases c : k < 212
    · rw [wzS_0 c, wzS_0 c]
    · obtain ⟨j, rfl⟩ : ∃ j, k = 212 + j := ⟨k - 212, by omega⟩
      obtain ⟨⟨a1, a2⟩, ⟨b1, b2⟩, e1, e2⟩ := hl (212 + j) (by omega) hk
      have a2' : lf (212 + j) < 212 + (j : Int) := by omega
      have b2' : rt (212 + j) < 212 + (j : Int) := by omega
      rw [wzS_g (lf := lf) (rt := rt) (by omega) ⟨a1, a2'⟩ ⟨b1, b2'⟩, wzS_g (lf := lf') (rt := rt') (by omega) ⟨by rw [e1]; exact a1, by rw [e1]; exact a2'⟩ ⟨by rw [e2]; exact b1, by rw [e2]; exact b2'⟩, e1, e2, wz_eq hW hl n (lf (212 + j)).toNat (by omega) (by omega), wz_eq hW hl n (rt (212 + j)).toNat (by omega) (by omega)]
theorem b_wire (hF : 100000 ≤ F) (I : INv K m) : Bth F (D + 32) L xs 194 330 [x] m K := by
  obtain ⟨⟨ne1, ne2⟩, n1, n2, n4⟩ := I.2.2.1.2.2.2.2.2.2
  have Q := I.2.2.2.1
  have Z := I.2.2.2.2
  obtain ⟨q1, q2, q3, q4, -⟩ := I.2.2.2.1
  obtain ⟨m1, cc, fr, Q1⟩ := C_194 (F := F) (L := L) (xs := xs) (d := D + 28) (m := m) (k := x) hF I.1.2.1 Q
  have g : ∀ a k, 78 ≤ a → m1 a k = m a k := fun a k h => fr a k (by omega) (by omega)
  have I1 : INv (K + 1) m1 := by
    obtain ⟨⟨E, W⟩, T, S, -, -⟩ := I
    refine ⟨⟨EQv_c E (fun a k g1 g2 => g a k g1) (fun a k q => ?_), WC_c W (fun a k g1 g2 => g a k g1)⟩, TXt_c T ⟨fr 51 1 (by omega) (by omega), g 158 1 (by omega)⟩ (fun k => ⟨fr 52 k (by omega) (by omega), g 159 k (by omega)⟩), STa_m S (fun a k q => ?_), Q1, ?_, fun j => ?_⟩
    · unfold mcl at q
      exact g a k (by omega)
    · unfold stay at q
      exact fr a k (by omega) (by omega)
    · rw [g 216 0 (by omega)]; exact Z.1
    · rw [g 216 j (by omega)]; exact Z.2 j
  have e86 : m1 158 86 = m 73 0 := (g 158 86 (by omega)).trans ne1
  by_cases hx : 0 ≤ x ∧ x < m 73 0
  · rw [if_pos hx] at cc
    have e1 : m1 201 = m 201 := funext fun k => g 201 k (by omega)
    have e2 : m1 202 = m 202 := funext fun k => g 202 k (by omega)
    have es : svM m1 = svM m := svM_c (fun a j g1 g2 => g a j g1)
    obtain ⟨m2, mm, fm, b2, z2⟩ := M_330 (F := F) (L := L) (xs := xs) (d := D + 28) (m := m1) (x := x) hF (wmx_id I1.1.1) I1.1.2.1 (by rw [g 216 0 (by omega)]; exact Z.1) (fun j => by rw [g 216 j (by omega)]; exact Z.2 j) (by rw [e86]; exact hx) (by rw [e86]; exact q1.2) (fun j => by rw [e1, e2]; exact n4 j) (fun j h1 h2 => by
      rw [e86] at h2
      rw [e1, e2, (n1 j h1 h2).1, (n1 j h1 h2).2]
      exact q3 j h1 h2)
    rw [e1, e2, es] at mm
    have ew : wzS (m 201) (m 202) (svM m) x.toNat = wzS (m 74) (m 75) (svM m) x.toNat := wz_eq (W := (m 73 0).toNat) (by omega) (fun j h1 h2 => by
      obtain ⟨z1, z2⟩ := n1 j h1 (by omega)
      obtain ⟨y1, y2⟩ := q3 j h1 (by omega)
      obtain ⟨⟨u1, -⟩, u2, -⟩ := q2 j
      exact ⟨⟨u1, y1⟩, ⟨u2, y2⟩, z1, z2⟩) (x.toNat + 1) x.toNat (by omega) (by omega)
    rw [ew] at mm
    refine ⟨_, _, _, cc, mm, ?_⟩
    obtain ⟨⟨E, W⟩, T, S, Q2, -⟩ := I1
    refine ⟨⟨EQv_c E (fun a k g1 g2 => fm a k (by omega)) (fun a k q => ?_), WC_c W (fun a k g1 g2 => fm a k (by omega))⟩, ?_, STa_m S (fun a k q => ?_), WQ_c Q2 (fun a k g1 g2 => fm a k (by omega)), z2, b2⟩
    · unfold mcl at q
      exact fm a k (by omega)
    · obtain ⟨b, n, ⟨y1, y2, y3, y4⟩, ⟨w1, w2, w3, w4⟩, hn⟩ := T
      refine ⟨b, n, ⟨by rw [fm 51 1 (by omega)]; exact y1, y2, y3, fun k hk => ?_⟩, ⟨by rw [fm 158 1 (by omega)]; exact w1, w2, w3, fun k hk => ?_⟩, hn⟩
      · rw [fm 52 k (by omega)]; exact y4 k hk
      · rw [fm 159 k (by omega)]; exact w4 k hk
    · unfold stay at q
      exact fm a k (by omega)
  · rw [if_neg hx] at cc
    exact ⟨_, _, _, cc, M_330n (d := D + 28) (by rw [e86]; omega), I1⟩
end Wrb
