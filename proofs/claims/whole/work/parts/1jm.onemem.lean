/-! COMPILE OF BOTH, one behind the other in one memory -/
/-- what both compiles leave: cd was the spare code -/
def CBq (cd : Nat) (m : Mem) (r : Int) (ms : Mem) : Prop := (∀ a k, a < 158 → (a < 50 ∨ a = 50 ∧ k ≠ 7 ∧ k ≠ 8 ∧ k ≠ 9 ∧ k ≠ 10 ∧ k ≠ 11 ∨ a = 52 ∨ a = 56 ∨ 73 ≤ a ∧ (a < cd ∨ cd + 9 < a)) → ms a k = m a k) ∧ (∀ a k, (a = 159 ∨ a = 164 ∨ 201 ≤ a ∨ a = 158 ∧ 86 ≤ k) → ms a k = m a k) ∧ (ms 51 1 = 0 ∧ ms 50 9 = 1 ∧ ms 158 1 = 0 ∧ ms 158 11 = 1) ∧ (ms 68 7 = 0 ∧ 0 ≤ ms 68 8 ∧ ms 68 8 ≤ 1600) ∧ LyB ms cd ∧ (∀ k, 0 ≤ ms (cd + 5) k ∧ ms (cd + 5) k ≤ 1600) ∧ MyB ms ∧ (ms 50 10 = ms 158 9 ∧ ms 50 11 = ms 158 10) ∧ ((r = -1 ∧ PMf m ms ∧ ms 50 7 = m 50 7 ∧ ms 50 8 = (cd : Int)) ∨ (ms 50 7 = (cd : Int) ∧ ms 50 8 = m 50 7 ∧ r = ms 158 68 ∧ (∃ np n fe h u nc cs, PRQ ms np n fe h u nc cs) ∧ CRq cd ms ms ∧ GX ms))
section On9
variable {F L D cd : Nat} {xs : Nat → Int32} {m : Mem} {n : Int} {b : Nat → Int}
theorem ov_p {m m' : Mem} {a k : Nat} (h : m a k = m' a k) : ov xs m a k = ov xs m' a k := by
  unfold ov
  rw [h]
theorem Hp_ov {m m' : Mem} (h : Hp L xs m = Hp L xs m') (a k : Nat) : ov xs m a k = ov xs m' a k := by
  have z : (Hp L xs m).2.2.2 = (Hp L xs m').2.2.2 := by rw [h]
  have z2 : ov xs m = ov xs m' := z
  rw [z2]
theorem CB1 (hF : 100000 ≤ F) (hc : cd = 83 ∨ cd = 93) (hD : 800 ≤ D) (hn : n ≤ 1300) (Yc : BY m b n) (Ym : MTp m b n) (Kc : KYc m) (Km : KYm m) (h7 : m 68 7 = 0) (h8 : 0 ≤ m 68 8 ∧ m 68 8 ≤ 1600) (hcd : m 50 8 = (cd : Int)) (hB : LyB m cd) (hB0 : MyB m) (h5 : ∀ k, 0 ≤ m (cd + 5) k ∧ m (cd + 5) k ≤ 1600) : ∃ r m1 ms, Cx F (D + 32) 181 [50] (Hp L xs m) = some ([r], Hp L xs m1) ∧ Cx F (D + 32) 252 [158] (Hp L xs m1) = some ([r], Hp L xs ms) ∧ CBq cd m r ms := by
  obtain ⟨r0, m1, m2', a1, -, P0, -⟩ := CB (F := F) (L := L) (xs := xs) (mc := m) (mr := m) hF hc hD hn Yc Ym Kc Km h7 h8 hcd hB hB0 h5
  have f1 : ∀ a k, 158 ≤ a → m1 a k = m a k := fun a k h => P0.1 a k (by omega)
  have Ym1 : MTp m1 b n := by
    obtain ⟨y1, y2, y3, y4⟩ := Ym
    refine ⟨by rw [f1 158 1 (by omega)]; exact y1, y2, y3, fun k hk => ?_⟩
    rw [f1 159 k (by omega)]
    exact y4 k hk
  have Km1 : KYm m1 := fun k hk => by
    rw [f1 164 k (by omega)]
    exact Km k hk
  have hB1 : MyB m1 := by
    obtain ⟨g1, g2, g3, g4⟩ := hB0
    refine ⟨fun k => ?_, fun k => ?_, ?_, fun k => ?_⟩
    · have z := g1 k
      rw [f1 198 k (by omega)]
      exact z
    · rw [f1 180 k (by omega)]
      exact g2 k
    · rw [f1 158 85 (by omega)]
      exact g3
    · rw [f1 169 k (by omega)]
      exact g4 k
  obtain ⟨r, mq, m2, b1, b2, P, PM, e10, e11, hq⟩ := CB (F := F) (L := L) (xs := xs) (mc := m) (mr := m1) hF hc hD hn Yc Ym1 Kc Km1 h7 h8 hcd hB hB1 h5
  rw [a1] at b1
  have er : r0 = r := by
    injection b1 with z
    injection z with z1 z2
    injection z1
  have eh : Hp L xs m1 = Hp L xs mq := by
    injection b1 with z
    injection z with z1 z2
  subst er
  obtain ⟨p1, p51, p9, p7, p8, pB, p5⟩ := P
  obtain ⟨k1, k2, k3, k4⟩ := PM
  let ms : Mem := fun a k => if a < 158 then mq a k else m2 a k
  have sl : ∀ a k, a < 158 → ms a k = mq a k := fun a k h => if_pos h
  have sh : ∀ a k, 158 ≤ a → ms a k = m2 a k := fun a k h => if_neg (by omega)
  have es : Hp L xs m2 = Hp L xs ms := by
    have z : ov xs m2 = ov xs ms := by
      funext a k
      by_cases c : a < 158
      · rw [ov_p (m' := m1) (k1 a k (by omega)), Hp_ov eh a k]
        exact ov_p (sl a k c).symm
      · exact ov_p (sh a k (by omega)).symm
    unfold Hp
    rw [z]
  rw [es] at b2
  refine ⟨r0, m1, ms, a1, b2, fun a k h0 h => ?_, fun a k h => ?_, ⟨?_, ?_, ?_, ?_⟩, ⟨?_, ?_, ?_⟩, ?_, fun k => ?_, ?_, ⟨?_, ?_⟩, ?_⟩
  · rw [sl a k h0]; exact p1 a k (by omega)
  · rw [sh a k (by omega), k1 a k (by omega), f1 a k (by omega)]
  · exact p51
  · exact p9
  · exact k2
  · exact k3
  · exact p7
  · exact p8.1
  · exact p8.2
  · exact LyB_c pB (fun a k h => sl a k (by omega))
  · rw [sl _ k (by omega)]; exact p5 k
  · obtain ⟨g1, g2, g3, g4⟩ := k4
    refine ⟨fun k => ?_, fun k => ?_, ?_, fun k => ?_⟩
    · have z := g1 k
      rw [sh 198 k (by omega)]
      exact z
    · rw [sh 180 k (by omega)]
      exact g2 k
    · rw [sh 158 85 (by omega)]
      exact g3
    · rw [sh 169 k (by omega)]
      exact g4 k
  · exact e10
  · exact e11
  · rcases hq with ⟨q1, q2, q3, q4⟩ | ⟨q1, q2, q3, ⟨np, n', fe, h, u, nc, cs, q4⟩, q5, q6⟩
    · refine Or.inl ⟨q1, ⟨fun k g1 g2 => ?_, fun a k g1 g2 => ?_⟩, q3, q4⟩
      · rw [sh 158 k (by omega), q2.1 k g1 g2, f1 158 k (by omega)]
      · rw [sh a k (by omega), q2.2 a k g1 g2, f1 a k (by omega)]
    · have q6' : GX ms := by
        unfold GX
        rw [sh 158 54 (by omega), sh 158 55 (by omega), sh 158 60 (by omega), sh 158 68 (by omega)]
        refine ⟨q6.1, q6.2.1, q6.2.2.1, fun k hk => ?_⟩
        rw [sh 193 k (by omega)]
        exact q6.2.2.2 k hk
      refine Or.inr ⟨q1, q2, q3, ⟨np, n', fe, h, u, nc, cs, PRQ_c q4 (fun a k g1 g2 => sh a k (by omega)) ⟨rfl, rfl, rfl, rfl⟩⟩, ?_, q6'⟩
      obtain ⟨⟨h1, h2, h3, h4, h5⟩, h6, h7, h8⟩ := q5
      refine ⟨⟨?_, ?_, ?_, ?_, ?_⟩, fun i hi => ?_, fun p hp => ?_, fun k hk => ?_⟩
      · rw [sl cd _ (by omega), sh 158 _ (by omega)]; exact h1
      · rw [sl cd _ (by omega), sh 158 _ (by omega)]; exact h2
      · rw [sl cd _ (by omega), sh 158 _ (by omega)]; exact h3
      · rw [sl cd _ (by omega), sh 158 _ (by omega)]; exact h4
      · rw [sl cd _ (by omega), sh 158 _ (by omega)]; exact h5
      · rw [sl (cd + 1) _ (by omega), sl (cd + 2) _ (by omega), sl (cd + 3) _ (by omega), sl (cd + 4) _ (by omega)]; exact h6 i hi
      · rw [sl (cd + 5) _ (by omega), sl (cd + 6) _ (by omega), sl (cd + 7) _ (by omega), sl (cd + 8) _ (by omega)]; exact h7 p hp
      · rw [sl (cd + 9) _ (by omega)]; exact h8 k hk
end On9
