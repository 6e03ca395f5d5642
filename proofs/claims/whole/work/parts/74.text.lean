/-! CALLS THAT CHANGE THE TEXT; compile -/
section Txc
variable {F L D K : Nat} {xs : Nat → Int32} {m m1 m2 : Mem} {v a b c g e : Int}
theorem INv_t (I : INv K m) (hf : ∀ a k, a ≠ 52 → a ≠ 159 → (a = 51 → k ≠ 1) → (a = 158 → k ≠ 1) → m2 a k = m a k) (T : TXt (K + 1) m2) : INv (K + 1) m2 := by
  obtain ⟨⟨E, W⟩, -, S, Q, Z⟩ := I
  refine ⟨⟨EQv_c E (fun a k g1 g2 => hf a k (by omega) (by omega) (by omega) (by omega)) (fun a k q => ?_), WC_c W (fun a k g1 g2 => hf a k (by omega) (by omega) (by omega) (by omega))⟩, T, STa_m S (fun a k q => ?_), WQ_c Q (fun a k g1 g2 => hf a k (by omega) (by omega) (by omega) (by omega)), ?_, fun j => ?_⟩
  · unfold mcl at q
    exact hf a k (by omega) (by omega) (by omega) (by omega)
  · unfold stay at q
    exact hf a k (by omega) (by omega) (by omega) (by omega)
  · rw [hf 216 0 (by omega) (by omega) (by omega) (by omega)]; exact Z.1
  · rw [hf 216 j (by omega) (by omega) (by omega) (by omega)]; exact Z.2 j
theorem b_feed (hF : 100000 ≤ F) (hK : K ≤ 63) (I : INv K m) : Bth F (D + 32) L xs 179 250 [a, b, c, g, e] m K := by
  obtain ⟨q, n, Yc, Ym, hn⟩ := I.2.1
  have yc := Yc.1
  have ym := Ym.1
  have hn0 := Yc.2.1
  have cc := C_179 (F := F) (L := L) (xs := xs) (d := D + 30) (m := m) (a := a) (b := b) (c := c) (dd := g) (e := e) hF ⟨by omega, by omega⟩
  rw [if_pos (by omega)] at cc
  have o8 : ∀ x k, x ≠ 52 → (x = 51 → k ≠ 1) → t20 a b c g e m x k = m x k := fun x k h1 h2 => t20_o h1 h2
  have e1 : t20 a b c g e m 158 1 = m 158 1 := o8 158 1 (by omega) (by omega)
  obtain ⟨m', q1, r1, r2, r3, r4⟩ := M_250 (F := F) (L := L) (xs := xs) (d := D + 31) (m := t20 a b c g e m) (a := a) (b := b) (c := c) (g := g) (e := e) hF ⟨by rw [e1]; omega, by rw [e1]; omega⟩
  rw [if_pos (by rw [e1]; omega)] at q1
  have ea : t20 a b c g e m 158 1 + 20 = m 51 1 + 20 := by rw [e1]; omega
  rw [ea] at q1
  refine ⟨_, _, _, cc, q1, INv_t I (fun x k h1 h2 h3 h4 => ?_) ⟨bfd q n a b c g e, n + 20, ?_, ?_, by omega⟩⟩
  · rw [r2 x k h2 h4]
    exact o8 x k h1 h3
  · obtain ⟨u1, u2, u3, u4⟩ := BY_fd (a := a) (b := b) (c := c) (g := g) (e := e) Yc (by omega)
    refine ⟨?_, u2, u3, fun k hk => ?_⟩
    · rw [r2 51 1 (by omega) (by omega)]; exact u1
    · rw [r2 52 k (by omega) (by omega)]; exact u4 k hk
  · have Y1 : MTp (t20 a b c g e m) q n := by
      obtain ⟨u1, u2, u3, u4⟩ := Ym
      refine ⟨by rw [e1]; exact u1, u2, u3, fun k hk => ?_⟩
      rw [o8 159 k (by omega) (by omega)]
      exact u4 k hk
    exact MTp_fd Y1 (by omega) r1 r3 r4
theorem b_end (I : INv K m) : Bth F (D + 32) L xs 180 251 [v] m K := by
  obtain ⟨q, n, Yc, Ym, hn⟩ := I.2.1
  obtain ⟨y1, y2, y3, y4⟩ := Yc
  obtain ⟨z1, z2, z3, z4⟩ := Ym
  have cc := C_180 (F := F) (L := L) (xs := xs) (d := D + 31) (m := m) (n := v)
  by_cases h : 0 ≤ v ∧ v ≤ n
  · rw [y1, if_pos h, if_pos h] at cc
    have e1 : put m 51 1 v 158 1 = n := z1
    have mm := M_251 (F := F) (L := L) (xs := xs) (d := D + 31) (m := put m 51 1 v) (n := v)
    rw [e1, if_pos h, if_pos h] at mm
    refine ⟨_, _, _, cc, mm, INv_t I (fun x k h1 h2 h3 h4 => ?_) ⟨q, v, ⟨rfl, h.1, by omega, fun k hk => ?_⟩, ⟨rfl, h.1, by omega, fun k hk => ?_⟩, by omega⟩⟩
    · rw [put_ne h4, put_ne h3]
    · exact y4 k (by omega)
    · exact z4 k (by omega)
  · rw [y1, if_neg h, if_neg h] at cc
    have mm := M_251 (F := F) (L := L) (xs := xs) (d := D + 31) (m := m) (n := v)
    rw [z1, if_neg h, if_neg h] at mm
    exact Bth_e I cc mm rfl
/-- the other code's laying bounds -/
theorem LyB_2 {cd ot : Nat} (h : LyB m cd) (h2 : LyB m2 ot) (hf : ∀ k, m2 cd k = m cd k ∧ m2 (cd + 4) k = m (cd + 4) k) : LyB m2 cd := by
  obtain ⟨-, b2, -, -, -, b6⟩ := h
  obtain ⟨d1, -, d3, d4, d5, -⟩ := h2
  refine ⟨d1, fun k => ?_, d3, d4, d5, ?_⟩
  · rw [(hf k).2]; exact b2 k
  · rw [(hf 12).1]; exact b6
theorem INv_c {cd ot : Nat} {r : Int} (c1 : cd = 83 ∧ ot = 93 ∨ cd = 93 ∧ ot = 83) (c2 : m 50 7 = (cd : Int)) (c4 : CDx cd m) (I : INv K m) (H : CBq ot m r m2) : INv (K + 1) m2 := by
  obtain ⟨f1, f2, ⟨t1, t2, t3, t4⟩, t5, t6, t7, t8, t9, hh⟩ := H
  obtain ⟨⟨E, W⟩, -, ⟨⟨s1, s2⟩, s3, ⟨s4, s5, s6⟩, ⟨s7, s8⟩, s9, -, s11⟩, Q, Z⟩ := I
  have g7 : ∀ a k, 73 ≤ a → a ≤ 82 → m2 a k = m a k := fun a k g1 g2 => f1 a k (by omega) (by omega)
  have gc : ∀ a k, cd ≤ a → a ≤ cd + 9 → m2 a k = m a k := fun a k g1 g2 => f1 a k (by omega) (by omega)
  have hLc : LyB m cd := by
    rcases c1 with ⟨rfl, -⟩ | ⟨rfl, -⟩
    · exact s4
    · exact s5
  have hL : LyB m2 cd := LyB_2 hLc t6 (fun k => ⟨gc cd k (by omega) (by omega), gc (cd + 4) k (by omega) (by omega)⟩)
  refine ⟨⟨EQv_c E (fun a k g1 g2 => g7 a k (by omega) g2) (fun a k q => ?_), WC_c W (fun a k g1 g2 => g7 a k (by omega) g2)⟩, ⟨fun _ => 0, 0, ⟨t1, by omega, by omega, fun k hk => by omega⟩, ⟨t3, by omega, by omega, fun k hk => by omega⟩, by omega⟩, ⟨⟨fun k hk => ?_, fun k hk => ?_⟩, t5, ?_, ?_, ⟨Or.inr t2, ?_, fun _ => t9⟩, ?_, NCt_m s11 (fun k g => g7 73 k (by omega) (by omega)) (fun k g1 g2 => f2 158 k (by omega)) (fun a k q => ?_)⟩, WQ_c Q g7, ?_, fun j => ?_⟩
  · unfold mcl at q
    exact f2 a k (by omega)
  · rw [f1 56 k (by omega) (by omega)]; exact s1 k hk
  · rw [f2 164 k (by omega)]; exact s2 k hk
  · rcases c1 with ⟨rfl, rfl⟩ | ⟨rfl, rfl⟩
    · exact ⟨hL, t6, t8⟩
    · exact ⟨t6, hL, t8⟩
  · rcases c1 with ⟨rfl, rfl⟩ | ⟨rfl, rfl⟩
    · refine ⟨fun k => ?_, t7⟩
      rw [gc 88 k (by omega) (by omega)]; exact s7 k
    · refine ⟨t7, fun k => ?_⟩
      rw [gc 98 k (by omega) (by omega)]; exact s8 k
  · rw [t4, t2]
  · rcases hh with ⟨-, p1, p2, p3⟩ | ⟨p1, p2, -, p3, p4, p5⟩
    · exact ⟨cd, ot, c1, by rw [p2]; exact c2, p3, CDx_m c4 gc p1.1 p1.2⟩
    · exact ⟨ot, cd, by omega, p1, by rw [p2]; exact c2, Or.inr ⟨p5, p3, p4⟩⟩
  · rcases q with q | q | q | q | q
    · exact g7 a k (by omega) (by omega)
    · exact g7 a k (by omega) (by omega)
    · exact f2 a k (by omega)
    · exact f2 a k (by omega)
    · exact f2 a k (by omega)
  · rw [f2 216 0 (by omega)]; exact Z.1
  · rw [f2 216 j (by omega)]; exact Z.2 j
theorem b_comp (hF : 100000 ≤ F) (hD : 800 ≤ D) (hK : K ≤ 63) (I : INv K m) : Bth F (D + 32) L xs 181 252 [] m K := by
  obtain ⟨cd, ot, c1, c2, c3, c4⟩ := I.2.2.1.2.2.2.2.2.1
  obtain ⟨b, n, Yc, Ym, hn⟩ := I.2.1
  obtain ⟨⟨s1, s2⟩, s3, ⟨s4, s5, s6⟩, ⟨s7, s8⟩, -⟩ := I.2.2.1
  have hB : LyB m ot := by
    rcases c1 with ⟨-, rfl⟩ | ⟨-, rfl⟩
    · exact s5
    · exact s4
  have h5 : ∀ k, 0 ≤ m (ot + 5) k ∧ m (ot + 5) k ≤ 1600 := by
    rcases c1 with ⟨-, rfl⟩ | ⟨-, rfl⟩
    · exact s8
    · exact s7
  obtain ⟨r, m1, ms, q1, q2, H⟩ := CB1 (F := F) (L := L) (xs := xs) (D := D) (cd := ot) hF (by omega) hD (by omega) Yc Ym s1 s2 s3.1 s3.2 c3 hB s6 h5
  exact ⟨r, m1, ms, q1, q2, INv_c c1 c2 c4 I H⟩
end Txc
