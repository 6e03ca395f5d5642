/-! CLASS AND MODEL, THE SECOND WALK: expressions -/
theorem bl_nf {m : Mem} {i : Int} {s : xSt} (h : s.2.2.2.1 ≤ m 54 i.toNat) : (bl m i s).2.2.2.1 = s.2.2.2.1 := by
  show (if (0 ≤ i ∧ i < m 51 5) ∧ m 54 i.toNat < s.2.2.2.1 then m 54 i.toNat else s.2.2.2.1) = _
  rw [if_neg (fun z => by omega)]
theorem us_nf {m : Mem} {i k : Int} {s : xSt} (h : s.2.2.2.1 ≤ m 54 i.toNat) : (us m i k s).2.2.2.1 = s.2.2.2.1 := by
  unfold us
  split
  · rfl
  · exact bl_nf h
theorem xE_nf {mc : Mem} {V : Int → Int} : ∀ (k : Nat) (t : xT), tsz t < k → ∀ (nt : Nat) (dep p q : Int), nt ≤ 7 → P (kd mc) V t nt dep p q → ∀ s : xSt, (∀ j, p ≤ j → j < q → s.2.2.2.1 ≤ mc 54 j.toNat) → (xE mc t s).2.2.2.1 = s.2.2.2.1 := by
  intro k
  induction k with
  | zero => intro t ht; exact absurd ht (Nat.not_lt_zero _)
  | succ k ih =>
    intro t ht nt dep p q hnt h s hs
    have l0 := P_le t h
    have two : ∀ (a b : xT) (n1 n2 : Nat) (d1 d2 p1 r1 r2 q2 : Int), tsz a < k → tsz b < k → n1 ≤ 7 → n2 ≤ 7 → P (kd mc) V a n1 d1 p1 r1 → P (kd mc) V b n2 d2 r2 q2 → p ≤ p1 → r1 ≤ q → p ≤ r2 → q2 ≤ q → ∀ s1 : xSt, s1.2.2.2.1 = s.2.2.2.1 → (xE mc a s1).2.2.2.1 = s.2.2.2.1 ∧ ∀ f : xSt → xSt, (∀ s2 : xSt, (f s2).2.2.2.1 = s2.2.2.2.1) → (xE mc b (f (xE mc a s1))).2.2.2.1 = s.2.2.2.1 := by
      intro a b n1 n2 d1 d2 p1 r1 r2 q2 ta tb h1 h2 ga gb e1 e2 e3 e4 s1 hs1
      have c1 := ih a ta n1 d1 p1 r1 h1 ga s1 (fun j j1 j2 => by rw [hs1]; exact hs j (by omega) (by omega))
      refine ⟨c1.trans hs1, fun f hf => ?_⟩
      have c2 := ih b tb n2 d2 r2 q2 h2 gb (f (xE mc a s1)) (fun j j1 j2 => by rw [hf, c1, hs1]; exact hs j (by omega) (by omega))
      rw [c2, hf, c1, hs1]
    have one : ∀ (a : xT) (n1 : Nat) (d1 p1 r1 : Int), tsz a < k → n1 ≤ 7 → P (kd mc) V a n1 d1 p1 r1 → p ≤ p1 → r1 ≤ q → ∀ s1 : xSt, s1.2.2.2.1 = s.2.2.2.1 → (xE mc a s1).2.2.2.1 = s.2.2.2.1 := by
      intro a n1 d1 p1 r1 ta h1 ga e1 e2 s1 hs1
      exact (ih a ta n1 d1 p1 r1 h1 ga s1 (fun j j1 j2 => by rw [hs1]; exact hs j (by omega) (by omega))).trans hs1
    have hc : nt = 0 ∨ nt = 1 ∨ nt = 2 ∨ nt = 3 ∨ nt = 4 ∨ nt = 5 ∨ nt = 6 ∨ nt = 7 := by omega
    rcases hc with rfl | rfl | rfl | rfl | rfl | rfl | rfl | rfl
    · rcases inv_0 h with ⟨i, a, b, rfl, g1, g2⟩ | ⟨i, a, b, rfl, r, g1, g2, g3, g4⟩
      · rw [tsz_nd] at ht
        exact one a _ _ _ _ (by omega) (by decide) g1 (by omega) (by omega) s rfl
      · rw [tsz_nd] at ht
        have := P_le a g1
        have := P_le b g4
        exact (two a b _ _ _ _ _ _ _ _ (by omega) (by omega) (by decide) (by decide) g1 g4 (by omega) (by omega) (by omega) (by omega) s rfl).2 id (fun _ => rfl)
    · obtain ⟨i, a, b, rfl, r, g1, g2⟩ := inv_1 h
      rw [tsz_nd] at ht
      have := P_le a g1
      have := P_le b g2
      exact (two a b _ _ _ _ _ _ _ _ (by omega) (by omega) (by decide) (by decide) g1 g2 (by omega) (by omega) (by omega) (by omega) s rfl).2 id (fun _ => rfl)
    · rcases inv_2 h with ⟨i, a, b, rfl, g0, r, g1, g2⟩ | ⟨i, a, b, rfl, g1, g2⟩
      · rw [tsz_nd] at ht
        have := P_le a g1
        have := P_le b g2
        exact (two a b _ _ _ _ _ _ _ _ (by omega) (by omega) (by decide) (by decide) g1 g2 (by omega) (by omega) (by omega) (by omega) s rfl).2 (em i 0 (mc 68 5)) (fun _ => rfl)
      · rfl
    · obtain ⟨i, a, b, rfl, r, g1, g2⟩ := inv_3 h
      rw [tsz_nd] at ht
      have := P_le a g1
      have := P_le b g2
      exact (two a b _ _ _ _ _ _ _ _ (by omega) (by omega) (by decide) (by decide) g1 g2 (by omega) (by omega) (by omega) (by omega) s rfl).2 id (fun _ => rfl)
    · rcases inv_4 h with ⟨i, a, b, rfl, g0, r, g1, g2⟩ | ⟨i, a, b, rfl, g1, g2⟩
      · rw [tsz_nd] at ht
        have := P_le a g1
        have := P_le b g2
        exact (two a b _ _ _ _ _ _ _ _ (by omega) (by omega) (by decide) (by decide) g1 g2 (by omega) (by omega) (by omega) (by omega) s rfl).2 (em i 0 (mc 68 5)) (fun _ => rfl)
      · rfl
    · rcases inv_5 h with ⟨i, a, b, rfl, g1, g2, g3⟩ | ⟨i, a, b, rfl, g1, g2, r, g3, g4, g5⟩ | ⟨i, a, b, rfl, g1, g2, g3⟩ | ⟨i, a, b, rfl, g1, g2⟩ | ⟨i, a, b, rfl, g1, g2, g3, g4, g5⟩ | ⟨i, a, b, rfl, g1, g2, g3, g4, r, g5, g6, g7⟩ | ⟨i, a, b, rfl, g1, g2, g3⟩
      · rw [tsz_nd] at ht
        exact one a _ _ _ _ (by omega) (by decide) g3 (by omega) (by omega) s rfl
      · rw [tsz_nd] at ht
        have := P_le a g3
        exact one a _ _ _ _ (by omega) (by decide) g3 (by omega) (by omega) s rfl
      · rfl
      · rfl
      · rw [x_13]
        split
        · exact us_nf (hs i (by omega) (by omega))
        · rfl
      · rw [tsz_nd] at ht
        have := P_le a g5
        have e1 := us_nf (m := mc) (i := i) (k := 2) (s := s) (hs i (by omega) (by omega))
        exact one a _ _ _ _ (by omega) (by decide) g5 (by omega) (by omega) _ e1
      · rw [tsz_nd] at ht
        have := P_le a g3
        have e1 := us_nf (m := mc) (i := i) (k := 4) (s := s) (hs i (by omega) (by have := P_lt5 h; omega))
        exact one a _ _ _ _ (by omega) (by decide) g3 (by omega) (by omega) _ e1
    · rcases inv_6 h with ⟨i, a, b, rfl, g1, g2, g3, g4⟩ | ⟨i, a, b, rfl, g1, g2, g3, r, g4, g5⟩
      · rfl
      · rw [tsz_nd] at ht
        have := P_le a g4
        have := P_le b g5
        exact (two a b _ _ _ _ _ _ _ _ (by omega) (by omega) (by decide) (by decide) g4 g5 (by omega) (by omega) (by omega) (by omega) s rfl).2 id (fun _ => rfl)
    · rcases inv_7 h with ⟨i, a, b, rfl, g1, r, g2, g3⟩ | ⟨i, a, b, rfl, g1, g2⟩
      · rw [tsz_nd] at ht
        have := P_le a g2
        have := P_le b g3
        exact (two a b _ _ _ _ _ _ _ _ (by omega) (by omega) (by decide) (by decide) g2 g3 (by omega) (by omega) (by omega) (by omega) s rfl).2 id (fun _ => rfl)
      · rfl
/-- broken at a name between p and q, in both -/
def Br (mc m : Mem) (s : xSt) (p q : Int) : Prop := m 158 15 = 1 ∧ m 158 9 = 2 ∧ ∃ j, p ≤ j ∧ j < q ∧ m 158 10 = mc 54 j.toNat ∧ s.2.2.2.1 = mc 54 j.toNat
section Brs
variable {mc m : Mem} {s : xSt} {p q p' q' : Int}
theorem Br_le (B : Br mc m s p q) (h1 : p' ≤ p) (h2 : q ≤ q') : Br mc m s p' q' := by
  obtain ⟨b1, b2, j, b3, b4, b5, b6⟩ := B
  exact ⟨b1, b2, j, by omega, by omega, b5, b6⟩
theorem Br_em {o a l o' a' l' u : Int} {z : Bool} (B : Br mc m s p q) : Br mc (emG m o a l u z) (em o' a' l' s) p q := by
  rw [emG_b B.1]
  exact B
theorem Br_xE {V : Int → Int} {t : xT} {nt : Nat} {dep r r' e : Int} (mo : ∀ i j, 0 ≤ i → i ≤ j → j ≤ e → mc 54 i.toNat ≤ mc 54 j.toNat) (B : Br mc m s p r) (hp : 0 ≤ p) (hn : nt ≤ 7) (h : P (kd mc) V t nt dep r' q) (hr : r ≤ r') (he : q ≤ e) : Br mc (eM t m) (xE mc t s) p q := by
  have l0 := P_le t h
  obtain ⟨b1, b2, j, b3, b4, b5, b6⟩ := B
  rw [eM_b t m b1]
  have := xE_nf (tsz t + 1) t (by omega) nt dep r' q hn h s (fun i h1 h2 => by rw [b6]; exact mo j i (by omega) (by omega) (by omega))
  exact ⟨b1, b2, j, b3, by omega, b5, by rw [this]; exact b6⟩
end Brs
